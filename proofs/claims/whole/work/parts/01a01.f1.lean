def X_given {ρ : Type} (a0 a1 : Int) (h : zH) (kt : Nat → zH → Option ρ) (kr : Int → zH → Option ρ) : Option ρ :=
zob h 0 a0 fun _ =>
X_launchAt a0 a1 h kt fun v1 h2 =>
zob h2 9 v1 fun p3 =>
kr (zhD h2 9 p3 8) h2
def La_isCopyRunning_21 {ρ : Type} (kr : Int → zH → Option ρ) (t0 : Int) (h : zH) : Option ρ :=
znar 1 t0 fun x1 => kr x1 h
def La_isCopyRunning_20 {ρ : Type} (kr : Int → zH → Option ρ) (h : zH) : Option ρ :=
La_isCopyRunning_21 kr 0 h
def La_isCopyRunning {ρ : Type} (a0 : Int) (h : zH) (kr : Int → zH → Option ρ) : Option ρ :=
zob h 9 a0 fun p1 =>
if (zhD h 9 p1 5) < 0 then (zob h 9 a0 fun p2 =>
if (zhD h 9 p2 10) = 114 then La_isCopyRunning_21 kr 1 h
else La_isCopyRunning_20 kr h)
else La_isCopyRunning_20 kr h
def La_moveCell_82 {ρ : Type} (kr : Int → zH → Option ρ) (h : zH) : Option ρ :=
kr 0 h
def La_moveCell_69 {ρ : Type} (kr : Int → zH → Option ρ) (a0 : Int) (h : zH) : Option ρ :=
zob h 9 a0 fun p1 =>
if (zhD h 9 p1 15) = 0 then (zob h 9 a0 fun p2 =>
zlet (zset h 9 p2 10 100) fun h3 =>
La_moveCell_82 kr h3)
else La_moveCell_82 kr h
def La_moveCell {ρ : Type} (a0 a1 : Int) (h : zH) (kr : Int → zH → Option ρ) : Option ρ :=
zob h 9 a0 fun p1 =>
if 0 < (zhD h 9 p1 15) then (zob h 9 a0 fun p2 =>
X_isCell (zhD h 9 p2 13) h  fun v3 h4 =>
if v3 = 0 then La_moveCell_69 kr a0 h4
else zob h4 9 a0 fun p5 =>
X_isCell (zhD h4 9 p5 14) h4  fun v6 h7 =>
if v6 = 0 then La_moveCell_69 kr a0 h7
else zob h7 9 a0 fun p8 =>
zob h7 9 a0 fun p9 =>
zob h7 22 a1 fun p10 =>
zix (zhL h7 22 p10) (zhD h7 9 p9 13) fun j11 =>
zob h7 22 a1 fun p12 =>
zix (zhL h7 22 p12) (zhD h7 9 p8 14) fun j13 =>
zlet (zset h7 22 p12 j13 (zhD h7 22 p10 j11)) fun h14 =>
zob h14 9 a0 fun p15 =>
zob h14 9 a0 fun p16 =>
zlet (zset h14 9 p16 13 (wr ((zhD h14 9 p15 13) + 1))) fun h17 =>
zob h17 9 a0 fun p18 =>
zob h17 9 a0 fun p19 =>
zlet (zset h17 9 p19 14 (wr ((zhD h17 9 p18 14) + 1))) fun h20 =>
zob h20 9 a0 fun p21 =>
zob h20 9 a0 fun p22 =>
zlet (zset h20 9 p22 15 (wr ((zhD h20 9 p21 15) - 1))) fun h23 =>
La_moveCell_69 kr a0 h23)
else La_moveCell_69 kr a0 h
def Co_moveCopies_41 {ρ : Type} (kr : Int → zH → Option ρ) (r2 : Int → Int → zH → Option ρ) (a0 a1 : Int) (h : zH) : Option ρ :=
r2 a0 (wr (a1 + 1)) h
def Co_moveCopies_2b {ρ : Type} (kr : Int → zH → Option ρ) (r2 : Int → Int → zH → Option ρ) (a0 a1 : Int) (h : zH) : Option ρ :=
zob h 2 a0 fun p1 =>
zob h 1 (zhD h 2 p1 0) fun p2 =>
if a1 < (zhD h 1 p2 3) then (zob h 2 a0 fun p3 =>
zob h 1 (zhD h 2 p3 0) fun _ =>
Le_launchOf (zhD h 2 p3 0) a1 h  fun v4 h5 =>
if v4 < 0 then Co_moveCopies_41 kr r2 a0 a1 h5
else zob h5 9 v4 fun _ =>
La_isCopyRunning v4 h5  fun v6 h7 =>
if v6 = 0 then Co_moveCopies_41 kr r2 a0 a1 h7
else zob h7 2 a0 fun p8 =>
zob h7 9 v4 fun _ =>
La_moveCell v4 (zhD h7 2 p8 1) h7  fun _ h10 =>
Co_moveCopies_41 kr r2 a0 a1 h10)
else kr 0 h
def Co_moveCopies_2 {ρ : Type} (kr : Int → zH → Option ρ) : Int → Int → zH → Option ρ := zit (fun _ _ _ => none) (Co_moveCopies_2b kr) zN
def Co_moveCopies {ρ : Type} (a0 : Int) (h : zH) (kr : Int → zH → Option ρ) : Option ρ :=
Co_moveCopies_2 kr a0 0 h
def Un_usedRegisters_55 {ρ : Type} (kr : Int → zH → Option ρ) (r4 : Int → Int → Int → zH → Option ρ) (a0 a2 t0 t1 : Int) (h : zH) : Option ρ :=
r4 a0 (wr (t1 + t0)) (wr (a2 + 1)) h
def Un_usedRegisters_4b {ρ : Type} (kr : Int → zH → Option ρ) (r4 : Int → Int → Int → zH → Option ρ) (a0 a1 a2 : Int) (h : zH) : Option ρ :=
zob h 3 a0 fun p1 =>
if a2 < (zhD h 3 p1 2) then (zob h 3 a0 fun p2 =>
zob h 26 (zhD h 3 p2 0) fun p3 =>
zix (zhL h 26 p3) a2 fun j4 =>
zob h 11 (zhD h 26 p3 j4) fun p5 =>
zob h 3 a0 fun p6 =>
zob h 26 (zhD h 3 p6 0) fun p7 =>
zix (zhL h 26 p7) a2 fun j8 =>
zob h 11 (zhD h 26 p7 j8) fun p9 =>
if (zhD h 11 p9 1) = 0 then (zob h 10 (zhD h 11 p5 0) fun p10 =>
zob h 36 (zhD h 10 p10 2) fun p11 =>
zob h 10 (zhD h 11 p5 0) fun p12 =>
zob h 9 (zhD h 10 p12 0) fun p13 =>
zob h 7 (zhD h 9 p13 5) fun p14 =>
Un_usedRegisters_55 kr r4 a0 a2 (wr ((zhL h 36 p11 : Int) * (zhD h 7 p14 0))) a1 h)
else Un_usedRegisters_55 kr r4 a0 a2 0 a1 h)
else kr a1 h
def Un_usedRegisters_4 {ρ : Type} (kr : Int → zH → Option ρ) : Int → Int → Int → zH → Option ρ := zit (fun _ _ _ _ => none) (Un_usedRegisters_4b kr) zN
def Un_usedRegisters {ρ : Type} (a0 : Int) (h : zH) (kr : Int → zH → Option ρ) : Option ρ :=
Un_usedRegisters_4 kr a0 0 0 h
def Un_usedShared_42 {ρ : Type} (kr : Int → zH → Option ρ) (r4 : Int → Int → Int → zH → Option ρ) (a0 a2 t0 t1 : Int) (h : zH) : Option ρ :=
r4 a0 (wr (t1 + t0)) (wr (a2 + 1)) h
def Un_usedShared_4b {ρ : Type} (kr : Int → zH → Option ρ) (r4 : Int → Int → Int → zH → Option ρ) (a0 a1 a2 : Int) (h : zH) : Option ρ :=
zob h 3 a0 fun p1 =>
if a2 < (zhD h 3 p1 2) then (zob h 3 a0 fun p2 =>
zob h 26 (zhD h 3 p2 0) fun p3 =>
zix (zhL h 26 p3) a2 fun j4 =>
zob h 11 (zhD h 26 p3 j4) fun p5 =>
if (zhD h 11 p5 1) = 0 then (zob h 3 a0 fun p6 =>
zob h 26 (zhD h 3 p6 0) fun p7 =>
zix (zhL h 26 p7) a2 fun j8 =>
zob h 11 (zhD h 26 p7 j8) fun p9 =>
zob h 10 (zhD h 11 p9 0) fun p10 =>
zob h 38 (zhD h 10 p10 4) fun p11 =>
Un_usedShared_42 kr r4 a0 a2 (zhL h 38 p11 : Int) a1 h)
else Un_usedShared_42 kr r4 a0 a2 0 a1 h)
else kr a1 h
def Un_usedShared_4 {ρ : Type} (kr : Int → zH → Option ρ) : Int → Int → Int → zH → Option ρ := zit (fun _ _ _ _ => none) (Un_usedShared_4b kr) zN
def Un_usedShared {ρ : Type} (a0 : Int) (h : zH) (kr : Int → zH → Option ρ) : Option ρ :=
Un_usedShared_4 kr a0 0 0 h
def Un_hasRoomFor_48 {ρ : Type} (kr : Int → zH → Option ρ) (t0 : Int) (h : zH) : Option ρ :=
znar 1 t0 fun x1 => kr x1 h
def Un_hasRoomFor_47 {ρ : Type} (kr : Int → zH → Option ρ) (h : zH) : Option ρ :=
Un_hasRoomFor_48 kr 0 h
def Un_hasRoomFor {ρ : Type} (a0 a1 a2 : Int) (h : zH) (kr : Int → zH → Option ρ) : Option ρ :=
zob h 3 a0 fun p1 =>
X_groupsFor a2 h  fun v2 h3 =>
if 4 < (wr ((zhD h 3 p1 2) + v2)) then Un_hasRoomFor_47 kr h3
else zob h3 3 a0 fun _ =>
Un_usedRegisters a0 h3  fun v4 h5 =>
zob h5 7 a1 fun p6 =>
if 64 < (wr (v4 + (wr (a2 * (zhD h5 7 p6 0))))) then Un_hasRoomFor_47 kr h5
else zob h5 3 a0 fun _ =>
Un_usedShared a0 h5  fun v7 h8 =>
zob h8 7 a1 fun p9 =>
if 32 < (wr (v7 + (zhD h8 7 p9 1))) then Un_hasRoomFor_47 kr h8
else Un_hasRoomFor_48 kr 1 h8
def Co_unitFor_56 {ρ : Type} (kr : Int → zH → Option ρ) (r4 : Int → Int → Int → Int → zH → Option ρ) (a0 a1 a2 a3 : Int) (h : zH) : Option ρ :=
r4 a0 a1 a2 (wr (a3 + 1)) h
def Co_unitFor_49 {ρ : Type} (kr : Int → zH → Option ρ) (r4 : Int → Int → Int → Int → zH → Option ρ) (a0 a1 a3 : Int) (h : zH) : Option ρ :=
zob h 2 a0 fun p1 =>
zob h 23 (zhD h 2 p1 2) fun p2 =>
zix (zhL h 23 p2) a3 fun j3 =>
Co_unitFor_56 kr r4 a0 a1 (zhD h 23 p2 j3) a3 h
def Co_unitFor_4b {ρ : Type} (kr : Int → zH → Option ρ) (r4 : Int → Int → Int → Int → zH → Option ρ) (a0 a1 a2 a3 : Int) (h : zH) : Option ρ :=
if a3 < 2 then (zob h 2 a0 fun p1 =>
zob h 23 (zhD h 2 p1 2) fun p2 =>
zix (zhL h 23 p2) a3 fun j3 =>
zob h 9 a1 fun p4 =>
zob h 9 a1 fun p5 =>
zob h 3 (zhD h 23 p2 j3) fun _ =>
Un_hasRoomFor (zhD h 23 p2 j3) (zhD h 9 p4 5) (zhD h 9 p5 7) h  fun v6 h7 =>
if v6 = 0 then Co_unitFor_56 kr r4 a0 a1 a2 a3 h7
else if a2 < 0 then Co_unitFor_49 kr r4 a0 a1 a3 h7
else zob h7 2 a0 fun p8 =>
zob h7 23 (zhD h7 2 p8 2) fun p9 =>
zix (zhL h7 23 p9) a3 fun j10 =>
zob h7 3 (zhD h7 23 p9 j10) fun p11 =>
zob h7 3 a2 fun p12 =>
if (zhD h7 3 p11 2) < (zhD h7 3 p12 2) then Co_unitFor_49 kr r4 a0 a1 a3 h7
else Co_unitFor_56 kr r4 a0 a1 a2 a3 h7)
else kr a2 h
def Co_unitFor_4 {ρ : Type} (kr : Int → zH → Option ρ) : Int → Int → Int → Int → zH → Option ρ := zit (fun _ _ _ _ _ => none) (Co_unitFor_4b kr) zN
def Co_unitFor {ρ : Type} (a0 a1 : Int) (h : zH) (kr : Int → zH → Option ρ) : Option ρ :=
Co_unitFor_4 kr a0 a1 (-1) 0 h
def Th_goTo_20 {ρ : Type} (kr : Int → zH → Option ρ) (h : zH) : Option ρ :=
kr 0 h
def Th_goTo_14 {ρ : Type} (kr : Int → zH → Option ρ) (a0 : Int) (h : zH) : Option ρ :=
zob h 6 a0 fun p1 =>
zlet (zset h 6 p1 4 101) fun h2 =>
Th_goTo_20 kr h2
def Th_goTo {ρ : Type} (a0 a1 a2 : Int) (h : zH) (kr : Int → zH → Option ρ) : Option ρ :=
zob h 6 a0 fun p1 =>
zlet (zset h 6 p1 3 a1) fun h2 =>
if a1 < 0 then Th_goTo_14 kr a0 h2
else if a1 < a2 then Th_goTo_20 kr h2
else Th_goTo_14 kr a0 h2
def Th_begin {ρ : Type} (a0 a1 a2 : Int) (h : zH) (kr : Int → zH → Option ρ) : Option ρ :=
zob h 6 a0 fun p1 =>
zlet (zset h 6 p1 2 a1) fun h2 =>
zob h2 6 a0 fun p3 =>
Ar_fill_32 (zhD h2 6 p3 1) 0 h2  fun _ h5 =>
zob h5 6 a0 fun p6 =>
zlet (zset h5 6 p6 4 114) fun h7 =>
zob h7 6 a0 fun _ =>
Th_goTo a0 0 a2 h7  fun _ h9 =>
kr 0 h9
def Bl_init_35b {ρ : Type} (kr : Int → zH → Option ρ) (r35 : Int → Int → Int → Int → zH → Option ρ) (a0 a1 a2 a3 : Int) (h : zH) : Option ρ :=
zob h 10 a0 fun p1 =>
zob h 36 (zhD h 10 p1 2) fun p2 =>
if a3 < (zhL h 36 p2 : Int) then (zob h 10 a0 fun p28 =>
zlet (znew h 6 0 (znf zPP 6) (fun k => zdef (zft zPP 6 k))) fun h29 =>
zob h29 9 a1 fun p30 =>
zob h29 7 (zhD h29 9 p30 5) fun p31 =>
zob h29 6 (zhN h 6 : Int) fun _ =>
Th_init (zhN h 6 : Int) a3 (zhD h29 7 p31 0) h29  fun _ h33 =>
zob h33 36 (zhD h 10 p28 2) fun p34 =>
zix (zhL h33 36 p34) a3 fun j35 =>
zorn h33 6 (zhN h 6 : Int) (zlet (zset h33 36 p34 j35 (zhN h 6 : Int)) fun h36 =>
zob h36 10 a0 fun p37 =>
zob h36 36 (zhD h36 10 p37 2) fun p38 =>
zix (zhL h36 36 p38) a3 fun j39 =>
zob h36 9 a1 fun p40 =>
zob h36 7 (zhD h36 9 p40 5) fun p41 =>
zob h36 6 (zhD h36 36 p38 j39) fun _ =>
Th_begin (zhD h36 36 p38 j39) a2 (zhD h36 7 p41 3) h36  fun _ h43 =>
r35 a0 a1 a2 (wr (a3 + 1)) h43))
else zob h 9 a1 fun p3 =>
X_groupsFor (zhD h 9 p3 7) h  fun v4 h5 =>
zix 100000 v4 fun n6 =>
zlet (znew h5 37 n6 n6 (fun _ => -1)) fun h7 =>
zob h7 10 a0 fun p8 =>
zlet (zset h7 10 p8 3 (zhN h5 37 : Int)) fun h9 =>
zob h9 9 a1 fun p10 =>
zob h9 7 (zhD h9 9 p10 5) fun p11 =>
zix 100000 (zhD h9 7 p11 1) fun n12 =>
zlet (znew h9 38 n12 n12 (fun _ => 0)) fun h13 =>
zob h13 10 a0 fun p14 =>
zlet (zset h13 10 p14 4 (zhN h9 38 : Int)) fun h15 =>
zob h15 9 a1 fun p16 =>
zob h15 7 (zhD h15 9 p16 5) fun p17 =>
zix 100000 (zhD h15 7 p17 1) fun n18 =>
zlet (znew h15 40 n18 n18 (fun _ => 0)) fun h19 =>
zob h19 10 a0 fun p20 =>
zlet (zset h19 10 p20 6 (zhN h15 40 : Int)) fun h21 =>
zob h21 9 a1 fun p22 =>
zob h21 7 (zhD h21 9 p22 5) fun p23 =>
zix 100000 (zhD h21 7 p23 1) fun n24 =>
zlet (znew h21 41 n24 n24 (fun _ => 0)) fun h25 =>
zob h25 10 a0 fun p26 =>
zlet (zset h25 10 p26 7 (zhN h21 41 : Int)) fun h27 =>
kr 0 h27
def Bl_init_35 {ρ : Type} (kr : Int → zH → Option ρ) : Int → Int → Int → Int → zH → Option ρ := zit (fun _ _ _ _ _ => none) (Bl_init_35b kr) zN
def Bl_init {ρ : Type} (a0 a1 a2 : Int) (h : zH) (kr : Int → zH → Option ρ) : Option ρ :=
zob h 10 a0 fun _ =>
zix 100000 64 fun n2 =>
zlet (znew h 39 n2 n2 (fun _ => 0)) fun h3 =>
zob h3 10 a0 fun p4 =>
zlet (zset h3 10 p4 5 (zhN h 39 : Int)) fun h5 =>
zob h5 10 a0 fun p6 =>
zlet (zset h5 10 p6 0 a1) fun h7 =>
zob h7 10 a0 fun p8 =>
zlet (zset h7 10 p8 1 a2) fun h9 =>
zob h9 9 a1 fun p10 =>
zix 100000 (zhD h9 9 p10 7) fun n11 =>
zlet (znew h9 36 n11 n11 (fun _ => -1)) fun h12 =>
zob h12 10 a0 fun p13 =>
zlet (zset h12 10 p13 2 (zhN h9 36 : Int)) fun h14 =>
Bl_init_35 kr a0 a1 a2 0 h14
def Gr_init_74 {ρ : Type} (kr : Int → zH → Option ρ) (h : zH) : Option ρ :=
kr 0 h
def Gr_init_38b {ρ : Type} (kr : Int → zH → Option ρ) (r38 : Int → Int → Int → Int → zH → Option ρ) (a0 a1 a2 a3 : Int) (h : zH) : Option ρ :=
if a3 < 4 then (zob h 10 a1 fun p1 =>
zob h 36 (zhD h 10 p1 2) fun p2 =>
if (wr (a2 + a3)) < (zhL h 36 p2 : Int) then (zob h 11 a0 fun p3 =>
zob h 10 a1 fun p4 =>
zob h 36 (zhD h 10 p4 2) fun p5 =>
zix (zhL h 36 p5) (wr (a2 + a3)) fun j6 =>
zob h 42 (zhD h 11 p3 2) fun p7 =>
zix (zhL h 42 p7) a3 fun j8 =>
zorn h 6 (zhD h 36 p5 j6) (zlet (zset h 42 p7 j8 (zhD h 36 p5 j6)) fun h9 =>
r38 a0 a1 a2 (wr (a3 + 1)) h9))
else Gr_init_74 kr h)
else Gr_init_74 kr h
def Gr_init_38 {ρ : Type} (kr : Int → zH → Option ρ) : Int → Int → Int → Int → zH → Option ρ := zit (fun _ _ _ _ _ => none) (Gr_init_38b kr) zN
def Gr_init {ρ : Type} (a0 a1 a2 : Int) (h : zH) (kr : Int → zH → Option ρ) : Option ρ :=
zob h 11 a0 fun _ =>
zix 100000 4 fun n2 =>
zlet (znew h 43 n2 n2 (fun _ => 0)) fun h3 =>
zob h3 11 a0 fun p4 =>
zlet (zset h3 11 p4 3 (zhN h 43 : Int)) fun h5 =>
zix 100000 4 fun n6 =>
zlet (znew h5 44 n6 n6 (fun _ => 0)) fun h7 =>
zob h7 11 a0 fun p8 =>
zlet (zset h7 11 p8 4 (zhN h5 44 : Int)) fun h9 =>
zob h9 11 a0 fun p10 =>
zlet (zset h9 11 p10 0 a1) fun h11 =>
zob h11 11 a0 fun p12 =>
zlet (zset h11 11 p12 1 a2) fun h13 =>
zix 100000 4 fun n14 =>
zlet (znew h13 42 n14 n14 (fun _ => -1)) fun h15 =>
zob h15 11 a0 fun p16 =>
zlet (zset h15 11 p16 2 (zhN h13 42 : Int)) fun h17 =>
Gr_init_38 kr a0 a1 a2 0 h17
def Bl_nextOf_15b {ρ : Type} (kr : Int → zH → Option ρ) (r15 : Int → Int → Int → zH → Option ρ) (a0 a1 a2 : Int) (h : zH) : Option ρ :=
zob h 10 a1 fun p1 =>
zob h 37 (zhD h 10 p1 3) fun p2 =>
if a2 < (zhL h 37 p2 : Int) then (zob h 10 a1 fun p6 =>
zlet (znew h 11 0 (znf zPP 11) (fun k => zdef (zft zPP 11 k))) fun h7 =>
zob h7 11 (zhN h 11 : Int) fun _ =>
Gr_init (zhN h 11 : Int) a1 (wr (4 * a2)) h7  fun _ h9 =>
zob h9 37 (zhD h 10 p6 3) fun p10 =>
zix (zhL h9 37 p10) a2 fun j11 =>
zorn h9 11 (zhN h 11 : Int) (zlet (zset h9 37 p10 j11 (zhN h 11 : Int)) fun h12 =>
r15 a0 a1 (wr (a2 + 1)) h12))
else zob h 9 a0 fun p3 =>
zob h 9 a0 fun p4 =>
zlet (zset h 9 p4 8 (wr ((zhD h 9 p3 8) + 1))) fun h5 =>
kr a1 h5
def Bl_nextOf_15 {ρ : Type} (kr : Int → zH → Option ρ) : Int → Int → Int → zH → Option ρ := zit (fun _ _ _ _ => none) (Bl_nextOf_15b kr) zN
def Bl_nextOf {ρ : Type} (a0 : Int) (h : zH) (kr : Int → zH → Option ρ) : Option ρ :=
zlet (znew h 10 0 (znf zPP 10) (fun k => zdef (zft zPP 10 k))) fun h1 =>
zob h1 9 a0 fun p2 =>
zob h1 10 (zhN h 10 : Int) fun _ =>
Bl_init (zhN h 10 : Int) a0 (zhD h1 9 p2 8) h1  fun _ h4 =>
Bl_nextOf_15 kr a0 (zhN h 10 : Int) 0 h4
def Th_isRunning_14 {ρ : Type} (kr : Int → zH → Option ρ) (t0 : Int) (h : zH) : Option ρ :=
znar 1 t0 fun x1 => kr x1 h
def Th_isRunning {ρ : Type} (a0 : Int) (h : zH) (kr : Int → zH → Option ρ) : Option ρ :=
zob h 6 a0 fun p1 =>
if (zhD h 6 p1 4) = 114 then Th_isRunning_14 kr 1 h
else Th_isRunning_14 kr 0 h
def Th_isAnyRunning_30 {ρ : Type} (kr : Int → zH → Option ρ) (h : zH) : Option ρ :=
kr 0 h
def Th_isAnyRunning_2b {ρ : Type} (kr : Int → zH → Option ρ) (r2 : Int → Int → Int → zH → Option ρ) (a0 a1 a2 : Int) (h : zH) : Option ρ :=
if a2 < a1 then (zob h 36 a0 fun p1 =>
if a2 < (zhL h 36 p1 : Int) then (zob h 36 a0 fun p2 =>
zix (zhL h 36 p2) a2 fun j3 =>
zob h 6 (zhD h 36 p2 j3) fun _ =>
Th_isRunning (zhD h 36 p2 j3) h  fun v4 h5 =>
if v4 = 0 then r2 a0 a1 (wr (a2 + 1)) h5
else kr 1 h5)
else Th_isAnyRunning_30 kr h)
else Th_isAnyRunning_30 kr h
def Th_isAnyRunning_2 {ρ : Type} (kr : Int → zH → Option ρ) : Int → Int → Int → zH → Option ρ := zit (fun _ _ _ _ => none) (Th_isAnyRunning_2b kr) zN
def Th_isAnyRunning {ρ : Type} (a0 a1 : Int) (h : zH) (kr : Int → zH → Option ρ) : Option ρ :=
Th_isAnyRunning_2 kr a0 a1 0 h
def Th_isWaiting_14 {ρ : Type} (kr : Int → zH → Option ρ) (t0 : Int) (h : zH) : Option ρ :=
znar 1 t0 fun x1 => kr x1 h
def Th_isWaiting {ρ : Type} (a0 : Int) (h : zH) (kr : Int → zH → Option ρ) : Option ρ :=
zob h 6 a0 fun p1 =>
if (zhD h 6 p1 4) = 119 then Th_isWaiting_14 kr 1 h
else Th_isWaiting_14 kr 0 h
def Th_lowestOfWaiting_36_32 {ρ : Type} (kr : Int → zH → Option ρ) (h : zH) : Option ρ :=
kr (-1) h
def Th_lowestOfWaiting_36_2b {ρ : Type} (kr : Int → zH → Option ρ) (r2 : Int → Int → Int → zH → Option ρ) (a0 a1 a2 : Int) (h : zH) : Option ρ :=
if a2 < a1 then (zob h 36 a0 fun p1 =>
if a2 < (zhL h 36 p1 : Int) then (zob h 36 a0 fun p2 =>
zix (zhL h 36 p2) a2 fun j3 =>
zob h 6 (zhD h 36 p2 j3) fun _ =>
Th_isWaiting (zhD h 36 p2 j3) h  fun v4 h5 =>
if v4 = 0 then r2 a0 a1 (wr (a2 + 1)) h5
else zob h5 36 a0 fun p6 =>
zix (zhL h5 36 p6) a2 fun j7 =>
kr (zhD h5 36 p6 j7) h5)
else Th_lowestOfWaiting_36_32 kr h)
else Th_lowestOfWaiting_36_32 kr h
def Th_lowestOfWaiting_36_2 {ρ : Type} (kr : Int → zH → Option ρ) : Int → Int → Int → zH → Option ρ := zit (fun _ _ _ _ => none) (Th_lowestOfWaiting_36_2b kr) zN
def Th_lowestOfWaiting_36 {ρ : Type} (a0 a1 : Int) (h : zH) (kr : Int → zH → Option ρ) : Option ρ :=
Th_lowestOfWaiting_36_2 kr a0 a1 0 h
def Bl_isAllEnded_35 {ρ : Type} (kr : Int → zH → Option ρ) (t0 : Int) (h : zH) : Option ρ :=
znar 1 t0 fun x1 => kr x1 h
def Bl_isAllEnded_34 {ρ : Type} (kr : Int → zH → Option ρ) (h : zH) : Option ρ :=
Bl_isAllEnded_35 kr 0 h
def Bl_isAllEnded {ρ : Type} (a0 : Int) (h : zH) (kr : Int → zH → Option ρ) : Option ρ :=
zob h 10 a0 fun p1 =>
zob h 10 a0 fun p2 =>
zob h 36 (zhD h 10 p2 2) fun p3 =>
Th_isAnyRunning (zhD h 10 p1 2) (zhL h 36 p3 : Int) h  fun v4 h5 =>
if v4 = 0 then (zob h5 10 a0 fun p6 =>
zob h5 10 a0 fun p7 =>
zob h5 36 (zhD h5 10 p7 2) fun p8 =>
Th_lowestOfWaiting_36 (zhD h5 10 p6 2) (zhL h5 36 p8 : Int) h5  fun v9 h10 =>
if v9 < 0 then Bl_isAllEnded_35 kr 1 h10
else Bl_isAllEnded_34 kr h10)
else Bl_isAllEnded_34 kr h5
def La_isRunning_14 {ρ : Type} (kr : Int → zH → Option ρ) (t0 : Int) (h : zH) : Option ρ :=
znar 1 t0 fun x1 => kr x1 h
def La_isRunning {ρ : Type} (a0 : Int) (h : zH) (kr : Int → zH → Option ρ) : Option ρ :=
zob h 9 a0 fun p1 =>
if (zhD h 9 p1 10) = 114 then La_isRunning_14 kr 1 h
else La_isRunning_14 kr 0 h
def Le_hasOpenChild_37 {ρ : Type} (kr : Int → zH → Option ρ) (r2 : Int → Int → Int → zH → Option ρ) (a0 a1 a2 : Int) (h : zH) : Option ρ :=
r2 a0 a1 (wr (a2 + 1)) h
def Le_hasOpenChild_2b {ρ : Type} (kr : Int → zH → Option ρ) (r2 : Int → Int → Int → zH → Option ρ) (a0 a1 a2 : Int) (h : zH) : Option ρ :=
zob h 1 a0 fun p1 =>
if a2 < (zhD h 1 p1 3) then (zob h 1 a0 fun p2 =>
zob h 21 (zhD h 1 p2 1) fun p3 =>
zix (zhL h 21 p3) a2 fun j4 =>
zob h 9 (zhD h 21 p3 j4) fun p5 =>
if (zhD h 9 p5 4) = a1 then (zob h 1 a0 fun p6 =>
zob h 21 (zhD h 1 p6 1) fun p7 =>
zix (zhL h 21 p7) a2 fun j8 =>
zob h 9 (zhD h 21 p7 j8) fun _ =>
La_isOver (zhD h 21 p7 j8) h  fun v9 h10 =>
if v9 = 0 then kr 1 h10
else Le_hasOpenChild_37 kr r2 a0 a1 a2 h10)
else Le_hasOpenChild_37 kr r2 a0 a1 a2 h)
else kr 0 h
def Le_hasOpenChild_2 {ρ : Type} (kr : Int → zH → Option ρ) : Int → Int → Int → zH → Option ρ := zit (fun _ _ _ _ => none) (Le_hasOpenChild_2b kr) zN
def Le_hasOpenChild {ρ : Type} (a0 a1 : Int) (h : zH) (kr : Int → zH → Option ρ) : Option ρ :=
Le_hasOpenChild_2 kr a0 a1 0 h
def Le_endIfDone_40 {ρ : Type} (kr : Int → zH → Option ρ) (h : zH) : Option ρ :=
kr 0 h
def Le_endIfDone_58 {ρ : Type} (kr : Int → zH → Option ρ) (h : zH) : Option ρ :=
kr 0 h
def Le_endIfDone_4b {ρ : Type} (kr : Int → zH → Option ρ) (r4 : Int → Int → Int → zH → Option ρ) (a0 a2 a3 : Int) (h : zH) : Option ρ :=
if a3 < 12 then (if a2 < 0 then Le_endIfDone_58 kr h
else zob h 9 a2 fun _ =>
La_isRunning a2 h  fun v1 h2 =>
if v1 = 0 then Le_endIfDone_40 kr h2
else zob h2 9 a2 fun p3 =>
zob h2 9 a2 fun p4 =>
if (zhD h2 9 p3 9) < (zhD h2 9 p4 6) then Le_endIfDone_40 kr h2
else zob h2 1 a0 fun _ =>
Le_hasOpenChild a0 a2 h2  fun v5 h6 =>
if v5 = 0 then (zob h6 9 a2 fun p7 =>
zlet (zset h6 9 p7 10 100) fun h8 =>
zob h8 9 a2 fun p9 =>
r4 a0 (zhD h8 9 p9 4) (wr (a3 + 1)) h8)
else Le_endIfDone_40 kr h6)
else Le_endIfDone_58 kr h
def Le_endIfDone_4 {ρ : Type} (kr : Int → zH → Option ρ) : Int → Int → Int → zH → Option ρ := zit (fun _ _ _ _ => none) (Le_endIfDone_4b kr) zN
def Le_endIfDone {ρ : Type} (a0 a1 : Int) (h : zH) (kr : Int → zH → Option ρ) : Option ρ :=
Le_endIfDone_4 kr a0 a1 0 h
def Un_cutTo_2b {ρ : Type} (kr : Int → zH → Option ρ) (r2 : Int → Int → Int → zH → Option ρ) (a0 a1 a2 : Int) (h : zH) : Option ρ :=
zob h 3 a0 fun p1 =>
if a2 < (zhD h 3 p1 2) then (zob h 3 a0 fun p4 =>
zob h 26 (zhD h 3 p4 0) fun p5 =>
zix (zhL h 26 p5) a2 fun j6 =>
zorn h 11 (-1) (zlet (zset h 26 p5 j6 (-1)) fun h7 =>
r2 a0 a1 (wr (a2 + 1)) h7))
else zob h 3 a0 fun p2 =>
zlet (zset h 3 p2 2 a1) fun h3 =>
kr 0 h3
def Un_cutTo_2 {ρ : Type} (kr : Int → zH → Option ρ) : Int → Int → Int → zH → Option ρ := zit (fun _ _ _ _ => none) (Un_cutTo_2b kr) zN
def Un_cutTo {ρ : Type} (a0 a1 : Int) (h : zH) (kr : Int → zH → Option ρ) : Option ρ :=
Un_cutTo_2 kr a0 a1 a1 h
def Un_dropBlock_40 {ρ : Type} (kr : Int → zH → Option ρ) (r4 : Int → Int → Int → Int → zH → Option ρ) (a0 a1 a2 a3 : Int) (h : zH) : Option ρ :=
r4 a0 a1 a2 (wr (a3 + 1)) h
def Un_dropBlock_4b {ρ : Type} (kr : Int → zH → Option ρ) (r4 : Int → Int → Int → Int → zH → Option ρ) (a0 a1 a2 a3 : Int) (h : zH) : Option ρ :=
zob h 3 a0 fun p1 =>
if a3 < (zhD h 3 p1 2) then (zob h 3 a0 fun p4 =>
zob h 26 (zhD h 3 p4 0) fun p5 =>
zix (zhL h 26 p5) a3 fun j6 =>
zob h 11 (zhD h 26 p5 j6) fun p7 =>
if (zhD h 11 p7 0) = a1 then Un_dropBlock_40 kr r4 a0 a1 a2 a3 h
else zob h 3 a0 fun p8 =>
zob h 3 a0 fun p9 =>
zob h 26 (zhD h 3 p9 0) fun p10 =>
zix (zhL h 26 p10) a3 fun j11 =>
zob h 26 (zhD h 3 p8 0) fun p12 =>
zix (zhL h 26 p12) a2 fun j13 =>
zorn h 11 (zhD h 26 p10 j11) (zlet (zset h 26 p12 j13 (zhD h 26 p10 j11)) fun h14 =>
Un_dropBlock_40 kr r4 a0 a1 (wr (a2 + 1)) a3 h14))
else zob h 3 a0 fun _ =>
Un_cutTo a0 a2 h  fun _ h3 =>
kr 0 h3
def Un_dropBlock_4 {ρ : Type} (kr : Int → zH → Option ρ) : Int → Int → Int → Int → zH → Option ρ := zit (fun _ _ _ _ _ => none) (Un_dropBlock_4b kr) zN
def Un_dropBlock {ρ : Type} (a0 a1 : Int) (h : zH) (kr : Int → zH → Option ρ) : Option ρ :=
Un_dropBlock_4 kr a0 a1 0 0 h
def Co_endIfEnded_10b {ρ : Type} (kr : Int → zH → Option ρ) (r10 : Int → Int → Int → zH → Option ρ) (a0 a1 a2 : Int) (h : zH) : Option ρ :=
if a2 < 2 then (zob h 2 a0 fun p9 =>
zob h 23 (zhD h 2 p9 2) fun p10 =>
zix (zhL h 23 p10) a2 fun j11 =>
zob h 3 (zhD h 23 p10 j11) fun _ =>
Un_dropBlock (zhD h 23 p10 j11) a1 h  fun _ h13 =>
r10 a0 a1 (wr (a2 + 1)) h13)
else zob h 10 a1 fun p1 =>
zob h 9 (zhD h 10 p1 0) fun p2 =>
zob h 9 (zhD h 10 p1 0) fun p3 =>
zlet (zset h 9 p3 9 (wr ((zhD h 9 p2 9) + 1))) fun h4 =>
zob h4 2 a0 fun p5 =>
zob h4 10 a1 fun p6 =>
zob h4 1 (zhD h4 2 p5 0) fun _ =>
Le_endIfDone (zhD h4 2 p5 0) (zhD h4 10 p6 0) h4  fun _ h8 =>
kr 0 h8
def Co_endIfEnded_10 {ρ : Type} (kr : Int → zH → Option ρ) : Int → Int → Int → zH → Option ρ := zit (fun _ _ _ _ => none) (Co_endIfEnded_10b kr) zN
def Co_endIfEnded {ρ : Type} (a0 a1 : Int) (h : zH) (kr : Int → zH → Option ρ) : Option ρ :=
zob h 10 a1 fun _ =>
Bl_isAllEnded a1 h  fun v1 h2 =>
if v1 = 0 then kr 0 h2
else Co_endIfEnded_10 kr a0 a1 0 h2
def Un_take_54 {ρ : Type} (kr : Int → zH → Option ρ) (h : zH) : Option ρ :=
kr 0 h
def Un_take_2b {ρ : Type} (kr : Int → zH → Option ρ) (r2 : Int → Int → Int → zH → Option ρ) (a0 a1 a2 : Int) (h : zH) : Option ρ :=
zob h 10 a1 fun p1 =>
zob h 37 (zhD h 10 p1 3) fun p2 =>
if a2 < (zhL h 37 p2 : Int) then (zob h 3 a0 fun p3 =>
zob h 3 a0 fun p4 =>
zob h 26 (zhD h 3 p4 0) fun p5 =>
if (zhD h 3 p3 2) < (zhL h 26 p5 : Int) then (zob h 3 a0 fun p6 =>
zob h 3 a0 fun p7 =>
zob h 10 a1 fun p8 =>
zob h 37 (zhD h 10 p8 3) fun p9 =>
zix (zhL h 37 p9) a2 fun j10 =>
zob h 26 (zhD h 3 p6 0) fun p11 =>
zix (zhL h 26 p11) (zhD h 3 p7 2) fun j12 =>
zorn h 11 (zhD h 37 p9 j10) (zlet (zset h 26 p11 j12 (zhD h 37 p9 j10)) fun h13 =>
zob h13 3 a0 fun p14 =>
zob h13 3 a0 fun p15 =>
zlet (zset h13 3 p15 2 (wr ((zhD h13 3 p14 2) + 1))) fun h16 =>
r2 a0 a1 (wr (a2 + 1)) h16))
else Un_take_54 kr h)
else Un_take_54 kr h
def Un_take_2 {ρ : Type} (kr : Int → zH → Option ρ) : Int → Int → Int → zH → Option ρ := zit (fun _ _ _ _ => none) (Un_take_2b kr) zN
def Un_take {ρ : Type} (a0 a1 : Int) (h : zH) (kr : Int → zH → Option ρ) : Option ρ :=
Un_take_2 kr a0 a1 0 h
def Co_give {ρ : Type} (a0 a1 a2 : Int) (h : zH) (kr : Int → zH → Option ρ) : Option ρ :=
Bl_nextOf a2 h  fun v1 h2 =>
zob h2 3 a1 fun _ =>
Un_take a1 v1 h2  fun _ h4 =>
zob h4 2 a0 fun _ =>
Co_endIfEnded a0 v1 h4  fun _ h6 =>
kr 0 h6
def La_hasBlockToGive_32 {ρ : Type} (kr : Int → zH → Option ρ) (t0 : Int) (h : zH) : Option ρ :=
znar 1 t0 fun x1 => kr x1 h
def La_hasBlockToGive_31 {ρ : Type} (kr : Int → zH → Option ρ) (h : zH) : Option ρ :=
La_hasBlockToGive_32 kr 0 h
def La_hasBlockToGive {ρ : Type} (a0 : Int) (h : zH) (kr : Int → zH → Option ρ) : Option ρ :=
zob h 9 a0 fun p1 =>
if (zhD h 9 p1 5) < 0 then La_hasBlockToGive_31 kr h
else zob h 9 a0 fun p2 =>
if (zhD h 9 p2 10) = 114 then (zob h 9 a0 fun p3 =>
zob h 9 a0 fun p4 =>
if (zhD h 9 p3 8) < (zhD h 9 p4 6) then La_hasBlockToGive_32 kr 1 h
else La_hasBlockToGive_31 kr h)
else La_hasBlockToGive_31 kr h
def Co_giveBlocks_69 {ρ : Type} (kr : Int → zH → Option ρ) (r2 : Int → Int → zH → Option ρ) (a0 a1 : Int) (h : zH) : Option ρ :=
r2 a0 (wr (a1 + 1)) h
def Co_giveBlocks_24b {ρ : Type} (kr : Int → zH → Option ρ) (r2 : Int → Int → zH → Option ρ) (r24 : Int → Int → Int → Int → zH → Option ρ) (a0 a1 a2 a3 : Int) (h : zH) : Option ρ :=
if a3 < 6 then (if a2 < 0 then Co_giveBlocks_69 kr r2 a0 a1 h
else zob h 9 a2 fun _ =>
La_hasBlockToGive a2 h  fun v1 h2 =>
if v1 = 0 then Co_giveBlocks_69 kr r2 a0 a1 h2
else zob h2 2 a0 fun _ =>
Co_unitFor a0 a2 h2  fun v3 h4 =>
if v3 < 0 then Co_giveBlocks_69 kr r2 a0 a1 h4
else zob h4 2 a0 fun _ =>
Co_give a0 v3 a2 h4  fun _ h6 =>
r24 a0 a1 a2 (wr (a3 + 1)) h6)
else Co_giveBlocks_69 kr r2 a0 a1 h
def Co_giveBlocks_24 {ρ : Type} (kr : Int → zH → Option ρ) (r2 : Int → Int → zH → Option ρ) : Int → Int → Int → Int → zH → Option ρ := zit (fun _ _ _ _ _ => none) (Co_giveBlocks_24b kr r2) zN
def Co_giveBlocks_2b {ρ : Type} (kr : Int → zH → Option ρ) (r2 : Int → Int → zH → Option ρ) (a0 a1 : Int) (h : zH) : Option ρ :=
zob h 2 a0 fun p1 =>
zob h 1 (zhD h 2 p1 0) fun p2 =>
if a1 < (zhD h 1 p2 3) then (zob h 2 a0 fun p3 =>
zob h 1 (zhD h 2 p3 0) fun _ =>
Le_launchOf (zhD h 2 p3 0) a1 h  fun v4 h5 =>
Co_giveBlocks_24 kr r2 a0 a1 v4 0 h5)
else kr 0 h
def Co_giveBlocks_2 {ρ : Type} (kr : Int → zH → Option ρ) : Int → Int → zH → Option ρ := zit (fun _ _ _ => none) (Co_giveBlocks_2b kr) zN
def Co_giveBlocks {ρ : Type} (a0 : Int) (h : zH) (kr : Int → zH → Option ρ) : Option ρ :=
Co_giveBlocks_2 kr a0 0 h
def Gr_writeFirst {ρ : Type} (a0 a1 : Int) (h : zH) (kr : Int → zH → Option ρ) : Option ρ :=
zob h 11 a0 fun p1 =>
if (zhD h 11 p1 5) = 0 then kr 0 h
else zob h 11 a0 fun p2 =>
zob h 43 (zhD h 11 p2 3) fun p3 =>
zix (zhL h 43 p3) 0 fun j4 =>
zob h 11 a0 fun p5 =>
zob h 44 (zhD h 11 p5 4) fun p6 =>
zix (zhL h 44 p6) 0 fun j7 =>
zob h 22 a1 fun p8 =>
zix (zhL h 22 p8) (zhD h 43 p3 j4) fun j9 =>
zlet (zset h 22 p8 j9 (zhD h 44 p6 j7)) fun h10 =>
zob h10 11 a0 fun p11 =>
zob h10 11 a0 fun p12 =>
zlet (zset h10 11 p12 5 (wr ((zhD h10 11 p11 5) - 1))) fun h13 =>
zob h13 11 a0 fun p14 =>
zob h13 11 a0 fun p15 =>
zob h13 11 a0 fun p16 =>
zcopy 43 h13 (zhD h13 11 p14 3) 1 (zhD h13 11 p15 3) 0 (zhD h13 11 p16 5) fun h17 =>
zob h17 11 a0 fun p18 =>
zob h17 11 a0 fun p19 =>
zob h17 11 a0 fun p20 =>
zcopy 44 h17 (zhD h17 11 p18 4) 1 (zhD h17 11 p19 4) 0 (zhD h17 11 p20 5) fun h21 =>
kr 0 h21
def Co_writeFirstOfBuffers_9b {ρ : Type} (kr : Int → zH → Option ρ) (r2 : Int → Int → zH → Option ρ) (r9 : Int → Int → Int → zH → Option ρ) (a0 a1 a2 : Int) (h : zH) : Option ρ :=
zob h 2 a0 fun p1 =>
zob h 23 (zhD h 2 p1 2) fun p2 =>
zix (zhL h 23 p2) a1 fun j3 =>
zob h 3 (zhD h 23 p2 j3) fun p4 =>
if a2 < (zhD h 3 p4 2) then (zob h 2 a0 fun p5 =>
zob h 23 (zhD h 2 p5 2) fun p6 =>
zix (zhL h 23 p6) a1 fun j7 =>
zob h 3 (zhD h 23 p6 j7) fun p8 =>
zob h 26 (zhD h 3 p8 0) fun p9 =>
zix (zhL h 26 p9) a2 fun j10 =>
zob h 2 a0 fun p11 =>
zob h 11 (zhD h 26 p9 j10) fun _ =>
Gr_writeFirst (zhD h 26 p9 j10) (zhD h 2 p11 1) h  fun _ h13 =>
r9 a0 a1 (wr (a2 + 1)) h13)
else r2 a0 (wr (a1 + 1)) h
def Co_writeFirstOfBuffers_9 {ρ : Type} (kr : Int → zH → Option ρ) (r2 : Int → Int → zH → Option ρ) : Int → Int → Int → zH → Option ρ := zit (fun _ _ _ _ => none) (Co_writeFirstOfBuffers_9b kr r2) zN
def Co_writeFirstOfBuffers_2b {ρ : Type} (kr : Int → zH → Option ρ) (r2 : Int → Int → zH → Option ρ) (a0 a1 : Int) (h : zH) : Option ρ :=
if a1 < 2 then Co_writeFirstOfBuffers_9 kr r2 a0 a1 0 h
else kr 0 h
def Co_writeFirstOfBuffers_2 {ρ : Type} (kr : Int → zH → Option ρ) : Int → Int → zH → Option ρ := zit (fun _ _ _ => none) (Co_writeFirstOfBuffers_2b kr) zN
def Co_writeFirstOfBuffers {ρ : Type} (a0 : Int) (h : zH) (kr : Int → zH → Option ρ) : Option ρ :=
Co_writeFirstOfBuffers_2 kr a0 0 h
def X_isIn_13 {ρ : Type} (kr : Int → zH → Option ρ) (t0 : Int) (h : zH) : Option ρ :=
znar 1 t0 fun x1 => kr x1 h
def X_isIn {ρ : Type} (a0 a1 : Int) (h : zH) (kr : Int → zH → Option ρ) : Option ρ :=
if (zand (zshr a0 a1) 1) = 0 then X_isIn_13 kr 0 h
else X_isIn_13 kr 1 h
def Gr_threadIn_19 {ρ : Type} (kr : Int → zH → Option ρ) (t0 : Int) (h : zH) : Option ρ :=
kr t0 h
def Gr_threadIn_18 {ρ : Type} (kr : Int → zH → Option ρ) (h : zH) : Option ρ :=
Gr_threadIn_19 kr (-1) h
def Gr_threadIn {ρ : Type} (a0 a1 : Int) (h : zH) (kr : Int → zH → Option ρ) : Option ρ :=
if a1 < 0 then Gr_threadIn_18 kr h
else if a1 < 4 then (zob h 11 a0 fun p1 =>
zob h 42 (zhD h 11 p1 2) fun p2 =>
zix (zhL h 42 p2) a1 fun j3 =>
Gr_threadIn_19 kr (zhD h 42 p2 j3) h)
else Gr_threadIn_18 kr h
def Gr_writeAll_7b {ρ : Type} (kr : Int → zH → Option ρ) (r7 : Int → Int → Int → Int → zH → Option ρ) (a0 a1 a2 a3 : Int) (h : zH) : Option ρ :=
if a3 < a2 then (zob h 11 a0 fun p3 =>
zob h 43 (zhD h 11 p3 3) fun p4 =>
zix (zhL h 43 p4) a3 fun j5 =>
zob h 11 a0 fun p6 =>
zob h 44 (zhD h 11 p6 4) fun p7 =>
zix (zhL h 44 p7) a3 fun j8 =>
zob h 22 a1 fun p9 =>
zix (zhL h 22 p9) (zhD h 43 p4 j5) fun j10 =>
zlet (zset h 22 p9 j10 (zhD h 44 p7 j8)) fun h11 =>
r7 a0 a1 a2 (wr (a3 + 1)) h11)
else zob h 11 a0 fun p1 =>
zlet (zset h 11 p1 5 0) fun h2 =>
kr a2 h2
def Gr_writeAll_7 {ρ : Type} (kr : Int → zH → Option ρ) : Int → Int → Int → Int → zH → Option ρ := zit (fun _ _ _ _ _ => none) (Gr_writeAll_7b kr) zN
def Gr_writeAll {ρ : Type} (a0 a1 : Int) (h : zH) (kr : Int → zH → Option ρ) : Option ρ :=
zob h 11 a0 fun p1 =>
Gr_writeAll_7 kr a0 a1 (zhD h 11 p1 5) 0 h
def In_cellRegister_20 {ρ : Type} (kr : Int → zH → Option ρ) (t0 : Int) (h : zH) : Option ρ :=
kr t0 h
def In_cellRegister {ρ : Type} (a0 : Int) (h : zH) (kr : Int → zH → Option ρ) : Option ρ :=
zob h 8 a0 fun _ =>
In_isOneOf a0 9 h  fun v1 h2 =>
if v1 = 0 then (zob h2 8 a0 fun p3 =>
In_cellRegister_20 kr (zhD h2 8 p3 2) h2)
else zob h2 8 a0 fun p4 =>
In_cellRegister_20 kr (zhD h2 8 p4 1) h2
def Th_at_23 {ρ : Type} (kr : Int → zH → Option ρ) (t0 : Int) (h : zH) : Option ρ :=
kr t0 h
def Th_at_22 {ρ : Type} (kr : Int → zH → Option ρ) (h : zH) : Option ρ :=
Th_at_23 kr 0 h
def Th_at {ρ : Type} (a0 a1 : Int) (h : zH) (kr : Int → zH → Option ρ) : Option ρ :=
if a1 < 0 then Th_at_22 kr h
else zob h 6 a0 fun p1 =>
zob h 32 (zhD h 6 p1 1) fun p2 =>
if a1 < (zhL h 32 p2 : Int) then (zob h 6 a0 fun p3 =>
zob h 32 (zhD h 6 p3 1) fun p4 =>
zix (zhL h 32 p4) a1 fun j5 =>
Th_at_23 kr (zhD h 32 p4 j5) h)
else Th_at_22 kr h
def Co_lookAhead_99 {ρ : Type} (kr : Int → zH → Option ρ) (r7 : Int → Int → Int → Int → zH → Option ρ) (a0 a1 a2 a3 : Int) (h : zH) : Option ρ :=
r7 a0 a1 a2 (wr (a3 + 1)) h
def Co_lookAhead_66 {ρ : Type} (kr : Int → zH → Option ρ) (r7 : Int → Int → Int → Int → zH → Option ρ) (a0 a1 a2 a3 t0 t1 t2 : Int) (h : zH) : Option ρ :=
zob h 25 t2 fun p1 =>
zix (zhL h 25 p1) t1 fun j2 =>
zlet (zset h 25 p1 j2 t0) fun h3 =>
zob h3 2 a0 fun p4 =>
X_isIn (zhD h3 2 p4 8) a3 h3  fun v5 h6 =>
if v5 = 0 then Co_lookAhead_99 kr r7 a0 a1 a2 a3 h6
else zob h6 2 a0 fun p7 =>
zob h6 25 (zhD h6 2 p7 7) fun p8 =>
zix (zhL h6 25 p8) a3 fun j9 =>
if (zhD h6 25 p8 j9) = 0 then Co_lookAhead_99 kr r7 a0 a1 a2 a3 h6
else zob h6 2 a0 fun p10 =>
zob h6 2 a0 fun p11 =>
zlet (zset h6 2 p11 9 (zor (zhD h6 2 p10 9) (zshl 1 a3))) fun h12 =>
Co_lookAhead_99 kr r7 a0 a1 a2 a3 h12
def Co_lookAhead_42 {ρ : Type} (kr : Int → zH → Option ρ) (r7 : Int → Int → Int → Int → zH → Option ρ) (a0 a1 a2 a3 a4 t0 t1 t2 : Int) (h : zH) : Option ρ :=
zob h 24 t2 fun p1 =>
zix (zhL h 24 p1) t1 fun j2 =>
zlet (zset h 24 p1 j2 t0) fun h3 =>
zob h3 2 a0 fun p4 =>
if a4 < 0 then Co_lookAhead_66 kr r7 a0 a1 a2 a3 0 a3 (zhD h3 2 p4 7) h3
else zob h3 8 a2 fun p5 =>
zob h3 6 a4 fun _ =>
Th_at a4 (zhD h3 8 p5 2) h3  fun v6 h7 =>
Co_lookAhead_66 kr r7 a0 a1 a2 a3 v6 a3 (zhD h3 2 p4 7) h7
def Co_lookAhead_127 {ρ : Type} (kr : Int → zH → Option ρ) (t0 t1 : Int) (h : zH) : Option ρ :=
zob h 2 t1 fun p1 =>
zlet (zset h 2 p1 10 t0) fun h2 =>
kr 0 h2
def Co_lookAhead_7b {ρ : Type} (kr : Int → zH → Option ρ) (r7 : Int → Int → Int → Int → zH → Option ρ) (a0 a1 a2 a3 : Int) (h : zH) : Option ρ :=
if a3 < 4 then (zob h 11 a1 fun _ =>
Gr_threadIn a1 a3 h  fun v6 h7 =>
zob h7 2 a0 fun p8 =>
if v6 < 0 then Co_lookAhead_42 kr r7 a0 a1 a2 a3 v6 0 a3 (zhD h7 2 p8 6) h7
else zob h7 8 a2 fun _ =>
In_cellRegister a2 h7  fun v9 h10 =>
zob h10 6 v6 fun _ =>
Th_at v6 v9 h10  fun v11 h12 =>
Co_lookAhead_42 kr r7 a0 a1 a2 a3 v6 v11 a3 (zhD h7 2 p8 6) h12)
else zob h 8 a2 fun _ =>
In_isOneOf a2 1 h  fun v1 h2 =>
if v1 = 0 then Co_lookAhead_127 kr 0 a0 h2
else zob h2 2 a0 fun p3 =>
zob h2 11 a1 fun _ =>
Gr_writeAll a1 (zhD h2 2 p3 1) h2  fun v4 h5 =>
Co_lookAhead_127 kr v4 a0 h5
def Co_lookAhead_7 {ρ : Type} (kr : Int → zH → Option ρ) : Int → Int → Int → Int → zH → Option ρ := zit (fun _ _ _ _ _ => none) (Co_lookAhead_7b kr) zN
def Co_lookAhead {ρ : Type} (a0 a1 a2 : Int) (h : zH) (kr : Int → zH → Option ρ) : Option ρ :=
zob h 2 a0 fun p1 =>
zlet (zset h 2 p1 9 0) fun h2 =>
Co_lookAhead_7 kr a0 a1 a2 0 h2
