def Th_set_20 {ρ : Type} (kr : Int → zH → Option ρ) (h : zH) : Option ρ :=
kr 0 h
def Th_set {ρ : Type} (a0 a1 a2 : Int) (h : zH) (kr : Int → zH → Option ρ) : Option ρ :=
if a1 < 0 then Th_set_20 kr h
else zob h 6 a0 fun p1 =>
zob h 32 (zhD h 6 p1 1) fun p2 =>
if a1 < (zhL h 32 p2 : Int) then (zob h 6 a0 fun p3 =>
zob h 32 (zhD h 6 p3 1) fun p4 =>
zix (zhL h 32 p4) a1 fun j5 =>
zlet (zset h 32 p4 j5 a2) fun h6 =>
Th_set_20 kr h6)
else Th_set_20 kr h
def X_exchange_22_36 {ρ : Type} (kr : Int → zH → Option ρ) (a2 a3 a4 t0 t1 t2 : Int) (h : zH) : Option ρ :=
zob h 22 t2 fun p1 =>
zix (zhL h 22 p1) t1 fun j2 =>
zlet (zset h 22 p1 j2 t0) fun h3 =>
zob h3 8 a3 fun p4 =>
zob h3 6 a2 fun _ =>
Th_set a2 (zhD h3 8 p4 1) a4 h3  fun _ h6 =>
kr 0 h6
def X_exchange_22 {ρ : Type} (a0 a1 a2 a3 : Int) (h : zH) (kr : Int → zH → Option ρ) : Option ρ :=
zob h 22 a0 fun p1 =>
zix (zhL h 22 p1) a1 fun j2 =>
zob h 8 a3 fun p3 =>
zob h 6 a2 fun _ =>
Th_at a2 (zhD h 8 p3 3) h  fun v4 h5 =>
zob h5 8 a3 fun p6 =>
if (zhD h5 8 p6 0) = 97 then X_exchange_22_36 kr a2 a3 (zhD h 22 p1 j2) (wr ((zhD h 22 p1 j2) + v4)) a1 a0 h5
else X_exchange_22_36 kr a2 a3 (zhD h 22 p1 j2) v4 a1 a0 h5
def X_isClash_32 {ρ : Type} (kr : Int → zH → Option ρ) (t0 : Int) (h : zH) : Option ρ :=
znar 1 t0 fun x1 => kr x1 h
def X_isClash_16 {ρ : Type} (kr : Int → zH → Option ρ) (a1 t0 : Int) (h : zH) : Option ρ :=
if (zand t0 (zxor (zshl 1 a1) (-1))) = 0 then X_isClash_32 kr 0 h
else X_isClash_32 kr 1 h
def X_isClash {ρ : Type} (a0 a1 a2 : Int) (h : zH) (kr : Int → zH → Option ρ) : Option ρ :=
if a2 = 0 then X_isClash_16 kr a1 (zushr a0 16) h
else X_isClash_16 kr a1 (zand a0 65535) h
def X_withTouch_22 {ρ : Type} (kr : Int → zH → Option ρ) (t0 : Int) (h : zH) : Option ρ :=
kr t0 h
def X_withTouch {ρ : Type} (a0 a1 a2 : Int) (h : zH) (kr : Int → zH → Option ρ) : Option ρ :=
if a2 = 0 then X_withTouch_22 kr (zor a0 (zshl 1 a1)) h
else X_withTouch_22 kr (zor (zor a0 (zshl 1 a1)) (zshl 1 (wr (16 + a1)))) h
def La_markRace_26 {ρ : Type} (kr : Int → zH → Option ρ) (h : zH) : Option ρ :=
kr 0 h
def La_markRace {ρ : Type} (a0 a1 : Int) (h : zH) (kr : Int → zH → Option ρ) : Option ρ :=
zob h 9 a0 fun p1 =>
zob h 35 (zhD h 9 p1 17) fun p2 =>
zix (zhL h 35 p2) a1 fun j3 =>
if (zhD h 35 p2 j3) = 0 then (zob h 9 a0 fun p4 =>
zob h 35 (zhD h 9 p4 17) fun p5 =>
zix (zhL h 35 p5) a1 fun j6 =>
zlet (zset h 35 p5 j6 1) fun h7 =>
zob h7 9 a0 fun p8 =>
zob h7 9 a0 fun p9 =>
zlet (zset h7 9 p9 18 (wr ((zhD h7 9 p8 18) + 1))) fun h10 =>
La_markRace_26 kr h10)
else La_markRace_26 kr h
def Bl_touchGlobal_42 {ρ : Type} (kr : Int → zH → Option ρ) (a0 a1 a2 a3 : Int) (h : zH) : Option ρ :=
zob h 10 a0 fun p1 =>
zob h 10 a0 fun p2 =>
zob h 39 (zhD h 10 p2 5) fun p3 =>
zix (zhL h 39 p3) a2 fun j4 =>
X_withTouch (zhD h 39 p3 j4) a1 a3 h  fun v5 h6 =>
zob h6 39 (zhD h 10 p1 5) fun p7 =>
zix (zhL h6 39 p7) a2 fun j8 =>
zlet (zset h6 39 p7 j8 v5) fun h9 =>
zob h9 10 a0 fun p10 =>
zob h9 9 (zhD h9 10 p10 0) fun p11 =>
zob h9 10 a0 fun p12 =>
zob h9 9 (zhD h9 10 p12 0) fun p13 =>
zob h9 34 (zhD h9 9 p13 16) fun p14 =>
zix (zhL h9 34 p14) a2 fun j15 =>
zob h9 10 a0 fun p16 =>
X_withTouch (zhD h9 34 p14 j15) (zhD h9 10 p16 1) a3 h9  fun v17 h18 =>
zob h18 34 (zhD h9 9 p11 16) fun p19 =>
zix (zhL h18 34 p19) a2 fun j20 =>
zlet (zset h18 34 p19 j20 v17) fun h21 =>
kr 0 h21
def Bl_touchGlobal_34 {ρ : Type} (kr : Int → zH → Option ρ) (a0 a1 a2 a3 : Int) (h : zH) : Option ρ :=
zob h 10 a0 fun p1 =>
zob h 9 (zhD h 10 p1 0) fun _ =>
La_markRace (zhD h 10 p1 0) a2 h  fun _ h3 =>
Bl_touchGlobal_42 kr a0 a1 a2 a3 h3
def Bl_touchGlobal {ρ : Type} (a0 a1 a2 a3 : Int) (h : zH) (kr : Int → zH → Option ρ) : Option ρ :=
zob h 10 a0 fun p1 =>
zob h 39 (zhD h 10 p1 5) fun p2 =>
zix (zhL h 39 p2) a2 fun j3 =>
X_isClash (zhD h 39 p2 j3) a1 a3 h  fun v4 h5 =>
if v4 = 0 then (zob h5 10 a0 fun p6 =>
zob h5 9 (zhD h5 10 p6 0) fun p7 =>
zob h5 34 (zhD h5 9 p7 16) fun p8 =>
zix (zhL h5 34 p8) a2 fun j9 =>
zob h5 10 a0 fun p10 =>
X_isClash (zhD h5 34 p8 j9) (zhD h5 10 p10 1) a3 h5  fun v11 h12 =>
if v11 = 0 then Bl_touchGlobal_42 kr a0 a1 a2 a3 h12
else Bl_touchGlobal_34 kr a0 a1 a2 a3 h12)
else Bl_touchGlobal_34 kr a0 a1 a2 a3 h5
def Gr_isBufferFull_13 {ρ : Type} (kr : Int → zH → Option ρ) (t0 : Int) (h : zH) : Option ρ :=
znar 1 t0 fun x1 => kr x1 h
def Gr_isBufferFull {ρ : Type} (a0 : Int) (h : zH) (kr : Int → zH → Option ρ) : Option ρ :=
zob h 11 a0 fun p1 =>
if (zhD h 11 p1 5) < 4 then Gr_isBufferFull_13 kr 0 h
else Gr_isBufferFull_13 kr 1 h
def Gr_putWrite_37 {ρ : Type} (kr : Int → zH → Option ρ) (h : zH) : Option ρ :=
kr 0 h
def Gr_putWrite {ρ : Type} (a0 a1 a2 : Int) (h : zH) (kr : Int → zH → Option ρ) : Option ρ :=
zob h 11 a0 fun _ =>
Gr_isBufferFull a0 h  fun v1 h2 =>
if v1 = 0 then (zob h2 11 a0 fun p3 =>
zob h2 11 a0 fun p4 =>
zob h2 43 (zhD h2 11 p3 3) fun p5 =>
zix (zhL h2 43 p5) (zhD h2 11 p4 5) fun j6 =>
zlet (zset h2 43 p5 j6 a1) fun h7 =>
zob h7 11 a0 fun p8 =>
zob h7 11 a0 fun p9 =>
zob h7 44 (zhD h7 11 p8 4) fun p10 =>
zix (zhL h7 44 p10) (zhD h7 11 p9 5) fun j11 =>
zlet (zset h7 44 p10 j11 a2) fun h12 =>
zob h12 11 a0 fun p13 =>
zob h12 11 a0 fun p14 =>
zlet (zset h12 11 p14 5 (wr ((zhD h12 11 p13 5) + 1))) fun h15 =>
Gr_putWrite_37 kr h15)
else Gr_putWrite_37 kr h2
def Gr_seenIn_7b {ρ : Type} (kr : Int → zH → Option ρ) (r7 : Int → Int → Int → Int → zH → Option ρ) (a0 a1 a2 a3 : Int) (h : zH) : Option ρ :=
if a3 < 0 then (zob h 22 a2 fun p1 =>
zix (zhL h 22 p1) a1 fun j2 =>
kr (zhD h 22 p1 j2) h)
else zob h 11 a0 fun p3 =>
zob h 43 (zhD h 11 p3 3) fun p4 =>
zix (zhL h 43 p4) a3 fun j5 =>
if (zhD h 43 p4 j5) = a1 then (zob h 11 a0 fun p6 =>
zob h 44 (zhD h 11 p6 4) fun p7 =>
zix (zhL h 44 p7) a3 fun j8 =>
kr (zhD h 44 p7 j8) h)
else r7 a0 a1 a2 (wr (a3 + (-1))) h
def Gr_seenIn_7 {ρ : Type} (kr : Int → zH → Option ρ) : Int → Int → Int → Int → zH → Option ρ := zit (fun _ _ _ _ _ => none) (Gr_seenIn_7b kr) zN
def Gr_seenIn {ρ : Type} (a0 a1 a2 : Int) (h : zH) (kr : Int → zH → Option ρ) : Option ρ :=
zob h 11 a0 fun p1 =>
Gr_seenIn_7 kr a0 a1 a2 (wr ((zhD h 11 p1 5) - 1)) h
def Co_carryGlobal_131 {ρ : Type} (kr : Int → zH → Option ρ) (h : zH) : Option ρ :=
kr 45 h
def Co_carryGlobal_103 {ρ : Type} (kr : Int → zH → Option ρ) (a1 a2 a3 a4 : Int) (h : zH) : Option ρ :=
zob h 8 a4 fun p1 =>
zob h 6 a3 fun _ =>
Th_at a3 (zhD h 8 p1 2) h  fun v2 h3 =>
zob h3 11 a1 fun _ =>
Gr_putWrite a1 a2 v2 h3  fun _ h5 =>
Co_carryGlobal_131 kr h5
def Co_carryGlobal_34 {ρ : Type} (kr : Int → zH → Option ρ) (a0 a1 a2 a3 a4 t0 t1 t2 t3 : Int) (h : zH) : Option ρ :=
zob h 10 t3 fun _ =>
Bl_touchGlobal t3 t2 t1 t0 h  fun _ h2 =>
zob h2 8 a4 fun p3 =>
if (zhD h2 8 p3 0) = 114 then (zob h2 8 a4 fun p16 =>
zob h2 2 a0 fun p17 =>
zob h2 11 a1 fun _ =>
Gr_seenIn a1 a2 (zhD h2 2 p17 1) h2  fun v18 h19 =>
zob h19 6 a3 fun _ =>
Th_set a3 (zhD h2 8 p16 1) v18 h19  fun _ h21 =>
Co_carryGlobal_131 kr h21)
else zob h2 8 a4 fun p4 =>
if (zhD h2 8 p4 0) = 119 then (zob h2 11 a1 fun _ =>
Gr_isBufferFull a1 h2  fun v8 h9 =>
if v8 = 0 then Co_carryGlobal_103 kr a1 a2 a3 a4 h9
else zob h9 2 a0 fun p10 =>
zob h9 11 a1 fun _ =>
Gr_writeFirst a1 (zhD h9 2 p10 1) h9  fun _ h12 =>
zob h12 2 a0 fun p13 =>
zob h12 2 a0 fun p14 =>
zlet (zset h12 2 p14 10 (wr ((zhD h12 2 p13 10) + 1))) fun h15 =>
Co_carryGlobal_103 kr a1 a2 a3 a4 h15)
else zob h2 2 a0 fun p5 =>
X_exchange_22 (zhD h2 2 p5 1) a2 a3 a4 h2  fun _ h7 =>
Co_carryGlobal_131 kr h7
def Co_carryGlobal {ρ : Type} (a0 a1 a2 a3 a4 : Int) (h : zH) (kr : Int → zH → Option ρ) : Option ρ :=
X_isCell a2 h  fun v1 h2 =>
if v1 = 0 then kr 103 h2
else zob h2 11 a1 fun p3 =>
zob h2 6 a3 fun p4 =>
zob h2 8 a4 fun p5 =>
if (zhD h2 8 p5 0) = 119 then Co_carryGlobal_34 kr a0 a1 a2 a3 a4 1 a2 (zhD h2 6 p4 0) (zhD h2 11 p3 0) h2
else Co_carryGlobal_34 kr a0 a1 a2 a3 a4 0 a2 (zhD h2 6 p4 0) (zhD h2 11 p3 0) h2
def Bl_hasShared {ρ : Type} (a0 a1 : Int) (h : zH) (kr : Int → zH → Option ρ) : Option ρ :=
zob h 10 a0 fun p1 =>
zob h 38 (zhD h 10 p1 4) fun p2 =>
X_isWithin a1 0 (wr ((zhL h 38 p2 : Int) - 1)) h  fun v3 h4 =>
znar 1 v3 fun x5 => kr x5 h4
def Bl_touchShared_43 {ρ : Type} (kr : Int → zH → Option ρ) (a0 a1 a2 a3 : Int) (h : zH) : Option ρ :=
zob h 10 a0 fun p1 =>
zob h 10 a0 fun p2 =>
zob h 40 (zhD h 10 p2 6) fun p3 =>
zix (zhL h 40 p3) a2 fun j4 =>
X_withTouch (zhD h 40 p3 j4) a1 a3 h  fun v5 h6 =>
zob h6 40 (zhD h 10 p1 6) fun p7 =>
zix (zhL h6 40 p7) a2 fun j8 =>
zlet (zset h6 40 p7 j8 v5) fun h9 =>
kr 0 h9
def Bl_touchShared {ρ : Type} (a0 a1 a2 a3 : Int) (h : zH) (kr : Int → zH → Option ρ) : Option ρ :=
zob h 10 a0 fun p1 =>
zob h 40 (zhD h 10 p1 6) fun p2 =>
zix (zhL h 40 p2) a2 fun j3 =>
X_isClash (zhD h 40 p2 j3) a1 a3 h  fun v4 h5 =>
if v4 = 0 then Bl_touchShared_43 kr a0 a1 a2 a3 h5
else zob h5 10 a0 fun p6 =>
zob h5 41 (zhD h5 10 p6 7) fun p7 =>
zix (zhL h5 41 p7) a2 fun j8 =>
if (zhD h5 41 p7 j8) = 0 then (zob h5 10 a0 fun p9 =>
zob h5 41 (zhD h5 10 p9 7) fun p10 =>
zix (zhL h5 41 p10) a2 fun j11 =>
zlet (zset h5 41 p10 j11 1) fun h12 =>
zob h12 10 a0 fun p13 =>
zob h12 9 (zhD h12 10 p13 0) fun p14 =>
zob h12 9 (zhD h12 10 p13 0) fun p15 =>
zlet (zset h12 9 p15 18 (wr ((zhD h12 9 p14 18) + 1))) fun h16 =>
Bl_touchShared_43 kr a0 a1 a2 a3 h16)
else Bl_touchShared_43 kr a0 a1 a2 a3 h5
def Co_carryShared_74 {ρ : Type} (kr : Int → zH → Option ρ) (h : zH) : Option ρ :=
kr 45 h
def Co_carryShared_31 {ρ : Type} (kr : Int → zH → Option ρ) (a0 a1 a2 a3 t0 t1 t2 t3 : Int) (h : zH) : Option ρ :=
zob h 10 t3 fun _ =>
Bl_touchShared t3 t2 t1 t0 h  fun _ h2 =>
zob h2 8 a3 fun p3 =>
if (zhD h2 8 p3 0) = 82 then (zob h2 8 a3 fun p11 =>
zob h2 10 a0 fun p12 =>
zob h2 38 (zhD h2 10 p12 4) fun p13 =>
zix (zhL h2 38 p13) a1 fun j14 =>
zob h2 6 a2 fun _ =>
Th_set a2 (zhD h2 8 p11 1) (zhD h2 38 p13 j14) h2  fun _ h16 =>
Co_carryShared_74 kr h16)
else zob h2 10 a0 fun p4 =>
zob h2 8 a3 fun p5 =>
zob h2 6 a2 fun _ =>
Th_at a2 (zhD h2 8 p5 2) h2  fun v6 h7 =>
zob h7 38 (zhD h2 10 p4 4) fun p8 =>
zix (zhL h7 38 p8) a1 fun j9 =>
zlet (zset h7 38 p8 j9 v6) fun h10 =>
Co_carryShared_74 kr h10
def Co_carryShared {ρ : Type} (a0 a1 a2 a3 : Int) (h : zH) (kr : Int → zH → Option ρ) : Option ρ :=
zob h 10 a0 fun _ =>
Bl_hasShared a0 a1 h  fun v1 h2 =>
if v1 = 0 then kr 115 h2
else zob h2 6 a2 fun p3 =>
zob h2 8 a3 fun p4 =>
if (zhD h2 8 p4 0) = 87 then Co_carryShared_31 kr a0 a1 a2 a3 1 a1 (zhD h2 6 p3 0) a0 h2
else Co_carryShared_31 kr a0 a1 a2 a3 0 a1 (zhD h2 6 p3 0) a0 h2
def La_depth_28 {ρ : Type} (kr : Int → zH → Option ρ) (a1 : Int) (h : zH) : Option ρ :=
kr a1 h
def La_depth_7b {ρ : Type} (kr : Int → zH → Option ρ) (r7 : Int → Int → zH → Option ρ) (a1 a2 : Int) (h : zH) : Option ρ :=
if a2 < 0 then La_depth_28 kr a1 h
else if a1 < 12 then (zob h 9 a2 fun p1 =>
r7 (wr (a1 + 1)) (zhD h 9 p1 4) h)
else La_depth_28 kr a1 h
def La_depth_7 {ρ : Type} (kr : Int → zH → Option ρ) : Int → Int → zH → Option ρ := zit (fun _ _ _ => none) (La_depth_7b kr) zN
def La_depth {ρ : Type} (a0 : Int) (h : zH) (kr : Int → zH → Option ρ) : Option ρ :=
zob h 9 a0 fun p1 =>
La_depth_7 kr 0 (zhD h 9 p1 4) h
def Le_launchChild_38 {ρ : Type} (kr : Int → zH → Option ρ) (h : zH) : Option ρ :=
kr 0 h
def Le_launchChild {ρ : Type} (a0 a1 a2 a3 : Int) (h : zH) (kr : Int → zH → Option ρ) : Option ρ :=
zob h 1 a0 fun _ =>
Le_kernelOf a0 a2 h  fun v1 h2 =>
if v1 < 0 then Le_launchChild_38 kr h2
else zob h2 7 v1 fun _ =>
Ke_blocksInUnit v1 a3 h2  fun v3 h4 =>
if v3 = 0 then Le_launchChild_38 kr h4
else zob h4 1 a0 fun p5 =>
if (zhD h4 1 p5 3) < 12 then (zob h4 9 a1 fun _ =>
La_depth a1 h4  fun v6 h7 =>
if v6 < 2 then (zlet (znew h7 9 0 (znf zPP 9) (fun k => zdef (zft zPP 9 k))) fun h8 =>
zob h8 1 a0 fun p9 =>
zob h8 9 (zhN h7 9 : Int) fun _ =>
La_init (zhN h7 9 : Int) (zhD h8 1 p9 3) (-1) (-1) (-1) a1 h8  fun _ h11 =>
zob h11 1 a0 fun _ =>
Le_enter a0 (zhN h7 9 : Int) h11  fun v12 h13 =>
zob h13 9 v12 fun _ =>
La_useKernel v12 v1 1 a3 h13  fun _ h15 =>
kr 1 h15)
else Le_launchChild_38 kr h7)
else Le_launchChild_38 kr h4
def Co_carryChild_55 {ρ : Type} (kr : Int → zH → Option ρ) (t0 t1 t2 : Int) (h : zH) : Option ρ :=
zob h 6 t2 fun _ =>
Th_set t2 t1 t0 h  fun _ h2 =>
kr 0 h2
def Co_carryChild_40 {ρ : Type} (kr : Int → zH → Option ρ) (a2 a3 a4 : Int) (h : zH) : Option ρ :=
zob h 8 a3 fun p1 =>
if a4 = 0 then Co_carryChild_55 kr 0 (zhD h 8 p1 1) a2 h
else Co_carryChild_55 kr 1 (zhD h 8 p1 1) a2 h
def Co_carryChild {ρ : Type} (a0 a1 a2 a3 : Int) (h : zH) (kr : Int → zH → Option ρ) : Option ρ :=
zob h 2 a0 fun p1 =>
zob h 8 a3 fun p2 =>
zob h 8 a3 fun p3 =>
zob h 6 a2 fun _ =>
Th_at a2 (zhD h 8 p3 3) h  fun v4 h5 =>
zob h5 1 (zhD h 2 p1 0) fun _ =>
Le_launchChild (zhD h 2 p1 0) a1 (zhD h 8 p2 2) v4 h5  fun v6 h7 =>
if v6 = 0 then (zob h7 2 a0 fun p8 =>
zob h7 4 (zhD h7 2 p8 3) fun p9 =>
zob h7 4 (zhD h7 2 p8 3) fun p10 =>
zlet (zset h7 4 p10 7 (wr ((zhD h7 4 p9 7) + 1))) fun h11 =>
Co_carryChild_40 kr a2 a3 v6 h11)
else Co_carryChild_40 kr a2 a3 v6 h7
def Th_reckon_304 {ρ : Type} (kr : Int → zH → Option ρ) (h : zH) : Option ρ :=
kr 0 h
def Th_reckon_216 {ρ : Type} (kr : Int → zH → Option ρ) (t0 t1 t2 : Int) (h : zH) : Option ρ :=
zob h 6 t2 fun _ =>
Th_set t2 t1 t0 h  fun _ h2 =>
Th_reckon_304 kr h2
def Th_reckon_251 {ρ : Type} (kr : Int → zH → Option ρ) (t0 t1 t2 : Int) (h : zH) : Option ρ :=
zob h 6 t2 fun _ =>
Th_set t2 t1 t0 h  fun _ h2 =>
Th_reckon_304 kr h2
def Th_reckon {ρ : Type} (a0 a1 : Int) (h : zH) (kr : Int → zH → Option ρ) : Option ρ :=
zob h 8 a1 fun p1 =>
if (zhD h 8 p1 0) = 42 then (zob h 8 a1 fun p2 =>
zob h 8 a1 fun p3 =>
zob h 6 a0 fun _ =>
Th_at a0 (zhD h 8 p3 2) h  fun v4 h5 =>
zob h5 8 a1 fun p6 =>
zob h5 6 a0 fun _ =>
Th_at a0 (zhD h5 8 p6 3) h5  fun v7 h8 =>
zob h8 6 a0 fun _ =>
Th_set a0 (zhD h 8 p2 1) (wr (v4 * v7)) h8  fun _ h10 =>
Th_reckon_304 kr h10)
else if (zhD h 8 p1 0) = 43 then (zob h 8 a1 fun p11 =>
zob h 8 a1 fun p12 =>
zob h 6 a0 fun _ =>
Th_at a0 (zhD h 8 p12 2) h  fun v13 h14 =>
zob h14 8 a1 fun p15 =>
zob h14 6 a0 fun _ =>
Th_at a0 (zhD h14 8 p15 3) h14  fun v16 h17 =>
zob h17 6 a0 fun _ =>
Th_set a0 (zhD h 8 p11 1) (wr (v13 + v16)) h17  fun _ h19 =>
Th_reckon_304 kr h19)
else if (zhD h 8 p1 0) = 45 then (zob h 8 a1 fun p20 =>
zob h 8 a1 fun p21 =>
zob h 6 a0 fun _ =>
Th_at a0 (zhD h 8 p21 2) h  fun v22 h23 =>
zob h23 8 a1 fun p24 =>
zob h23 6 a0 fun _ =>
Th_at a0 (zhD h23 8 p24 3) h23  fun v25 h26 =>
zob h26 6 a0 fun _ =>
Th_set a0 (zhD h 8 p20 1) (wr (v22 - v25)) h26  fun _ h28 =>
Th_reckon_304 kr h28)
else if (zhD h 8 p1 0) = 60 then (zob h 8 a1 fun p29 =>
zob h 8 a1 fun p30 =>
zob h 6 a0 fun _ =>
Th_at a0 (zhD h 8 p30 2) h  fun v31 h32 =>
zob h32 8 a1 fun p33 =>
zob h32 6 a0 fun _ =>
Th_at a0 (zhD h32 8 p33 3) h32  fun v34 h35 =>
if v31 < v34 then Th_reckon_216 kr 1 (zhD h 8 p29 1) a0 h35
else Th_reckon_216 kr 0 (zhD h 8 p29 1) a0 h35)
else if (zhD h 8 p1 0) = 61 then (zob h 8 a1 fun p36 =>
zob h 8 a1 fun p37 =>
zob h 6 a0 fun _ =>
Th_at a0 (zhD h 8 p37 2) h  fun v38 h39 =>
zob h39 8 a1 fun p40 =>
zob h39 6 a0 fun _ =>
Th_at a0 (zhD h39 8 p40 3) h39  fun v41 h42 =>
if v38 = v41 then Th_reckon_251 kr 1 (zhD h 8 p36 1) a0 h42
else Th_reckon_251 kr 0 (zhD h 8 p36 1) a0 h42)
else if (zhD h 8 p1 0) = 107 then (zob h 8 a1 fun p43 =>
zob h 8 a1 fun p44 =>
zob h 6 a0 fun _ =>
Th_set a0 (zhD h 8 p43 1) (zhD h 8 p44 2) h  fun _ h46 =>
Th_reckon_304 kr h46)
else if (zhD h 8 p1 0) = 108 then (zob h 8 a1 fun p47 =>
zob h 6 a0 fun p48 =>
zob h 6 a0 fun _ =>
Th_set a0 (zhD h 8 p47 1) (Int.tmod (zhD h 6 p48 0) 4) h  fun _ h50 =>
Th_reckon_304 kr h50)
else if (zhD h 8 p1 0) = 110 then (zob h 8 a1 fun p51 =>
zob h 6 a0 fun p52 =>
zob h 6 a0 fun _ =>
Th_set a0 (zhD h 8 p51 1) (zhD h 6 p52 2) h  fun _ h54 =>
Th_reckon_304 kr h54)
else if (zhD h 8 p1 0) = 116 then (zob h 8 a1 fun p55 =>
zob h 6 a0 fun p56 =>
zob h 6 a0 fun _ =>
Th_set a0 (zhD h 8 p55 1) (zhD h 6 p56 0) h  fun _ h58 =>
Th_reckon_304 kr h58)
else Th_reckon_304 kr h
def Co_carryLane_171 {ρ : Type} (kr : Int → zH → Option ρ) (h : zH) : Option ρ :=
kr 45 h
def Co_carryLane_131 {ρ : Type} (kr : Int → zH → Option ρ) (t0 t1 t2 t3 : Int) (h : zH) : Option ρ :=
zob h 25 t1 fun p1 =>
zix (zhL h 25 p1) t0 fun j2 =>
zob h 6 t3 fun _ =>
Th_set t3 t2 (zhD h 25 p1 j2) h  fun _ h4 =>
Co_carryLane_171 kr h4
def Co_carryLane {ρ : Type} (a0 a1 a2 a3 a4 : Int) (h : zH) (kr : Int → zH → Option ρ) : Option ρ :=
zob h 8 a4 fun _ =>
In_isOneOf a4 2 h  fun v1 h2 =>
if v1 = 0 then (zob h2 8 a4 fun _ =>
In_isOneOf a4 3 h2  fun v3 h4 =>
if v3 = 0 then (zob h4 8 a4 fun p5 =>
if (zhD h4 8 p5 0) = 118 then (zob h4 8 a4 fun p24 =>
zob h4 2 a0 fun p25 =>
zob h4 6 a3 fun _ =>
Th_set a3 (zhD h4 8 p24 1) (zhD h4 2 p25 9) h4  fun _ h27 =>
Co_carryLane_171 kr h27)
else zob h4 8 a4 fun p6 =>
if (zhD h4 8 p6 0) = 115 then (zob h4 8 a4 fun p14 =>
zob h4 6 a3 fun _ =>
Th_at a3 (zhD h4 8 p14 3) h4  fun v15 h16 =>
Ma_floorMod v15 4 h16  fun v17 h18 =>
zob h18 8 a4 fun p19 =>
zob h18 2 a0 fun p20 =>
zob h18 2 a0 fun p21 =>
X_isIn (zhD h18 2 p21 8) v17 h18  fun v22 h23 =>
if v22 = 0 then Co_carryLane_131 kr a2 (zhD h18 2 p20 7) (zhD h18 8 p19 1) a3 h23
else Co_carryLane_131 kr v17 (zhD h18 2 p20 7) (zhD h18 8 p19 1) a3 h23)
else zob h4 8 a4 fun p7 =>
if (zhD h4 8 p7 0) = 99 then (zob h4 11 a1 fun p10 =>
zob h4 10 (zhD h4 11 p10 0) fun p11 =>
zob h4 2 a0 fun _ =>
Co_carryChild a0 (zhD h4 10 p11 0) a3 a4 h4  fun _ h13 =>
Co_carryLane_171 kr h13)
else zob h4 6 a3 fun _ =>
Th_reckon a3 a4 h4  fun _ h9 =>
Co_carryLane_171 kr h9)
else zob h4 11 a1 fun p28 =>
zob h4 2 a0 fun p29 =>
zob h4 24 (zhD h4 2 p29 6) fun p30 =>
zix (zhL h4 24 p30) a2 fun j31 =>
Co_carryShared (zhD h4 11 p28 0) (zhD h4 24 p30 j31) a3 a4 h4  fun v32 h33 =>
znar 2 v32 fun x34 => kr x34 h33)
else zob h2 2 a0 fun p35 =>
zob h2 24 (zhD h2 2 p35 6) fun p36 =>
zix (zhL h2 24 p36) a2 fun j37 =>
zob h2 2 a0 fun _ =>
Co_carryGlobal a0 a1 (zhD h2 24 p36 j37) a3 a4 h2  fun v38 h39 =>
znar 2 v38 fun x40 => kr x40 h39
def Co_isNamedFirst_39 {ρ : Type} (kr : Int → zH → Option ρ) (r2 : Int → Int → Int → Int → zH → Option ρ) (a0 a1 a2 a3 : Int) (h : zH) : Option ρ :=
r2 a0 a1 a2 (wr (a3 + 1)) h
def Co_isNamedFirst_2b {ρ : Type} (kr : Int → zH → Option ρ) (r2 : Int → Int → Int → Int → zH → Option ρ) (a0 a1 a2 a3 : Int) (h : zH) : Option ρ :=
if a3 < a1 then (zob h 2 a0 fun p5 =>
X_isIn (zhD h 2 p5 8) a3 h  fun v6 h7 =>
if v6 = 0 then Co_isNamedFirst_39 kr r2 a0 a1 a2 a3 h7
else zob h7 2 a0 fun p8 =>
zob h7 24 (zhD h7 2 p8 6) fun p9 =>
zix (zhL h7 24 p9) a3 fun j10 =>
zob h7 2 a0 fun p11 =>
zob h7 24 (zhD h7 2 p11 6) fun p12 =>
zix (zhL h7 24 p12) a1 fun j13 =>
if (zshr (zhD h7 24 p9 j10) a2) = (zshr (zhD h7 24 p12 j13) a2) then kr 0 h7
else Co_isNamedFirst_39 kr r2 a0 a1 a2 a3 h7)
else zob h 2 a0 fun p1 =>
X_isIn (zhD h 2 p1 8) a1 h  fun v2 h3 =>
znar 1 v2 fun x4 => kr x4 h3
def Co_isNamedFirst_2 {ρ : Type} (kr : Int → zH → Option ρ) : Int → Int → Int → Int → zH → Option ρ := zit (fun _ _ _ _ _ => none) (Co_isNamedFirst_2b kr) zN
def Co_isNamedFirst {ρ : Type} (a0 a1 a2 : Int) (h : zH) (kr : Int → zH → Option ρ) : Option ρ :=
Co_isNamedFirst_2 kr a0 a1 a2 0 h
def Co_bankDelay_48 {ρ : Type} (kr : Int → zH → Option ρ) (r4 : Int → Int → Int → zH → Option ρ) (r14 : Int → Int → Int → Int → Int → zH → Option ρ) (a0 a1 a2 a3 a4 : Int) (h : zH) : Option ρ :=
r14 a0 a1 a2 a3 (wr (a4 + 1)) h
def Co_bankDelay_14b {ρ : Type} (kr : Int → zH → Option ρ) (r4 : Int → Int → Int → zH → Option ρ) (r14 : Int → Int → Int → Int → Int → zH → Option ρ) (a0 a1 a2 a3 a4 : Int) (h : zH) : Option ρ :=
if a4 < 4 then (zob h 2 a0 fun _ =>
Co_isNamedFirst a0 a4 0 h  fun v3 h4 =>
if v3 = 0 then Co_bankDelay_48 kr r4 r14 a0 a1 a2 a3 a4 h4
else zob h4 2 a0 fun p5 =>
zob h4 24 (zhD h4 2 p5 6) fun p6 =>
zix (zhL h4 24 p6) a4 fun j7 =>
Ma_floorMod (zhD h4 24 p6 j7) 4 h4  fun v8 h9 =>
if v8 = a2 then Co_bankDelay_48 kr r4 r14 a0 a1 a2 (wr (a3 + 1)) a4 h9
else Co_bankDelay_48 kr r4 r14 a0 a1 a2 a3 a4 h9)
else Ma_max a1 a3 h  fun v1 h2 =>
r4 a0 v1 (wr (a2 + 1)) h2
def Co_bankDelay_14 {ρ : Type} (kr : Int → zH → Option ρ) (r4 : Int → Int → Int → zH → Option ρ) : Int → Int → Int → Int → Int → zH → Option ρ := zit (fun _ _ _ _ _ _ => none) (Co_bankDelay_14b kr r4) zN
def Co_bankDelay_4b {ρ : Type} (kr : Int → zH → Option ρ) (r4 : Int → Int → Int → zH → Option ρ) (a0 a1 a2 : Int) (h : zH) : Option ρ :=
if a2 < 4 then Co_bankDelay_14 kr r4 a0 a1 a2 0 0 h
else kr a1 h
def Co_bankDelay_4 {ρ : Type} (kr : Int → zH → Option ρ) : Int → Int → Int → zH → Option ρ := zit (fun _ _ _ _ => none) (Co_bankDelay_4b kr) zN
def Co_bankDelay {ρ : Type} (a0 : Int) (h : zH) (kr : Int → zH → Option ρ) : Option ρ :=
Co_bankDelay_4 kr a0 0 0 h
def Un_missesLine_21 {ρ : Type} (kr : Int → zH → Option ρ) (a0 a1 a2 t0 : Int) (h : zH) : Option ρ :=
zob h 3 a0 fun p1 =>
zob h 27 (zhD h 3 p1 1) fun p2 =>
zix (zhL h 27 p2) a2 fun j3 =>
zlet (zset h 27 p2 j3 a1) fun h4 =>
znar 1 t0 fun x5 => kr x5 h4
def Un_missesLine {ρ : Type} (a0 a1 : Int) (h : zH) (kr : Int → zH → Option ρ) : Option ρ :=
Ma_floorMod a1 2 h  fun v1 h2 =>
zob h2 3 a0 fun p3 =>
zob h2 27 (zhD h2 3 p3 1) fun p4 =>
zix (zhL h2 27 p4) v1 fun j5 =>
if (zhD h2 27 p4 j5) = a1 then Un_missesLine_21 kr a0 a1 v1 0 h2
else Un_missesLine_21 kr a0 a1 v1 1 h2
def Co_lineDelay_55 {ρ : Type} (kr : Int → zH → Option ρ) (r4 : Int → Int → Int → Int → zH → Option ρ) (a0 a1 a2 a3 : Int) (h : zH) : Option ρ :=
r4 a0 a1 a2 (wr (a3 + 1)) h
def Co_lineDelay_4b {ρ : Type} (kr : Int → zH → Option ρ) (r4 : Int → Int → Int → Int → zH → Option ρ) (a0 a1 a2 a3 : Int) (h : zH) : Option ρ :=
if a3 < 4 then (zob h 2 a0 fun _ =>
Co_isNamedFirst a0 a3 3 h  fun v1 h2 =>
if v1 = 0 then Co_lineDelay_55 kr r4 a0 a1 a2 a3 h2
else zob h2 2 a0 fun p3 =>
zob h2 24 (zhD h2 2 p3 6) fun p4 =>
zix (zhL h2 24 p4) a3 fun j5 =>
zob h2 3 a1 fun _ =>
Un_missesLine a1 (zshr (zhD h2 24 p4 j5) 3) h2  fun v6 h7 =>
if v6 = 0 then Co_lineDelay_55 kr r4 a0 a1 (wr (a2 + 2)) a3 h7
else zob h7 2 a0 fun p8 =>
zob h7 4 (zhD h7 2 p8 3) fun p9 =>
zob h7 4 (zhD h7 2 p8 3) fun p10 =>
zlet (zset h7 4 p10 4 (wr ((zhD h7 4 p9 4) + 1))) fun h11 =>
Co_lineDelay_55 kr r4 a0 a1 (wr ((wr (a2 + 2)) + 4)) a3 h11)
else kr a2 h
def Co_lineDelay_4 {ρ : Type} (kr : Int → zH → Option ρ) : Int → Int → Int → Int → zH → Option ρ := zit (fun _ _ _ _ _ => none) (Co_lineDelay_4b kr) zN
def Co_lineDelay {ρ : Type} (a0 a1 : Int) (h : zH) (kr : Int → zH → Option ρ) : Option ρ :=
Co_lineDelay_4 kr a0 a1 0 0 h
def Co_delayOf_90 {ρ : Type} (kr : Int → zH → Option ρ) (a0 : Int) (h : zH) : Option ρ :=
zob h 2 a0 fun _ =>
Co_bankDelay a0 h  fun v1 h2 =>
kr v1 h2
def Co_delayOf_101 {ρ : Type} (kr : Int → zH → Option ρ) (a0 : Int) (h : zH) : Option ρ :=
zob h 2 a0 fun p1 =>
kr (wr (1 + (zhD h 2 p1 10))) h
def Co_delayOf_108 {ρ : Type} (kr : Int → zH → Option ρ) (a0 : Int) (h : zH) : Option ρ :=
zob h 2 a0 fun p1 =>
It_bitCount (zhD h 2 p1 8) h  fun v2 h3 =>
kr (wr (2 * v2)) h3
def Co_delayOf {ρ : Type} (a0 a1 a2 : Int) (h : zH) (kr : Int → zH → Option ρ) : Option ρ :=
zob h 8 a2 fun p1 =>
if (zhD h 8 p1 0) = 42 then kr 2 h
else if (zhD h 8 p1 0) = 82 then Co_delayOf_90 kr a0 h
else if (zhD h 8 p1 0) = 87 then Co_delayOf_90 kr a0 h
else if (zhD h 8 p1 0) = 97 then Co_delayOf_108 kr a0 h
else if (zhD h 8 p1 0) = 99 then (zob h 2 a0 fun p2 =>
It_bitCount (zhD h 2 p2 8) h  fun v3 h4 =>
kr (wr (4 * v3)) h4)
else if (zhD h 8 p1 0) = 102 then Co_delayOf_101 kr a0 h
else if (zhD h 8 p1 0) = 114 then (zob h 2 a0 fun _ =>
Co_lineDelay a0 a1 h  fun v5 h6 =>
kr v5 h6)
else if (zhD h 8 p1 0) = 119 then Co_delayOf_101 kr a0 h
else if (zhD h 8 p1 0) = 120 then Co_delayOf_108 kr a0 h
else kr 1 h
def Co_countedDelay_58 {ρ : Type} (kr : Int → zH → Option ρ) (a3 : Int) (h : zH) : Option ρ :=
kr a3 h
def Co_countedDelay {ρ : Type} (a0 a1 a2 : Int) (h : zH) (kr : Int → zH → Option ρ) : Option ρ :=
zob h 2 a0 fun _ =>
Co_delayOf a0 a1 a2 h  fun v1 h2 =>
zob h2 2 a0 fun p3 =>
zob h2 4 (zhD h2 2 p3 3) fun p4 =>
zob h2 4 (zhD h2 2 p3 3) fun p5 =>
zlet (zset h2 4 p5 2 (wrl ((zhD h2 4 p4 2) + v1))) fun h6 =>
zob h6 2 a0 fun p7 =>
zob h6 4 (zhD h6 2 p7 3) fun p8 =>
zob h6 4 (zhD h6 2 p7 3) fun p9 =>
zlet (zset h6 4 p9 3 (wrl ((zhD h6 4 p8 3) + 1))) fun h10 =>
zob h10 8 a2 fun _ =>
In_isOneOf a2 3 h10  fun v11 h12 =>
if v11 = 0 then Co_countedDelay_58 kr v1 h12
else zob h12 2 a0 fun p13 =>
zob h12 4 (zhD h12 2 p13 3) fun p14 =>
zob h12 4 (zhD h12 2 p13 3) fun p15 =>
zlet (zset h12 4 p15 5 (wr ((zhD h12 4 p14 5) + (wr (v1 - 1))))) fun h16 =>
Co_countedDelay_58 kr v1 h16
def Un_dropLaunch_43 {ρ : Type} (kr : Int → zH → Option ρ) (r4 : Int → Int → Int → Int → zH → Option ρ) (a0 a1 a2 a3 : Int) (h : zH) : Option ρ :=
r4 a0 a1 a2 (wr (a3 + 1)) h
def Un_dropLaunch_4b {ρ : Type} (kr : Int → zH → Option ρ) (r4 : Int → Int → Int → Int → zH → Option ρ) (a0 a1 a2 a3 : Int) (h : zH) : Option ρ :=
zob h 3 a0 fun p1 =>
if a3 < (zhD h 3 p1 2) then (zob h 3 a0 fun p4 =>
zob h 26 (zhD h 3 p4 0) fun p5 =>
zix (zhL h 26 p5) a3 fun j6 =>
zob h 11 (zhD h 26 p5 j6) fun p7 =>
zob h 10 (zhD h 11 p7 0) fun p8 =>
if (zhD h 10 p8 0) = a1 then Un_dropLaunch_43 kr r4 a0 a1 a2 a3 h
else zob h 3 a0 fun p9 =>
zob h 3 a0 fun p10 =>
zob h 26 (zhD h 3 p10 0) fun p11 =>
zix (zhL h 26 p11) a3 fun j12 =>
zob h 26 (zhD h 3 p9 0) fun p13 =>
zix (zhL h 26 p13) a2 fun j14 =>
zorn h 11 (zhD h 26 p11 j12) (zlet (zset h 26 p13 j14 (zhD h 26 p11 j12)) fun h15 =>
Un_dropLaunch_43 kr r4 a0 a1 (wr (a2 + 1)) a3 h15))
else zob h 3 a0 fun _ =>
Un_cutTo a0 a2 h  fun _ h3 =>
kr 0 h3
def Un_dropLaunch_4 {ρ : Type} (kr : Int → zH → Option ρ) : Int → Int → Int → Int → zH → Option ρ := zit (fun _ _ _ _ _ => none) (Un_dropLaunch_4b kr) zN
def Un_dropLaunch {ρ : Type} (a0 a1 : Int) (h : zH) (kr : Int → zH → Option ρ) : Option ρ :=
Un_dropLaunch_4 kr a0 a1 0 0 h
def Co_fail_43b {ρ : Type} (kr : Int → zH → Option ρ) (r43 : Int → Int → Int → zH → Option ρ) (a0 a5 a6 : Int) (h : zH) : Option ρ :=
if a6 < 2 then (zob h 2 a0 fun p5 =>
zob h 23 (zhD h 2 p5 2) fun p6 =>
zix (zhL h 23 p6) a6 fun j7 =>
zob h 3 (zhD h 23 p6 j7) fun _ =>
Un_dropLaunch (zhD h 23 p6 j7) a5 h  fun _ h9 =>
r43 a0 a5 (wr (a6 + 1)) h9)
else zob h 2 a0 fun p1 =>
zob h 9 a5 fun p2 =>
zob h 1 (zhD h 2 p1 0) fun _ =>
Le_endIfDone (zhD h 2 p1 0) (zhD h 9 p2 4) h  fun _ h4 =>
kr 0 h4
def Co_fail_43 {ρ : Type} (kr : Int → zH → Option ρ) : Int → Int → Int → zH → Option ρ := zit (fun _ _ _ _ => none) (Co_fail_43b kr) zN
def Co_fail {ρ : Type} (a0 a1 a2 a3 a4 : Int) (h : zH) (kr : Int → zH → Option ρ) : Option ρ :=
zob h 10 a1 fun p1 =>
zob h 9 (zhD h 10 p1 0) fun p2 =>
zlet (zset h 9 p2 10 102) fun h3 =>
zob h3 9 (zhD h 10 p1 0) fun p4 =>
znar 2 a4 fun x5 =>
zlet (zset h3 9 p4 11 x5) fun h6 =>
zob h6 10 a1 fun p7 =>
zob h6 9 (zhD h 10 p1 0) fun p8 =>
zlet (zset h6 9 p8 12 (wr ((wr ((wr (10000 * (zhD h6 10 p7 1))) + (wr (100 * a2)))) + a3))) fun h9 =>
Co_fail_43 kr a0 (zhD h 10 p1 0) 0 h9
def Gr_placeIn_25 {ρ : Type} (kr : Int → zH → Option ρ) (t0 : Int) (h : zH) : Option ρ :=
kr t0 h
def Gr_placeIn_24 {ρ : Type} (kr : Int → zH → Option ρ) (h : zH) : Option ρ :=
Gr_placeIn_25 kr (-1) h
def Gr_placeIn {ρ : Type} (a0 a1 : Int) (h : zH) (kr : Int → zH → Option ρ) : Option ρ :=
zob h 11 a0 fun _ =>
Gr_threadIn a0 a1 h  fun v1 h2 =>
if v1 < 0 then Gr_placeIn_24 kr h2
else zob h2 6 v1 fun _ =>
Th_isRunning v1 h2  fun v3 h4 =>
if v3 = 0 then Gr_placeIn_24 kr h4
else zob h4 6 v1 fun p5 =>
Gr_placeIn_25 kr (zhD h4 6 p5 3) h4
