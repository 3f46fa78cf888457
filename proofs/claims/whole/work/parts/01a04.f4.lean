def X_shared {ρ : Type} (a0 a1 a2 a3 : Int) (h : zH) (kt : Nat → zH → Option ρ) (kr : Int → zH → Option ρ) : Option ρ :=
zob h 0 a0 fun _ =>
X_groupAt a0 a1 a2 h kt fun v1 h2 =>
zob h2 11 v1 fun p3 =>
zob h2 10 (zhD h2 11 p3 0) fun _ =>
Bl_hasShared (zhD h2 11 p3 0) a3 h2  fun v4 h5 =>
if v4 = 0 then zlet (zthrown h5) fun h9 => kt 3 h9
else zob h5 10 (zhD h2 11 p3 0) fun p6 =>
zob h5 38 (zhD h5 10 p6 4) fun p7 =>
zix (zhL h5 38 p7) a3 fun j8 =>
kr (zhD h5 38 p7 j8) h5
def X_buffered {ρ : Type} (a0 a1 a2 : Int) (h : zH) (kt : Nat → zH → Option ρ) (kr : Int → zH → Option ρ) : Option ρ :=
zob h 0 a0 fun _ =>
X_groupAt a0 a1 a2 h kt fun v1 h2 =>
zob h2 11 v1 fun p3 =>
kr (zhD h2 11 p3 5) h2
def X_failedAt {ρ : Type} (a0 a1 : Int) (h : zH) (kt : Nat → zH → Option ρ) (kr : Int → zH → Option ρ) : Option ρ :=
zob h 0 a0 fun _ =>
X_launchAt a0 a1 h kt fun v1 h2 =>
zob h2 9 v1 fun p3 =>
if (zhD h2 9 p3 10) = 102 then kr v1 h2
else zlet (zthrown h2) fun h4 => kt 5 h4
def X_fault {ρ : Type} (a0 a1 : Int) (h : zH) (kt : Nat → zH → Option ρ) (kr : Int → zH → Option ρ) : Option ρ :=
zob h 0 a0 fun _ =>
X_failedAt a0 a1 h kt fun v1 h2 =>
zob h2 9 v1 fun p3 =>
znar 2 (zhD h2 9 p3 11) fun x4 => kr x4 h2
def X_faultAt {ρ : Type} (a0 a1 : Int) (h : zH) (kt : Nat → zH → Option ρ) (kr : Int → zH → Option ρ) : Option ρ :=
zob h 0 a0 fun _ =>
X_failedAt a0 a1 h kt fun v1 h2 =>
zob h2 9 v1 fun p3 =>
kr (zhD h2 9 p3 12) h2
def X_isRacing {ρ : Type} (a0 a1 a2 : Int) (h : zH) (kt : Nat → zH → Option ρ) (kr : Int → zH → Option ρ) : Option ρ :=
zob h 0 a0 fun _ =>
X_launchAt a0 a1 h kt fun v1 h2 =>
X_isCell a2 h2  fun v3 h4 =>
if v3 = 0 then zlet (zthrown h4) fun h9 => kt 3 h9
else zob h4 9 v1 fun p5 =>
zob h4 35 (zhD h4 9 p5 17) fun p6 =>
zix (zhL h4 35 p6) a2 fun j7 =>
znar 1 (zhD h4 35 p6 j7) fun x8 => kr x8 h4
def X_races {ρ : Type} (a0 a1 : Int) (h : zH) (kt : Nat → zH → Option ρ) (kr : Int → zH → Option ρ) : Option ρ :=
zob h 0 a0 fun _ =>
X_launchAt a0 a1 h kt fun v1 h2 =>
zob h2 9 v1 fun p3 =>
kr (zhD h2 9 p3 18) h2
def Ke_hasLetterOf_2b {ρ : Type} (kr : Int → zH → Option ρ) (r2 : Int → Int → Int → zH → Option ρ) (a0 a1 a2 : Int) (h : zH) : Option ρ :=
zob h 7 a0 fun p1 =>
if a2 < (zhD h 7 p1 3) then (zob h 7 a0 fun p2 =>
zob h 33 (zhD h 7 p2 2) fun p3 =>
zix (zhL h 33 p3) a2 fun j4 =>
zob h 8 (zhD h 33 p3 j4) fun _ =>
In_isOneOf (zhD h 33 p3 j4) a1 h  fun v5 h6 =>
if v5 = 0 then r2 a0 a1 (wr (a2 + 1)) h6
else kr 1 h6)
else kr 0 h
def Ke_hasLetterOf_2 {ρ : Type} (kr : Int → zH → Option ρ) : Int → Int → Int → zH → Option ρ := zit (fun _ _ _ _ => none) (Ke_hasLetterOf_2b kr) zN
def Ke_hasLetterOf {ρ : Type} (a0 a1 : Int) (h : zH) (kr : Int → zH → Option ρ) : Option ρ :=
Ke_hasLetterOf_2 kr a0 a1 0 h
def Re_begin_56 {ρ : Type} (kr : Int → zH → Option ρ) (h : zH) : Option ρ :=
kr 0 h
def Re_begin_23b {ρ : Type} (kr : Int → zH → Option ρ) (r23 : Int → Int → Int → zH → Option ρ) (a0 a4 a5 : Int) (h : zH) : Option ρ :=
if a5 < 64 then (zob h 22 a4 fun p1 =>
if a5 < (zhL h 22 p1 : Int) then (zob h 5 a0 fun p2 =>
zob h 22 a4 fun p3 =>
zix (zhL h 22 p3) a5 fun j4 =>
zob h 28 (zhD h 5 p2 0) fun p5 =>
zix (zhL h 28 p5) a5 fun j6 =>
zlet (zset h 28 p5 j6 (zhD h 22 p3 j4)) fun h7 =>
r23 a0 a4 (wr (a5 + 1)) h7)
else Re_begin_56 kr h)
else Re_begin_56 kr h
def Re_begin_23 {ρ : Type} (kr : Int → zH → Option ρ) : Int → Int → Int → zH → Option ρ := zit (fun _ _ _ _ => none) (Re_begin_23b kr) zN
def Re_begin {ρ : Type} (a0 a1 a2 a3 a4 : Int) (h : zH) (kr : Int → zH → Option ρ) : Option ρ :=
zob h 5 a0 fun p1 =>
zlet (zset h 5 p1 4 a1) fun h2 =>
Ma_min a2 16 h2  fun v3 h4 =>
zob h4 5 a0 fun p5 =>
zlet (zset h4 5 p5 5 v3) fun h6 =>
zob h6 5 a0 fun p7 =>
znar 1 a3 fun x8 =>
zlet (zset h6 5 p7 6 x8) fun h9 =>
Re_begin_23 kr a0 a4 0 h9
def Th_lowestOfWaiting_30_32 {ρ : Type} (kr : Int → zH → Option ρ) (h : zH) : Option ρ :=
kr (-1) h
def Th_lowestOfWaiting_30_2b {ρ : Type} (kr : Int → zH → Option ρ) (r2 : Int → Int → Int → zH → Option ρ) (a0 a1 a2 : Int) (h : zH) : Option ρ :=
if a2 < a1 then (zob h 30 a0 fun p1 =>
if a2 < (zhL h 30 p1 : Int) then (zob h 30 a0 fun p2 =>
zix (zhL h 30 p2) a2 fun j3 =>
zob h 6 (zhD h 30 p2 j3) fun _ =>
Th_isWaiting (zhD h 30 p2 j3) h  fun v4 h5 =>
if v4 = 0 then r2 a0 a1 (wr (a2 + 1)) h5
else zob h5 30 a0 fun p6 =>
zix (zhL h5 30 p6) a2 fun j7 =>
kr (zhD h5 30 p6 j7) h5)
else Th_lowestOfWaiting_30_32 kr h)
else Th_lowestOfWaiting_30_32 kr h
def Th_lowestOfWaiting_30_2 {ρ : Type} (kr : Int → zH → Option ρ) : Int → Int → Int → zH → Option ρ := zit (fun _ _ _ _ => none) (Th_lowestOfWaiting_30_2b kr) zN
def Th_lowestOfWaiting_30 {ρ : Type} (a0 a1 : Int) (h : zH) (kr : Int → zH → Option ρ) : Option ρ :=
Th_lowestOfWaiting_30_2 kr a0 a1 0 h
def Th_release_30_39 {ρ : Type} (kr : Int → zH → Option ρ) (r3 : Int → Int → Int → Int → Int → zH → Option ρ) (a0 a1 a2 a3 a4 : Int) (h : zH) : Option ρ :=
r3 a0 a1 a2 a3 (wr (a4 + 1)) h
def Th_release_30_91 {ρ : Type} (kr : Int → zH → Option ρ) (r48 : Int → Int → Int → Int → Int → zH → Option ρ) (a0 a1 a2 a3 a4 : Int) (h : zH) : Option ρ :=
r48 a0 a1 a2 a3 (wr (a4 + 1)) h
def Th_release_30_97 {ρ : Type} (kr : Int → zH → Option ρ) (h : zH) : Option ρ :=
kr 1 h
def Th_release_30_48b {ρ : Type} (kr : Int → zH → Option ρ) (r48 : Int → Int → Int → Int → Int → zH → Option ρ) (a0 a1 a2 a3 a4 : Int) (h : zH) : Option ρ :=
if a4 < a1 then (zob h 30 a0 fun p1 =>
if a4 < (zhL h 30 p1 : Int) then (zob h 30 a0 fun p2 =>
zix (zhL h 30 p2) a4 fun j3 =>
zob h 6 (zhD h 30 p2 j3) fun _ =>
Th_isWaiting (zhD h 30 p2 j3) h  fun v4 h5 =>
if v4 = 0 then Th_release_30_91 kr r48 a0 a1 a2 a3 a4 h5
else zob h5 30 a0 fun p6 =>
zix (zhL h5 30 p6) a4 fun j7 =>
zob h5 6 (zhD h5 30 p6 j7) fun p8 =>
zlet (zset h5 6 p8 4 114) fun h9 =>
zob h9 30 a0 fun p10 =>
zix (zhL h9 30 p10) a4 fun j11 =>
zob h9 6 (zhD h9 30 p10 j11) fun _ =>
Th_goTo (zhD h9 30 p10 j11) (wr (a2 + 1)) a3 h9  fun _ h13 =>
Th_release_30_91 kr r48 a0 a1 a2 a3 a4 h13)
else Th_release_30_97 kr h)
else Th_release_30_97 kr h
def Th_release_30_48 {ρ : Type} (kr : Int → zH → Option ρ) : Int → Int → Int → Int → Int → zH → Option ρ := zit (fun _ _ _ _ _ _ => none) (Th_release_30_48b kr) zN
def Th_release_30_45 {ρ : Type} (kr : Int → zH → Option ρ) (a0 a1 a2 a3 : Int) (h : zH) : Option ρ :=
Th_release_30_48 kr a0 a1 a2 a3 0 h
def Th_release_30_3b {ρ : Type} (kr : Int → zH → Option ρ) (r3 : Int → Int → Int → Int → Int → zH → Option ρ) (a0 a1 a2 a3 a4 : Int) (h : zH) : Option ρ :=
if a4 < a1 then (zob h 30 a0 fun p1 =>
if a4 < (zhL h 30 p1 : Int) then (zob h 30 a0 fun p2 =>
zix (zhL h 30 p2) a4 fun j3 =>
zob h 6 (zhD h 30 p2 j3) fun _ =>
Th_isWaiting (zhD h 30 p2 j3) h  fun v4 h5 =>
if v4 = 0 then Th_release_30_39 kr r3 a0 a1 a2 a3 a4 h5
else zob h5 30 a0 fun p6 =>
zix (zhL h5 30 p6) a4 fun j7 =>
zob h5 6 (zhD h5 30 p6 j7) fun p8 =>
if (zhD h5 6 p8 3) = a2 then Th_release_30_39 kr r3 a0 a1 a2 a3 a4 h5
else kr 0 h5)
else Th_release_30_45 kr a0 a1 a2 a3 h)
else Th_release_30_45 kr a0 a1 a2 a3 h
def Th_release_30_3 {ρ : Type} (kr : Int → zH → Option ρ) : Int → Int → Int → Int → Int → zH → Option ρ := zit (fun _ _ _ _ _ _ => none) (Th_release_30_3b kr) zN
def Th_release_30 {ρ : Type} (a0 a1 a2 a3 : Int) (h : zH) (kr : Int → zH → Option ρ) : Option ρ :=
Th_release_30_3 kr a0 a1 a2 a3 0 h
def X_exchange_28_36 {ρ : Type} (kr : Int → zH → Option ρ) (a2 a3 a4 t0 t1 t2 : Int) (h : zH) : Option ρ :=
zob h 28 t2 fun p1 =>
zix (zhL h 28 p1) t1 fun j2 =>
zlet (zset h 28 p1 j2 t0) fun h3 =>
zob h3 8 a3 fun p4 =>
zob h3 6 a2 fun _ =>
Th_set a2 (zhD h3 8 p4 1) a4 h3  fun _ h6 =>
kr 0 h6
def X_exchange_28 {ρ : Type} (a0 a1 a2 a3 : Int) (h : zH) (kr : Int → zH → Option ρ) : Option ρ :=
zob h 28 a0 fun p1 =>
zix (zhL h 28 p1) a1 fun j2 =>
zob h 8 a3 fun p3 =>
zob h 6 a2 fun _ =>
Th_at a2 (zhD h 8 p3 3) h  fun v4 h5 =>
zob h5 8 a3 fun p6 =>
if (zhD h5 8 p6 0) = 97 then X_exchange_28_36 kr a2 a3 (zhD h 28 p1 j2) (wr ((zhD h 28 p1 j2) + v4)) a1 a0 h5
else X_exchange_28_36 kr a2 a3 (zhD h 28 p1 j2) v4 a1 a0 h5
def Re_carryGlobal_71 {ρ : Type} (kr : Int → zH → Option ρ) (h : zH) : Option ρ :=
kr 1 h
def Re_carryGlobal {ρ : Type} (a0 a1 a2 a3 : Int) (h : zH) (kr : Int → zH → Option ρ) : Option ρ :=
X_isCell a3 h  fun v1 h2 =>
if v1 = 0 then kr 0 h2
else zob h2 8 a2 fun p3 =>
if (zhD h2 8 p3 0) = 114 then (zob h2 8 a2 fun p15 =>
zob h2 5 a0 fun p16 =>
zob h2 28 (zhD h2 5 p16 0) fun p17 =>
zix (zhL h2 28 p17) a3 fun j18 =>
zob h2 6 a1 fun _ =>
Th_set a1 (zhD h2 8 p15 1) (zhD h2 28 p17 j18) h2  fun _ h20 =>
Re_carryGlobal_71 kr h20)
else zob h2 8 a2 fun p4 =>
if (zhD h2 8 p4 0) = 119 then (zob h2 5 a0 fun p8 =>
zob h2 8 a2 fun p9 =>
zob h2 6 a1 fun _ =>
Th_at a1 (zhD h2 8 p9 2) h2  fun v10 h11 =>
zob h11 28 (zhD h2 5 p8 0) fun p12 =>
zix (zhL h11 28 p12) a3 fun j13 =>
zlet (zset h11 28 p12 j13 v10) fun h14 =>
Re_carryGlobal_71 kr h14)
else zob h2 5 a0 fun p5 =>
X_exchange_28 (zhD h2 5 p5 0) a3 a1 a2 h2  fun _ h7 =>
Re_carryGlobal_71 kr h7
def Re_carryShared_59 {ρ : Type} (kr : Int → zH → Option ρ) (h : zH) : Option ρ :=
kr 1 h
def Re_carryShared {ρ : Type} (a0 a1 a2 a3 : Int) (h : zH) (kr : Int → zH → Option ρ) : Option ρ :=
zob h 5 a0 fun p1 =>
zob h 7 (zhD h 5 p1 4) fun p2 =>
X_isWithin a3 0 (wr ((zhD h 7 p2 1) - 1)) h  fun v3 h4 =>
if v3 = 0 then kr 0 h4
else zob h4 8 a2 fun p5 =>
if (zhD h4 8 p5 0) = 82 then (zob h4 8 a2 fun p13 =>
zob h4 5 a0 fun p14 =>
zob h4 29 (zhD h4 5 p14 1) fun p15 =>
zix (zhL h4 29 p15) a3 fun j16 =>
zob h4 6 a1 fun _ =>
Th_set a1 (zhD h4 8 p13 1) (zhD h4 29 p15 j16) h4  fun _ h18 =>
Re_carryShared_59 kr h18)
else zob h4 5 a0 fun p6 =>
zob h4 8 a2 fun p7 =>
zob h4 6 a1 fun _ =>
Th_at a1 (zhD h4 8 p7 2) h4  fun v8 h9 =>
zob h9 29 (zhD h4 5 p6 1) fun p10 =>
zix (zhL h9 29 p10) a3 fun j11 =>
zlet (zset h9 29 p10 j11 v8) fun h12 =>
Re_carryShared_59 kr h12
def Re_carry {ρ : Type} (a0 a1 a2 : Int) (h : zH) (kr : Int → zH → Option ρ) : Option ρ :=
zob h 8 a2 fun _ =>
In_cellRegister a2 h  fun v1 h2 =>
zob h2 6 a1 fun _ =>
Th_at a1 v1 h2  fun v3 h4 =>
zob h4 8 a2 fun _ =>
In_isOneOf a2 2 h4  fun v5 h6 =>
if v5 = 0 then (zob h6 8 a2 fun _ =>
In_isOneOf a2 3 h6  fun v7 h8 =>
if v7 = 0 then (zob h8 6 a1 fun _ =>
Th_reckon a1 a2 h8  fun _ h10 =>
kr 1 h10)
else zob h8 5 a0 fun _ =>
Re_carryShared a0 a1 a2 v3 h8  fun v11 h12 =>
znar 1 v11 fun x13 => kr x13 h12)
else zob h6 5 a0 fun _ =>
Re_carryGlobal a0 a1 a2 v3 h6  fun v14 h15 =>
znar 1 v14 fun x16 => kr x16 h15
def Re_runThread_56 {ρ : Type} (kr : Int → zH → Option ρ) (h : zH) : Option ρ :=
kr 0 h
def Re_runThread_101 {ρ : Type} (kr : Int → zH → Option ρ) (t0 : Int) (h : zH) : Option ρ :=
znar 1 t0 fun x1 => kr x1 h
def Re_runThread_89 {ρ : Type} (kr : Int → zH → Option ρ) (a1 : Int) (h : zH) : Option ρ :=
zob h 6 a1 fun _ =>
Th_isRunning a1 h  fun v1 h2 =>
if v1 = 0 then Re_runThread_101 kr 1 h2
else Re_runThread_101 kr 0 h2
def Re_runThread_2b {ρ : Type} (kr : Int → zH → Option ρ) (r2 : Int → Int → Int → zH → Option ρ) (a0 a1 a2 : Int) (h : zH) : Option ρ :=
if 200 < a2 then Re_runThread_89 kr a1 h
else zob h 6 a1 fun _ =>
Th_isRunning a1 h  fun v1 h2 =>
if v1 = 0 then Re_runThread_89 kr a1 h2
else zob h2 5 a0 fun p3 =>
zob h2 6 a1 fun p4 =>
zob h2 7 (zhD h2 5 p3 4) fun _ =>
Ke_instructionAt (zhD h2 5 p3 4) (zhD h2 6 p4 3) h2  fun v5 h6 =>
if v5 < 0 then Re_runThread_56 kr h6
else zob h6 5 a0 fun p7 =>
zob h6 6 a1 fun p8 =>
zob h6 31 (zhD h6 5 p7 3) fun p9 =>
zix (zhL h6 31 p9) (zhD h6 6 p8 0) fun j10 =>
if (zhD h6 31 p9 j10) < 200 then (zob h6 5 a0 fun _ =>
Re_carry a0 a1 v5 h6  fun v11 h12 =>
if v11 = 0 then Re_runThread_56 kr h12
else zob h12 5 a0 fun p13 =>
zob h12 6 a1 fun p14 =>
zob h12 31 (zhD h12 5 p13 3) fun p15 =>
zix (zhL h12 31 p15) (zhD h12 6 p14 0) fun j16 =>
zob h12 31 (zhD h12 5 p13 3) fun p17 =>
zix (zhL h12 31 p17) (zhD h12 6 p14 0) fun j18 =>
zlet (zset h12 31 p17 j18 (wr ((zhD h12 31 p15 j16) + 1))) fun h19 =>
zob h19 5 a0 fun p20 =>
zob h19 7 (zhD h19 5 p20 4) fun p21 =>
zob h19 6 a1 fun _ =>
Th_goOn a1 v5 (zhD h19 7 p21 3) h19  fun _ h23 =>
r2 a0 a1 (wr (a2 + 1)) h23)
else Re_runThread_56 kr h6
def Re_runThread_2 {ρ : Type} (kr : Int → zH → Option ρ) : Int → Int → Int → zH → Option ρ := zit (fun _ _ _ _ => none) (Re_runThread_2b kr) zN
def Re_runThread {ρ : Type} (a0 a1 : Int) (h : zH) (kr : Int → zH → Option ρ) : Option ρ :=
Re_runThread_2 kr a0 a1 0 h
def Re_runBlock_92 {ρ : Type} (kr : Int → zH → Option ρ) (r51 : Int → Int → zH → Option ρ) (r60 : Int → Int → Int → zH → Option ρ) (a0 a2 a3 t0 t1 t2 : Int) (h : zH) : Option ρ :=
zob h 30 t1 fun p1 =>
zix (zhL h 30 p1) t0 fun j2 =>
zob h 5 t2 fun _ =>
Re_runThread t2 (zhD h 30 p1 j2) h  fun v3 h4 =>
if v3 = 0 then kr 0 h4
else r60 a0 a2 (wr (a3 + 1)) h4
def Re_runBlock_60b {ρ : Type} (kr : Int → zH → Option ρ) (r51 : Int → Int → zH → Option ρ) (r60 : Int → Int → Int → zH → Option ρ) (a0 a2 a3 : Int) (h : zH) : Option ρ :=
zob h 5 a0 fun p1 =>
if a3 < (zhD h 5 p1 5) then (zob h 5 a0 fun p13 =>
zob h 5 a0 fun p14 =>
if (zhD h 5 p14 6) = 0 then Re_runBlock_92 kr r51 r60 a0 a2 a3 a3 (zhD h 5 p13 2) a0 h
else zob h 5 a0 fun p15 =>
Re_runBlock_92 kr r51 r60 a0 a2 a3 (wr ((wr ((zhD h 5 p15 5) - 1)) - a3)) (zhD h 5 p13 2) a0 h)
else zob h 5 a0 fun p2 =>
zob h 5 a0 fun p3 =>
Th_lowestOfWaiting_30 (zhD h 5 p2 2) (zhD h 5 p3 5) h  fun v4 h5 =>
if v4 < 0 then kr 1 h5
else zob h5 5 a0 fun p6 =>
zob h5 5 a0 fun p7 =>
zob h5 6 v4 fun p8 =>
zob h5 5 a0 fun p9 =>
zob h5 7 (zhD h5 5 p9 4) fun p10 =>
Th_release_30 (zhD h5 5 p6 2) (zhD h5 5 p7 5) (zhD h5 6 p8 3) (zhD h5 7 p10 3) h5  fun v11 h12 =>
if v11 = 0 then kr 0 h12
else r51 a0 (wr (a2 + 1)) h12
def Re_runBlock_60 {ρ : Type} (kr : Int → zH → Option ρ) (r51 : Int → Int → zH → Option ρ) : Int → Int → Int → zH → Option ρ := zit (fun _ _ _ _ => none) (Re_runBlock_60b kr r51) zN
def Re_runBlock_51b {ρ : Type} (kr : Int → zH → Option ρ) (r51 : Int → Int → zH → Option ρ) (a0 a2 : Int) (h : zH) : Option ρ :=
if 200 < a2 then kr 0 h
else Re_runBlock_60 kr r51 a0 a2 0 h
def Re_runBlock_51 {ρ : Type} (kr : Int → zH → Option ρ) : Int → Int → zH → Option ρ := zit (fun _ _ _ => none) (Re_runBlock_51b kr) zN
def Re_runBlock_18b {ρ : Type} (kr : Int → zH → Option ρ) (r18 : Int → Int → Int → zH → Option ρ) (a0 a1 a2 : Int) (h : zH) : Option ρ :=
zob h 5 a0 fun p1 =>
if a2 < (zhD h 5 p1 5) then (zob h 5 a0 fun p2 =>
zob h 30 (zhD h 5 p2 2) fun p3 =>
zix (zhL h 30 p3) a2 fun j4 =>
zob h 5 a0 fun p5 =>
zob h 7 (zhD h 5 p5 4) fun p6 =>
zob h 6 (zhD h 30 p3 j4) fun _ =>
Th_begin (zhD h 30 p3 j4) a1 (zhD h 7 p6 3) h  fun _ h8 =>
r18 a0 a1 (wr (a2 + 1)) h8)
else Re_runBlock_51 kr a0 0 h
def Re_runBlock_18 {ρ : Type} (kr : Int → zH → Option ρ) : Int → Int → Int → zH → Option ρ := zit (fun _ _ _ _ => none) (Re_runBlock_18b kr) zN
def Re_runBlock {ρ : Type} (a0 a1 : Int) (h : zH) (kr : Int → zH → Option ρ) : Option ρ :=
zob h 5 a0 fun p1 =>
Ar_fill_29 (zhD h 5 p1 1) 0 h  fun _ h3 =>
zob h3 5 a0 fun p4 =>
Ar_fill_31 (zhD h3 5 p4 3) 0 h3  fun _ h6 =>
Re_runBlock_18 kr a0 a1 0 h6
def Re_runBlocks_24 {ρ : Type} (kr : Int → zH → Option ρ) (r2 : Int → Int → Int → zH → Option ρ) (a0 a1 a2 t0 t1 : Int) (h : zH) : Option ρ :=
zob h 5 t1 fun _ =>
Re_runBlock t1 t0 h  fun v1 h2 =>
if v1 = 0 then kr 0 h2
else r2 a0 a1 (wr (a2 + 1)) h2
def Re_runBlocks_2b {ρ : Type} (kr : Int → zH → Option ρ) (r2 : Int → Int → Int → zH → Option ρ) (a0 a1 a2 : Int) (h : zH) : Option ρ :=
if a2 < a1 then (zob h 5 a0 fun p1 =>
if (zhD h 5 p1 6) = 0 then Re_runBlocks_24 kr r2 a0 a1 a2 a2 a0 h
else Re_runBlocks_24 kr r2 a0 a1 a2 (wr ((wr (a1 - 1)) - a2)) a0 h)
else kr 1 h
def Re_runBlocks_2 {ρ : Type} (kr : Int → zH → Option ρ) : Int → Int → Int → zH → Option ρ := zit (fun _ _ _ _ => none) (Re_runBlocks_2b kr) zN
def Re_runBlocks {ρ : Type} (a0 a1 : Int) (h : zH) (kr : Int → zH → Option ρ) : Option ρ :=
Re_runBlocks_2 kr a0 a1 0 h
def X_serial_43 {ρ : Type} (kr : Int → zH → Option ρ) (kt : Nat → zH → Option ρ) (h : zH) : Option ρ :=
zlet (zthrown h) fun h1 => kt 1 h1
def X_serial {ρ : Type} (a0 a1 a2 a3 a4 a5 : Int) (h : zH) (kt : Nat → zH → Option ρ) (kr : Int → zH → Option ρ) : Option ρ :=
zob h 0 a0 fun _ =>
X_kernelAt a0 a1 h kt fun v1 h2 =>
X_isCell a5 h2  fun v3 h4 =>
if v3 = 0 then zlet (zthrown h4) fun h25 => kt 3 h25
else X_isWithin a2 1 6 h4  fun v5 h6 =>
if v5 = 0 then X_serial_43 kr kt h6
else X_isWithin a3 1 16 h6  fun v7 h8 =>
if v7 = 0 then X_serial_43 kr kt h8
else zob h8 7 v1 fun _ =>
Ke_hasLetterOf v1 0 h8  fun v9 h10 =>
if v9 = 0 then (zob h10 0 a0 fun p11 =>
zob h10 0 a0 fun p12 =>
zob h10 2 (zhD h10 0 p12 1) fun p13 =>
zob h10 5 (zhD h10 0 p11 2) fun _ =>
Re_begin (zhD h10 0 p11 2) v1 a3 a4 (zhD h10 2 p13 1) h10  fun _ h15 =>
zob h15 0 a0 fun p16 =>
zob h15 5 (zhD h15 0 p16 2) fun _ =>
Re_runBlocks (zhD h15 0 p16 2) a2 h15  fun v17 h18 =>
if v17 = 0 then zlet (zthrown h18) fun h23 => kt 2 h23
else zob h18 0 a0 fun p19 =>
zob h18 5 (zhD h18 0 p19 2) fun p20 =>
zob h18 28 (zhD h18 5 p20 0) fun p21 =>
zix (zhL h18 28 p21) a5 fun j22 =>
kr (zhD h18 28 p21 j22) h18)
else zlet (zthrown h10) fun h24 => kt 4 h24
def X_lanes {ρ : Type} (a0 : Int) (h : zH) (kr : Int → zH → Option ρ) : Option ρ :=
zob h 0 a0 fun p1 =>
zob h 2 (zhD h 0 p1 1) fun p2 =>
zob h 4 (zhD h 2 p2 3) fun p3 =>
kr (zhD h 4 p3 1) h
def X_misses {ρ : Type} (a0 : Int) (h : zH) (kr : Int → zH → Option ρ) : Option ρ :=
zob h 0 a0 fun p1 =>
zob h 2 (zhD h 0 p1 1) fun p2 =>
zob h 4 (zhD h 2 p2 3) fun p3 =>
kr (zhD h 4 p3 4) h
def X_lost {ρ : Type} (a0 : Int) (h : zH) (kr : Int → zH → Option ρ) : Option ρ :=
zob h 0 a0 fun p1 =>
zob h 2 (zhD h 0 p1 1) fun p2 =>
zob h 4 (zhD h 2 p2 3) fun p3 =>
kr (zhD h 4 p3 5) h
def X_barriers {ρ : Type} (a0 : Int) (h : zH) (kr : Int → zH → Option ρ) : Option ρ :=
zob h 0 a0 fun p1 =>
zob h 2 (zhD h 0 p1 1) fun p2 =>
zob h 4 (zhD h 2 p2 3) fun p3 =>
kr (zhD h 4 p3 6) h
def X_refused {ρ : Type} (a0 : Int) (h : zH) (kr : Int → zH → Option ρ) : Option ρ :=
zob h 0 a0 fun p1 =>
zob h 2 (zhD h 0 p1 1) fun p2 =>
zob h 4 (zhD h 2 p2 3) fun p3 =>
kr (zhD h 4 p3 7) h
def X_usedShare {ρ : Type} (a0 : Int) (h : zH) (kt : Nat → zH → Option ρ) (kr : Int → zH → Option ρ) : Option ρ :=
zob h 0 a0 fun p1 =>
zob h 2 (zhD h 0 p1 1) fun p2 =>
zob h 4 (zhD h 2 p2 3) fun p3 =>
if (zlcmp (wrl (4 * (zhD h 4 p3 0))) 0) = 0 then zlet (zthrown h) fun h8 => kt 6 h8
else zob h 0 a0 fun p4 =>
zob h 2 (zhD h 0 p4 1) fun p5 =>
zob h 4 (zhD h 2 p5 3) fun p6 =>
zn32 (FP.fdiv (zf32 (zl2f (zhD h 4 p6 1))) (zf32 (zl2f (wrl (4 * (zhD h 4 p3 0)))))) fun x7 =>
kr x7 h
def X_meanDelay {ρ : Type} (a0 : Int) (h : zH) (kt : Nat → zH → Option ρ) (kr : Int → zH → Option ρ) : Option ρ :=
zob h 0 a0 fun p1 =>
zob h 2 (zhD h 0 p1 1) fun p2 =>
zob h 4 (zhD h 2 p2 3) fun p3 =>
if (zlcmp (zhD h 4 p3 3) 0) = 0 then zlet (zthrown h) fun h8 => kt 6 h8
else zob h 0 a0 fun p4 =>
zob h 2 (zhD h 0 p4 1) fun p5 =>
zob h 4 (zhD h 2 p5 3) fun p6 =>
zn64 (FP.ddiv (zf64 (zl2d (zhD h 4 p6 2))) (zf64 (zl2d (zhD h 4 p3 3)))) fun x7 =>
kr x7 h
def Gr_isBufferWithinRoom_13 {ρ : Type} (kr : Int → zH → Option ρ) (t0 : Int) (h : zH) : Option ρ :=
znar 1 t0 fun x1 => kr x1 h
def Gr_isBufferWithinRoom {ρ : Type} (a0 : Int) (h : zH) (kr : Int → zH → Option ρ) : Option ρ :=
zob h 11 a0 fun p1 =>
if 4 < (zhD h 11 p1 5) then Gr_isBufferWithinRoom_13 kr 0 h
else Gr_isBufferWithinRoom_13 kr 1 h
def Un_isInOrder_40 {ρ : Type} (kr : Int → zH → Option ρ) (h : zH) : Option ρ :=
kr 0 h
def Un_isInOrder_79 {ρ : Type} (kr : Int → zH → Option ρ) (t0 : Int) (h : zH) : Option ρ :=
znar 1 t0 fun x1 => kr x1 h
def Un_isInOrder_78 {ρ : Type} (kr : Int → zH → Option ρ) (h : zH) : Option ρ :=
Un_isInOrder_79 kr 0 h
def Un_isInOrder_2b {ρ : Type} (kr : Int → zH → Option ρ) (r2 : Int → Int → zH → Option ρ) (a0 a1 : Int) (h : zH) : Option ρ :=
zob h 3 a0 fun p1 =>
if a1 < (zhD h 3 p1 2) then (zob h 3 a0 fun p7 =>
zob h 26 (zhD h 3 p7 0) fun p8 =>
zix (zhL h 26 p8) a1 fun j9 =>
zob h 11 (zhD h 26 p8 j9) fun _ =>
Gr_isBufferWithinRoom (zhD h 26 p8 j9) h  fun v10 h11 =>
if v10 = 0 then Un_isInOrder_40 kr h11
else zob h11 3 a0 fun p12 =>
zob h11 26 (zhD h11 3 p12 0) fun p13 =>
zix (zhL h11 26 p13) a1 fun j14 =>
zob h11 11 (zhD h11 26 p13 j14) fun p15 =>
zob h11 10 (zhD h11 11 p15 0) fun p16 =>
zob h11 9 (zhD h11 10 p16 0) fun _ =>
La_isOver (zhD h11 10 p16 0) h11  fun v17 h18 =>
if v17 = 0 then r2 a0 (wr (a1 + 1)) h18
else Un_isInOrder_40 kr h18)
else zob h 3 a0 fun p2 =>
if 4 < (zhD h 3 p2 2) then Un_isInOrder_78 kr h
else zob h 3 a0 fun _ =>
Un_usedRegisters a0 h  fun v3 h4 =>
if 64 < v3 then Un_isInOrder_78 kr h4
else zob h4 3 a0 fun _ =>
Un_usedShared a0 h4  fun v5 h6 =>
if 32 < v5 then Un_isInOrder_78 kr h6
else Un_isInOrder_79 kr 1 h6
def Un_isInOrder_2 {ρ : Type} (kr : Int → zH → Option ρ) : Int → Int → zH → Option ρ := zit (fun _ _ _ => none) (Un_isInOrder_2b kr) zN
def Un_isInOrder {ρ : Type} (a0 : Int) (h : zH) (kr : Int → zH → Option ρ) : Option ρ :=
Un_isInOrder_2 kr a0 0 h
def X_isSound_2b {ρ : Type} (kr : Int → zH → Option ρ) (r2 : Int → Int → zH → Option ρ) (a0 a1 : Int) (h : zH) : Option ρ :=
if a1 < 2 then (zob h 0 a0 fun p1 =>
zob h 2 (zhD h 0 p1 1) fun p2 =>
zob h 23 (zhD h 2 p2 2) fun p3 =>
zix (zhL h 23 p3) a1 fun j4 =>
zob h 3 (zhD h 23 p3 j4) fun _ =>
Un_isInOrder (zhD h 23 p3 j4) h  fun v5 h6 =>
if v5 = 0 then kr 0 h6
else r2 a0 (wr (a1 + 1)) h6)
else kr 1 h
def X_isSound_2 {ρ : Type} (kr : Int → zH → Option ρ) : Int → Int → zH → Option ρ := zit (fun _ _ _ => none) (X_isSound_2b kr) zN
def X_isSound {ρ : Type} (a0 : Int) (h : zH) (kr : Int → zH → Option ρ) : Option ρ :=
X_isSound_2 kr a0 0 h
def M_init_446 {ρ : Type} (kr : Int → zH → Option ρ) (a0 : Int) (h : zH) : Option ρ :=
zix 100000 64 fun n1 =>
zlet (znew h 110 n1 n1 (fun _ => 0)) fun h2 =>
zob h2 12 a0 fun p3 =>
zlet (zset h2 12 p3 68 (zhN h 110 : Int)) fun h4 =>
zix 100000 16 fun n5 =>
zlet (znew h4 111 n5 n5 (fun _ => 0)) fun h6 =>
zob h6 12 a0 fun p7 =>
zlet (zset h6 12 p7 69 (zhN h4 111 : Int)) fun h8 =>
zix 100000 128 fun n9 =>
zlet (znew h8 112 n9 n9 (fun _ => 0)) fun h10 =>
zob h10 12 a0 fun p11 =>
zlet (zset h10 12 p11 70 (zhN h8 112 : Int)) fun h12 =>
zix 100000 16 fun n13 =>
zlet (znew h12 113 n13 n13 (fun _ => 0)) fun h14 =>
zob h14 12 a0 fun p15 =>
zlet (zset h14 12 p15 71 (zhN h12 113 : Int)) fun h16 =>
zix 100000 16 fun n17 =>
zlet (znew h16 114 n17 n17 (fun _ => 0)) fun h18 =>
zob h18 12 a0 fun p19 =>
zlet (zset h18 12 p19 72 (zhN h16 114 : Int)) fun h20 =>
zix 100000 16 fun n21 =>
zlet (znew h20 115 n21 n21 (fun _ => 0)) fun h22 =>
zob h22 12 a0 fun p23 =>
zlet (zset h22 12 p23 73 (zhN h20 115 : Int)) fun h24 =>
kr 0 h24
def M_init_363 {ρ : Type} (kr : Int → zH → Option ρ) (a0 : Int) (h : zH) : Option ρ :=
zix 100000 4 fun n1 =>
zlet (znew h 102 n1 n1 (fun _ => 0)) fun h2 =>
zob h2 102 (zhN h 102 : Int) fun p3 =>
zix (zhL h2 102 p3) 0 fun j4 =>
zlet (zset h2 102 p3 j4 (-1)) fun h5 =>
zob h5 102 (zhN h 102 : Int) fun p6 =>
zix (zhL h5 102 p6) 1 fun j7 =>
zlet (zset h5 102 p6 j7 (-1)) fun h8 =>
zob h8 102 (zhN h 102 : Int) fun p9 =>
zix (zhL h8 102 p9) 2 fun j10 =>
zlet (zset h8 102 p9 j10 (-1)) fun h11 =>
zob h11 102 (zhN h 102 : Int) fun p12 =>
zix (zhL h11 102 p12) 3 fun j13 =>
zlet (zset h11 102 p12 j13 (-1)) fun h14 =>
zob h14 12 a0 fun p15 =>
zlet (zset h14 12 p15 47 (zhN h 102 : Int)) fun h16 =>
zix 100000 73728 fun n17 =>
zlet (znew h16 103 n17 n17 (fun _ => 0)) fun h18 =>
zob h18 12 a0 fun p19 =>
zlet (zset h18 12 p19 48 (zhN h16 103 : Int)) fun h20 =>
zix 100000 73728 fun n21 =>
zlet (znew h20 104 n21 n21 (fun _ => 0)) fun h22 =>
zob h22 12 a0 fun p23 =>
zlet (zset h22 12 p23 49 (zhN h20 104 : Int)) fun h24 =>
zix 100000 768 fun n25 =>
zlet (znew h24 105 n25 n25 (fun _ => 0)) fun h26 =>
zob h26 12 a0 fun p27 =>
zlet (zset h26 12 p27 50 (zhN h24 105 : Int)) fun h28 =>
zix 100000 18432 fun n29 =>
zlet (znew h28 106 n29 n29 (fun _ => 0)) fun h30 =>
zob h30 12 a0 fun p31 =>
zlet (zset h30 12 p31 51 (zhN h28 106 : Int)) fun h32 =>
zix 100000 18432 fun n33 =>
zlet (znew h32 107 n33 n33 (fun _ => 0)) fun h34 =>
zob h34 12 a0 fun p35 =>
zlet (zset h34 12 p35 52 (zhN h32 107 : Int)) fun h36 =>
zix 100000 1152 fun n37 =>
zlet (znew h36 108 n37 n37 (fun _ => 0)) fun h38 =>
zob h38 12 a0 fun p39 =>
zlet (zset h38 12 p39 53 (zhN h36 108 : Int)) fun h40 =>
zix 100000 32 fun n41 =>
zlet (znew h40 109 n41 n41 (fun _ => 0)) fun h42 =>
zob h42 12 a0 fun p43 =>
zlet (zset h42 12 p43 62 (zhN h40 109 : Int)) fun h44 =>
M_init_446 kr a0 h44
def M_init_285 {ρ : Type} (kr : Int → zH → Option ρ) (a0 : Int) (h : zH) : Option ρ :=
zix 100000 8 fun n1 =>
zlet (znew h 94 n1 n1 (fun _ => 0)) fun h2 =>
zob h2 12 a0 fun p3 =>
zlet (zset h2 12 p3 39 (zhN h 94 : Int)) fun h4 =>
zix 100000 8 fun n5 =>
zlet (znew h4 95 n5 n5 (fun _ => 0)) fun h6 =>
zob h6 12 a0 fun p7 =>
zlet (zset h6 12 p7 40 (zhN h4 95 : Int)) fun h8 =>
zix 100000 8 fun n9 =>
zlet (znew h8 96 n9 n9 (fun _ => 0)) fun h10 =>
zob h10 12 a0 fun p11 =>
zlet (zset h10 12 p11 41 (zhN h8 96 : Int)) fun h12 =>
zix 100000 8 fun n13 =>
zlet (znew h12 97 n13 n13 (fun _ => 0)) fun h14 =>
zob h14 12 a0 fun p15 =>
zlet (zset h14 12 p15 42 (zhN h12 97 : Int)) fun h16 =>
zix 100000 32 fun n17 =>
zlet (znew h16 98 n17 n17 (fun _ => 0)) fun h18 =>
zob h18 12 a0 fun p19 =>
zlet (zset h18 12 p19 43 (zhN h16 98 : Int)) fun h20 =>
zix 100000 32 fun n21 =>
zlet (znew h20 99 n21 n21 (fun _ => 0)) fun h22 =>
zob h22 12 a0 fun p23 =>
zlet (zset h22 12 p23 44 (zhN h20 99 : Int)) fun h24 =>
zix 100000 2 fun n25 =>
zlet (znew h24 100 n25 n25 (fun _ => 0)) fun h26 =>
zob h26 100 (zhN h24 100 : Int) fun p27 =>
zix (zhL h26 100 p27) 0 fun j28 =>
zlet (zset h26 100 p27 j28 (-1)) fun h29 =>
zob h29 100 (zhN h24 100 : Int) fun p30 =>
zix (zhL h29 100 p30) 1 fun j31 =>
zlet (zset h29 100 p30 j31 (-1)) fun h32 =>
zob h32 12 a0 fun p33 =>
zlet (zset h32 12 p33 45 (zhN h24 100 : Int)) fun h34 =>
zix 100000 2 fun n35 =>
zlet (znew h34 101 n35 n35 (fun _ => 0)) fun h36 =>
zob h36 101 (zhN h34 101 : Int) fun p37 =>
zix (zhL h36 101 p37) 0 fun j38 =>
zlet (zset h36 101 p37 j38 (-1)) fun h39 =>
zob h39 101 (zhN h34 101 : Int) fun p40 =>
zix (zhL h39 101 p40) 1 fun j41 =>
zlet (zset h39 101 p40 j41 (-1)) fun h42 =>
zob h42 12 a0 fun p43 =>
zlet (zset h42 12 p43 46 (zhN h34 101 : Int)) fun h44 =>
M_init_363 kr a0 h44
def M_init_186 {ρ : Type} (kr : Int → zH → Option ρ) (a0 : Int) (h : zH) : Option ρ :=
zix 100000 12 fun n1 =>
zlet (znew h 82 n1 n1 (fun _ => 0)) fun h2 =>
zob h2 12 a0 fun p3 =>
zlet (zset h2 12 p3 27 (zhN h 82 : Int)) fun h4 =>
zix 100000 12 fun n5 =>
zlet (znew h4 83 n5 n5 (fun _ => 0)) fun h6 =>
zob h6 12 a0 fun p7 =>
zlet (zset h6 12 p7 28 (zhN h4 83 : Int)) fun h8 =>
zix 100000 12 fun n9 =>
zlet (znew h8 84 n9 n9 (fun _ => 0)) fun h10 =>
zob h10 12 a0 fun p11 =>
zlet (zset h10 12 p11 29 (zhN h8 84 : Int)) fun h12 =>
zix 100000 12 fun n13 =>
zlet (znew h12 85 n13 n13 (fun _ => 0)) fun h14 =>
zob h14 12 a0 fun p15 =>
zlet (zset h14 12 p15 30 (zhN h12 85 : Int)) fun h16 =>
zix 100000 72 fun n17 =>
zlet (znew h16 86 n17 n17 (fun _ => 0)) fun h18 =>
zob h18 12 a0 fun p19 =>
zlet (zset h18 12 p19 31 (zhN h16 86 : Int)) fun h20 =>
zix 100000 72 fun n21 =>
zlet (znew h20 87 n21 n21 (fun _ => 0)) fun h22 =>
zob h22 12 a0 fun p23 =>
zlet (zset h22 12 p23 32 (zhN h20 87 : Int)) fun h24 =>
zix 100000 72 fun n25 =>
zlet (znew h24 88 n25 n25 (fun _ => 0)) fun h26 =>
zob h26 12 a0 fun p27 =>
zlet (zset h26 12 p27 33 (zhN h24 88 : Int)) fun h28 =>
zix 100000 1152 fun n29 =>
zlet (znew h28 89 n29 n29 (fun _ => 0)) fun h30 =>
zob h30 12 a0 fun p31 =>
zlet (zset h30 12 p31 34 (zhN h28 89 : Int)) fun h32 =>
zix 100000 1152 fun n33 =>
zlet (znew h32 90 n33 n33 (fun _ => 0)) fun h34 =>
zob h34 12 a0 fun p35 =>
zlet (zset h34 12 p35 35 (zhN h32 90 : Int)) fun h36 =>
zix 100000 9216 fun n37 =>
zlet (znew h36 91 n37 n37 (fun _ => 0)) fun h38 =>
zob h38 12 a0 fun p39 =>
zlet (zset h38 12 p39 36 (zhN h36 91 : Int)) fun h40 =>
zix 100000 1152 fun n41 =>
zlet (znew h40 92 n41 n41 (fun _ => 0)) fun h42 =>
zob h42 12 a0 fun p43 =>
zlet (zset h42 12 p43 37 (zhN h40 92 : Int)) fun h44 =>
zix 100000 2 fun n45 =>
zlet (znew h44 93 n45 n45 (fun _ => 0)) fun h46 =>
zob h46 12 a0 fun p47 =>
zlet (zset h46 12 p47 38 (zhN h44 93 : Int)) fun h48 =>
M_init_285 kr a0 h48
def M_init_90 {ρ : Type} (kr : Int → zH → Option ρ) (a0 : Int) (h : zH) : Option ρ :=
zix 100000 12 fun n1 =>
zlet (znew h 70 n1 n1 (fun _ => 0)) fun h2 =>
zob h2 12 a0 fun p3 =>
zlet (zset h2 12 p3 15 (zhN h 70 : Int)) fun h4 =>
zix 100000 12 fun n5 =>
zlet (znew h4 71 n5 n5 (fun _ => 0)) fun h6 =>
zob h6 12 a0 fun p7 =>
zlet (zset h6 12 p7 16 (zhN h4 71 : Int)) fun h8 =>
zix 100000 12 fun n9 =>
zlet (znew h8 72 n9 n9 (fun _ => 0)) fun h10 =>
zob h10 12 a0 fun p11 =>
zlet (zset h10 12 p11 17 (zhN h8 72 : Int)) fun h12 =>
zix 100000 12 fun n13 =>
zlet (znew h12 73 n13 n13 (fun _ => 0)) fun h14 =>
zob h14 12 a0 fun p15 =>
zlet (zset h14 12 p15 18 (zhN h12 73 : Int)) fun h16 =>
zix 100000 12 fun n17 =>
zlet (znew h16 74 n17 n17 (fun _ => 0)) fun h18 =>
zob h18 12 a0 fun p19 =>
zlet (zset h18 12 p19 19 (zhN h16 74 : Int)) fun h20 =>
zix 100000 12 fun n21 =>
zlet (znew h20 75 n21 n21 (fun _ => 0)) fun h22 =>
zob h22 12 a0 fun p23 =>
zlet (zset h22 12 p23 20 (zhN h20 75 : Int)) fun h24 =>
zix 100000 12 fun n25 =>
zlet (znew h24 76 n25 n25 (fun _ => 0)) fun h26 =>
zob h26 12 a0 fun p27 =>
zlet (zset h26 12 p27 21 (zhN h24 76 : Int)) fun h28 =>
zix 100000 12 fun n29 =>
zlet (znew h28 77 n29 n29 (fun _ => 0)) fun h30 =>
zob h30 12 a0 fun p31 =>
zlet (zset h30 12 p31 22 (zhN h28 77 : Int)) fun h32 =>
zix 100000 12 fun n33 =>
zlet (znew h32 78 n33 n33 (fun _ => 0)) fun h34 =>
zob h34 12 a0 fun p35 =>
zlet (zset h34 12 p35 23 (zhN h32 78 : Int)) fun h36 =>
zix 100000 12 fun n37 =>
zlet (znew h36 79 n37 n37 (fun _ => 0)) fun h38 =>
zob h38 12 a0 fun p39 =>
zlet (zset h38 12 p39 24 (zhN h36 79 : Int)) fun h40 =>
zix 100000 12 fun n41 =>
zlet (znew h40 80 n41 n41 (fun _ => 0)) fun h42 =>
zob h42 12 a0 fun p43 =>
zlet (zset h42 12 p43 25 (zhN h40 80 : Int)) fun h44 =>
zix 100000 12 fun n45 =>
zlet (znew h44 81 n45 n45 (fun _ => 0)) fun h46 =>
zob h46 12 a0 fun p47 =>
zlet (zset h46 12 p47 26 (zhN h44 81 : Int)) fun h48 =>
M_init_186 kr a0 h48
def M_init {ρ : Type} (a0 : Int) (h : zH) (kr : Int → zH → Option ρ) : Option ρ :=
zob h 12 a0 fun _ =>
zob h 12 a0 fun p2 =>
zlet (zset h 12 p2 2 111) fun h3 =>
zix 100000 64 fun n4 =>
zlet (znew h3 60 n4 n4 (fun _ => 0)) fun h5 =>
zob h5 12 a0 fun p6 =>
zlet (zset h5 12 p6 3 (zhN h3 60 : Int)) fun h7 =>
zix 100000 4 fun n8 =>
zlet (znew h7 61 n8 n8 (fun _ => 0)) fun h9 =>
zob h9 12 a0 fun p10 =>
zlet (zset h9 12 p10 5 (zhN h7 61 : Int)) fun h11 =>
zix 100000 4 fun n12 =>
zlet (znew h11 62 n12 n12 (fun _ => 0)) fun h13 =>
zob h13 12 a0 fun p14 =>
zlet (zset h13 12 p14 6 (zhN h11 62 : Int)) fun h15 =>
zix 100000 4 fun n16 =>
zlet (znew h15 63 n16 n16 (fun _ => 0)) fun h17 =>
zob h17 12 a0 fun p18 =>
zlet (zset h17 12 p18 7 (zhN h15 63 : Int)) fun h19 =>
zix 100000 4 fun n20 =>
zlet (znew h19 64 n20 n20 (fun _ => 0)) fun h21 =>
zob h21 12 a0 fun p22 =>
zlet (zset h21 12 p22 8 (zhN h19 64 : Int)) fun h23 =>
zix 100000 160 fun n24 =>
zlet (znew h23 65 n24 n24 (fun _ => 0)) fun h25 =>
zob h25 12 a0 fun p26 =>
zlet (zset h25 12 p26 9 (zhN h23 65 : Int)) fun h27 =>
zix 100000 160 fun n28 =>
zlet (znew h27 66 n28 n28 (fun _ => 0)) fun h29 =>
zob h29 12 a0 fun p30 =>
zlet (zset h29 12 p30 10 (zhN h27 66 : Int)) fun h31 =>
zix 100000 160 fun n32 =>
zlet (znew h31 67 n32 n32 (fun _ => 0)) fun h33 =>
zob h33 12 a0 fun p34 =>
zlet (zset h33 12 p34 11 (zhN h31 67 : Int)) fun h35 =>
zix 100000 160 fun n36 =>
zlet (znew h35 68 n36 n36 (fun _ => 0)) fun h37 =>
zob h37 12 a0 fun p38 =>
zlet (zset h37 12 p38 12 (zhN h35 68 : Int)) fun h39 =>
zix 100000 12 fun n40 =>
zlet (znew h39 69 n40 n40 (fun _ => 0)) fun h41 =>
zob h41 12 a0 fun p42 =>
zlet (zset h41 12 p42 14 (zhN h39 69 : Int)) fun h43 =>
M_init_90 kr a0 h43
