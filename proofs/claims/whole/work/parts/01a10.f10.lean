def M_runBarrier_59 {ρ : Type} (kr : Int → zH → Option ρ) (r7 : Int → Int → Int → Int → zH → Option ρ) (a1 a2 a3 a4 : Int) (h : zH) : Option ρ :=
r7 a1 a2 a3 (wr (a4 + 1)) h
def M_runBarrier_50 {ρ : Type} (kr : Int → zH → Option ρ) (r7 : Int → Int → Int → Int → zH → Option ρ) (a1 a4 t0 : Int) (h : zH) : Option ρ :=
zix 16 a4 fun j1 =>
M_runBarrier_59 kr r7 a1 (zhD h 113 0 j1) t0 a4 h
def M_runBarrier_45 {ρ : Type} (kr : Int → zH → Option ρ) (r7 : Int → Int → Int → Int → zH → Option ρ) (a1 a4 : Int) (h : zH) : Option ρ :=
M_runBarrier_50 kr r7 a1 a4 1 h
def M_runBarrier_49 {ρ : Type} (kr : Int → zH → Option ρ) (r7 : Int → Int → Int → Int → zH → Option ρ) (a1 a4 : Int) (h : zH) : Option ρ :=
M_runBarrier_50 kr r7 a1 a4 0 h
def M_runBarrier_110 {ρ : Type} (kr : Int → zH → Option ρ) (r68 : Int → Int → Int → Int → zH → Option ρ) (a1 a2 a3 a4 : Int) (h : zH) : Option ρ :=
r68 a1 a2 a3 (wr (a4 + 1)) h
def M_runBarrier_137 {ρ : Type} (kr : Int → zH → Option ρ) (t0 : Int) (h : zH) : Option ρ :=
znar 2 t0 fun x1 => kr x1 h
def M_runBarrier_116 {ρ : Type} (kr : Int → zH → Option ρ) (a2 a3 : Int) (h : zH) : Option ρ :=
if a2 = (-1) then M_runBarrier_137 kr 101 h
else if a3 = 0 then M_runBarrier_137 kr 102 h
else M_runBarrier_137 kr 112 h
def M_runBarrier_68b {ρ : Type} (kr : Int → zH → Option ρ) (r68 : Int → Int → Int → Int → zH → Option ρ) (a1 a2 a3 a4 : Int) (h : zH) : Option ρ :=
if a4 < a1 then (if a3 = 0 then M_runBarrier_116 kr a2 a3 h
else zix 16 a4 fun j1 =>
if (zhD h 114 0 j1) = 119 then (zix 16 a4 fun j2 =>
zlet (zset h 114 0 j2 114) fun h3 =>
zix 16 a4 fun j4 =>
zix 16 a4 fun j5 =>
zlet (zset h3 113 0 j5 (wr ((zhD h3 113 0 j4) + 1))) fun h6 =>
M_runBarrier_110 kr r68 a1 a2 a3 a4 h6)
else M_runBarrier_110 kr r68 a1 a2 a3 a4 h)
else M_runBarrier_116 kr a2 a3 h
def M_runBarrier_68 {ρ : Type} (kr : Int → zH → Option ρ) : Int → Int → Int → Int → zH → Option ρ := zit (fun _ _ _ _ _ => none) (M_runBarrier_68b kr) zN
def M_runBarrier_7b {ρ : Type} (kr : Int → zH → Option ρ) (r7 : Int → Int → Int → Int → zH → Option ρ) (a1 a2 a3 a4 : Int) (h : zH) : Option ρ :=
if a4 < a1 then (zix 16 a4 fun j1 =>
if (zhD h 114 0 j1) = 119 then (if a3 = 0 then M_runBarrier_49 kr r7 a1 a4 h
else if a2 = (-1) then M_runBarrier_45 kr r7 a1 a4 h
else zix 16 a4 fun j2 =>
if a2 = (zhD h 113 0 j2) then M_runBarrier_45 kr r7 a1 a4 h
else M_runBarrier_49 kr r7 a1 a4 h)
else M_runBarrier_59 kr r7 a1 a2 a3 a4 h)
else M_runBarrier_68 kr a1 a2 a3 0 h
def M_runBarrier_7 {ρ : Type} (kr : Int → zH → Option ρ) : Int → Int → Int → Int → zH → Option ρ := zit (fun _ _ _ _ _ => none) (M_runBarrier_7b kr) zN
def M_runBarrier {ρ : Type} (a1 : Int) (h : zH) (kr : Int → zH → Option ρ) : Option ρ :=
M_runBarrier_7 kr a1 (-1) 1 0 h
def M_runBlock_46b {ρ : Type} (kr : Int → zH → Option ρ) (r3 : Int → Int → Int → Int → Int → zH → Option ρ) (r46 : Int → Int → Int → Int → Int → Int → zH → Option ρ) (a1 a2 a3 a4 a5 a6 : Int) (h : zH) : Option ρ :=
if a6 < 8 then (zix 128 (wr ((wr (8 * a5)) + a6)) fun j1 =>
zlet (zset h 112 0 j1 0) fun h2 =>
r46 a1 a2 a3 a4 a5 (wr (a6 + 1)) h2)
else r3 a1 a2 a3 a4 (wr (a5 + 1)) h
def M_runBlock_46 {ρ : Type} (kr : Int → zH → Option ρ) (r3 : Int → Int → Int → Int → Int → zH → Option ρ) : Int → Int → Int → Int → Int → Int → zH → Option ρ := zit (fun _ _ _ _ _ _ _ => none) (M_runBlock_46b kr r3) zN
def M_runBlock_115 {ρ : Type} (kr : Int → zH → Option ρ) (r83 : Int → Int → Int → Int → Int → zH → Option ρ) (r93 : Int → Int → Int → Int → Int → zH → Option ρ) (a1 a2 a3 a4 a6 t0 : Int) (h : zH) : Option ρ :=
M_runThread a1 a2 t0 h  fun v1 h2 =>
if v1 = 0 then kr 0 h2
else r93 a1 a2 a3 a4 (wr (a6 + 1)) h2
def M_runBlock_93b {ρ : Type} (kr : Int → zH → Option ρ) (r83 : Int → Int → Int → Int → Int → zH → Option ρ) (r93 : Int → Int → Int → Int → Int → zH → Option ρ) (a1 a2 a3 a4 a6 : Int) (h : zH) : Option ρ :=
if a6 < a3 then (if a4 = 0 then M_runBlock_115 kr r83 r93 a1 a2 a3 a4 a6 a6 h
else M_runBlock_115 kr r83 r93 a1 a2 a3 a4 a6 (wr ((wr (a3 - 1)) - a6)) h)
else M_runBarrier a3 h  fun v1 h2 =>
r83 a1 a2 a3 a4 v1 h2
def M_runBlock_93 {ρ : Type} (kr : Int → zH → Option ρ) (r83 : Int → Int → Int → Int → Int → zH → Option ρ) : Int → Int → Int → Int → Int → zH → Option ρ := zit (fun _ _ _ _ _ _ => none) (M_runBlock_93b kr r83) zN
def M_runBlock_158 {ρ : Type} (kr : Int → zH → Option ρ) (t0 : Int) (h : zH) : Option ρ :=
znar 1 t0 fun x1 => kr x1 h
def M_runBlock_83b {ρ : Type} (kr : Int → zH → Option ρ) (r83 : Int → Int → Int → Int → Int → zH → Option ρ) (a1 a2 a3 a4 a5 : Int) (h : zH) : Option ρ :=
if a5 = 112 then M_runBlock_93 kr r83 a1 a2 a3 a4 0 h
else if a5 = 101 then M_runBlock_158 kr 1 h
else M_runBlock_158 kr 0 h
def M_runBlock_83 {ρ : Type} (kr : Int → zH → Option ρ) : Int → Int → Int → Int → Int → zH → Option ρ := zit (fun _ _ _ _ _ _ => none) (M_runBlock_83b kr) zN
def M_runBlock_3b {ρ : Type} (kr : Int → zH → Option ρ) (r3 : Int → Int → Int → Int → Int → zH → Option ρ) (a1 a2 a3 a4 a5 : Int) (h : zH) : Option ρ :=
if a5 < 16 then (zix 16 a5 fun j1 =>
zlet (zset h 113 0 j1 0) fun h2 =>
zix 16 a5 fun j3 =>
zlet (zset h2 114 0 j3 114) fun h4 =>
zix 16 a5 fun j5 =>
zlet (zset h4 115 0 j5 0) fun h6 =>
zix 16 a5 fun j7 =>
zlet (zset h6 111 0 j7 0) fun h8 =>
M_runBlock_46 kr r3 a1 a2 a3 a4 a5 0 h8)
else M_runBlock_83 kr a1 a2 a3 a4 112 h
def M_runBlock_3 {ρ : Type} (kr : Int → zH → Option ρ) : Int → Int → Int → Int → Int → zH → Option ρ := zit (fun _ _ _ _ _ _ => none) (M_runBlock_3b kr) zN
def M_runBlock {ρ : Type} (a1 a2 a3 a4 : Int) (h : zH) (kr : Int → zH → Option ρ) : Option ρ :=
M_runBlock_3 kr a1 a2 a3 a4 0 h
def M_serial_67 {ρ : Type} (kr : Int → zH → Option ρ) (h : zH) : Option ρ :=
kr 0 h
def M_serial_140 {ρ : Type} (kr : Int → zH → Option ρ) (r78 : Int → Int → Int → Int → Int → Int → Int → zH → Option ρ) (a1 a2 a3 a4 a5 a7 t0 : Int) (h : zH) : Option ρ :=
r78 a1 a2 a3 a4 a5 t0 (wr (a7 + 1)) h
def M_serial_135 {ρ : Type} (kr : Int → zH → Option ρ) (r78 : Int → Int → Int → Int → Int → Int → Int → zH → Option ρ) (a1 a2 a3 a4 a5 a7 : Int) (h : zH) : Option ρ :=
M_serial_140 kr r78 a1 a2 a3 a4 a5 a7 1 h
def M_serial_225 {ρ : Type} (kr : Int → zH → Option ρ) (r196 : Int → Int → Int → Int → Int → Int → Int → zH → Option ρ) (a1 a2 a3 a4 a5 a8 t0 t1 : Int) (h : zH) : Option ρ :=
M_runBlock t1 t0 a3 a4 h  fun v1 h2 =>
r196 a1 a2 a3 a4 a5 v1 (wr (a8 + 1)) h2
def M_serial_268 {ρ : Type} (kr : Int → zH → Option ρ) (t0 : Int) (h : zH) : Option ρ :=
kr t0 h
def M_serial_250 {ρ : Type} (kr : Int → zH → Option ρ) (a5 t0 : Int) (h : zH) : Option ρ :=
M_fails t0 4 h  fun v1 h2 =>
if v1 = 0 then (zix 64 a5 fun j3 =>
M_serial_268 kr (zhD h2 110 0 j3) h2)
else M_serial_268 kr 0 h2
def M_serial_239 {ρ : Type} (kr : Int → zH → Option ρ) (a5 a7 : Int) (h : zH) : Option ρ :=
if a7 = 0 then M_serial_250 kr a5 1 h
else M_serial_250 kr a5 0 h
def M_serial_196b {ρ : Type} (kr : Int → zH → Option ρ) (r196 : Int → Int → Int → Int → Int → Int → Int → zH → Option ρ) (a1 a2 a3 a4 a5 a7 a8 : Int) (h : zH) : Option ρ :=
if a8 < a2 then (if a7 = 0 then M_serial_239 kr a5 a7 h
else if a4 = 0 then M_serial_225 kr r196 a1 a2 a3 a4 a5 a8 a8 a1 h
else M_serial_225 kr r196 a1 a2 a3 a4 a5 a8 (wr ((wr (a2 - 1)) - a8)) a1 h)
else M_serial_239 kr a5 a7 h
def M_serial_196 {ρ : Type} (kr : Int → zH → Option ρ) : Int → Int → Int → Int → Int → Int → Int → zH → Option ρ := zit (fun _ _ _ _ _ _ _ _ => none) (M_serial_196b kr) zN
def M_serial_163b {ρ : Type} (kr : Int → zH → Option ρ) (r163 : Int → Int → Int → Int → Int → Int → zH → Option ρ) (a1 a2 a3 a4 a5 a7 : Int) (h : zH) : Option ρ :=
if a7 < 64 then (zix 64 a7 fun j1 =>
zix 64 a7 fun j2 =>
zlet (zset h 110 0 j2 (zhD h 60 0 j1)) fun h3 =>
r163 a1 a2 a3 a4 a5 (wr (a7 + 1)) h3)
else M_serial_196 kr a1 a2 a3 a4 a5 1 0 h
def M_serial_163 {ρ : Type} (kr : Int → zH → Option ρ) : Int → Int → Int → Int → Int → Int → zH → Option ρ := zit (fun _ _ _ _ _ _ _ => none) (M_serial_163b kr) zN
def M_serial_78b {ρ : Type} (kr : Int → zH → Option ρ) (r78 : Int → Int → Int → Int → Int → Int → Int → zH → Option ρ) (a1 a2 a3 a4 a5 a6 a7 : Int) (h : zH) : Option ρ :=
zix 4 a1 fun j1 =>
if a7 < (wr ((wr (40 * a1)) + (zhD h 63 0 j1))) then (if a6 = 0 then (zix 160 a7 fun j4 =>
if (zhD h 65 0 j4) = 118 then M_serial_135 kr r78 a1 a2 a3 a4 a5 a7 h
else zix 160 a7 fun j5 =>
if (zhD h 65 0 j5) = 115 then M_serial_135 kr r78 a1 a2 a3 a4 a5 a7 h
else zix 160 a7 fun j6 =>
if (zhD h 65 0 j6) = 99 then M_serial_135 kr r78 a1 a2 a3 a4 a5 a7 h
else M_serial_140 kr r78 a1 a2 a3 a4 a5 a7 0 h)
else M_serial_135 kr r78 a1 a2 a3 a4 a5 a7 h)
else M_fails a6 3 h  fun v2 h3 =>
if v2 = 0 then M_serial_163 kr a1 a2 a3 a4 a5 0 h3
else kr 0 h3
def M_serial_78 {ρ : Type} (kr : Int → zH → Option ρ) : Int → Int → Int → Int → Int → Int → Int → zH → Option ρ := zit (fun _ _ _ _ _ _ _ _ => none) (M_serial_78b kr) zN
def M_serial_60 {ρ : Type} (kr : Int → zH → Option ρ) (a1 a2 a3 a4 a5 t0 : Int) (h : zH) : Option ρ :=
M_fails t0 2 h  fun v1 h2 =>
if v1 = 0 then M_serial_78 kr a1 a2 a3 a4 a5 0 (wr (40 * a1)) h2
else M_serial_67 kr h2
def M_serial_55 {ρ : Type} (kr : Int → zH → Option ρ) (a1 a2 a3 a4 a5 : Int) (h : zH) : Option ρ :=
M_serial_60 kr a1 a2 a3 a4 a5 1 h
def M_serial_27 {ρ : Type} (kr : Int → zH → Option ρ) (a1 a2 a3 a4 a5 t0 : Int) (h : zH) : Option ρ :=
M_fails t0 1 h  fun v1 h2 =>
if v1 = 0 then (M_in a2 1 6 h2  fun v3 h4 =>
if v3 = 0 then M_serial_55 kr a1 a2 a3 a4 a5 h4
else M_in a3 1 16 h4  fun v5 h6 =>
if v5 = 0 then M_serial_55 kr a1 a2 a3 a4 a5 h6
else M_serial_60 kr a1 a2 a3 a4 a5 0 h6)
else M_serial_67 kr h2
def M_serial_22 {ρ : Type} (kr : Int → zH → Option ρ) (a1 a2 a3 a4 a5 : Int) (h : zH) : Option ρ :=
M_serial_27 kr a1 a2 a3 a4 a5 1 h
def M_serial {ρ : Type} (a1 a2 a3 a4 a5 : Int) (h : zH) (kr : Int → zH → Option ρ) : Option ρ :=
zlet (zset h 12 0 0 0) fun h1 =>
M_noKernel a1 h1  fun v2 h3 =>
if v2 = 0 then (M_noCell a5 h3  fun v4 h5 =>
if v4 = 0 then M_serial_27 kr a1 a2 a3 a4 a5 0 h5
else M_serial_22 kr a1 a2 a3 a4 a5 h5)
else M_serial_22 kr a1 a2 a3 a4 a5 h3
def M_lanes {ρ : Type} (h : zH) (kr : Int → zH → Option ρ) : Option ρ :=
zlet (zset h 12 0 0 0) fun h1 =>
kr (zhD h1 12 0 54) h1
def M_misses {ρ : Type} (h : zH) (kr : Int → zH → Option ρ) : Option ρ :=
zlet (zset h 12 0 0 0) fun h1 =>
kr (zhD h1 12 0 58) h1
def M_lost {ρ : Type} (h : zH) (kr : Int → zH → Option ρ) : Option ρ :=
zlet (zset h 12 0 0 0) fun h1 =>
kr (zhD h1 12 0 59) h1
def M_barriers {ρ : Type} (h : zH) (kr : Int → zH → Option ρ) : Option ρ :=
zlet (zset h 12 0 0 0) fun h1 =>
kr (zhD h1 12 0 60) h1
def M_refused {ρ : Type} (h : zH) (kr : Int → zH → Option ρ) : Option ρ :=
zlet (zset h 12 0 0 0) fun h1 =>
kr (zhD h1 12 0 61) h1
def M_usedShare_42 {ρ : Type} (kr : Int → zH → Option ρ) (t0 : Int) (h : zH) : Option ρ :=
kr t0 h
def M_usedShare_18 {ρ : Type} (kr : Int → zH → Option ρ) (t0 : Int) (h : zH) : Option ρ :=
M_fails t0 1 h  fun v1 h2 =>
if v1 = 0 then (zn32 (FP.fdiv (zf32 (zl2f (zhD h2 12 0 54))) (zf32 (zi2f (wr (4 * (zhD h2 12 0 55)))))) fun x3 =>
M_usedShare_42 kr x3 h2)
else M_usedShare_42 kr 0 h2
def M_usedShare {ρ : Type} (h : zH) (kr : Int → zH → Option ρ) : Option ρ :=
zlet (zset h 12 0 0 0) fun h1 =>
if (zhD h1 12 0 55) = 0 then M_usedShare_18 kr 1 h1
else M_usedShare_18 kr 0 h1
def M_meanDelay_40 {ρ : Type} (kr : Int → zH → Option ρ) (t0 : Int) (h : zH) : Option ρ :=
kr t0 h
def M_meanDelay_18 {ρ : Type} (kr : Int → zH → Option ρ) (t0 : Int) (h : zH) : Option ρ :=
M_fails t0 1 h  fun v1 h2 =>
if v1 = 0 then (zn64 (FP.ddiv (zf64 (zi2d (zhD h2 12 0 57))) (zf64 (zi2d (zhD h2 12 0 56)))) fun x3 =>
M_meanDelay_40 kr x3 h2)
else M_meanDelay_40 kr 0 h2
def M_meanDelay {ρ : Type} (h : zH) (kr : Int → zH → Option ρ) : Option ρ :=
zlet (zset h 12 0 0 0) fun h1 =>
if (zhD h1 12 0 56) = 0 then M_meanDelay_18 kr 1 h1
else M_meanDelay_18 kr 0 h1
def M_isSound {ρ : Type} (h : zH) (kr : Int → zH → Option ρ) : Option ρ :=
zlet (zset h 12 0 0 0) fun h1 =>
kr 1 h1
def Lw_addKernel {ρ : Type} (a0 a1 a2 a3 : Int) (h : zH) (kr : Int → zH → Option ρ) : Option ρ :=
zob h 0 a0 fun _ =>
X_addKernel a0 a1 a2 h (fun n h6 => if n = 1 then kr 1 h6 else if n = 2 then kr 2 h6 else none) fun v1 h2 =>
zob h2 51 a3 fun p3 =>
zix (zhL h2 51 p3) 0 fun j4 =>
zlet (zset h2 51 p3 j4 v1) fun h5 =>
kr 0 h5
def Lw_code {ρ : Type} (a0 a1 a2 a3 a4 a5 a6 : Int) (h : zH) (kr : Int → zH → Option ρ) : Option ρ :=
zob h 0 a0 fun _ =>
X_code a0 a1 a2 a3 a4 a5 h (fun n h6 => if n = 3 then kr 1 h6 else if n = 1 then kr 2 h6 else if n = 2 then kr 3 h6 else none) fun v1 h2 =>
zob h2 51 a6 fun p3 =>
zix (zhL h2 51 p3) 0 fun j4 =>
zlet (zset h2 51 p3 j4 v1) fun h5 =>
kr 0 h5
def Lw_fits {ρ : Type} (a0 a1 a2 a3 : Int) (h : zH) (kr : Int → zH → Option ρ) : Option ρ :=
zob h 0 a0 fun _ =>
X_fits a0 a1 a2 h (fun n h6 => if n = 3 then kr 1 h6 else if n = 1 then kr 2 h6 else none) fun v1 h2 =>
zob h2 51 a3 fun p3 =>
zix (zhL h2 51 p3) 0 fun j4 =>
zlet (zset h2 51 p3 j4 v1) fun h5 =>
kr 0 h5
def Lw_poke {ρ : Type} (a0 a1 a2 a3 : Int) (h : zH) (kr : Int → zH → Option ρ) : Option ρ :=
zob h 0 a0 fun _ =>
X_poke a0 a1 a2 h (fun n h6 => if n = 3 then kr 1 h6 else none) fun v1 h2 =>
zob h2 51 a3 fun p3 =>
zix (zhL h2 51 p3) 0 fun j4 =>
zlet (zset h2 51 p3 j4 v1) fun h5 =>
kr 0 h5
def Lw_peek {ρ : Type} (a0 a1 a2 : Int) (h : zH) (kr : Int → zH → Option ρ) : Option ρ :=
zob h 0 a0 fun _ =>
X_peek a0 a1 h (fun n h6 => if n = 3 then kr 1 h6 else none) fun v1 h2 =>
zob h2 51 a2 fun p3 =>
zix (zhL h2 51 p3) 0 fun j4 =>
zlet (zset h2 51 p3 j4 v1) fun h5 =>
kr 0 h5
def Lw_launch {ρ : Type} (a0 a1 a2 a3 a4 a5 a6 : Int) (h : zH) (kr : Int → zH → Option ρ) : Option ρ :=
zob h 0 a0 fun _ =>
X_launch a0 a1 a2 a3 a4 a5 h (fun n h6 => if n = 3 then kr 1 h6 else if n = 1 then kr 2 h6 else if n = 4 then kr 3 h6 else if n = 2 then kr 4 h6 else none) fun v1 h2 =>
zob h2 51 a6 fun p3 =>
zix (zhL h2 51 p3) 0 fun j4 =>
zlet (zset h2 51 p3 j4 v1) fun h5 =>
kr 0 h5
def Lw_copy {ρ : Type} (a0 a1 a2 a3 a4 a5 a6 : Int) (h : zH) (kr : Int → zH → Option ρ) : Option ρ :=
zob h 0 a0 fun _ =>
X_copy a0 a1 a2 a3 a4 a5 h (fun n h6 => if n = 3 then kr 1 h6 else if n = 1 then kr 2 h6 else if n = 2 then kr 3 h6 else none) fun v1 h2 =>
zob h2 51 a6 fun p3 =>
zix (zhL h2 51 p3) 0 fun j4 =>
zlet (zset h2 51 p3 j4 v1) fun h5 =>
kr 0 h5
def Lw_state {ρ : Type} (a0 a1 a2 : Int) (h : zH) (kr : Int → zH → Option ρ) : Option ρ :=
zob h 0 a0 fun _ =>
X_state a0 a1 h (fun n h6 => if n = 3 then kr 1 h6 else none) fun v1 h2 =>
zob h2 51 a2 fun p3 =>
zix (zhL h2 51 p3) 0 fun j4 =>
zlet (zset h2 51 p3 j4 v1) fun h5 =>
kr 0 h5
def Lw_parent {ρ : Type} (a0 a1 a2 : Int) (h : zH) (kr : Int → zH → Option ρ) : Option ρ :=
zob h 0 a0 fun _ =>
X_parent a0 a1 h (fun n h6 => if n = 3 then kr 1 h6 else if n = 5 then kr 2 h6 else none) fun v1 h2 =>
zob h2 51 a2 fun p3 =>
zix (zhL h2 51 p3) 0 fun j4 =>
zlet (zset h2 51 p3 j4 v1) fun h5 =>
kr 0 h5
def Lw_given {ρ : Type} (a0 a1 a2 : Int) (h : zH) (kr : Int → zH → Option ρ) : Option ρ :=
zob h 0 a0 fun _ =>
X_given a0 a1 h (fun n h6 => if n = 3 then kr 1 h6 else none) fun v1 h2 =>
zob h2 51 a2 fun p3 =>
zix (zhL h2 51 p3) 0 fun j4 =>
zlet (zset h2 51 p3 j4 v1) fun h5 =>
kr 0 h5
def Lw_step {ρ : Type} (a0 a1 a2 : Int) (h : zH) (kr : Int → zH → Option ρ) : Option ρ :=
zob h 0 a0 fun _ =>
X_step a0 a1 h (fun n h6 => if n = 1 then kr 1 h6 else none) fun v1 h2 =>
zob h2 51 a2 fun p3 =>
zix (zhL h2 51 p3) 0 fun j4 =>
zlet (zset h2 51 p3 j4 v1) fun h5 =>
kr 0 h5
def Lw_run {ρ : Type} (a0 a1 a2 : Int) (h : zH) (kr : Int → zH → Option ρ) : Option ρ :=
zob h 0 a0 fun _ =>
X_run a0 a1 h (fun n h6 => if n = 1 then kr 1 h6 else none) fun v1 h2 =>
zob h2 51 a2 fun p3 =>
zix (zhL h2 51 p3) 0 fun j4 =>
zlet (zset h2 51 p3 j4 v1) fun h5 =>
kr 0 h5
def Lw_setOrder {ρ : Type} (a0 a1 a2 : Int) (h : zH) (kr : Int → zH → Option ρ) : Option ρ :=
zob h 0 a0 fun _ =>
X_setOrder a0 a1 h (fun n h6 => if n = 1 then kr 1 h6 else none) fun v1 h2 =>
zob h2 51 a2 fun p3 =>
zix (zhL h2 51 p3) 0 fun j4 =>
zlet (zset h2 51 p3 j4 v1) fun h5 =>
kr 0 h5
def Lw_groups {ρ : Type} (a0 a1 a2 : Int) (h : zH) (kr : Int → zH → Option ρ) : Option ρ :=
zob h 0 a0 fun _ =>
X_groups a0 a1 h (fun n h6 => if n = 3 then kr 1 h6 else none) fun v1 h2 =>
zob h2 51 a2 fun p3 =>
zix (zhL h2 51 p3) 0 fun j4 =>
zlet (zset h2 51 p3 j4 v1) fun h5 =>
kr 0 h5
def Lw_threadAt {ρ : Type} (a0 a1 a2 a3 : Int) (h : zH) (kr : Int → zH → Option ρ) : Option ρ :=
zob h 0 a0 fun _ =>
X_threadAt a0 a1 a2 h (fun n h6 => if n = 3 then kr 1 h6 else none) fun v1 h2 =>
zob h2 51 a3 fun p3 =>
zix (zhL h2 51 p3) 0 fun j4 =>
zlet (zset h2 51 p3 j4 v1) fun h5 =>
kr 0 h5
def Lw_place {ρ : Type} (a0 a1 a2 a3 : Int) (h : zH) (kr : Int → zH → Option ρ) : Option ρ :=
zob h 0 a0 fun _ =>
X_place a0 a1 a2 h (fun n h6 => if n = 3 then kr 1 h6 else if n = 5 then kr 2 h6 else none) fun v1 h2 =>
zob h2 51 a3 fun p3 =>
zix (zhL h2 51 p3) 0 fun j4 =>
zlet (zset h2 51 p3 j4 v1) fun h5 =>
kr 0 h5
def Lw_mask {ρ : Type} (a0 a1 a2 a3 : Int) (h : zH) (kr : Int → zH → Option ρ) : Option ρ :=
zob h 0 a0 fun _ =>
X_mask a0 a1 a2 h (fun n h6 => if n = 3 then kr 1 h6 else none) fun v1 h2 =>
zob h2 51 a3 fun p3 =>
zix (zhL h2 51 p3) 0 fun j4 =>
zlet (zset h2 51 p3 j4 v1) fun h5 =>
kr 0 h5
def Lw_places {ρ : Type} (a0 a1 a2 a3 : Int) (h : zH) (kr : Int → zH → Option ρ) : Option ρ :=
zob h 0 a0 fun _ =>
X_places a0 a1 a2 h (fun n h6 => if n = 3 then kr 1 h6 else none) fun v1 h2 =>
zob h2 51 a3 fun p3 =>
zix (zhL h2 51 p3) 0 fun j4 =>
zlet (zset h2 51 p3 j4 v1) fun h5 =>
kr 0 h5
def Lw_reason {ρ : Type} (a0 a1 a2 a3 : Int) (h : zH) (kr : Int → zH → Option ρ) : Option ρ :=
zob h 0 a0 fun _ =>
X_reason a0 a1 a2 h (fun n h6 => if n = 3 then kr 1 h6 else none) fun v1 h2 =>
zob h2 51 a3 fun p3 =>
zix (zhL h2 51 p3) 0 fun j4 =>
zlet (zset h2 51 p3 j4 v1) fun h5 =>
kr 0 h5
def Lw_register {ρ : Type} (a0 a1 a2 a3 a4 a5 : Int) (h : zH) (kr : Int → zH → Option ρ) : Option ρ :=
zob h 0 a0 fun _ =>
X_register a0 a1 a2 a3 a4 h (fun n h6 => if n = 3 then kr 1 h6 else none) fun v1 h2 =>
zob h2 51 a5 fun p3 =>
zix (zhL h2 51 p3) 0 fun j4 =>
zlet (zset h2 51 p3 j4 v1) fun h5 =>
kr 0 h5
def Lw_shared {ρ : Type} (a0 a1 a2 a3 a4 : Int) (h : zH) (kr : Int → zH → Option ρ) : Option ρ :=
zob h 0 a0 fun _ =>
X_shared a0 a1 a2 a3 h (fun n h6 => if n = 3 then kr 1 h6 else none) fun v1 h2 =>
zob h2 51 a4 fun p3 =>
zix (zhL h2 51 p3) 0 fun j4 =>
zlet (zset h2 51 p3 j4 v1) fun h5 =>
kr 0 h5
def Lw_buffered {ρ : Type} (a0 a1 a2 a3 : Int) (h : zH) (kr : Int → zH → Option ρ) : Option ρ :=
zob h 0 a0 fun _ =>
X_buffered a0 a1 a2 h (fun n h6 => if n = 3 then kr 1 h6 else none) fun v1 h2 =>
zob h2 51 a3 fun p3 =>
zix (zhL h2 51 p3) 0 fun j4 =>
zlet (zset h2 51 p3 j4 v1) fun h5 =>
kr 0 h5
def Lw_fault {ρ : Type} (a0 a1 a2 : Int) (h : zH) (kr : Int → zH → Option ρ) : Option ρ :=
zob h 0 a0 fun _ =>
X_fault a0 a1 h (fun n h6 => if n = 3 then kr 1 h6 else if n = 5 then kr 2 h6 else none) fun v1 h2 =>
zob h2 51 a2 fun p3 =>
zix (zhL h2 51 p3) 0 fun j4 =>
zlet (zset h2 51 p3 j4 v1) fun h5 =>
kr 0 h5
def Lw_faultAt {ρ : Type} (a0 a1 a2 : Int) (h : zH) (kr : Int → zH → Option ρ) : Option ρ :=
zob h 0 a0 fun _ =>
X_faultAt a0 a1 h (fun n h6 => if n = 3 then kr 1 h6 else if n = 5 then kr 2 h6 else none) fun v1 h2 =>
zob h2 51 a2 fun p3 =>
zix (zhL h2 51 p3) 0 fun j4 =>
zlet (zset h2 51 p3 j4 v1) fun h5 =>
kr 0 h5
def Lw_isRacing_16 {ρ : Type} (kr : Int → zH → Option ρ) (t0 t1 t2 : Int) (h : zH) : Option ρ :=
zob h 51 t2 fun p1 =>
zix (zhL h 51 p1) t1 fun j2 =>
zlet (zset h 51 p1 j2 t0) fun h3 =>
kr 0 h3
def Lw_isRacing {ρ : Type} (a0 a1 a2 a3 : Int) (h : zH) (kr : Int → zH → Option ρ) : Option ρ :=
zob h 0 a0 fun _ =>
X_isRacing a0 a1 a2 h (fun n h3 => if n = 3 then kr 1 h3 else none) fun v1 h2 =>
if v1 = 0 then Lw_isRacing_16 kr 0 0 a3 h2
else Lw_isRacing_16 kr 1 0 a3 h2
def Lw_races {ρ : Type} (a0 a1 a2 : Int) (h : zH) (kr : Int → zH → Option ρ) : Option ρ :=
zob h 0 a0 fun _ =>
X_races a0 a1 h (fun n h6 => if n = 3 then kr 1 h6 else none) fun v1 h2 =>
zob h2 51 a2 fun p3 =>
zix (zhL h2 51 p3) 0 fun j4 =>
zlet (zset h2 51 p3 j4 v1) fun h5 =>
kr 0 h5
def Lw_serial {ρ : Type} (a0 a1 a2 a3 a4 a5 a6 : Int) (h : zH) (kr : Int → zH → Option ρ) : Option ρ :=
zob h 0 a0 fun _ =>
X_serial a0 a1 a2 a3 a4 a5 h (fun n h6 => if n = 3 then kr 1 h6 else if n = 1 then kr 2 h6 else if n = 4 then kr 3 h6 else if n = 2 then kr 4 h6 else none) fun v1 h2 =>
zob h2 51 a6 fun p3 =>
zix (zhL h2 51 p3) 0 fun j4 =>
zlet (zset h2 51 p3 j4 v1) fun h5 =>
kr 0 h5
def Lw_usedShare {ρ : Type} (a0 a1 : Int) (h : zH) (kr : Int → zH → Option ρ) : Option ρ :=
zob h 0 a0 fun _ =>
X_usedShare a0 h (fun n h7 => if n = 6 then kr 1 h7 else none) fun v1 h2 =>
zn64 (FP.f2d (zf32 v1)) fun x3 =>
zob h2 52 a1 fun p4 =>
zix (zhL h2 52 p4) 0 fun j5 =>
zlet (zset h2 52 p4 j5 x3) fun h6 =>
kr 0 h6
def Lw_meanDelay {ρ : Type} (a0 a1 : Int) (h : zH) (kr : Int → zH → Option ρ) : Option ρ :=
zob h 0 a0 fun _ =>
X_meanDelay a0 h (fun n h6 => if n = 6 then kr 1 h6 else none) fun v1 h2 =>
zob h2 52 a1 fun p3 =>
zix (zhL h2 52 p3) 0 fun j4 =>
zlet (zset h2 52 p3 j4 v1) fun h5 =>
kr 0 h5
def Lw_law_2355 {ρ : Type} (kr : Int → zH → Option ρ) (r28 : Int → Int → Int → Int → Int → Int → zH → Option ρ) (a0 a1 a2 a3 a4 a5 : Int) (h : zH) : Option ρ :=
r28 a0 a1 a2 a3 a4 (wr (a5 + 6)) h
def Lw_law_273 {ρ : Type} (kr : Int → zH → Option ρ) (r28 : Int → Int → Int → Int → Int → Int → zH → Option ρ) (a0 a1 a2 a3 a4 a5 : Int) (h : zH) : Option ρ :=
Lw_law_2355 kr r28 a0 a1 a2 a3 a4 a5 h
def Lw_law_208 {ρ : Type} (kr : Int → zH → Option ρ) (r28 : Int → Int → Int → Int → Int → Int → zH → Option ρ) (a0 a1 a2 a3 a4 a5 : Int) (h : zH) : Option ρ :=
zob h 50 a0 fun p1 =>
zix (zhL h 50 p1) (wr (a5 + 1)) fun j2 =>
zob h 50 a0 fun p3 =>
zix (zhL h 50 p3) (wr (a5 + 2)) fun j4 =>
Lw_addKernel a1 (zhD h 50 p1 j2) (zhD h 50 p3 j4) a3 h  fun v5 h6 =>
zob h6 50 a0 fun p7 =>
zix (zhL h6 50 p7) (wr (a5 + 1)) fun j8 =>
zob h6 50 a0 fun p9 =>
zix (zhL h6 50 p9) (wr (a5 + 2)) fun j10 =>
zob h6 12 a2 fun _ =>
zmch h6 a2 (M_addKernel (zhD h6 50 p7 j8) (zhD h6 50 p9 j10) h6  fun v11 h12 =>
zob h12 12 a2 fun _ =>
zmch h12 a2 (M_thrown h12  fun v13 h14 =>
if v13 = v5 then (if v5 = 0 then (zob h14 51 a3 fun p15 =>
zix (zhL h14 51 p15) 0 fun j16 =>
if (zlcmp (zhD h14 51 p15 j16) v11) = 0 then Lw_law_273 kr r28 a0 a1 a2 a3 a4 a5 h14
else kr 0 h14)
else Lw_law_273 kr r28 a0 a1 a2 a3 a4 a5 h14)
else kr 0 h14))
def Lw_law_379 {ρ : Type} (kr : Int → zH → Option ρ) (r28 : Int → Int → Int → Int → Int → Int → zH → Option ρ) (a0 a1 a2 a3 a4 a5 : Int) (h : zH) : Option ρ :=
Lw_law_2355 kr r28 a0 a1 a2 a3 a4 a5 h
def Lw_law_276 {ρ : Type} (kr : Int → zH → Option ρ) (r28 : Int → Int → Int → Int → Int → Int → zH → Option ρ) (a0 a1 a2 a3 a4 a5 : Int) (h : zH) : Option ρ :=
zob h 50 a0 fun p1 =>
zix (zhL h 50 p1) (wr (a5 + 1)) fun j2 =>
zob h 50 a0 fun p3 =>
zix (zhL h 50 p3) (wr (a5 + 2)) fun j4 =>
zob h 50 a0 fun p5 =>
zix (zhL h 50 p5) (wr (a5 + 3)) fun j6 =>
zob h 50 a0 fun p7 =>
zix (zhL h 50 p7) (wr (a5 + 4)) fun j8 =>
zob h 50 a0 fun p9 =>
zix (zhL h 50 p9) (wr (a5 + 5)) fun j10 =>
Lw_code a1 (zhD h 50 p1 j2) ((zhD h 50 p3 j4) % 65536) (zhD h 50 p5 j6) (zhD h 50 p7 j8) (zhD h 50 p9 j10) a3 h  fun v11 h12 =>
zob h12 50 a0 fun p13 =>
zix (zhL h12 50 p13) (wr (a5 + 1)) fun j14 =>
zob h12 50 a0 fun p15 =>
zix (zhL h12 50 p15) (wr (a5 + 2)) fun j16 =>
zob h12 50 a0 fun p17 =>
zix (zhL h12 50 p17) (wr (a5 + 3)) fun j18 =>
zob h12 50 a0 fun p19 =>
zix (zhL h12 50 p19) (wr (a5 + 4)) fun j20 =>
zob h12 50 a0 fun p21 =>
zix (zhL h12 50 p21) (wr (a5 + 5)) fun j22 =>
zob h12 12 a2 fun _ =>
zmch h12 a2 (M_code (zhD h12 50 p13 j14) ((zhD h12 50 p15 j16) % 65536) (zhD h12 50 p17 j18) (zhD h12 50 p19 j20) (zhD h12 50 p21 j22) h12  fun v23 h24 =>
zob h24 12 a2 fun _ =>
zmch h24 a2 (M_thrown h24  fun v25 h26 =>
if v25 = v11 then (if v11 = 0 then (zob h26 51 a3 fun p27 =>
zix (zhL h26 51 p27) 0 fun j28 =>
if (zlcmp (zhD h26 51 p27 j28) v23) = 0 then Lw_law_379 kr r28 a0 a1 a2 a3 a4 a5 h26
else kr 0 h26)
else Lw_law_379 kr r28 a0 a1 a2 a3 a4 a5 h26)
else kr 0 h26))
def Lw_law_447 {ρ : Type} (kr : Int → zH → Option ρ) (r28 : Int → Int → Int → Int → Int → Int → zH → Option ρ) (a0 a1 a2 a3 a4 a5 : Int) (h : zH) : Option ρ :=
Lw_law_2355 kr r28 a0 a1 a2 a3 a4 a5 h
def Lw_law_382 {ρ : Type} (kr : Int → zH → Option ρ) (r28 : Int → Int → Int → Int → Int → Int → zH → Option ρ) (a0 a1 a2 a3 a4 a5 : Int) (h : zH) : Option ρ :=
zob h 50 a0 fun p1 =>
zix (zhL h 50 p1) (wr (a5 + 1)) fun j2 =>
zob h 50 a0 fun p3 =>
zix (zhL h 50 p3) (wr (a5 + 2)) fun j4 =>
Lw_fits a1 (zhD h 50 p1 j2) (zhD h 50 p3 j4) a3 h  fun v5 h6 =>
zob h6 50 a0 fun p7 =>
zix (zhL h6 50 p7) (wr (a5 + 1)) fun j8 =>
zob h6 50 a0 fun p9 =>
zix (zhL h6 50 p9) (wr (a5 + 2)) fun j10 =>
zob h6 12 a2 fun _ =>
zmch h6 a2 (M_fits (zhD h6 50 p7 j8) (zhD h6 50 p9 j10) h6  fun v11 h12 =>
zob h12 12 a2 fun _ =>
zmch h12 a2 (M_thrown h12  fun v13 h14 =>
if v13 = v5 then (if v5 = 0 then (zob h14 51 a3 fun p15 =>
zix (zhL h14 51 p15) 0 fun j16 =>
if (zlcmp (zhD h14 51 p15 j16) v11) = 0 then Lw_law_447 kr r28 a0 a1 a2 a3 a4 a5 h14
else kr 0 h14)
else Lw_law_447 kr r28 a0 a1 a2 a3 a4 a5 h14)
else kr 0 h14))
def Lw_law_515 {ρ : Type} (kr : Int → zH → Option ρ) (r28 : Int → Int → Int → Int → Int → Int → zH → Option ρ) (a0 a1 a2 a3 a4 a5 : Int) (h : zH) : Option ρ :=
Lw_law_2355 kr r28 a0 a1 a2 a3 a4 a5 h
def Lw_law_450 {ρ : Type} (kr : Int → zH → Option ρ) (r28 : Int → Int → Int → Int → Int → Int → zH → Option ρ) (a0 a1 a2 a3 a4 a5 : Int) (h : zH) : Option ρ :=
zob h 50 a0 fun p1 =>
zix (zhL h 50 p1) (wr (a5 + 1)) fun j2 =>
zob h 50 a0 fun p3 =>
zix (zhL h 50 p3) (wr (a5 + 2)) fun j4 =>
Lw_poke a1 (zhD h 50 p1 j2) (zhD h 50 p3 j4) a3 h  fun v5 h6 =>
zob h6 50 a0 fun p7 =>
zix (zhL h6 50 p7) (wr (a5 + 1)) fun j8 =>
zob h6 50 a0 fun p9 =>
zix (zhL h6 50 p9) (wr (a5 + 2)) fun j10 =>
zob h6 12 a2 fun _ =>
zmch h6 a2 (M_poke (zhD h6 50 p7 j8) (zhD h6 50 p9 j10) h6  fun v11 h12 =>
zob h12 12 a2 fun _ =>
zmch h12 a2 (M_thrown h12  fun v13 h14 =>
if v13 = v5 then (if v5 = 0 then (zob h14 51 a3 fun p15 =>
zix (zhL h14 51 p15) 0 fun j16 =>
if (zlcmp (zhD h14 51 p15 j16) v11) = 0 then Lw_law_515 kr r28 a0 a1 a2 a3 a4 a5 h14
else kr 0 h14)
else Lw_law_515 kr r28 a0 a1 a2 a3 a4 a5 h14)
else kr 0 h14))
def Lw_law_571 {ρ : Type} (kr : Int → zH → Option ρ) (r28 : Int → Int → Int → Int → Int → Int → zH → Option ρ) (a0 a1 a2 a3 a4 a5 : Int) (h : zH) : Option ρ :=
Lw_law_2355 kr r28 a0 a1 a2 a3 a4 a5 h
def Lw_law_518 {ρ : Type} (kr : Int → zH → Option ρ) (r28 : Int → Int → Int → Int → Int → Int → zH → Option ρ) (a0 a1 a2 a3 a4 a5 : Int) (h : zH) : Option ρ :=
zob h 50 a0 fun p1 =>
zix (zhL h 50 p1) (wr (a5 + 1)) fun j2 =>
Lw_peek a1 (zhD h 50 p1 j2) a3 h  fun v3 h4 =>
zob h4 50 a0 fun p5 =>
zix (zhL h4 50 p5) (wr (a5 + 1)) fun j6 =>
zob h4 12 a2 fun _ =>
zmch h4 a2 (M_peek (zhD h4 50 p5 j6) h4  fun v7 h8 =>
zob h8 12 a2 fun _ =>
zmch h8 a2 (M_thrown h8  fun v9 h10 =>
if v9 = v3 then (if v3 = 0 then (zob h10 51 a3 fun p11 =>
zix (zhL h10 51 p11) 0 fun j12 =>
if (zlcmp (zhD h10 51 p11 j12) v7) = 0 then Lw_law_571 kr r28 a0 a1 a2 a3 a4 a5 h10
else kr 0 h10)
else Lw_law_571 kr r28 a0 a1 a2 a3 a4 a5 h10)
else kr 0 h10))
def Lw_law_675 {ρ : Type} (kr : Int → zH → Option ρ) (r28 : Int → Int → Int → Int → Int → Int → zH → Option ρ) (a0 a1 a2 a3 a4 a5 : Int) (h : zH) : Option ρ :=
Lw_law_2355 kr r28 a0 a1 a2 a3 a4 a5 h
def Lw_law_574 {ρ : Type} (kr : Int → zH → Option ρ) (r28 : Int → Int → Int → Int → Int → Int → zH → Option ρ) (a0 a1 a2 a3 a4 a5 : Int) (h : zH) : Option ρ :=
zob h 50 a0 fun p1 =>
zix (zhL h 50 p1) (wr (a5 + 1)) fun j2 =>
zob h 50 a0 fun p3 =>
zix (zhL h 50 p3) (wr (a5 + 2)) fun j4 =>
zob h 50 a0 fun p5 =>
zix (zhL h 50 p5) (wr (a5 + 3)) fun j6 =>
zob h 50 a0 fun p7 =>
zix (zhL h 50 p7) (wr (a5 + 4)) fun j8 =>
zob h 50 a0 fun p9 =>
zix (zhL h 50 p9) (wr (a5 + 5)) fun j10 =>
Lw_launch a1 (zhD h 50 p1 j2) (zhD h 50 p3 j4) (zhD h 50 p5 j6) (zhD h 50 p7 j8) (zhD h 50 p9 j10) a3 h  fun v11 h12 =>
zob h12 50 a0 fun p13 =>
zix (zhL h12 50 p13) (wr (a5 + 1)) fun j14 =>
zob h12 50 a0 fun p15 =>
zix (zhL h12 50 p15) (wr (a5 + 2)) fun j16 =>
zob h12 50 a0 fun p17 =>
zix (zhL h12 50 p17) (wr (a5 + 3)) fun j18 =>
zob h12 50 a0 fun p19 =>
zix (zhL h12 50 p19) (wr (a5 + 4)) fun j20 =>
zob h12 50 a0 fun p21 =>
zix (zhL h12 50 p21) (wr (a5 + 5)) fun j22 =>
zob h12 12 a2 fun _ =>
zmch h12 a2 (M_launch (zhD h12 50 p13 j14) (zhD h12 50 p15 j16) (zhD h12 50 p17 j18) (zhD h12 50 p19 j20) (zhD h12 50 p21 j22) h12  fun v23 h24 =>
zob h24 12 a2 fun _ =>
zmch h24 a2 (M_thrown h24  fun v25 h26 =>
if v25 = v11 then (if v11 = 0 then (zob h26 51 a3 fun p27 =>
zix (zhL h26 51 p27) 0 fun j28 =>
if (zlcmp (zhD h26 51 p27 j28) v23) = 0 then Lw_law_675 kr r28 a0 a1 a2 a3 a4 a5 h26
else kr 0 h26)
else Lw_law_675 kr r28 a0 a1 a2 a3 a4 a5 h26)
else kr 0 h26))
def Lw_law_779 {ρ : Type} (kr : Int → zH → Option ρ) (r28 : Int → Int → Int → Int → Int → Int → zH → Option ρ) (a0 a1 a2 a3 a4 a5 : Int) (h : zH) : Option ρ :=
Lw_law_2355 kr r28 a0 a1 a2 a3 a4 a5 h
def Lw_law_678 {ρ : Type} (kr : Int → zH → Option ρ) (r28 : Int → Int → Int → Int → Int → Int → zH → Option ρ) (a0 a1 a2 a3 a4 a5 : Int) (h : zH) : Option ρ :=
zob h 50 a0 fun p1 =>
zix (zhL h 50 p1) (wr (a5 + 1)) fun j2 =>
zob h 50 a0 fun p3 =>
zix (zhL h 50 p3) (wr (a5 + 2)) fun j4 =>
zob h 50 a0 fun p5 =>
zix (zhL h 50 p5) (wr (a5 + 3)) fun j6 =>
zob h 50 a0 fun p7 =>
zix (zhL h 50 p7) (wr (a5 + 4)) fun j8 =>
zob h 50 a0 fun p9 =>
zix (zhL h 50 p9) (wr (a5 + 5)) fun j10 =>
Lw_copy a1 (zhD h 50 p1 j2) (zhD h 50 p3 j4) (zhD h 50 p5 j6) (zhD h 50 p7 j8) (zhD h 50 p9 j10) a3 h  fun v11 h12 =>
zob h12 50 a0 fun p13 =>
zix (zhL h12 50 p13) (wr (a5 + 1)) fun j14 =>
zob h12 50 a0 fun p15 =>
zix (zhL h12 50 p15) (wr (a5 + 2)) fun j16 =>
zob h12 50 a0 fun p17 =>
zix (zhL h12 50 p17) (wr (a5 + 3)) fun j18 =>
zob h12 50 a0 fun p19 =>
zix (zhL h12 50 p19) (wr (a5 + 4)) fun j20 =>
zob h12 50 a0 fun p21 =>
zix (zhL h12 50 p21) (wr (a5 + 5)) fun j22 =>
zob h12 12 a2 fun _ =>
zmch h12 a2 (M_copy (zhD h12 50 p13 j14) (zhD h12 50 p15 j16) (zhD h12 50 p17 j18) (zhD h12 50 p19 j20) (zhD h12 50 p21 j22) h12  fun v23 h24 =>
zob h24 12 a2 fun _ =>
zmch h24 a2 (M_thrown h24  fun v25 h26 =>
if v25 = v11 then (if v11 = 0 then (zob h26 51 a3 fun p27 =>
zix (zhL h26 51 p27) 0 fun j28 =>
if (zlcmp (zhD h26 51 p27 j28) v23) = 0 then Lw_law_779 kr r28 a0 a1 a2 a3 a4 a5 h26
else kr 0 h26)
else Lw_law_779 kr r28 a0 a1 a2 a3 a4 a5 h26)
else kr 0 h26))
def Lw_law_782 {ρ : Type} (kr : Int → zH → Option ρ) (r28 : Int → Int → Int → Int → Int → Int → zH → Option ρ) (a0 a1 a2 a3 a4 a5 : Int) (h : zH) : Option ρ :=
zob h 0 a1 fun _ =>
X_launches a1 h  fun v1 h2 =>
zob h2 12 a2 fun _ =>
zmch h2 a2 (M_launches h2  fun v3 h4 =>
if v1 = v3 then Lw_law_2355 kr r28 a0 a1 a2 a3 a4 a5 h4
else kr 0 h4)
def Lw_law_848 {ρ : Type} (kr : Int → zH → Option ρ) (r28 : Int → Int → Int → Int → Int → Int → zH → Option ρ) (a0 a1 a2 a3 a4 a5 : Int) (h : zH) : Option ρ :=
Lw_law_2355 kr r28 a0 a1 a2 a3 a4 a5 h
def Lw_law_795 {ρ : Type} (kr : Int → zH → Option ρ) (r28 : Int → Int → Int → Int → Int → Int → zH → Option ρ) (a0 a1 a2 a3 a4 a5 : Int) (h : zH) : Option ρ :=
zob h 50 a0 fun p1 =>
zix (zhL h 50 p1) (wr (a5 + 1)) fun j2 =>
Lw_state a1 (zhD h 50 p1 j2) a3 h  fun v3 h4 =>
zob h4 50 a0 fun p5 =>
zix (zhL h4 50 p5) (wr (a5 + 1)) fun j6 =>
zob h4 12 a2 fun _ =>
zmch h4 a2 (M_state (zhD h4 50 p5 j6) h4  fun v7 h8 =>
zob h8 12 a2 fun _ =>
zmch h8 a2 (M_thrown h8  fun v9 h10 =>
if v9 = v3 then (if v3 = 0 then (zob h10 51 a3 fun p11 =>
zix (zhL h10 51 p11) 0 fun j12 =>
if (zlcmp (zhD h10 51 p11 j12) v7) = 0 then Lw_law_848 kr r28 a0 a1 a2 a3 a4 a5 h10
else kr 0 h10)
else Lw_law_848 kr r28 a0 a1 a2 a3 a4 a5 h10)
else kr 0 h10))
def Lw_law_904 {ρ : Type} (kr : Int → zH → Option ρ) (r28 : Int → Int → Int → Int → Int → Int → zH → Option ρ) (a0 a1 a2 a3 a4 a5 : Int) (h : zH) : Option ρ :=
Lw_law_2355 kr r28 a0 a1 a2 a3 a4 a5 h
def Lw_law_851 {ρ : Type} (kr : Int → zH → Option ρ) (r28 : Int → Int → Int → Int → Int → Int → zH → Option ρ) (a0 a1 a2 a3 a4 a5 : Int) (h : zH) : Option ρ :=
zob h 50 a0 fun p1 =>
zix (zhL h 50 p1) (wr (a5 + 1)) fun j2 =>
Lw_parent a1 (zhD h 50 p1 j2) a3 h  fun v3 h4 =>
zob h4 50 a0 fun p5 =>
zix (zhL h4 50 p5) (wr (a5 + 1)) fun j6 =>
zob h4 12 a2 fun _ =>
zmch h4 a2 (M_parent (zhD h4 50 p5 j6) h4  fun v7 h8 =>
zob h8 12 a2 fun _ =>
zmch h8 a2 (M_thrown h8  fun v9 h10 =>
if v9 = v3 then (if v3 = 0 then (zob h10 51 a3 fun p11 =>
zix (zhL h10 51 p11) 0 fun j12 =>
if (zlcmp (zhD h10 51 p11 j12) v7) = 0 then Lw_law_904 kr r28 a0 a1 a2 a3 a4 a5 h10
else kr 0 h10)
else Lw_law_904 kr r28 a0 a1 a2 a3 a4 a5 h10)
else kr 0 h10))
def Lw_law_960 {ρ : Type} (kr : Int → zH → Option ρ) (r28 : Int → Int → Int → Int → Int → Int → zH → Option ρ) (a0 a1 a2 a3 a4 a5 : Int) (h : zH) : Option ρ :=
Lw_law_2355 kr r28 a0 a1 a2 a3 a4 a5 h
def Lw_law_907 {ρ : Type} (kr : Int → zH → Option ρ) (r28 : Int → Int → Int → Int → Int → Int → zH → Option ρ) (a0 a1 a2 a3 a4 a5 : Int) (h : zH) : Option ρ :=
zob h 50 a0 fun p1 =>
zix (zhL h 50 p1) (wr (a5 + 1)) fun j2 =>
Lw_given a1 (zhD h 50 p1 j2) a3 h  fun v3 h4 =>
zob h4 50 a0 fun p5 =>
zix (zhL h4 50 p5) (wr (a5 + 1)) fun j6 =>
zob h4 12 a2 fun _ =>
zmch h4 a2 (M_given (zhD h4 50 p5 j6) h4  fun v7 h8 =>
zob h8 12 a2 fun _ =>
zmch h8 a2 (M_thrown h8  fun v9 h10 =>
if v9 = v3 then (if v3 = 0 then (zob h10 51 a3 fun p11 =>
zix (zhL h10 51 p11) 0 fun j12 =>
if (zlcmp (zhD h10 51 p11 j12) v7) = 0 then Lw_law_960 kr r28 a0 a1 a2 a3 a4 a5 h10
else kr 0 h10)
else Lw_law_960 kr r28 a0 a1 a2 a3 a4 a5 h10)
else kr 0 h10))
def Lw_law_1016 {ρ : Type} (kr : Int → zH → Option ρ) (r28 : Int → Int → Int → Int → Int → Int → zH → Option ρ) (a0 a1 a2 a3 a4 a5 : Int) (h : zH) : Option ρ :=
Lw_law_2355 kr r28 a0 a1 a2 a3 a4 a5 h
def Lw_law_963 {ρ : Type} (kr : Int → zH → Option ρ) (r28 : Int → Int → Int → Int → Int → Int → zH → Option ρ) (a0 a1 a2 a3 a4 a5 : Int) (h : zH) : Option ρ :=
zob h 50 a0 fun p1 =>
zix (zhL h 50 p1) (wr (a5 + 1)) fun j2 =>
Lw_step a1 (zhD h 50 p1 j2) a3 h  fun v3 h4 =>
zob h4 50 a0 fun p5 =>
zix (zhL h4 50 p5) (wr (a5 + 1)) fun j6 =>
zob h4 12 a2 fun _ =>
zmch h4 a2 (M_step (zhD h4 50 p5 j6) h4  fun v7 h8 =>
zob h8 12 a2 fun _ =>
zmch h8 a2 (M_thrown h8  fun v9 h10 =>
if v9 = v3 then (if v3 = 0 then (zob h10 51 a3 fun p11 =>
zix (zhL h10 51 p11) 0 fun j12 =>
if (zlcmp (zhD h10 51 p11 j12) v7) = 0 then Lw_law_1016 kr r28 a0 a1 a2 a3 a4 a5 h10
else kr 0 h10)
else Lw_law_1016 kr r28 a0 a1 a2 a3 a4 a5 h10)
else kr 0 h10))
def Lw_law_1072 {ρ : Type} (kr : Int → zH → Option ρ) (r28 : Int → Int → Int → Int → Int → Int → zH → Option ρ) (a0 a1 a2 a3 a4 a5 : Int) (h : zH) : Option ρ :=
Lw_law_2355 kr r28 a0 a1 a2 a3 a4 a5 h
def Lw_law_1019 {ρ : Type} (kr : Int → zH → Option ρ) (r28 : Int → Int → Int → Int → Int → Int → zH → Option ρ) (a0 a1 a2 a3 a4 a5 : Int) (h : zH) : Option ρ :=
zob h 50 a0 fun p1 =>
zix (zhL h 50 p1) (wr (a5 + 1)) fun j2 =>
Lw_run a1 (zhD h 50 p1 j2) a3 h  fun v3 h4 =>
zob h4 50 a0 fun p5 =>
zix (zhL h4 50 p5) (wr (a5 + 1)) fun j6 =>
zob h4 12 a2 fun _ =>
zmch h4 a2 (M_run (zhD h4 50 p5 j6) h4  fun v7 h8 =>
zob h8 12 a2 fun _ =>
zmch h8 a2 (M_thrown h8  fun v9 h10 =>
if v9 = v3 then (if v3 = 0 then (zob h10 51 a3 fun p11 =>
zix (zhL h10 51 p11) 0 fun j12 =>
if (zlcmp (zhD h10 51 p11 j12) v7) = 0 then Lw_law_1072 kr r28 a0 a1 a2 a3 a4 a5 h10
else kr 0 h10)
else Lw_law_1072 kr r28 a0 a1 a2 a3 a4 a5 h10)
else kr 0 h10))
def Lw_law_1130 {ρ : Type} (kr : Int → zH → Option ρ) (r28 : Int → Int → Int → Int → Int → Int → zH → Option ρ) (a0 a1 a2 a3 a4 a5 : Int) (h : zH) : Option ρ :=
Lw_law_2355 kr r28 a0 a1 a2 a3 a4 a5 h
def Lw_law_1075 {ρ : Type} (kr : Int → zH → Option ρ) (r28 : Int → Int → Int → Int → Int → Int → zH → Option ρ) (a0 a1 a2 a3 a4 a5 : Int) (h : zH) : Option ρ :=
zob h 50 a0 fun p1 =>
zix (zhL h 50 p1) (wr (a5 + 1)) fun j2 =>
Lw_setOrder a1 ((zhD h 50 p1 j2) % 65536) a3 h  fun v3 h4 =>
zob h4 50 a0 fun p5 =>
zix (zhL h4 50 p5) (wr (a5 + 1)) fun j6 =>
zob h4 12 a2 fun _ =>
zmch h4 a2 (M_setOrder ((zhD h4 50 p5 j6) % 65536) h4  fun v7 h8 =>
zob h8 12 a2 fun _ =>
zmch h8 a2 (M_thrown h8  fun v9 h10 =>
if v9 = v3 then (if v3 = 0 then (zob h10 51 a3 fun p11 =>
zix (zhL h10 51 p11) 0 fun j12 =>
if (zlcmp (zhD h10 51 p11 j12) v7) = 0 then Lw_law_1130 kr r28 a0 a1 a2 a3 a4 a5 h10
else kr 0 h10)
else Lw_law_1130 kr r28 a0 a1 a2 a3 a4 a5 h10)
else kr 0 h10))
def Lw_law_1133 {ρ : Type} (kr : Int → zH → Option ρ) (r28 : Int → Int → Int → Int → Int → Int → zH → Option ρ) (a0 a1 a2 a3 a4 a5 : Int) (h : zH) : Option ρ :=
zob h 0 a1 fun _ =>
X_cycle a1 h  fun v1 h2 =>
zob h2 12 a2 fun _ =>
zmch h2 a2 (M_cycle h2  fun v3 h4 =>
if v1 = v3 then Lw_law_2355 kr r28 a0 a1 a2 a3 a4 a5 h4
else kr 0 h4)
def Lw_law_1199 {ρ : Type} (kr : Int → zH → Option ρ) (r28 : Int → Int → Int → Int → Int → Int → zH → Option ρ) (a0 a1 a2 a3 a4 a5 : Int) (h : zH) : Option ρ :=
Lw_law_2355 kr r28 a0 a1 a2 a3 a4 a5 h
def Lw_law_1146 {ρ : Type} (kr : Int → zH → Option ρ) (r28 : Int → Int → Int → Int → Int → Int → zH → Option ρ) (a0 a1 a2 a3 a4 a5 : Int) (h : zH) : Option ρ :=
zob h 50 a0 fun p1 =>
zix (zhL h 50 p1) (wr (a5 + 1)) fun j2 =>
Lw_groups a1 (zhD h 50 p1 j2) a3 h  fun v3 h4 =>
zob h4 50 a0 fun p5 =>
zix (zhL h4 50 p5) (wr (a5 + 1)) fun j6 =>
zob h4 12 a2 fun _ =>
zmch h4 a2 (M_groups (zhD h4 50 p5 j6) h4  fun v7 h8 =>
zob h8 12 a2 fun _ =>
zmch h8 a2 (M_thrown h8  fun v9 h10 =>
if v9 = v3 then (if v3 = 0 then (zob h10 51 a3 fun p11 =>
zix (zhL h10 51 p11) 0 fun j12 =>
if (zlcmp (zhD h10 51 p11 j12) v7) = 0 then Lw_law_1199 kr r28 a0 a1 a2 a3 a4 a5 h10
else kr 0 h10)
else Lw_law_1199 kr r28 a0 a1 a2 a3 a4 a5 h10)
else kr 0 h10))
def Lw_law_1267 {ρ : Type} (kr : Int → zH → Option ρ) (r28 : Int → Int → Int → Int → Int → Int → zH → Option ρ) (a0 a1 a2 a3 a4 a5 : Int) (h : zH) : Option ρ :=
Lw_law_2355 kr r28 a0 a1 a2 a3 a4 a5 h
def Lw_law_1202 {ρ : Type} (kr : Int → zH → Option ρ) (r28 : Int → Int → Int → Int → Int → Int → zH → Option ρ) (a0 a1 a2 a3 a4 a5 : Int) (h : zH) : Option ρ :=
zob h 50 a0 fun p1 =>
zix (zhL h 50 p1) (wr (a5 + 1)) fun j2 =>
zob h 50 a0 fun p3 =>
zix (zhL h 50 p3) (wr (a5 + 2)) fun j4 =>
Lw_threadAt a1 (zhD h 50 p1 j2) (zhD h 50 p3 j4) a3 h  fun v5 h6 =>
zob h6 50 a0 fun p7 =>
zix (zhL h6 50 p7) (wr (a5 + 1)) fun j8 =>
zob h6 50 a0 fun p9 =>
zix (zhL h6 50 p9) (wr (a5 + 2)) fun j10 =>
zob h6 12 a2 fun _ =>
zmch h6 a2 (M_threadAt (zhD h6 50 p7 j8) (zhD h6 50 p9 j10) h6  fun v11 h12 =>
zob h12 12 a2 fun _ =>
zmch h12 a2 (M_thrown h12  fun v13 h14 =>
if v13 = v5 then (if v5 = 0 then (zob h14 51 a3 fun p15 =>
zix (zhL h14 51 p15) 0 fun j16 =>
if (zlcmp (zhD h14 51 p15 j16) v11) = 0 then Lw_law_1267 kr r28 a0 a1 a2 a3 a4 a5 h14
else kr 0 h14)
else Lw_law_1267 kr r28 a0 a1 a2 a3 a4 a5 h14)
else kr 0 h14))
def Lw_law_1335 {ρ : Type} (kr : Int → zH → Option ρ) (r28 : Int → Int → Int → Int → Int → Int → zH → Option ρ) (a0 a1 a2 a3 a4 a5 : Int) (h : zH) : Option ρ :=
Lw_law_2355 kr r28 a0 a1 a2 a3 a4 a5 h
def Lw_law_1270 {ρ : Type} (kr : Int → zH → Option ρ) (r28 : Int → Int → Int → Int → Int → Int → zH → Option ρ) (a0 a1 a2 a3 a4 a5 : Int) (h : zH) : Option ρ :=
zob h 50 a0 fun p1 =>
zix (zhL h 50 p1) (wr (a5 + 1)) fun j2 =>
zob h 50 a0 fun p3 =>
zix (zhL h 50 p3) (wr (a5 + 2)) fun j4 =>
Lw_place a1 (zhD h 50 p1 j2) (zhD h 50 p3 j4) a3 h  fun v5 h6 =>
zob h6 50 a0 fun p7 =>
zix (zhL h6 50 p7) (wr (a5 + 1)) fun j8 =>
zob h6 50 a0 fun p9 =>
zix (zhL h6 50 p9) (wr (a5 + 2)) fun j10 =>
zob h6 12 a2 fun _ =>
zmch h6 a2 (M_place (zhD h6 50 p7 j8) (zhD h6 50 p9 j10) h6  fun v11 h12 =>
zob h12 12 a2 fun _ =>
zmch h12 a2 (M_thrown h12  fun v13 h14 =>
if v13 = v5 then (if v5 = 0 then (zob h14 51 a3 fun p15 =>
zix (zhL h14 51 p15) 0 fun j16 =>
if (zlcmp (zhD h14 51 p15 j16) v11) = 0 then Lw_law_1335 kr r28 a0 a1 a2 a3 a4 a5 h14
else kr 0 h14)
else Lw_law_1335 kr r28 a0 a1 a2 a3 a4 a5 h14)
else kr 0 h14))
def Lw_law_1403 {ρ : Type} (kr : Int → zH → Option ρ) (r28 : Int → Int → Int → Int → Int → Int → zH → Option ρ) (a0 a1 a2 a3 a4 a5 : Int) (h : zH) : Option ρ :=
Lw_law_2355 kr r28 a0 a1 a2 a3 a4 a5 h
def Lw_law_1338 {ρ : Type} (kr : Int → zH → Option ρ) (r28 : Int → Int → Int → Int → Int → Int → zH → Option ρ) (a0 a1 a2 a3 a4 a5 : Int) (h : zH) : Option ρ :=
zob h 50 a0 fun p1 =>
zix (zhL h 50 p1) (wr (a5 + 1)) fun j2 =>
zob h 50 a0 fun p3 =>
zix (zhL h 50 p3) (wr (a5 + 2)) fun j4 =>
Lw_mask a1 (zhD h 50 p1 j2) (zhD h 50 p3 j4) a3 h  fun v5 h6 =>
zob h6 50 a0 fun p7 =>
zix (zhL h6 50 p7) (wr (a5 + 1)) fun j8 =>
zob h6 50 a0 fun p9 =>
zix (zhL h6 50 p9) (wr (a5 + 2)) fun j10 =>
zob h6 12 a2 fun _ =>
zmch h6 a2 (M_mask (zhD h6 50 p7 j8) (zhD h6 50 p9 j10) h6  fun v11 h12 =>
zob h12 12 a2 fun _ =>
zmch h12 a2 (M_thrown h12  fun v13 h14 =>
if v13 = v5 then (if v5 = 0 then (zob h14 51 a3 fun p15 =>
zix (zhL h14 51 p15) 0 fun j16 =>
if (zlcmp (zhD h14 51 p15 j16) v11) = 0 then Lw_law_1403 kr r28 a0 a1 a2 a3 a4 a5 h14
else kr 0 h14)
else Lw_law_1403 kr r28 a0 a1 a2 a3 a4 a5 h14)
else kr 0 h14))
def Lw_law_1471 {ρ : Type} (kr : Int → zH → Option ρ) (r28 : Int → Int → Int → Int → Int → Int → zH → Option ρ) (a0 a1 a2 a3 a4 a5 : Int) (h : zH) : Option ρ :=
Lw_law_2355 kr r28 a0 a1 a2 a3 a4 a5 h
def Lw_law_1406 {ρ : Type} (kr : Int → zH → Option ρ) (r28 : Int → Int → Int → Int → Int → Int → zH → Option ρ) (a0 a1 a2 a3 a4 a5 : Int) (h : zH) : Option ρ :=
zob h 50 a0 fun p1 =>
zix (zhL h 50 p1) (wr (a5 + 1)) fun j2 =>
zob h 50 a0 fun p3 =>
zix (zhL h 50 p3) (wr (a5 + 2)) fun j4 =>
Lw_places a1 (zhD h 50 p1 j2) (zhD h 50 p3 j4) a3 h  fun v5 h6 =>
zob h6 50 a0 fun p7 =>
zix (zhL h6 50 p7) (wr (a5 + 1)) fun j8 =>
zob h6 50 a0 fun p9 =>
zix (zhL h6 50 p9) (wr (a5 + 2)) fun j10 =>
zob h6 12 a2 fun _ =>
zmch h6 a2 (M_places (zhD h6 50 p7 j8) (zhD h6 50 p9 j10) h6  fun v11 h12 =>
zob h12 12 a2 fun _ =>
zmch h12 a2 (M_thrown h12  fun v13 h14 =>
if v13 = v5 then (if v5 = 0 then (zob h14 51 a3 fun p15 =>
zix (zhL h14 51 p15) 0 fun j16 =>
if (zlcmp (zhD h14 51 p15 j16) v11) = 0 then Lw_law_1471 kr r28 a0 a1 a2 a3 a4 a5 h14
else kr 0 h14)
else Lw_law_1471 kr r28 a0 a1 a2 a3 a4 a5 h14)
else kr 0 h14))
def Lw_law_1539 {ρ : Type} (kr : Int → zH → Option ρ) (r28 : Int → Int → Int → Int → Int → Int → zH → Option ρ) (a0 a1 a2 a3 a4 a5 : Int) (h : zH) : Option ρ :=
Lw_law_2355 kr r28 a0 a1 a2 a3 a4 a5 h
def Lw_law_1474 {ρ : Type} (kr : Int → zH → Option ρ) (r28 : Int → Int → Int → Int → Int → Int → zH → Option ρ) (a0 a1 a2 a3 a4 a5 : Int) (h : zH) : Option ρ :=
zob h 50 a0 fun p1 =>
zix (zhL h 50 p1) (wr (a5 + 1)) fun j2 =>
zob h 50 a0 fun p3 =>
zix (zhL h 50 p3) (wr (a5 + 2)) fun j4 =>
Lw_reason a1 (zhD h 50 p1 j2) (zhD h 50 p3 j4) a3 h  fun v5 h6 =>
zob h6 50 a0 fun p7 =>
zix (zhL h6 50 p7) (wr (a5 + 1)) fun j8 =>
zob h6 50 a0 fun p9 =>
zix (zhL h6 50 p9) (wr (a5 + 2)) fun j10 =>
zob h6 12 a2 fun _ =>
zmch h6 a2 (M_reason (zhD h6 50 p7 j8) (zhD h6 50 p9 j10) h6  fun v11 h12 =>
zob h12 12 a2 fun _ =>
zmch h12 a2 (M_thrown h12  fun v13 h14 =>
if v13 = v5 then (if v5 = 0 then (zob h14 51 a3 fun p15 =>
zix (zhL h14 51 p15) 0 fun j16 =>
if (zlcmp (zhD h14 51 p15 j16) v11) = 0 then Lw_law_1539 kr r28 a0 a1 a2 a3 a4 a5 h14
else kr 0 h14)
else Lw_law_1539 kr r28 a0 a1 a2 a3 a4 a5 h14)
else kr 0 h14))
def Lw_law_1631 {ρ : Type} (kr : Int → zH → Option ρ) (r28 : Int → Int → Int → Int → Int → Int → zH → Option ρ) (a0 a1 a2 a3 a4 a5 : Int) (h : zH) : Option ρ :=
Lw_law_2355 kr r28 a0 a1 a2 a3 a4 a5 h
def Lw_law_1542 {ρ : Type} (kr : Int → zH → Option ρ) (r28 : Int → Int → Int → Int → Int → Int → zH → Option ρ) (a0 a1 a2 a3 a4 a5 : Int) (h : zH) : Option ρ :=
zob h 50 a0 fun p1 =>
zix (zhL h 50 p1) (wr (a5 + 1)) fun j2 =>
zob h 50 a0 fun p3 =>
zix (zhL h 50 p3) (wr (a5 + 2)) fun j4 =>
zob h 50 a0 fun p5 =>
zix (zhL h 50 p5) (wr (a5 + 3)) fun j6 =>
zob h 50 a0 fun p7 =>
zix (zhL h 50 p7) (wr (a5 + 4)) fun j8 =>
Lw_register a1 (zhD h 50 p1 j2) (zhD h 50 p3 j4) (zhD h 50 p5 j6) (zhD h 50 p7 j8) a3 h  fun v9 h10 =>
zob h10 50 a0 fun p11 =>
zix (zhL h10 50 p11) (wr (a5 + 1)) fun j12 =>
zob h10 50 a0 fun p13 =>
zix (zhL h10 50 p13) (wr (a5 + 2)) fun j14 =>
zob h10 50 a0 fun p15 =>
zix (zhL h10 50 p15) (wr (a5 + 3)) fun j16 =>
zob h10 50 a0 fun p17 =>
zix (zhL h10 50 p17) (wr (a5 + 4)) fun j18 =>
zob h10 12 a2 fun _ =>
zmch h10 a2 (M_register (zhD h10 50 p11 j12) (zhD h10 50 p13 j14) (zhD h10 50 p15 j16) (zhD h10 50 p17 j18) h10  fun v19 h20 =>
zob h20 12 a2 fun _ =>
zmch h20 a2 (M_thrown h20  fun v21 h22 =>
if v21 = v9 then (if v9 = 0 then (zob h22 51 a3 fun p23 =>
zix (zhL h22 51 p23) 0 fun j24 =>
if (zlcmp (zhD h22 51 p23 j24) v19) = 0 then Lw_law_1631 kr r28 a0 a1 a2 a3 a4 a5 h22
else kr 0 h22)
else Lw_law_1631 kr r28 a0 a1 a2 a3 a4 a5 h22)
else kr 0 h22))
def Lw_law_1711 {ρ : Type} (kr : Int → zH → Option ρ) (r28 : Int → Int → Int → Int → Int → Int → zH → Option ρ) (a0 a1 a2 a3 a4 a5 : Int) (h : zH) : Option ρ :=
Lw_law_2355 kr r28 a0 a1 a2 a3 a4 a5 h
def Lw_law_1634 {ρ : Type} (kr : Int → zH → Option ρ) (r28 : Int → Int → Int → Int → Int → Int → zH → Option ρ) (a0 a1 a2 a3 a4 a5 : Int) (h : zH) : Option ρ :=
zob h 50 a0 fun p1 =>
zix (zhL h 50 p1) (wr (a5 + 1)) fun j2 =>
zob h 50 a0 fun p3 =>
zix (zhL h 50 p3) (wr (a5 + 2)) fun j4 =>
zob h 50 a0 fun p5 =>
zix (zhL h 50 p5) (wr (a5 + 3)) fun j6 =>
Lw_shared a1 (zhD h 50 p1 j2) (zhD h 50 p3 j4) (zhD h 50 p5 j6) a3 h  fun v7 h8 =>
zob h8 50 a0 fun p9 =>
zix (zhL h8 50 p9) (wr (a5 + 1)) fun j10 =>
zob h8 50 a0 fun p11 =>
zix (zhL h8 50 p11) (wr (a5 + 2)) fun j12 =>
zob h8 50 a0 fun p13 =>
zix (zhL h8 50 p13) (wr (a5 + 3)) fun j14 =>
zob h8 12 a2 fun _ =>
zmch h8 a2 (M_shared (zhD h8 50 p9 j10) (zhD h8 50 p11 j12) (zhD h8 50 p13 j14) h8  fun v15 h16 =>
zob h16 12 a2 fun _ =>
zmch h16 a2 (M_thrown h16  fun v17 h18 =>
if v17 = v7 then (if v7 = 0 then (zob h18 51 a3 fun p19 =>
zix (zhL h18 51 p19) 0 fun j20 =>
if (zlcmp (zhD h18 51 p19 j20) v15) = 0 then Lw_law_1711 kr r28 a0 a1 a2 a3 a4 a5 h18
else kr 0 h18)
else Lw_law_1711 kr r28 a0 a1 a2 a3 a4 a5 h18)
else kr 0 h18))
def Lw_law_1779 {ρ : Type} (kr : Int → zH → Option ρ) (r28 : Int → Int → Int → Int → Int → Int → zH → Option ρ) (a0 a1 a2 a3 a4 a5 : Int) (h : zH) : Option ρ :=
Lw_law_2355 kr r28 a0 a1 a2 a3 a4 a5 h
def Lw_law_1714 {ρ : Type} (kr : Int → zH → Option ρ) (r28 : Int → Int → Int → Int → Int → Int → zH → Option ρ) (a0 a1 a2 a3 a4 a5 : Int) (h : zH) : Option ρ :=
zob h 50 a0 fun p1 =>
zix (zhL h 50 p1) (wr (a5 + 1)) fun j2 =>
zob h 50 a0 fun p3 =>
zix (zhL h 50 p3) (wr (a5 + 2)) fun j4 =>
Lw_buffered a1 (zhD h 50 p1 j2) (zhD h 50 p3 j4) a3 h  fun v5 h6 =>
zob h6 50 a0 fun p7 =>
zix (zhL h6 50 p7) (wr (a5 + 1)) fun j8 =>
zob h6 50 a0 fun p9 =>
zix (zhL h6 50 p9) (wr (a5 + 2)) fun j10 =>
zob h6 12 a2 fun _ =>
zmch h6 a2 (M_buffered (zhD h6 50 p7 j8) (zhD h6 50 p9 j10) h6  fun v11 h12 =>
zob h12 12 a2 fun _ =>
zmch h12 a2 (M_thrown h12  fun v13 h14 =>
if v13 = v5 then (if v5 = 0 then (zob h14 51 a3 fun p15 =>
zix (zhL h14 51 p15) 0 fun j16 =>
if (zlcmp (zhD h14 51 p15 j16) v11) = 0 then Lw_law_1779 kr r28 a0 a1 a2 a3 a4 a5 h14
else kr 0 h14)
else Lw_law_1779 kr r28 a0 a1 a2 a3 a4 a5 h14)
else kr 0 h14))
def Lw_law_1835 {ρ : Type} (kr : Int → zH → Option ρ) (r28 : Int → Int → Int → Int → Int → Int → zH → Option ρ) (a0 a1 a2 a3 a4 a5 : Int) (h : zH) : Option ρ :=
Lw_law_2355 kr r28 a0 a1 a2 a3 a4 a5 h
def Lw_law_1782 {ρ : Type} (kr : Int → zH → Option ρ) (r28 : Int → Int → Int → Int → Int → Int → zH → Option ρ) (a0 a1 a2 a3 a4 a5 : Int) (h : zH) : Option ρ :=
zob h 50 a0 fun p1 =>
zix (zhL h 50 p1) (wr (a5 + 1)) fun j2 =>
Lw_fault a1 (zhD h 50 p1 j2) a3 h  fun v3 h4 =>
zob h4 50 a0 fun p5 =>
zix (zhL h4 50 p5) (wr (a5 + 1)) fun j6 =>
zob h4 12 a2 fun _ =>
zmch h4 a2 (M_fault (zhD h4 50 p5 j6) h4  fun v7 h8 =>
zob h8 12 a2 fun _ =>
zmch h8 a2 (M_thrown h8  fun v9 h10 =>
if v9 = v3 then (if v3 = 0 then (zob h10 51 a3 fun p11 =>
zix (zhL h10 51 p11) 0 fun j12 =>
if (zlcmp (zhD h10 51 p11 j12) v7) = 0 then Lw_law_1835 kr r28 a0 a1 a2 a3 a4 a5 h10
else kr 0 h10)
else Lw_law_1835 kr r28 a0 a1 a2 a3 a4 a5 h10)
else kr 0 h10))
def Lw_law_1891 {ρ : Type} (kr : Int → zH → Option ρ) (r28 : Int → Int → Int → Int → Int → Int → zH → Option ρ) (a0 a1 a2 a3 a4 a5 : Int) (h : zH) : Option ρ :=
Lw_law_2355 kr r28 a0 a1 a2 a3 a4 a5 h
def Lw_law_1838 {ρ : Type} (kr : Int → zH → Option ρ) (r28 : Int → Int → Int → Int → Int → Int → zH → Option ρ) (a0 a1 a2 a3 a4 a5 : Int) (h : zH) : Option ρ :=
zob h 50 a0 fun p1 =>
zix (zhL h 50 p1) (wr (a5 + 1)) fun j2 =>
Lw_faultAt a1 (zhD h 50 p1 j2) a3 h  fun v3 h4 =>
zob h4 50 a0 fun p5 =>
zix (zhL h4 50 p5) (wr (a5 + 1)) fun j6 =>
zob h4 12 a2 fun _ =>
zmch h4 a2 (M_faultAt (zhD h4 50 p5 j6) h4  fun v7 h8 =>
zob h8 12 a2 fun _ =>
zmch h8 a2 (M_thrown h8  fun v9 h10 =>
if v9 = v3 then (if v3 = 0 then (zob h10 51 a3 fun p11 =>
zix (zhL h10 51 p11) 0 fun j12 =>
if (zlcmp (zhD h10 51 p11 j12) v7) = 0 then Lw_law_1891 kr r28 a0 a1 a2 a3 a4 a5 h10
else kr 0 h10)
else Lw_law_1891 kr r28 a0 a1 a2 a3 a4 a5 h10)
else kr 0 h10))
def Lw_law_1966 {ρ : Type} (kr : Int → zH → Option ρ) (r28 : Int → Int → Int → Int → Int → Int → zH → Option ρ) (a0 a1 a2 a3 a4 a5 : Int) (h : zH) : Option ρ :=
Lw_law_2355 kr r28 a0 a1 a2 a3 a4 a5 h
def Lw_law_1960 {ρ : Type} (kr : Int → zH → Option ρ) (r28 : Int → Int → Int → Int → Int → Int → zH → Option ρ) (a0 a1 a2 a3 a4 a5 t0 t1 : Int) (h : zH) : Option ρ :=
if (zlcmp t1 t0) = 0 then Lw_law_1966 kr r28 a0 a1 a2 a3 a4 a5 h
else kr 0 h
def Lw_law_1894 {ρ : Type} (kr : Int → zH → Option ρ) (r28 : Int → Int → Int → Int → Int → Int → zH → Option ρ) (a0 a1 a2 a3 a4 a5 : Int) (h : zH) : Option ρ :=
zob h 50 a0 fun p1 =>
zix (zhL h 50 p1) (wr (a5 + 1)) fun j2 =>
zob h 50 a0 fun p3 =>
zix (zhL h 50 p3) (wr (a5 + 2)) fun j4 =>
Lw_isRacing a1 (zhD h 50 p1 j2) (zhD h 50 p3 j4) a3 h  fun v5 h6 =>
zob h6 50 a0 fun p7 =>
zix (zhL h6 50 p7) (wr (a5 + 1)) fun j8 =>
zob h6 50 a0 fun p9 =>
zix (zhL h6 50 p9) (wr (a5 + 2)) fun j10 =>
zob h6 12 a2 fun _ =>
zmch h6 a2 (M_isRacing (zhD h6 50 p7 j8) (zhD h6 50 p9 j10) h6  fun v11 h12 =>
zob h12 12 a2 fun _ =>
zmch h12 a2 (M_thrown h12  fun v13 h14 =>
if v13 = v5 then (if v5 = 0 then (zob h14 51 a3 fun p15 =>
zix (zhL h14 51 p15) 0 fun j16 =>
if v11 = 0 then Lw_law_1960 kr r28 a0 a1 a2 a3 a4 a5 0 (zhD h14 51 p15 j16) h14
else Lw_law_1960 kr r28 a0 a1 a2 a3 a4 a5 1 (zhD h14 51 p15 j16) h14)
else Lw_law_1966 kr r28 a0 a1 a2 a3 a4 a5 h14)
else kr 0 h14))
def Lw_law_2022 {ρ : Type} (kr : Int → zH → Option ρ) (r28 : Int → Int → Int → Int → Int → Int → zH → Option ρ) (a0 a1 a2 a3 a4 a5 : Int) (h : zH) : Option ρ :=
Lw_law_2355 kr r28 a0 a1 a2 a3 a4 a5 h
def Lw_law_1969 {ρ : Type} (kr : Int → zH → Option ρ) (r28 : Int → Int → Int → Int → Int → Int → zH → Option ρ) (a0 a1 a2 a3 a4 a5 : Int) (h : zH) : Option ρ :=
zob h 50 a0 fun p1 =>
zix (zhL h 50 p1) (wr (a5 + 1)) fun j2 =>
Lw_races a1 (zhD h 50 p1 j2) a3 h  fun v3 h4 =>
zob h4 50 a0 fun p5 =>
zix (zhL h4 50 p5) (wr (a5 + 1)) fun j6 =>
zob h4 12 a2 fun _ =>
zmch h4 a2 (M_races (zhD h4 50 p5 j6) h4  fun v7 h8 =>
zob h8 12 a2 fun _ =>
zmch h8 a2 (M_thrown h8  fun v9 h10 =>
if v9 = v3 then (if v3 = 0 then (zob h10 51 a3 fun p11 =>
zix (zhL h10 51 p11) 0 fun j12 =>
if (zlcmp (zhD h10 51 p11 j12) v7) = 0 then Lw_law_2022 kr r28 a0 a1 a2 a3 a4 a5 h10
else kr 0 h10)
else Lw_law_2022 kr r28 a0 a1 a2 a3 a4 a5 h10)
else kr 0 h10))
def Lw_law_2142 {ρ : Type} (kr : Int → zH → Option ρ) (r28 : Int → Int → Int → Int → Int → Int → zH → Option ρ) (a0 a1 a2 a3 a4 a5 : Int) (h : zH) : Option ρ :=
Lw_law_2355 kr r28 a0 a1 a2 a3 a4 a5 h
def Lw_law_2103 {ρ : Type} (kr : Int → zH → Option ρ) (r28 : Int → Int → Int → Int → Int → Int → zH → Option ρ) (a0 a1 a2 a3 a4 a5 a6 t0 t1 t2 t3 t4 : Int) (h : zH) : Option ρ :=
zob h 50 a0 fun p1 =>
zix (zhL h 50 p1) (wr (a5 + 5)) fun j2 =>
zob h 12 t4 fun _ =>
zmch h t4 (M_serial t3 t2 t1 t0 (zhD h 50 p1 j2) h  fun v3 h4 =>
zob h4 12 a2 fun _ =>
zmch h4 a2 (M_thrown h4  fun v5 h6 =>
if v5 = a6 then (if a6 = 0 then (zob h6 51 a3 fun p7 =>
zix (zhL h6 51 p7) 0 fun j8 =>
if (zlcmp (zhD h6 51 p7 j8) v3) = 0 then Lw_law_2142 kr r28 a0 a1 a2 a3 a4 a5 h6
else kr 0 h6)
else Lw_law_2142 kr r28 a0 a1 a2 a3 a4 a5 h6)
else kr 0 h6))
def Lw_law_2058 {ρ : Type} (kr : Int → zH → Option ρ) (r28 : Int → Int → Int → Int → Int → Int → zH → Option ρ) (a0 a1 a2 a3 a4 a5 t0 t1 t2 t3 t4 : Int) (h : zH) : Option ρ :=
zob h 50 a0 fun p1 =>
zix (zhL h 50 p1) (wr (a5 + 5)) fun j2 =>
Lw_serial t4 t3 t2 t1 t0 (zhD h 50 p1 j2) a3 h  fun v3 h4 =>
zob h4 50 a0 fun p5 =>
zix (zhL h4 50 p5) (wr (a5 + 1)) fun j6 =>
zob h4 50 a0 fun p7 =>
zix (zhL h4 50 p7) (wr (a5 + 2)) fun j8 =>
zob h4 50 a0 fun p9 =>
zix (zhL h4 50 p9) (wr (a5 + 3)) fun j10 =>
zob h4 50 a0 fun p11 =>
zix (zhL h4 50 p11) (wr (a5 + 4)) fun j12 =>
if (zhD h4 50 p11 j12) = 0 then Lw_law_2103 kr r28 a0 a1 a2 a3 a4 a5 v3 0 (zhD h4 50 p9 j10) (zhD h4 50 p7 j8) (zhD h4 50 p5 j6) a2 h4
else Lw_law_2103 kr r28 a0 a1 a2 a3 a4 a5 v3 1 (zhD h4 50 p9 j10) (zhD h4 50 p7 j8) (zhD h4 50 p5 j6) a2 h4
def Lw_law_2025 {ρ : Type} (kr : Int → zH → Option ρ) (r28 : Int → Int → Int → Int → Int → Int → zH → Option ρ) (a0 a1 a2 a3 a4 a5 : Int) (h : zH) : Option ρ :=
zob h 50 a0 fun p1 =>
zix (zhL h 50 p1) (wr (a5 + 1)) fun j2 =>
zob h 50 a0 fun p3 =>
zix (zhL h 50 p3) (wr (a5 + 2)) fun j4 =>
zob h 50 a0 fun p5 =>
zix (zhL h 50 p5) (wr (a5 + 3)) fun j6 =>
zob h 50 a0 fun p7 =>
zix (zhL h 50 p7) (wr (a5 + 4)) fun j8 =>
if (zhD h 50 p7 j8) = 0 then Lw_law_2058 kr r28 a0 a1 a2 a3 a4 a5 0 (zhD h 50 p5 j6) (zhD h 50 p3 j4) (zhD h 50 p1 j2) a1 h
else Lw_law_2058 kr r28 a0 a1 a2 a3 a4 a5 1 (zhD h 50 p5 j6) (zhD h 50 p3 j4) (zhD h 50 p1 j2) a1 h
def Lw_law_2145 {ρ : Type} (kr : Int → zH → Option ρ) (r28 : Int → Int → Int → Int → Int → Int → zH → Option ρ) (a0 a1 a2 a3 a4 a5 : Int) (h : zH) : Option ρ :=
zob h 0 a1 fun _ =>
X_lanes a1 h  fun v1 h2 =>
zob h2 12 a2 fun _ =>
zmch h2 a2 (M_lanes h2  fun v3 h4 =>
if (zlcmp v1 v3) = 0 then Lw_law_2355 kr r28 a0 a1 a2 a3 a4 a5 h4
else kr 0 h4)
def Lw_law_2159 {ρ : Type} (kr : Int → zH → Option ρ) (r28 : Int → Int → Int → Int → Int → Int → zH → Option ρ) (a0 a1 a2 a3 a4 a5 : Int) (h : zH) : Option ρ :=
zob h 0 a1 fun _ =>
X_misses a1 h  fun v1 h2 =>
zob h2 12 a2 fun _ =>
zmch h2 a2 (M_misses h2  fun v3 h4 =>
if v1 = v3 then Lw_law_2355 kr r28 a0 a1 a2 a3 a4 a5 h4
else kr 0 h4)
def Lw_law_2172 {ρ : Type} (kr : Int → zH → Option ρ) (r28 : Int → Int → Int → Int → Int → Int → zH → Option ρ) (a0 a1 a2 a3 a4 a5 : Int) (h : zH) : Option ρ :=
zob h 0 a1 fun _ =>
X_lost a1 h  fun v1 h2 =>
zob h2 12 a2 fun _ =>
zmch h2 a2 (M_lost h2  fun v3 h4 =>
if v1 = v3 then Lw_law_2355 kr r28 a0 a1 a2 a3 a4 a5 h4
else kr 0 h4)
def Lw_law_2185 {ρ : Type} (kr : Int → zH → Option ρ) (r28 : Int → Int → Int → Int → Int → Int → zH → Option ρ) (a0 a1 a2 a3 a4 a5 : Int) (h : zH) : Option ρ :=
zob h 0 a1 fun _ =>
X_barriers a1 h  fun v1 h2 =>
zob h2 12 a2 fun _ =>
zmch h2 a2 (M_barriers h2  fun v3 h4 =>
if v1 = v3 then Lw_law_2355 kr r28 a0 a1 a2 a3 a4 a5 h4
else kr 0 h4)
def Lw_law_2198 {ρ : Type} (kr : Int → zH → Option ρ) (r28 : Int → Int → Int → Int → Int → Int → zH → Option ρ) (a0 a1 a2 a3 a4 a5 : Int) (h : zH) : Option ρ :=
zob h 0 a1 fun _ =>
X_refused a1 h  fun v1 h2 =>
zob h2 12 a2 fun _ =>
zmch h2 a2 (M_refused h2  fun v3 h4 =>
if v1 = v3 then Lw_law_2355 kr r28 a0 a1 a2 a3 a4 a5 h4
else kr 0 h4)
def Lw_law_2272 {ρ : Type} (kr : Int → zH → Option ρ) (h : zH) : Option ρ :=
kr 0 h
def Lw_law_2274 {ρ : Type} (kr : Int → zH → Option ρ) (r28 : Int → Int → Int → Int → Int → Int → zH → Option ρ) (a0 a1 a2 a3 a4 a5 : Int) (h : zH) : Option ρ :=
Lw_law_2355 kr r28 a0 a1 a2 a3 a4 a5 h
def Lw_law_2211 {ρ : Type} (kr : Int → zH → Option ρ) (r28 : Int → Int → Int → Int → Int → Int → zH → Option ρ) (a0 a1 a2 a3 a4 a5 : Int) (h : zH) : Option ρ :=
Lw_usedShare a1 a4 h  fun v1 h2 =>
zob h2 12 a2 fun _ =>
zmch h2 a2 (M_usedShare h2  fun v3 h4 =>
zob h4 12 a2 fun _ =>
zmch h4 a2 (M_thrown h4  fun v5 h6 =>
if v5 = v1 then (if v1 = 0 then (zob h6 52 a4 fun p7 =>
zix (zhL h6 52 p7) 0 fun j8 =>
zn64 (FP.f2d (zf32 v3)) fun x9 =>
if (zdcmp (zhD h6 52 p7 j8) x9) = 0 then Lw_law_2274 kr r28 a0 a1 a2 a3 a4 a5 h6
else zob h6 52 a4 fun p10 =>
zix (zhL h6 52 p10) 0 fun j11 =>
zob h6 52 a4 fun p12 =>
zix (zhL h6 52 p12) 0 fun j13 =>
if (zdcmp (zhD h6 52 p10 j11) (zhD h6 52 p12 j13)) = 0 then Lw_law_2272 kr h6
else if (zfcmp v3 v3) = 0 then Lw_law_2272 kr h6
else Lw_law_2274 kr r28 a0 a1 a2 a3 a4 a5 h6)
else Lw_law_2274 kr r28 a0 a1 a2 a3 a4 a5 h6)
else kr 0 h6))
def Lw_law_2337 {ρ : Type} (kr : Int → zH → Option ρ) (h : zH) : Option ρ :=
kr 0 h
def Lw_law_2339 {ρ : Type} (kr : Int → zH → Option ρ) (r28 : Int → Int → Int → Int → Int → Int → zH → Option ρ) (a0 a1 a2 a3 a4 a5 : Int) (h : zH) : Option ρ :=
Lw_law_2355 kr r28 a0 a1 a2 a3 a4 a5 h
def Lw_law_2277 {ρ : Type} (kr : Int → zH → Option ρ) (r28 : Int → Int → Int → Int → Int → Int → zH → Option ρ) (a0 a1 a2 a3 a4 a5 : Int) (h : zH) : Option ρ :=
Lw_meanDelay a1 a4 h  fun v1 h2 =>
zob h2 12 a2 fun _ =>
zmch h2 a2 (M_meanDelay h2  fun v3 h4 =>
zob h4 12 a2 fun _ =>
zmch h4 a2 (M_thrown h4  fun v5 h6 =>
if v5 = v1 then (if v1 = 0 then (zob h6 52 a4 fun p7 =>
zix (zhL h6 52 p7) 0 fun j8 =>
if (zdcmp (zhD h6 52 p7 j8) v3) = 0 then Lw_law_2339 kr r28 a0 a1 a2 a3 a4 a5 h6
else zob h6 52 a4 fun p9 =>
zix (zhL h6 52 p9) 0 fun j10 =>
zob h6 52 a4 fun p11 =>
zix (zhL h6 52 p11) 0 fun j12 =>
if (zdcmp (zhD h6 52 p9 j10) (zhD h6 52 p11 j12)) = 0 then Lw_law_2337 kr h6
else if (zdcmp v3 v3) = 0 then Lw_law_2337 kr h6
else Lw_law_2339 kr r28 a0 a1 a2 a3 a4 a5 h6)
else Lw_law_2339 kr r28 a0 a1 a2 a3 a4 a5 h6)
else kr 0 h6))
def Lw_law_2342 {ρ : Type} (kr : Int → zH → Option ρ) (r28 : Int → Int → Int → Int → Int → Int → zH → Option ρ) (a0 a1 a2 a3 a4 a5 : Int) (h : zH) : Option ρ :=
zob h 0 a1 fun _ =>
X_isSound a1 h  fun v1 h2 =>
zob h2 12 a2 fun _ =>
zmch h2 a2 (M_isSound h2  fun v3 h4 =>
if v1 = v3 then Lw_law_2355 kr r28 a0 a1 a2 a3 a4 a5 h4
else kr 0 h4)
def Lw_law_28b {ρ : Type} (kr : Int → zH → Option ρ) (r28 : Int → Int → Int → Int → Int → Int → zH → Option ρ) (a0 a1 a2 a3 a4 a5 : Int) (h : zH) : Option ρ :=
zob h 50 a0 fun p1 =>
if (wr ((zhL h 50 p1 : Int) - 6)) < a5 then kr 1 h
else zob h 50 a0 fun p2 =>
zix (zhL h 50 p2) a5 fun j3 =>
if (zand (zhD h 50 p2 j3) 63) = 0 then Lw_law_208 kr r28 a0 a1 a2 a3 a4 a5 h
else if (zand (zhD h 50 p2 j3) 63) = 1 then Lw_law_276 kr r28 a0 a1 a2 a3 a4 a5 h
else if (zand (zhD h 50 p2 j3) 63) = 2 then Lw_law_382 kr r28 a0 a1 a2 a3 a4 a5 h
else if (zand (zhD h 50 p2 j3) 63) = 3 then Lw_law_450 kr r28 a0 a1 a2 a3 a4 a5 h
else if (zand (zhD h 50 p2 j3) 63) = 4 then Lw_law_518 kr r28 a0 a1 a2 a3 a4 a5 h
else if (zand (zhD h 50 p2 j3) 63) = 5 then Lw_law_574 kr r28 a0 a1 a2 a3 a4 a5 h
else if (zand (zhD h 50 p2 j3) 63) = 6 then Lw_law_678 kr r28 a0 a1 a2 a3 a4 a5 h
else if (zand (zhD h 50 p2 j3) 63) = 7 then Lw_law_782 kr r28 a0 a1 a2 a3 a4 a5 h
else if (zand (zhD h 50 p2 j3) 63) = 8 then Lw_law_795 kr r28 a0 a1 a2 a3 a4 a5 h
else if (zand (zhD h 50 p2 j3) 63) = 9 then Lw_law_851 kr r28 a0 a1 a2 a3 a4 a5 h
else if (zand (zhD h 50 p2 j3) 63) = 10 then Lw_law_907 kr r28 a0 a1 a2 a3 a4 a5 h
else if (zand (zhD h 50 p2 j3) 63) = 11 then Lw_law_963 kr r28 a0 a1 a2 a3 a4 a5 h
else if (zand (zhD h 50 p2 j3) 63) = 12 then Lw_law_1019 kr r28 a0 a1 a2 a3 a4 a5 h
else if (zand (zhD h 50 p2 j3) 63) = 13 then Lw_law_1075 kr r28 a0 a1 a2 a3 a4 a5 h
else if (zand (zhD h 50 p2 j3) 63) = 14 then Lw_law_1133 kr r28 a0 a1 a2 a3 a4 a5 h
else if (zand (zhD h 50 p2 j3) 63) = 15 then Lw_law_1146 kr r28 a0 a1 a2 a3 a4 a5 h
else if (zand (zhD h 50 p2 j3) 63) = 16 then Lw_law_1202 kr r28 a0 a1 a2 a3 a4 a5 h
else if (zand (zhD h 50 p2 j3) 63) = 17 then Lw_law_1270 kr r28 a0 a1 a2 a3 a4 a5 h
else if (zand (zhD h 50 p2 j3) 63) = 18 then Lw_law_1338 kr r28 a0 a1 a2 a3 a4 a5 h
else if (zand (zhD h 50 p2 j3) 63) = 19 then Lw_law_1406 kr r28 a0 a1 a2 a3 a4 a5 h
else if (zand (zhD h 50 p2 j3) 63) = 20 then Lw_law_1474 kr r28 a0 a1 a2 a3 a4 a5 h
else if (zand (zhD h 50 p2 j3) 63) = 21 then Lw_law_1542 kr r28 a0 a1 a2 a3 a4 a5 h
else if (zand (zhD h 50 p2 j3) 63) = 22 then Lw_law_1634 kr r28 a0 a1 a2 a3 a4 a5 h
else if (zand (zhD h 50 p2 j3) 63) = 23 then Lw_law_1714 kr r28 a0 a1 a2 a3 a4 a5 h
else if (zand (zhD h 50 p2 j3) 63) = 24 then Lw_law_1782 kr r28 a0 a1 a2 a3 a4 a5 h
else if (zand (zhD h 50 p2 j3) 63) = 25 then Lw_law_1838 kr r28 a0 a1 a2 a3 a4 a5 h
else if (zand (zhD h 50 p2 j3) 63) = 26 then Lw_law_1894 kr r28 a0 a1 a2 a3 a4 a5 h
else if (zand (zhD h 50 p2 j3) 63) = 27 then Lw_law_1969 kr r28 a0 a1 a2 a3 a4 a5 h
else if (zand (zhD h 50 p2 j3) 63) = 28 then Lw_law_2025 kr r28 a0 a1 a2 a3 a4 a5 h
else if (zand (zhD h 50 p2 j3) 63) = 29 then Lw_law_2145 kr r28 a0 a1 a2 a3 a4 a5 h
else if (zand (zhD h 50 p2 j3) 63) = 30 then Lw_law_2159 kr r28 a0 a1 a2 a3 a4 a5 h
else if (zand (zhD h 50 p2 j3) 63) = 31 then Lw_law_2172 kr r28 a0 a1 a2 a3 a4 a5 h
else if (zand (zhD h 50 p2 j3) 63) = 32 then Lw_law_2185 kr r28 a0 a1 a2 a3 a4 a5 h
else if (zand (zhD h 50 p2 j3) 63) = 33 then Lw_law_2198 kr r28 a0 a1 a2 a3 a4 a5 h
else if (zand (zhD h 50 p2 j3) 63) = 34 then Lw_law_2211 kr r28 a0 a1 a2 a3 a4 a5 h
else if (zand (zhD h 50 p2 j3) 63) = 35 then Lw_law_2277 kr r28 a0 a1 a2 a3 a4 a5 h
else if (zand (zhD h 50 p2 j3) 63) = 36 then Lw_law_2342 kr r28 a0 a1 a2 a3 a4 a5 h
else Lw_law_2355 kr r28 a0 a1 a2 a3 a4 a5 h
def Lw_law_28 {ρ : Type} (kr : Int → zH → Option ρ) : Int → Int → Int → Int → Int → Int → zH → Option ρ := zit (fun _ _ _ _ _ _ _ => none) (Lw_law_28b kr) zN
def Lw_law {ρ : Type} (a0 : Int) (h : zH) (kr : Int → zH → Option ρ) : Option ρ :=
zlet (znew h 0 0 (znf zPP 0) (fun k => zdef (zft zPP 0 k))) fun h1 =>
zob h1 0 (zhN h 0 : Int) fun _ =>
X_init (zhN h 0 : Int) h1  fun _ h3 =>
zlet (znew h3 12 0 (znf zPP 12) (fun k => zdef (zft zPP 12 k))) fun h4 =>
zob h4 12 (zhN h3 12 : Int) fun _ =>
M_init (zhN h3 12 : Int) h4  fun _ h6 =>
zix 100000 1 fun n7 =>
zlet (znew h6 51 n7 n7 (fun _ => 0)) fun h8 =>
zix 100000 1 fun n9 =>
zlet (znew h8 52 n9 n9 (fun _ => 0)) fun h10 =>
Lw_law_28 kr a0 (zhN h 0 : Int) (zhN h3 12 : Int) (zhN h6 51 : Int) (zhN h8 52 : Int) 0 h10
