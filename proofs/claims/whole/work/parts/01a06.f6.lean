def M_finish_100 {ρ : Type} (kr : Int → zH → Option ρ) (r2 : Int → zH → Option ρ) (r9 : Int → Int → zH → Option ρ) (r62 : Int → Int → Int → Int → zH → Option ρ) (a1 a2 a4 t0 : Int) (h : zH) : Option ρ :=
r62 a1 a2 t0 (wr (a4 + 1)) h
def M_finish_95 {ρ : Type} (kr : Int → zH → Option ρ) (r2 : Int → zH → Option ρ) (r9 : Int → Int → zH → Option ρ) (r62 : Int → Int → Int → Int → zH → Option ρ) (a1 a2 a4 : Int) (h : zH) : Option ρ :=
M_finish_100 kr r2 r9 r62 a1 a2 a4 1 h
def M_finish_99 {ρ : Type} (kr : Int → zH → Option ρ) (r2 : Int → zH → Option ρ) (r9 : Int → Int → zH → Option ρ) (r62 : Int → Int → Int → Int → zH → Option ρ) (a1 a2 a4 : Int) (h : zH) : Option ρ :=
M_finish_100 kr r2 r9 r62 a1 a2 a4 0 h
def M_finish_127 {ρ : Type} (kr : Int → zH → Option ρ) (r2 : Int → zH → Option ρ) (r9 : Int → Int → zH → Option ρ) (a1 a2 t0 t1 : Int) (h : zH) : Option ρ :=
zix 12 t1 fun j1 =>
znar 2 t0 fun x2 =>
zlet (zset h 69 0 j1 x2) fun h3 =>
r9 a1 (wr (a2 + 1)) h3
def M_finish_62b {ρ : Type} (kr : Int → zH → Option ρ) (r2 : Int → zH → Option ρ) (r9 : Int → Int → zH → Option ρ) (r62 : Int → Int → Int → Int → zH → Option ρ) (a1 a2 a3 a4 : Int) (h : zH) : Option ρ :=
if a4 < (zhD h 12 0 13) then (if a3 = 0 then M_finish_99 kr r2 r9 r62 a1 a2 a4 h
else zix 12 a4 fun j2 =>
if (zhD h 76 0 j2) = a2 then (M_isOver a4 h  fun v3 h4 =>
if v3 = 0 then M_finish_99 kr r2 r9 r62 a1 a2 a4 h4
else M_finish_95 kr r2 r9 r62 a1 a2 a4 h4)
else M_finish_95 kr r2 r9 r62 a1 a2 a4 h)
else if a3 = 0 then (zix 12 a2 fun j1 =>
M_finish_127 kr r2 r9 a1 a2 (zhD h 69 0 j1) a2 h)
else M_finish_127 kr r2 r9 a1 a2 100 a2 h
def M_finish_62 {ρ : Type} (kr : Int → zH → Option ρ) (r2 : Int → zH → Option ρ) (r9 : Int → Int → zH → Option ρ) : Int → Int → Int → Int → zH → Option ρ := zit (fun _ _ _ _ _ => none) (M_finish_62b kr r2 r9) zN
def M_finish_58 {ρ : Type} (kr : Int → zH → Option ρ) (r2 : Int → zH → Option ρ) (r9 : Int → Int → zH → Option ρ) (a1 a2 t0 : Int) (h : zH) : Option ρ :=
M_finish_62 kr r2 r9 a1 a2 t0 0 h
def M_finish_57 {ρ : Type} (kr : Int → zH → Option ρ) (r2 : Int → zH → Option ρ) (r9 : Int → Int → zH → Option ρ) (a1 a2 : Int) (h : zH) : Option ρ :=
M_finish_58 kr r2 r9 a1 a2 0 h
def M_finish_9b {ρ : Type} (kr : Int → zH → Option ρ) (r2 : Int → zH → Option ρ) (r9 : Int → Int → zH → Option ρ) (a1 a2 : Int) (h : zH) : Option ρ :=
if a2 < (zhD h 12 0 13) then (zix 12 a2 fun j1 =>
if (zhD h 69 0 j1) = 114 then (zix 12 a2 fun j2 =>
if (zhD h 70 0 j2) = (-1) then M_finish_57 kr r2 r9 a1 a2 h
else zix 12 a2 fun j3 =>
zix 12 a2 fun j4 =>
if (zhD h 79 0 j3) = (zhD h 72 0 j4) then M_finish_58 kr r2 r9 a1 a2 1 h
else M_finish_57 kr r2 r9 a1 a2 h)
else M_finish_57 kr r2 r9 a1 a2 h)
else r2 (wr (a1 + 1)) h
def M_finish_9 {ρ : Type} (kr : Int → zH → Option ρ) (r2 : Int → zH → Option ρ) : Int → Int → zH → Option ρ := zit (fun _ _ _ => none) (M_finish_9b kr r2) zN
def M_finish_2b {ρ : Type} (kr : Int → zH → Option ρ) (r2 : Int → zH → Option ρ) (a1 : Int) (h : zH) : Option ρ :=
if a1 < 3 then M_finish_9 kr r2 a1 0 h
else kr 0 h
def M_finish_2 {ρ : Type} (kr : Int → zH → Option ρ) : Int → zH → Option ρ := zit (fun _ _ => none) (M_finish_2b kr) zN
def M_finish {ρ : Type} (h : zH) (kr : Int → zH → Option ρ) : Option ρ :=
M_finish_2 kr 0 h
def M_blockOf {ρ : Type} (a0 a1 : Int) (h : zH) (kr : Int → zH → Option ρ) : Option ρ :=
kr (wr ((wr (6 * a0)) + a1)) h
def M_groupsOf {ρ : Type} (a1 : Int) (h : zH) (kr : Int → zH → Option ρ) : Option ρ :=
zix 12 a1 fun j1 =>
M_groupsFor (zhD h 73 0 j1) h  fun v2 h3 =>
kr v2 h3
def M_removeGroup_89b {ρ : Type} (kr : Int → zH → Option ρ) (r16 : Int → Int → zH → Option ρ) (r89 : Int → Int → Int → zH → Option ρ) (a1 a3 a4 : Int) (h : zH) : Option ρ :=
if a4 < 4 then (zix 32 (wr ((wr ((wr (4 * a3)) + 4)) + a4)) fun j1 =>
zix 32 (wr ((wr (4 * a3)) + a4)) fun j2 =>
zlet (zset h 98 0 j2 (zhD h 98 0 j1)) fun h3 =>
zix 32 (wr ((wr ((wr (4 * a3)) + 4)) + a4)) fun j4 =>
zix 32 (wr ((wr (4 * a3)) + a4)) fun j5 =>
zlet (zset h3 99 0 j5 (zhD h3 99 0 j4)) fun h6 =>
r89 a1 a3 (wr (a4 + 1)) h6)
else r16 a1 (wr (a3 + 1)) h
def M_removeGroup_89 {ρ : Type} (kr : Int → zH → Option ρ) (r16 : Int → Int → zH → Option ρ) : Int → Int → Int → zH → Option ρ := zit (fun _ _ _ _ => none) (M_removeGroup_89b kr r16) zN
def M_removeGroup_16b {ρ : Type} (kr : Int → zH → Option ρ) (r16 : Int → Int → zH → Option ρ) (a1 a3 : Int) (h : zH) : Option ρ :=
zix 2 a1 fun j1 =>
if a3 < (wr ((wr (4 * a1)) + (zhD h 93 0 j1))) then (zix 8 (wr (a3 + 1)) fun j2 =>
zix 8 a3 fun j3 =>
zlet (zset h 94 0 j3 (zhD h 94 0 j2)) fun h4 =>
zix 8 (wr (a3 + 1)) fun j5 =>
zix 8 a3 fun j6 =>
zlet (zset h4 95 0 j6 (zhD h4 95 0 j5)) fun h7 =>
zix 8 (wr (a3 + 1)) fun j8 =>
zix 8 a3 fun j9 =>
zlet (zset h7 96 0 j9 (zhD h7 96 0 j8)) fun h10 =>
zix 8 (wr (a3 + 1)) fun j11 =>
zix 8 a3 fun j12 =>
zlet (zset h10 97 0 j12 (zhD h10 97 0 j11)) fun h13 =>
M_removeGroup_89 kr r16 a1 a3 0 h13)
else kr 0 h
def M_removeGroup_16 {ρ : Type} (kr : Int → zH → Option ρ) : Int → Int → zH → Option ρ := zit (fun _ _ _ => none) (M_removeGroup_16b kr) zN
def M_removeGroup {ρ : Type} (a1 a2 : Int) (h : zH) (kr : Int → zH → Option ρ) : Option ρ :=
zix 2 a1 fun j1 =>
zix 2 a1 fun j2 =>
zlet (zset h 93 0 j2 (wr ((zhD h 93 0 j1) - 1))) fun h3 =>
M_removeGroup_16 kr a1 (wr ((wr (4 * a1)) + a2)) h3
def M_leave_40 {ρ : Type} (kr : Int → zH → Option ρ) (r16 : Int → Int → Int → zH → Option ρ) (a1 a2 a3 : Int) (h : zH) : Option ρ :=
r16 a1 a2 (wr (a3 + (-1))) h
def M_leave_63 {ρ : Type} (kr : Int → zH → Option ρ) (a1 : Int) (h : zH) : Option ρ :=
zix 72 a1 fun j1 =>
zlet (zset h 87 0 j1 0) fun h2 =>
kr 0 h2
def M_leave_16b {ρ : Type} (kr : Int → zH → Option ρ) (r16 : Int → Int → Int → zH → Option ρ) (a1 a2 a3 : Int) (h : zH) : Option ρ :=
if a3 < 0 then (zix 2 a2 fun j1 =>
if (zhD h 100 0 j1) = a1 then (zix 2 a2 fun j2 =>
zlet (zset h 100 0 j2 (-1)) fun h3 =>
M_leave_63 kr a1 h3)
else M_leave_63 kr a1 h)
else zix 8 (wr ((wr (4 * a2)) + a3)) fun j4 =>
if (zhD h 94 0 j4) = a1 then (M_removeGroup a2 a3 h  fun _ h6 =>
M_leave_40 kr r16 a1 a2 a3 h6)
else M_leave_40 kr r16 a1 a2 a3 h
def M_leave_16 {ρ : Type} (kr : Int → zH → Option ρ) : Int → Int → Int → zH → Option ρ := zit (fun _ _ _ _ => none) (M_leave_16b kr) zN
def M_leave {ρ : Type} (a1 : Int) (h : zH) (kr : Int → zH → Option ρ) : Option ρ :=
zix 72 a1 fun j1 =>
zix 2 (zhD h 88 0 j1) fun j2 =>
M_leave_16 kr a1 (zhD h 88 0 j1) (wr ((zhD h 93 0 j2) - 1)) h
def M_fail_85 {ρ : Type} (kr : Int → zH → Option ρ) (r50 : Int → Int → zH → Option ρ) (a1 a6 : Int) (h : zH) : Option ρ :=
r50 a1 (wr (a6 + 1)) h
def M_fail_50b {ρ : Type} (kr : Int → zH → Option ρ) (r50 : Int → Int → zH → Option ρ) (a1 a6 : Int) (h : zH) : Option ρ :=
zix 12 a1 fun j1 =>
if a6 < (zhD h 72 0 j1) then (M_blockOf a1 a6 h  fun v2 h3 =>
zix 72 v2 fun j4 =>
if (zhD h3 87 0 j4) = 0 then M_fail_85 kr r50 a1 a6 h3
else M_blockOf a1 a6 h3  fun v5 h6 =>
M_leave v5 h6  fun _ h8 =>
M_fail_85 kr r50 a1 a6 h8)
else kr 0 h
def M_fail_50 {ρ : Type} (kr : Int → zH → Option ρ) : Int → Int → zH → Option ρ := zit (fun _ _ _ => none) (M_fail_50b kr) zN
def M_fail {ρ : Type} (a1 a2 a3 a4 a5 : Int) (h : zH) (kr : Int → zH → Option ρ) : Option ρ :=
zix 12 a1 fun j1 =>
if (zhD h 69 0 j1) = 114 then (zix 12 a1 fun j2 =>
zlet (zset h 69 0 j2 102) fun h3 =>
zix 12 a1 fun j4 =>
znar 2 a2 fun x5 =>
zlet (zset h3 84 0 j4 x5) fun h6 =>
zix 12 a1 fun j7 =>
zlet (zset h6 85 0 j7 (wr ((wr ((wr (10000 * a3)) + (wr (100 * a4)))) + a5))) fun h8 =>
M_fail_50 kr a1 0 h8)
else kr 0 h
def M_threadCell {ρ : Type} (a1 a2 : Int) (h : zH) (kr : Int → zH → Option ρ) : Option ρ :=
kr (wr ((wr (16 * a1)) + a2)) h
def M_count_41 {ρ : Type} (kr : Int → zH → Option ρ) (r5 : Int → Int → Int → Int → zH → Option ρ) (a1 a2 a4 t0 t1 : Int) (h : zH) : Option ρ :=
r5 a1 a2 (wr (t1 + t0)) (wr (a4 + 1)) h
def M_count_5b {ρ : Type} (kr : Int → zH → Option ρ) (r5 : Int → Int → Int → Int → zH → Option ρ) (a1 a2 a3 a4 : Int) (h : zH) : Option ρ :=
zix 12 (wr (Int.tdiv a1 6)) fun j1 =>
if a4 < (zhD h 73 0 j1) then (M_threadCell a1 a4 h  fun v2 h3 =>
zix 1152 v2 fun j4 =>
if (zhD h3 89 0 j4) = a2 then M_count_41 kr r5 a1 a2 a4 1 a3 h3
else M_count_41 kr r5 a1 a2 a4 0 a3 h3)
else kr a3 h
def M_count_5 {ρ : Type} (kr : Int → zH → Option ρ) : Int → Int → Int → Int → zH → Option ρ := zit (fun _ _ _ _ _ => none) (M_count_5b kr) zN
def M_count {ρ : Type} (a1 a2 : Int) (h : zH) (kr : Int → zH → Option ρ) : Option ρ :=
M_count_5 kr a1 a2 0 0 h
def M_lookAt_24 {ρ : Type} (kr : Int → zH → Option ρ) (h : zH) : Option ρ :=
kr 0 h
def M_lookAt_133 {ρ : Type} (kr : Int → zH → Option ρ) (r66 : Int → Int → Int → Int → Int → zH → Option ρ) (a1 a2 a3 a4 a5 : Int) (h : zH) : Option ρ :=
r66 a1 a2 a3 a4 (wr (a5 + (-1))) h
def M_lookAt_128 {ρ : Type} (kr : Int → zH → Option ρ) (r66 : Int → Int → Int → Int → Int → zH → Option ρ) (a1 a2 a5 t0 : Int) (h : zH) : Option ρ :=
M_lookAt_133 kr r66 a1 a2 a5 t0 a5 h
def M_lookAt_123 {ρ : Type} (kr : Int → zH → Option ρ) (r66 : Int → Int → Int → Int → Int → zH → Option ρ) (a1 a2 a5 : Int) (h : zH) : Option ρ :=
M_lookAt_128 kr r66 a1 a2 a5 1 h
def M_lookAt_127 {ρ : Type} (kr : Int → zH → Option ρ) (r66 : Int → Int → Int → Int → Int → zH → Option ρ) (a1 a2 a5 : Int) (h : zH) : Option ρ :=
M_lookAt_128 kr r66 a1 a2 a5 0 h
def M_lookAt_278 {ρ : Type} (kr : Int → zH → Option ρ) (r191 : Int → Int → Int → zH → Option ρ) (a1 a2 a5 : Int) (h : zH) : Option ρ :=
r191 a1 a2 (wr (a5 + 1)) h
def M_lookAt_277 {ρ : Type} (kr : Int → zH → Option ρ) (r191 : Int → Int → Int → zH → Option ρ) (a1 a2 a5 t0 t1 : Int) (h : zH) : Option ρ :=
zix 1152 t1 fun j1 =>
znar 2 t0 fun x2 =>
zlet (zset h 89 0 j1 x2) fun h3 =>
M_lookAt_278 kr r191 a1 a2 a5 h3
def M_lookAt_191b {ρ : Type} (kr : Int → zH → Option ρ) (r191 : Int → Int → Int → zH → Option ρ) (a1 a2 a5 : Int) (h : zH) : Option ρ :=
zix 12 a2 fun j1 =>
if a5 < (zhD h 73 0 j1) then (M_threadCell a1 a5 h  fun v2 h3 =>
zix 1152 v2 fun j4 =>
if (zhD h3 89 0 j4) = 119 then (zix 1152 v2 fun j5 =>
zlet (zset h3 89 0 j5 114) fun h6 =>
zix 1152 v2 fun j7 =>
zix 1152 v2 fun j8 =>
zlet (zset h6 90 0 j8 (wr ((zhD h6 90 0 j7) + 1))) fun h9 =>
zix 1152 v2 fun j10 =>
zix 12 a2 fun j11 =>
zix 4 (zhD h9 70 0 j11) fun j12 =>
if (zhD h9 90 0 j10) < (zhD h9 63 0 j12) then M_lookAt_277 kr r191 a1 a2 a5 114 v2 h9
else M_lookAt_277 kr r191 a1 a2 a5 101 v2 h9)
else M_lookAt_278 kr r191 a1 a2 a5 h3)
else kr 0 h
def M_lookAt_191 {ρ : Type} (kr : Int → zH → Option ρ) : Int → Int → Int → zH → Option ρ := zit (fun _ _ _ _ => none) (M_lookAt_191b kr) zN
def M_lookAt_66b {ρ : Type} (kr : Int → zH → Option ρ) (r66 : Int → Int → Int → Int → Int → zH → Option ρ) (a1 a2 a3 a4 a5 : Int) (h : zH) : Option ρ :=
if a5 < 0 then (if a4 = 0 then (M_threadCell a1 a3 h  fun v5 h6 =>
zix 1152 v5 fun j7 =>
M_fail a2 98 (Int.tmod a1 6) a3 (zhD h6 90 0 j7) h6  fun _ h9 =>
kr 0 h9)
else zlet (zset h 12 0 60 (wr ((zhD h 12 0 60) + 1))) fun h1 =>
zix 72 a1 fun j2 =>
zix 72 a1 fun j3 =>
zlet (zset h1 86 0 j3 (wr ((zhD h1 86 0 j2) + 1))) fun h4 =>
M_lookAt_191 kr a1 a2 0 h4)
else M_threadCell a1 a5 h  fun v10 h11 =>
zix 1152 v10 fun j12 =>
if (zhD h11 89 0 j12) = 119 then (if a4 = 0 then M_lookAt_127 kr r66 a1 a2 a5 h11
else if a3 = (-1) then M_lookAt_123 kr r66 a1 a2 a5 h11
else zix 1152 v10 fun j13 =>
M_threadCell a1 a3 h11  fun v14 h15 =>
zix 1152 v14 fun j16 =>
if (zhD h11 90 0 j13) = (zhD h15 90 0 j16) then M_lookAt_123 kr r66 a1 a2 a5 h15
else M_lookAt_127 kr r66 a1 a2 a5 h15)
else M_lookAt_133 kr r66 a1 a2 a3 a4 a5 h11
def M_lookAt_66 {ρ : Type} (kr : Int → zH → Option ρ) : Int → Int → Int → Int → Int → zH → Option ρ := zit (fun _ _ _ _ _ _ => none) (M_lookAt_66b kr) zN
def M_lookAt {ρ : Type} (a1 : Int) (h : zH) (kr : Int → zH → Option ρ) : Option ρ :=
zix 72 a1 fun j1 =>
if (zhD h 87 0 j1) = 0 then M_lookAt_24 kr h
else M_count a1 114 h  fun v2 h3 =>
if 0 < v2 then M_lookAt_24 kr h3
else M_count a1 119 h3  fun v4 h5 =>
if v4 = 0 then (zix 12 (wr (Int.tdiv a1 6)) fun j7 =>
zix 12 (wr (Int.tdiv a1 6)) fun j8 =>
zlet (zset h5 79 0 j8 (wr ((zhD h5 79 0 j7) + 1))) fun h9 =>
M_leave a1 h9  fun _ h11 =>
kr 0 h11)
else zix 12 (wr (Int.tdiv a1 6)) fun j6 =>
M_lookAt_66 kr a1 (wr (Int.tdiv a1 6)) (-1) 1 (wr ((zhD h5 73 0 j6) - 1)) h5
def M_hasEnded_74 {ρ : Type} (kr : Int → zH → Option ρ) (r19 : Int → Int → Int → Int → zH → Option ρ) (a1 a2 a4 t0 : Int) (h : zH) : Option ρ :=
r19 a1 a2 t0 (wr (a4 + 1)) h
def M_hasEnded_73 {ρ : Type} (kr : Int → zH → Option ρ) (r19 : Int → Int → Int → Int → zH → Option ρ) (a1 a2 a4 : Int) (h : zH) : Option ρ :=
M_hasEnded_74 kr r19 a1 a2 a4 0 h
def M_hasEnded_81 {ρ : Type} (kr : Int → zH → Option ρ) (a3 : Int) (h : zH) : Option ρ :=
znar 1 a3 fun x1 => kr x1 h
def M_hasEnded_19b {ρ : Type} (kr : Int → zH → Option ρ) (r19 : Int → Int → Int → Int → zH → Option ρ) (a1 a2 a3 a4 : Int) (h : zH) : Option ρ :=
zix 8 a1 fun j1 =>
if a4 < (wr ((wr (4 * (zhD h 95 0 j1))) + 4)) then (zix 12 (wr (Int.tdiv a2 6)) fun j2 =>
if a4 < (zhD h 73 0 j2) then (if a3 = 0 then M_hasEnded_73 kr r19 a1 a2 a4 h
else M_threadCell a2 a4 h  fun v3 h4 =>
zix 1152 v3 fun j5 =>
if (zhD h4 89 0 j5) = 101 then M_hasEnded_74 kr r19 a1 a2 a4 1 h4
else M_hasEnded_73 kr r19 a1 a2 a4 h4)
else M_hasEnded_81 kr a3 h)
else M_hasEnded_81 kr a3 h
def M_hasEnded_19 {ρ : Type} (kr : Int → zH → Option ρ) : Int → Int → Int → Int → zH → Option ρ := zit (fun _ _ _ _ _ => none) (M_hasEnded_19b kr) zN
def M_hasEnded {ρ : Type} (a1 : Int) (h : zH) (kr : Int → zH → Option ρ) : Option ρ :=
zix 8 a1 fun j1 =>
zix 8 a1 fun j2 =>
M_hasEnded_19 kr a1 (zhD h 94 0 j1) 1 (wr (4 * (zhD h 95 0 j2))) h
def M_writeFirst_35b {ρ : Type} (kr : Int → zH → Option ρ) (r35 : Int → Int → zH → Option ρ) (a1 a2 : Int) (h : zH) : Option ρ :=
zix 8 a1 fun j1 =>
if a2 < (wr ((wr (4 * a1)) + (zhD h 97 0 j1))) then (zix 32 (wr (a2 + 1)) fun j2 =>
zix 32 a2 fun j3 =>
zlet (zset h 98 0 j3 (zhD h 98 0 j2)) fun h4 =>
zix 32 (wr (a2 + 1)) fun j5 =>
zix 32 a2 fun j6 =>
zlet (zset h4 99 0 j6 (zhD h4 99 0 j5)) fun h7 =>
r35 a1 (wr (a2 + 1)) h7)
else kr 0 h
def M_writeFirst_35 {ρ : Type} (kr : Int → zH → Option ρ) : Int → Int → zH → Option ρ := zit (fun _ _ _ => none) (M_writeFirst_35b kr) zN
def M_writeFirst {ρ : Type} (a1 : Int) (h : zH) (kr : Int → zH → Option ρ) : Option ρ :=
zix 32 (wr (4 * a1)) fun j1 =>
zix 32 (wr (4 * a1)) fun j2 =>
zix 64 (zhD h 98 0 j1) fun j3 =>
zlet (zset h 60 0 j3 (zhD h 99 0 j2)) fun h4 =>
zix 8 a1 fun j5 =>
zix 8 a1 fun j6 =>
zlet (zset h4 97 0 j6 (wr ((zhD h4 97 0 j5) - 1))) fun h7 =>
M_writeFirst_35 kr a1 (wr (4 * a1)) h7
def M_writeAll_7b {ρ : Type} (kr : Int → zH → Option ρ) (r7 : Int → Int → zH → Option ρ) (a1 a2 : Int) (h : zH) : Option ρ :=
zix 8 a1 fun j1 =>
if 0 < (zhD h 97 0 j1) then (M_writeFirst a1 h  fun _ h3 =>
r7 a1 a2 h3)
else kr a2 h
def M_writeAll_7 {ρ : Type} (kr : Int → zH → Option ρ) : Int → Int → zH → Option ρ := zit (fun _ _ _ => none) (M_writeAll_7b kr) zN
def M_writeAll {ρ : Type} (a1 : Int) (h : zH) (kr : Int → zH → Option ρ) : Option ρ :=
zix 8 a1 fun j1 =>
M_writeAll_7 kr a1 (zhD h 97 0 j1) h
def M_writeEnded_53 {ρ : Type} (kr : Int → zH → Option ρ) (r9 : Int → Int → Int → zH → Option ρ) (a1 a2 a3 : Int) (h : zH) : Option ρ :=
r9 a1 a2 (wr (a3 + 1)) h
def M_writeEnded_9b {ρ : Type} (kr : Int → zH → Option ρ) (r9 : Int → Int → Int → zH → Option ρ) (a1 a2 a3 : Int) (h : zH) : Option ρ :=
zix 2 a2 fun j1 =>
if a3 < (zhD h 93 0 j1) then (zix 8 (wr ((wr (4 * a2)) + a3)) fun j2 =>
if (zhD h 94 0 j2) = a1 then (M_hasEnded (wr ((wr (4 * a2)) + a3)) h  fun v3 h4 =>
if v3 = 0 then M_writeEnded_53 kr r9 a1 a2 a3 h4
else M_writeAll (wr ((wr (4 * a2)) + a3)) h4  fun v5 h6 =>
M_writeEnded_53 kr r9 a1 a2 a3 h6)
else M_writeEnded_53 kr r9 a1 a2 a3 h)
else kr 0 h
def M_writeEnded_9 {ρ : Type} (kr : Int → zH → Option ρ) : Int → Int → Int → zH → Option ρ := zit (fun _ _ _ _ => none) (M_writeEnded_9b kr) zN
def M_writeEnded {ρ : Type} (a1 : Int) (h : zH) (kr : Int → zH → Option ρ) : Option ρ :=
zix 72 a1 fun j1 =>
M_writeEnded_9 kr a1 (zhD h 88 0 j1) 0 h
def M_settle_37 {ρ : Type} (kr : Int → zH → Option ρ) (h : zH) : Option ρ :=
kr 0 h
def M_settle_2b {ρ : Type} (kr : Int → zH → Option ρ) (r2 : Int → Int → zH → Option ρ) (a1 a2 : Int) (h : zH) : Option ρ :=
zix 72 a1 fun j1 =>
if (zhD h 87 0 j1) = 0 then M_settle_37 kr h
else if a2 = (zhD h 12 0 60) then M_settle_37 kr h
else M_writeEnded a1 h  fun _ h3 =>
M_lookAt a1 h3  fun _ h5 =>
r2 a1 (zhD h 12 0 60) h5
def M_settle_2 {ρ : Type} (kr : Int → zH → Option ρ) : Int → Int → zH → Option ρ := zit (fun _ _ _ => none) (M_settle_2b kr) zN
def M_settle {ρ : Type} (a1 : Int) (h : zH) (kr : Int → zH → Option ρ) : Option ρ :=
M_settle_2 kr a1 (-1) h
def M_access_186 {ρ : Type} (kr : Int → zH → Option ρ) (r21 : Int → Int → Int → Int → Int → Int → Int → zH → Option ρ) (r36 : Int → Int → Int → Int → Int → Int → Int → Int → zH → Option ρ) (a1 a2 a3 a4 a5 a6 a7 a8 t0 t1 : Int) (h : zH) : Option ρ :=
zix 768 t1 fun j1 =>
znar 1 t0 fun x2 =>
zlet (zset h 105 0 j1 x2) fun h3 =>
r36 a1 a2 a3 a4 a5 a6 a7 (wr (a8 + 1)) h3
def M_access_181 {ρ : Type} (kr : Int → zH → Option ρ) (r21 : Int → Int → Int → Int → Int → Int → Int → zH → Option ρ) (r36 : Int → Int → Int → Int → Int → Int → Int → Int → zH → Option ρ) (a1 a2 a3 a4 a5 a6 a7 a8 t0 : Int) (h : zH) : Option ρ :=
M_access_186 kr r21 r36 a1 a2 a3 a4 a5 a6 a7 a8 1 t0 h
def M_access_148 {ρ : Type} (kr : Int → zH → Option ρ) (r21 : Int → Int → Int → Int → Int → Int → Int → zH → Option ρ) (r36 : Int → Int → Int → Int → Int → Int → Int → Int → zH → Option ρ) (a1 a2 a3 a4 a5 a6 a7 a8 t0 : Int) (h : zH) : Option ρ :=
zix 768 (wr ((wr (64 * a5)) + a3)) fun j1 =>
if (zhD h 105 0 j1) = 0 then (if t0 = 0 then M_access_186 kr r21 r36 a1 a2 a3 a4 a5 a6 a7 a8 0 (wr ((wr (64 * a5)) + a3)) h
else M_access_181 kr r21 r36 a1 a2 a3 a4 a5 a6 a7 a8 (wr ((wr (64 * a5)) + a3)) h)
else M_access_181 kr r21 r36 a1 a2 a3 a4 a5 a6 a7 a8 (wr ((wr (64 * a5)) + a3)) h
def M_access_143 {ρ : Type} (kr : Int → zH → Option ρ) (r21 : Int → Int → Int → Int → Int → Int → Int → zH → Option ρ) (r36 : Int → Int → Int → Int → Int → Int → Int → Int → zH → Option ρ) (a1 a2 a3 a4 a5 a6 a7 a8 : Int) (h : zH) : Option ρ :=
M_access_148 kr r21 r36 a1 a2 a3 a4 a5 a6 a7 a8 1 h
def M_access_147 {ρ : Type} (kr : Int → zH → Option ρ) (r21 : Int → Int → Int → Int → Int → Int → Int → zH → Option ρ) (r36 : Int → Int → Int → Int → Int → Int → Int → Int → zH → Option ρ) (a1 a2 a3 a4 a5 a6 a7 a8 : Int) (h : zH) : Option ρ :=
M_access_148 kr r21 r36 a1 a2 a3 a4 a5 a6 a7 a8 0 h
def M_access_104 {ρ : Type} (kr : Int → zH → Option ρ) (r21 : Int → Int → Int → Int → Int → Int → Int → zH → Option ρ) (r36 : Int → Int → Int → Int → Int → Int → Int → Int → zH → Option ρ) (a1 a2 a3 a4 a5 a6 a7 a8 a9 a10 t0 : Int) (h : zH) : Option ρ :=
if a10 = 0 then (if a4 = 0 then (zix 73728 a9 fun j1 =>
if (zhD h 104 0 j1) < t0 then M_access_147 kr r21 r36 a1 a2 a3 a4 a5 a6 a7 a8 h
else M_access_143 kr r21 r36 a1 a2 a3 a4 a5 a6 a7 a8 h)
else zix 73728 a9 fun j2 =>
if (zhD h 103 0 j2) < t0 then M_access_147 kr r21 r36 a1 a2 a3 a4 a5 a6 a7 a8 h
else M_access_143 kr r21 r36 a1 a2 a3 a4 a5 a6 a7 a8 h)
else M_access_147 kr r21 r36 a1 a2 a3 a4 a5 a6 a7 a8 h
def M_access_81 {ρ : Type} (kr : Int → zH → Option ρ) (r21 : Int → Int → Int → Int → Int → Int → Int → zH → Option ρ) (r36 : Int → Int → Int → Int → Int → Int → Int → Int → zH → Option ρ) (a1 a2 a3 a4 a5 a6 a7 a8 a9 t0 : Int) (h : zH) : Option ρ :=
if a7 = (Int.tmod a1 6) then (zix 72 a1 fun j1 =>
M_access_104 kr r21 r36 a1 a2 a3 a4 a5 a6 a7 a8 a9 t0 (wr ((zhD h 86 0 j1) + 1)) h)
else M_access_104 kr r21 r36 a1 a2 a3 a4 a5 a6 a7 a8 a9 t0 1 h
def M_access_80 {ρ : Type} (kr : Int → zH → Option ρ) (r21 : Int → Int → Int → Int → Int → Int → Int → zH → Option ρ) (r36 : Int → Int → Int → Int → Int → Int → Int → Int → zH → Option ρ) (a1 a2 a3 a4 a5 a6 a7 a8 a9 : Int) (h : zH) : Option ρ :=
M_access_81 kr r21 r36 a1 a2 a3 a4 a5 a6 a7 a8 a9 0 h
def M_access_36b {ρ : Type} (kr : Int → zH → Option ρ) (r21 : Int → Int → Int → Int → Int → Int → Int → zH → Option ρ) (r36 : Int → Int → Int → Int → Int → Int → Int → Int → zH → Option ρ) (a1 a2 a3 a4 a5 a6 a7 a8 : Int) (h : zH) : Option ρ :=
zix 12 a5 fun j1 =>
if a8 < (zhD h 73 0 j1) then (if a7 = (Int.tmod a1 6) then (if a8 = a2 then M_access_81 kr r21 r36 a1 a2 a3 a4 a5 a6 a7 a8 (wr ((wr (a6 + (wr (16 * a7)))) + a8)) 1 h
else M_access_80 kr r21 r36 a1 a2 a3 a4 a5 a6 a7 a8 (wr ((wr (a6 + (wr (16 * a7)))) + a8)) h)
else M_access_80 kr r21 r36 a1 a2 a3 a4 a5 a6 a7 a8 (wr ((wr (a6 + (wr (16 * a7)))) + a8)) h)
else r21 a1 a2 a3 a4 a5 a6 (wr (a7 + 1)) h
def M_access_36 {ρ : Type} (kr : Int → zH → Option ρ) (r21 : Int → Int → Int → Int → Int → Int → Int → zH → Option ρ) : Int → Int → Int → Int → Int → Int → Int → Int → zH → Option ρ := zit (fun _ _ _ _ _ _ _ _ _ => none) (M_access_36b kr r21) zN
def M_access_257 {ρ : Type} (kr : Int → zH → Option ρ) (t0 t1 : Int) (h : zH) : Option ρ :=
zix 73728 t1 fun j1 =>
zlet (zset h 104 0 j1 t0) fun h2 =>
kr 0 h2
def M_access_21b {ρ : Type} (kr : Int → zH → Option ρ) (r21 : Int → Int → Int → Int → Int → Int → Int → zH → Option ρ) (a1 a2 a3 a4 a5 a6 a7 : Int) (h : zH) : Option ρ :=
zix 12 a5 fun j1 =>
if a7 < (zhD h 72 0 j1) then M_access_36 kr r21 a1 a2 a3 a4 a5 a6 a7 0 h
else zix 72 a1 fun j2 =>
zix 73728 (wr ((wr (a6 + (wr (16 * (Int.tmod a1 6))))) + a2)) fun j3 =>
zlet (zset h 103 0 j3 (wr ((zhD h 86 0 j2) + 1))) fun h4 =>
if a4 = 0 then (zix 73728 (wr ((wr (a6 + (wr (16 * (Int.tmod a1 6))))) + a2)) fun j5 =>
M_access_257 kr (zhD h4 104 0 j5) (wr ((wr (a6 + (wr (16 * (Int.tmod a1 6))))) + a2)) h4)
else zix 72 a1 fun j6 =>
M_access_257 kr (wr ((zhD h4 86 0 j6) + 1)) (wr ((wr (a6 + (wr (16 * (Int.tmod a1 6))))) + a2)) h4
def M_access_21 {ρ : Type} (kr : Int → zH → Option ρ) : Int → Int → Int → Int → Int → Int → Int → zH → Option ρ := zit (fun _ _ _ _ _ _ _ _ => none) (M_access_21b kr) zN
def M_access {ρ : Type} (a1 a2 a3 a4 : Int) (h : zH) (kr : Int → zH → Option ρ) : Option ρ :=
M_access_21 kr a1 a2 a3 a4 (wr (Int.tdiv a1 6)) (wr (96 * (wr ((wr (64 * (wr (Int.tdiv a1 6)))) + a3)))) 0 h
def M_accessShared_121 {ρ : Type} (kr : Int → zH → Option ρ) (r14 : Int → Int → Int → Int → Int → Int → zH → Option ρ) (a1 a2 a3 a4 a5 a6 t0 t1 : Int) (h : zH) : Option ρ :=
zix 1152 t1 fun j1 =>
znar 1 t0 fun x2 =>
zlet (zset h 108 0 j1 x2) fun h3 =>
r14 a1 a2 a3 a4 a5 (wr (a6 + 1)) h3
def M_accessShared_116 {ρ : Type} (kr : Int → zH → Option ρ) (r14 : Int → Int → Int → Int → Int → Int → zH → Option ρ) (a1 a2 a3 a4 a5 a6 t0 : Int) (h : zH) : Option ρ :=
M_accessShared_121 kr r14 a1 a2 a3 a4 a5 a6 1 t0 h
def M_accessShared_85 {ρ : Type} (kr : Int → zH → Option ρ) (r14 : Int → Int → Int → Int → Int → Int → zH → Option ρ) (a1 a2 a3 a4 a5 a6 t0 : Int) (h : zH) : Option ρ :=
zix 1152 (wr ((wr (16 * a1)) + a3)) fun j1 =>
if (zhD h 108 0 j1) = 0 then (if t0 = 0 then M_accessShared_121 kr r14 a1 a2 a3 a4 a5 a6 0 (wr ((wr (16 * a1)) + a3)) h
else M_accessShared_116 kr r14 a1 a2 a3 a4 a5 a6 (wr ((wr (16 * a1)) + a3)) h)
else M_accessShared_116 kr r14 a1 a2 a3 a4 a5 a6 (wr ((wr (16 * a1)) + a3)) h
def M_accessShared_80 {ρ : Type} (kr : Int → zH → Option ρ) (r14 : Int → Int → Int → Int → Int → Int → zH → Option ρ) (a1 a2 a3 a4 a5 a6 : Int) (h : zH) : Option ρ :=
M_accessShared_85 kr r14 a1 a2 a3 a4 a5 a6 1 h
def M_accessShared_84 {ρ : Type} (kr : Int → zH → Option ρ) (r14 : Int → Int → Int → Int → Int → Int → zH → Option ρ) (a1 a2 a3 a4 a5 a6 : Int) (h : zH) : Option ρ :=
M_accessShared_85 kr r14 a1 a2 a3 a4 a5 a6 0 h
def M_accessShared_178 {ρ : Type} (kr : Int → zH → Option ρ) (t0 t1 : Int) (h : zH) : Option ρ :=
zix 18432 t1 fun j1 =>
zlet (zset h 107 0 j1 t0) fun h2 =>
kr 0 h2
def M_accessShared_14b {ρ : Type} (kr : Int → zH → Option ρ) (r14 : Int → Int → Int → Int → Int → Int → zH → Option ρ) (a1 a2 a3 a4 a5 a6 : Int) (h : zH) : Option ρ :=
zix 12 (wr (Int.tdiv a1 6)) fun j1 =>
if a6 < (zhD h 73 0 j1) then (if a6 = a2 then M_accessShared_84 kr r14 a1 a2 a3 a4 a5 a6 h
else if a4 = 0 then (zix 18432 (wr (a5 + a6)) fun j7 =>
zix 72 a1 fun j8 =>
if (zhD h 86 0 j8) < (zhD h 107 0 j7) then M_accessShared_80 kr r14 a1 a2 a3 a4 a5 a6 h
else M_accessShared_84 kr r14 a1 a2 a3 a4 a5 a6 h)
else zix 18432 (wr (a5 + a6)) fun j9 =>
zix 72 a1 fun j10 =>
if (zhD h 86 0 j10) < (zhD h 106 0 j9) then M_accessShared_80 kr r14 a1 a2 a3 a4 a5 a6 h
else M_accessShared_84 kr r14 a1 a2 a3 a4 a5 a6 h)
else zix 72 a1 fun j2 =>
zix 18432 (wr (a5 + a2)) fun j3 =>
zlet (zset h 106 0 j3 (wr ((zhD h 86 0 j2) + 1))) fun h4 =>
if a4 = 0 then (zix 18432 (wr (a5 + a2)) fun j5 =>
M_accessShared_178 kr (zhD h4 107 0 j5) (wr (a5 + a2)) h4)
else zix 72 a1 fun j6 =>
M_accessShared_178 kr (wr ((zhD h4 86 0 j6) + 1)) (wr (a5 + a2)) h4
def M_accessShared_14 {ρ : Type} (kr : Int → zH → Option ρ) : Int → Int → Int → Int → Int → Int → zH → Option ρ := zit (fun _ _ _ _ _ _ _ => none) (M_accessShared_14b kr) zN
def M_accessShared {ρ : Type} (a1 a2 a3 a4 : Int) (h : zH) (kr : Int → zH → Option ρ) : Option ρ :=
M_accessShared_14 kr a1 a2 a3 a4 (wr (16 * (wr ((wr (16 * a1)) + a3)))) 0 h
