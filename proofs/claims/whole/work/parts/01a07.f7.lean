def M_placeOf_96 {ρ : Type} (kr : Int → zH → Option ρ) (r19 : Int → Int → Int → Int → zH → Option ρ) (a1 a2 a4 t0 : Int) (h : zH) : Option ρ :=
r19 a1 a2 t0 (wr (a4 + 1)) h
def M_placeOf_85 {ρ : Type} (kr : Int → zH → Option ρ) (r19 : Int → Int → Int → Int → zH → Option ρ) (a1 a2 a4 a5 : Int) (h : zH) : Option ρ :=
zix 1152 a5 fun j1 =>
M_placeOf_96 kr r19 a1 a2 a4 (zhD h 90 0 j1) h
def M_placeOf_95 {ρ : Type} (kr : Int → zH → Option ρ) (r19 : Int → Int → Int → Int → zH → Option ρ) (a1 a2 a3 a4 : Int) (h : zH) : Option ρ :=
M_placeOf_96 kr r19 a1 a2 a4 a3 h
def M_placeOf_103 {ρ : Type} (kr : Int → zH → Option ρ) (a3 : Int) (h : zH) : Option ρ :=
kr a3 h
def M_placeOf_19b {ρ : Type} (kr : Int → zH → Option ρ) (r19 : Int → Int → Int → Int → zH → Option ρ) (a1 a2 a3 a4 : Int) (h : zH) : Option ρ :=
zix 8 a1 fun j1 =>
if a4 < (wr ((wr (4 * (zhD h 95 0 j1))) + 4)) then (zix 12 (wr (Int.tdiv a2 6)) fun j2 =>
if a4 < (zhD h 73 0 j2) then (M_threadCell a2 a4 h  fun v3 h4 =>
zix 1152 v3 fun j5 =>
if (zhD h4 89 0 j5) = 114 then (if a3 = (-1) then M_placeOf_85 kr r19 a1 a2 a4 v3 h4
else zix 1152 v3 fun j6 =>
if (zhD h4 90 0 j6) < a3 then M_placeOf_85 kr r19 a1 a2 a4 v3 h4
else M_placeOf_95 kr r19 a1 a2 a3 a4 h4)
else M_placeOf_95 kr r19 a1 a2 a3 a4 h4)
else M_placeOf_103 kr a3 h)
else M_placeOf_103 kr a3 h
def M_placeOf_19 {ρ : Type} (kr : Int → zH → Option ρ) : Int → Int → Int → Int → zH → Option ρ := zit (fun _ _ _ _ _ => none) (M_placeOf_19b kr) zN
def M_placeOf {ρ : Type} (a1 : Int) (h : zH) (kr : Int → zH → Option ρ) : Option ρ :=
zix 8 a1 fun j1 =>
zix 8 a1 fun j2 =>
M_placeOf_19 kr a1 (zhD h 94 0 j1) (-1) (wr (4 * (zhD h 95 0 j2))) h
def M_maskOf_99 {ρ : Type} (kr : Int → zH → Option ρ) (r19 : Int → Int → Int → Int → Int → zH → Option ρ) (a1 a2 a3 a5 t0 t1 : Int) (h : zH) : Option ρ :=
r19 a1 a2 a3 (zor t1 t0) (wr (a5 + 1)) h
def M_maskOf_98 {ρ : Type} (kr : Int → zH → Option ρ) (r19 : Int → Int → Int → Int → Int → zH → Option ρ) (a1 a2 a3 a5 t0 : Int) (h : zH) : Option ρ :=
M_maskOf_99 kr r19 a1 a2 a3 a5 0 t0 h
def M_maskOf_108 {ρ : Type} (kr : Int → zH → Option ρ) (a4 : Int) (h : zH) : Option ρ :=
kr a4 h
def M_maskOf_19b {ρ : Type} (kr : Int → zH → Option ρ) (r19 : Int → Int → Int → Int → Int → zH → Option ρ) (a1 a2 a3 a4 a5 : Int) (h : zH) : Option ρ :=
if a5 < 4 then (zix 8 a1 fun j1 =>
zix 12 (wr (Int.tdiv a2 6)) fun j2 =>
if (wr ((wr (4 * (zhD h 95 0 j1))) + a5)) < (zhD h 73 0 j2) then (zix 8 a1 fun j3 =>
M_threadCell a2 (wr ((wr (4 * (zhD h 95 0 j3))) + a5)) h  fun v4 h5 =>
zix 1152 v4 fun j6 =>
if (zhD h5 89 0 j6) = 114 then (zix 1152 v4 fun j7 =>
if (zhD h5 90 0 j7) = a3 then M_maskOf_99 kr r19 a1 a2 a3 a5 (zshl 1 a5) a4 h5
else M_maskOf_98 kr r19 a1 a2 a3 a5 a4 h5)
else M_maskOf_98 kr r19 a1 a2 a3 a5 a4 h5)
else M_maskOf_108 kr a4 h)
else M_maskOf_108 kr a4 h
def M_maskOf_19 {ρ : Type} (kr : Int → zH → Option ρ) : Int → Int → Int → Int → Int → zH → Option ρ := zit (fun _ _ _ _ _ _ => none) (M_maskOf_19b kr) zN
def M_maskOf {ρ : Type} (a1 : Int) (h : zH) (kr : Int → zH → Option ρ) : Option ρ :=
zix 8 a1 fun j1 =>
M_placeOf a1 h  fun v2 h3 =>
M_maskOf_19 kr a1 (zhD h 94 0 j1) v2 0 0 h3
def M_registerCell {ρ : Type} (a1 a2 a3 : Int) (h : zH) (kr : Int → zH → Option ρ) : Option ρ :=
zix 8 a1 fun j1 =>
zix 8 a1 fun j2 =>
M_threadCell (zhD h 94 0 j1) (wr ((wr (4 * (zhD h 95 0 j2))) + a2)) h  fun v3 h4 =>
kr (wr ((wr (8 * v3)) + a3)) h4
def M_lane {ρ : Type} (a1 a2 : Int) (h : zH) (kr : Int → zH → Option ρ) : Option ρ :=
zix 32 (wr ((wr (8 * a1)) + a2)) fun j1 =>
kr (zhD h 109 0 j1) h
def M_set {ρ : Type} (a1 a2 a3 a4 : Int) (h : zH) (kr : Int → zH → Option ρ) : Option ρ :=
M_registerCell a1 a2 a3 h  fun v1 h2 =>
zix 9216 v1 fun j3 =>
zlet (zset h2 91 0 j3 a4) fun h4 =>
kr 0 h4
def M_isUnder_17 {ρ : Type} (kr : Int → zH → Option ρ) (t0 : Int) (h : zH) : Option ρ :=
znar 1 t0 fun x1 => kr x1 h
def M_isUnder {ρ : Type} (a1 : Int) (h : zH) (kr : Int → zH → Option ρ) : Option ρ :=
if (zand (zshr (zhD h 12 0 63) a1) 1) = 1 then M_isUnder_17 kr 1 h
else M_isUnder_17 kr 0 h
def M_modulo {ρ : Type} (a0 : Int) (h : zH) (kr : Int → zH → Option ρ) : Option ρ :=
kr (zand a0 3) h
def M_vote_34 {ρ : Type} (kr : Int → zH → Option ρ) (r4 : Int → Int → Int → zH → Option ρ) (a1 a3 t0 t1 : Int) (h : zH) : Option ρ :=
r4 a1 (zor t1 t0) (wr (a3 + 1)) h
def M_vote_33 {ρ : Type} (kr : Int → zH → Option ρ) (r4 : Int → Int → Int → zH → Option ρ) (a1 a3 t0 : Int) (h : zH) : Option ρ :=
M_vote_34 kr r4 a1 a3 0 t0 h
def M_vote_4b {ρ : Type} (kr : Int → zH → Option ρ) (r4 : Int → Int → Int → zH → Option ρ) (a1 a2 a3 : Int) (h : zH) : Option ρ :=
if a3 < 4 then (M_isUnder a3 h  fun v1 h2 =>
if v1 = 0 then M_vote_33 kr r4 a1 a3 a2 h2
else M_lane a3 a1 h2  fun v3 h4 =>
if v3 = 0 then M_vote_33 kr r4 a1 a3 a2 h4
else M_vote_34 kr r4 a1 a3 (zshl 1 a3) a2 h4)
else kr a2 h
def M_vote_4 {ρ : Type} (kr : Int → zH → Option ρ) : Int → Int → Int → zH → Option ρ := zit (fun _ _ _ _ => none) (M_vote_4b kr) zN
def M_vote {ρ : Type} (a1 : Int) (h : zH) (kr : Int → zH → Option ρ) : Option ρ :=
M_vote_4 kr a1 0 0 h
def M_seen_49 {ρ : Type} (kr : Int → zH → Option ρ) (r12 : Int → Int → Int → Int → zH → Option ρ) (a1 a2 a4 t0 : Int) (h : zH) : Option ρ :=
r12 a1 a2 t0 (wr (a4 + 1)) h
def M_seen_12b {ρ : Type} (kr : Int → zH → Option ρ) (r12 : Int → Int → Int → Int → zH → Option ρ) (a1 a2 a3 a4 : Int) (h : zH) : Option ρ :=
zix 8 a1 fun j1 =>
if a4 < (wr ((wr (4 * a1)) + (zhD h 97 0 j1))) then (zix 32 a4 fun j2 =>
if (zhD h 98 0 j2) = a2 then (zix 32 a4 fun j3 =>
M_seen_49 kr r12 a1 a2 a4 (zhD h 99 0 j3) h)
else M_seen_49 kr r12 a1 a2 a4 a3 h)
else kr a3 h
def M_seen_12 {ρ : Type} (kr : Int → zH → Option ρ) : Int → Int → Int → Int → zH → Option ρ := zit (fun _ _ _ _ _ => none) (M_seen_12b kr) zN
def M_seen {ρ : Type} (a1 a2 : Int) (h : zH) (kr : Int → zH → Option ρ) : Option ρ :=
zix 64 a2 fun j1 =>
M_seen_12 kr a1 a2 (zhD h 60 0 j1) (wr (4 * a1)) h
def M_cellOf_37 {ρ : Type} (kr : Int → zH → Option ρ) (t0 : Int) (h : zH) : Option ρ :=
kr t0 h
def M_cellOf_12 {ρ : Type} (kr : Int → zH → Option ρ) (a2 a3 : Int) (h : zH) : Option ρ :=
zix 160 a2 fun j1 =>
M_lane a3 (zhD h 66 0 j1) h  fun v2 h3 =>
M_cellOf_37 kr v2 h3
def M_cellOf {ρ : Type} (a1 a2 a3 : Int) (h : zH) (kr : Int → zH → Option ρ) : Option ρ :=
if a1 = 119 then M_cellOf_12 kr a2 a3 h
else if a1 = 87 then M_cellOf_12 kr a2 a3 h
else zix 160 a2 fun j1 =>
M_lane a3 (zhD h 67 0 j1) h  fun v2 h3 =>
M_cellOf_37 kr v2 h3
def M_isGlobal_29 {ρ : Type} (kr : Int → zH → Option ρ) (t0 : Int) (h : zH) : Option ρ :=
znar 1 t0 fun x1 => kr x1 h
def M_isGlobal_24 {ρ : Type} (kr : Int → zH → Option ρ) (h : zH) : Option ρ :=
M_isGlobal_29 kr 1 h
def M_isGlobal {ρ : Type} (a0 : Int) (h : zH) (kr : Int → zH → Option ρ) : Option ρ :=
if a0 = 114 then M_isGlobal_24 kr h
else if a0 = 119 then M_isGlobal_24 kr h
else if a0 = 97 then M_isGlobal_24 kr h
else if a0 = 120 then M_isGlobal_24 kr h
else M_isGlobal_29 kr 0 h
def M_isShared_17 {ρ : Type} (kr : Int → zH → Option ρ) (t0 : Int) (h : zH) : Option ρ :=
znar 1 t0 fun x1 => kr x1 h
def M_isShared_12 {ρ : Type} (kr : Int → zH → Option ρ) (h : zH) : Option ρ :=
M_isShared_17 kr 1 h
def M_isShared {ρ : Type} (a0 : Int) (h : zH) (kr : Int → zH → Option ρ) : Option ρ :=
if a0 = 82 then M_isShared_12 kr h
else if a0 = 87 then M_isShared_12 kr h
else M_isShared_17 kr 0 h
def M_compute_61 {ρ : Type} (kr : Int → zH → Option ρ) (t0 : Int) (h : zH) : Option ρ :=
kr t0 h
def M_compute {ρ : Type} (a0 a1 a2 : Int) (h : zH) (kr : Int → zH → Option ρ) : Option ρ :=
if a0 = 43 then kr (wr (a1 + a2)) h
else if a0 = 45 then kr (wr (a1 - a2)) h
else if a0 = 42 then M_compute_61 kr (wr (a1 * a2)) h
else if a0 = 60 then (if a1 < a2 then M_compute_61 kr 1 h
else M_compute_61 kr 0 h)
else if a1 = a2 then M_compute_61 kr 1 h
else M_compute_61 kr 0 h
def M_doCell_118 {ρ : Type} (kr : Int → zH → Option ρ) (h : zH) : Option ρ :=
kr 0 h
def M_doCell_55 {ρ : Type} (kr : Int → zH → Option ρ) (a1 a2 a3 a4 a5 a7 t0 t1 t2 t3 : Int) (h : zH) : Option ρ :=
M_accessShared t3 t2 t1 t0 h  fun _ h2 =>
if a3 = 87 then (zix 160 a4 fun j7 =>
M_lane a2 (zhD h2 67 0 j7) h2  fun v8 h9 =>
zix 1152 (wr ((wr (16 * a5)) + a7)) fun j10 =>
zlet (zset h9 92 0 j10 v8) fun h11 =>
M_doCell_118 kr h11)
else zix 160 a4 fun j3 =>
zix 1152 (wr ((wr (16 * a5)) + a7)) fun j4 =>
M_set a1 a2 (zhD h2 66 0 j3) (zhD h2 92 0 j4) h2  fun _ h6 =>
M_doCell_118 kr h6
def M_doCell_324 {ρ : Type} (kr : Int → zH → Option ρ) (h : zH) : Option ρ :=
kr 0 h
def M_doCell_200 {ρ : Type} (kr : Int → zH → Option ρ) (a1 a2 a4 a7 : Int) (h : zH) : Option ρ :=
zix 8 a1 fun j1 =>
zix 32 (wr ((wr (4 * a1)) + (zhD h 97 0 j1))) fun j2 =>
zlet (zset h 98 0 j2 a7) fun h3 =>
zix 8 a1 fun j4 =>
zix 160 a4 fun j5 =>
M_lane a2 (zhD h3 67 0 j5) h3  fun v6 h7 =>
zix 32 (wr ((wr (4 * a1)) + (zhD h3 97 0 j4))) fun j8 =>
zlet (zset h7 99 0 j8 v6) fun h9 =>
zix 8 a1 fun j10 =>
zix 8 a1 fun j11 =>
zlet (zset h9 97 0 j11 (wr ((zhD h9 97 0 j10) + 1))) fun h12 =>
M_doCell_324 kr h12
def M_doCell_308 {ρ : Type} (kr : Int → zH → Option ρ) (a1 a2 a4 a8 t0 t1 : Int) (h : zH) : Option ρ :=
zix 64 t1 fun j1 =>
zlet (zset h 60 0 j1 t0) fun h2 =>
zix 160 a4 fun j3 =>
M_set a1 a2 (zhD h2 66 0 j3) a8 h2  fun _ h5 =>
M_doCell_324 kr h5
def M_doCell_137 {ρ : Type} (kr : Int → zH → Option ρ) (a1 a2 a3 a4 a7 t0 t1 t2 t3 : Int) (h : zH) : Option ρ :=
M_access t3 t2 t1 t0 h  fun _ h2 =>
if a3 = 114 then (zix 160 a4 fun j14 =>
M_seen a1 a7 h2  fun v15 h16 =>
M_set a1 a2 (zhD h2 66 0 j14) v15 h16  fun _ h18 =>
M_doCell_324 kr h18)
else if a3 = 119 then (zix 8 a1 fun j10 =>
if (zhD h2 97 0 j10) = 4 then (M_writeFirst a1 h2  fun _ h12 =>
zlet (zset h12 12 0 65 (wr ((zhD h12 12 0 65) + 1))) fun h13 =>
M_doCell_200 kr a1 a2 a4 a7 h13)
else M_doCell_200 kr a1 a2 a4 a7 h2)
else zix 64 a7 fun j3 =>
if a3 = 97 then (zix 160 a4 fun j7 =>
M_lane a2 (zhD h2 68 0 j7) h2  fun v8 h9 =>
M_doCell_308 kr a1 a2 a4 (zhD h2 60 0 j3) (wr ((zhD h2 60 0 j3) + v8)) a7 h9)
else zix 160 a4 fun j4 =>
M_lane a2 (zhD h2 68 0 j4) h2  fun v5 h6 =>
M_doCell_308 kr a1 a2 a4 (zhD h2 60 0 j3) v5 a7 h6
def M_doCell {ρ : Type} (a1 a2 a3 a4 : Int) (h : zH) (kr : Int → zH → Option ρ) : Option ρ :=
zix 8 a1 fun j1 =>
zix 8 a1 fun j2 =>
M_cellOf a3 a4 a2 h  fun v3 h4 =>
M_isShared a3 h4  fun v5 h6 =>
if v5 = 0 then (if a3 = 119 then M_doCell_137 kr a1 a2 a3 a4 v3 1 v3 (wr ((wr (4 * (zhD h 95 0 j2))) + a2)) (zhD h 94 0 j1) h6
else M_doCell_137 kr a1 a2 a3 a4 v3 0 v3 (wr ((wr (4 * (zhD h 95 0 j2))) + a2)) (zhD h 94 0 j1) h6)
else if a3 = 87 then M_doCell_55 kr a1 a2 a3 a4 (zhD h 94 0 j1) v3 1 v3 (wr ((wr (4 * (zhD h 95 0 j2))) + a2)) (zhD h 94 0 j1) h6
else M_doCell_55 kr a1 a2 a3 a4 (zhD h 94 0 j1) v3 0 v3 (wr ((wr (4 * (zhD h 95 0 j2))) + a2)) (zhD h 94 0 j1) h6
def M_doLane_480 {ρ : Type} (kr : Int → zH → Option ρ) (h : zH) : Option ρ :=
kr 0 h
def M_doLane_479 {ρ : Type} (kr : Int → zH → Option ρ) (t0 t1 : Int) (h : zH) : Option ρ :=
zix 1152 t1 fun j1 =>
znar 2 t0 fun x2 =>
zlet (zset h 89 0 j1 x2) fun h3 =>
M_doLane_480 kr h3
def M_doLane_472 {ρ : Type} (kr : Int → zH → Option ρ) (t0 : Int) (h : zH) : Option ρ :=
M_doLane_479 kr 101 t0 h
def M_doLane_413 {ρ : Type} (kr : Int → zH → Option ρ) (a3 a5 a7 a8 : Int) (h : zH) : Option ρ :=
if a3 = 98 then (zix 1152 a7 fun j5 =>
zlet (zset h 89 0 j5 119) fun h6 =>
M_doLane_480 kr h6)
else zix 1152 a7 fun j1 =>
zlet (zset h 90 0 j1 a8) fun h2 =>
if a3 = 101 then M_doLane_472 kr a7 h2
else zix 12 (wr (Int.tdiv a5 6)) fun j3 =>
zix 4 (zhD h2 70 0 j3) fun j4 =>
if a8 < (zhD h2 63 0 j4) then M_doLane_479 kr 114 a7 h2
else M_doLane_472 kr a7 h2
def M_doLane_124 {ρ : Type} (kr : Int → zH → Option ρ) (a3 a5 a7 a8 t0 t1 t2 t3 : Int) (h : zH) : Option ρ :=
M_set t3 t2 t1 t0 h  fun _ h2 =>
M_doLane_413 kr a3 a5 a7 a8 h2
def M_doLane_88 {ρ : Type} (kr : Int → zH → Option ρ) (a1 a2 a3 a4 a5 a6 a7 a8 : Int) (h : zH) : Option ρ :=
zix 160 a4 fun j1 =>
if a3 = 116 then M_doLane_124 kr a3 a5 a7 a8 a6 (zhD h 66 0 j1) a2 a1 h
else if a3 = 110 then M_doLane_124 kr a3 a5 a7 a8 (Int.tmod a5 6) (zhD h 66 0 j1) a2 a1 h
else M_doLane_124 kr a3 a5 a7 a8 a2 (zhD h 66 0 j1) a2 a1 h
def M_doLane_212 {ρ : Type} (kr : Int → zH → Option ρ) (a3 a4 a5 a7 a8 t0 t2 t3 t4 : Int) (h : zH) : Option ρ :=
zix 160 a4 fun j1 =>
M_lane t0 (zhD h 67 0 j1) h  fun v2 h3 =>
M_set t4 t3 t2 v2 h3  fun _ h5 =>
M_doLane_413 kr a3 a5 a7 a8 h5
def M_doLane_261 {ρ : Type} (kr : Int → zH → Option ρ) (a3 a5 a7 t0 : Int) (h : zH) : Option ρ :=
M_doLane_413 kr a3 a5 a7 t0 h
def M_doLane_336 {ρ : Type} (kr : Int → zH → Option ρ) (a3 a5 a7 a8 t0 t1 t2 t3 : Int) (h : zH) : Option ρ :=
M_set t3 t2 t1 t0 h  fun _ h2 =>
M_doLane_413 kr a3 a5 a7 a8 h2
def M_doLane_372 {ρ : Type} (kr : Int → zH → Option ρ) (a1 a2 a3 a4 a5 a7 a8 : Int) (h : zH) : Option ρ :=
zix 160 a4 fun j1 =>
zix 160 a4 fun j2 =>
M_lane a2 (zhD h 67 0 j2) h  fun v3 h4 =>
zix 160 a4 fun j5 =>
M_lane a2 (zhD h4 68 0 j5) h4  fun v6 h7 =>
M_compute a3 v3 v6 h7  fun v8 h9 =>
M_set a1 a2 (zhD h 66 0 j1) v8 h9  fun _ h11 =>
M_doLane_413 kr a3 a5 a7 a8 h11
def M_doLane {ρ : Type} (a1 a2 a3 a4 : Int) (h : zH) (kr : Int → zH → Option ρ) : Option ρ :=
zix 8 a1 fun j1 =>
zix 8 a1 fun j2 =>
M_threadCell (zhD h 94 0 j1) (wr ((wr (4 * (zhD h 95 0 j2))) + a2)) h  fun v3 h4 =>
zix 1152 v3 fun j5 =>
if a3 = 107 then (zix 160 a4 fun j32 =>
zix 160 a4 fun j33 =>
M_set a1 a2 (zhD h4 66 0 j32) (zhD h4 67 0 j33) h4  fun _ h35 =>
M_doLane_413 kr a3 (zhD h 94 0 j1) v3 (wr ((zhD h4 90 0 j5) + 1)) h35)
else if a3 = 116 then M_doLane_88 kr a1 a2 a3 a4 (zhD h 94 0 j1) (wr ((wr (4 * (zhD h 95 0 j2))) + a2)) v3 (wr ((zhD h4 90 0 j5) + 1)) h4
else if a3 = 110 then M_doLane_88 kr a1 a2 a3 a4 (zhD h 94 0 j1) (wr ((wr (4 * (zhD h 95 0 j2))) + a2)) v3 (wr ((zhD h4 90 0 j5) + 1)) h4
else if a3 = 108 then M_doLane_88 kr a1 a2 a3 a4 (zhD h 94 0 j1) (wr ((wr (4 * (zhD h 95 0 j2))) + a2)) v3 (wr ((zhD h4 90 0 j5) + 1)) h4
else if a3 = 118 then (zix 160 a4 fun j26 =>
zix 160 a4 fun j27 =>
M_vote (zhD h4 67 0 j27) h4  fun v28 h29 =>
M_set a1 a2 (zhD h4 66 0 j26) v28 h29  fun _ h31 =>
M_doLane_413 kr a3 (zhD h 94 0 j1) v3 (wr ((zhD h4 90 0 j5) + 1)) h31)
else if a3 = 115 then (zix 160 a4 fun j18 =>
M_lane a2 (zhD h4 68 0 j18) h4  fun v19 h20 =>
M_modulo v19 h20  fun v21 h22 =>
zix 160 a4 fun j23 =>
M_isUnder v21 h22  fun v24 h25 =>
if v24 = 0 then M_doLane_212 kr a3 a4 (zhD h 94 0 j1) v3 (wr ((zhD h4 90 0 j5) + 1)) a2 (zhD h22 66 0 j23) a2 a1 h25
else M_doLane_212 kr a3 a4 (zhD h 94 0 j1) v3 (wr ((zhD h4 90 0 j5) + 1)) v21 (zhD h22 66 0 j23) a2 a1 h25)
else if a3 = 122 then (zix 160 a4 fun j14 =>
M_lane a2 (zhD h4 66 0 j14) h4  fun v15 h16 =>
if v15 = 0 then (zix 160 a4 fun j17 =>
M_doLane_261 kr a3 (zhD h 94 0 j1) v3 (zhD h16 67 0 j17) h16)
else M_doLane_261 kr a3 (zhD h 94 0 j1) v3 (wr ((zhD h4 90 0 j5) + 1)) h16)
else if a3 = 106 then (zix 160 a4 fun j13 =>
M_doLane_413 kr a3 (zhD h 94 0 j1) v3 (zhD h4 67 0 j13) h4)
else if a3 = 99 then (zix 160 a4 fun j6 =>
zix 160 a4 fun j7 =>
zix 160 a4 fun j8 =>
M_lane a2 (zhD h4 68 0 j8) h4  fun v9 h10 =>
M_launchChild (wr (Int.tdiv (zhD h 94 0 j1) 6)) (zhD h4 67 0 j7) v9 h10  fun v11 h12 =>
if v11 = 0 then M_doLane_336 kr a3 (zhD h 94 0 j1) v3 (wr ((zhD h4 90 0 j5) + 1)) 0 (zhD h4 66 0 j6) a2 a1 h12
else M_doLane_336 kr a3 (zhD h 94 0 j1) v3 (wr ((zhD h4 90 0 j5) + 1)) 1 (zhD h4 66 0 j6) a2 a1 h12)
else if a3 = 43 then M_doLane_372 kr a1 a2 a3 a4 (zhD h 94 0 j1) v3 (wr ((zhD h4 90 0 j5) + 1)) h4
else if a3 = 45 then M_doLane_372 kr a1 a2 a3 a4 (zhD h 94 0 j1) v3 (wr ((zhD h4 90 0 j5) + 1)) h4
else if a3 = 42 then M_doLane_372 kr a1 a2 a3 a4 (zhD h 94 0 j1) v3 (wr ((zhD h4 90 0 j5) + 1)) h4
else if a3 = 60 then M_doLane_372 kr a1 a2 a3 a4 (zhD h 94 0 j1) v3 (wr ((zhD h4 90 0 j5) + 1)) h4
else if a3 = 61 then M_doLane_372 kr a1 a2 a3 a4 (zhD h 94 0 j1) v3 (wr ((zhD h4 90 0 j5) + 1)) h4
else M_doLane_413 kr a3 (zhD h 94 0 j1) v3 (wr ((zhD h4 90 0 j5) + 1)) h4
def M_isNew_53 {ρ : Type} (kr : Int → zH → Option ρ) (r10 : Int → Int → Int → Int → Int → zH → Option ρ) (a1 a2 a3 a5 t0 : Int) (h : zH) : Option ρ :=
r10 a1 a2 a3 t0 (wr (a5 + 1)) h
def M_isNew_48 {ρ : Type} (kr : Int → zH → Option ρ) (r10 : Int → Int → Int → Int → Int → zH → Option ρ) (a1 a2 a3 a5 : Int) (h : zH) : Option ρ :=
M_isNew_53 kr r10 a1 a2 a3 a5 1 h
def M_isNew_52 {ρ : Type} (kr : Int → zH → Option ρ) (r10 : Int → Int → Int → Int → Int → zH → Option ρ) (a1 a2 a3 a5 : Int) (h : zH) : Option ρ :=
M_isNew_53 kr r10 a1 a2 a3 a5 0 h
def M_isNew_10b {ρ : Type} (kr : Int → zH → Option ρ) (r10 : Int → Int → Int → Int → Int → zH → Option ρ) (a1 a2 a3 a4 a5 : Int) (h : zH) : Option ρ :=
if a5 < a3 then (if a4 = 0 then M_isNew_52 kr r10 a1 a2 a3 a5 h
else M_isUnder a5 h  fun v2 h3 =>
if v2 = 0 then M_isNew_48 kr r10 a1 a2 a3 a5 h3
else M_cellOf a1 a2 a5 h3  fun v4 h5 =>
M_cellOf a1 a2 a3 h5  fun v6 h7 =>
if v4 = v6 then M_isNew_52 kr r10 a1 a2 a3 a5 h7
else M_isNew_48 kr r10 a1 a2 a3 a5 h7)
else znar 1 a4 fun x1 => kr x1 h
def M_isNew_10 {ρ : Type} (kr : Int → zH → Option ρ) : Int → Int → Int → Int → Int → zH → Option ρ := zit (fun _ _ _ _ _ _ => none) (M_isNew_10b kr) zN
def M_isNew {ρ : Type} (a1 a2 a3 : Int) (h : zH) (kr : Int → zH → Option ρ) : Option ρ :=
M_isUnder a3 h  fun v1 h2 =>
M_isNew_10 kr a1 a2 a3 v1 0 h2
def M_banks_56 {ρ : Type} (kr : Int → zH → Option ρ) (r5 : Int → Int → Int → Int → zH → Option ρ) (r17 : Int → Int → Int → Int → Int → Int → zH → Option ρ) (a1 a2 a3 a4 a6 t0 t1 : Int) (h : zH) : Option ρ :=
r17 a1 a2 a3 a4 (wr (t1 + t0)) (wr (a6 + 1)) h
def M_banks_55 {ρ : Type} (kr : Int → zH → Option ρ) (r5 : Int → Int → Int → Int → zH → Option ρ) (r17 : Int → Int → Int → Int → Int → Int → zH → Option ρ) (a1 a2 a3 a4 a6 t0 : Int) (h : zH) : Option ρ :=
M_banks_56 kr r5 r17 a1 a2 a3 a4 a6 0 t0 h
def M_banks_77 {ρ : Type} (kr : Int → zH → Option ρ) (r5 : Int → Int → Int → Int → zH → Option ρ) (a1 a2 a4 t0 : Int) (h : zH) : Option ρ :=
r5 a1 a2 t0 (wr (a4 + 1)) h
def M_banks_17b {ρ : Type} (kr : Int → zH → Option ρ) (r5 : Int → Int → Int → Int → zH → Option ρ) (r17 : Int → Int → Int → Int → Int → Int → zH → Option ρ) (a1 a2 a3 a4 a5 a6 : Int) (h : zH) : Option ρ :=
if a6 < 4 then (M_isNew a1 a2 a6 h  fun v1 h2 =>
if v1 = 0 then M_banks_55 kr r5 r17 a1 a2 a3 a4 a6 a5 h2
else M_cellOf a1 a2 a6 h2  fun v3 h4 =>
if (Int.tmod v3 4) = a4 then M_banks_56 kr r5 r17 a1 a2 a3 a4 a6 1 a5 h4
else M_banks_55 kr r5 r17 a1 a2 a3 a4 a6 a5 h4)
else if a3 < a5 then M_banks_77 kr r5 a1 a2 a4 a5 h
else M_banks_77 kr r5 a1 a2 a4 a3 h
def M_banks_17 {ρ : Type} (kr : Int → zH → Option ρ) (r5 : Int → Int → Int → Int → zH → Option ρ) : Int → Int → Int → Int → Int → Int → zH → Option ρ := zit (fun _ _ _ _ _ _ _ => none) (M_banks_17b kr r5) zN
def M_banks_5b {ρ : Type} (kr : Int → zH → Option ρ) (r5 : Int → Int → Int → Int → zH → Option ρ) (a1 a2 a3 a4 : Int) (h : zH) : Option ρ :=
if a4 < 4 then M_banks_17 kr r5 a1 a2 a3 a4 0 0 h
else kr a3 h
def M_banks_5 {ρ : Type} (kr : Int → zH → Option ρ) : Int → Int → Int → Int → zH → Option ρ := zit (fun _ _ _ _ _ => none) (M_banks_5b kr) zN
def M_banks {ρ : Type} (a1 a2 : Int) (h : zH) (kr : Int → zH → Option ρ) : Option ρ :=
M_banks_5 kr a1 a2 0 0 h
def M_lines_142 {ρ : Type} (kr : Int → zH → Option ρ) (r8 : Int → Int → Int → Int → Int → zH → Option ρ) (a1 a2 a3 a4 a5 : Int) (h : zH) : Option ρ :=
r8 a1 a2 a3 a4 (wr (a5 + 1)) h
def M_lines_123 {ρ : Type} (kr : Int → zH → Option ρ) (r8 : Int → Int → Int → Int → Int → zH → Option ρ) (a1 a2 a3 a4 a5 a6 t0 t1 : Int) (h : zH) : Option ρ :=
zlet (zset h 12 0 58 (wr (t1 + t0))) fun h1 =>
zix 4 (wr ((wr (2 * a1)) + (Int.tmod a6 2))) fun j2 =>
zlet (zset h1 102 0 j2 a6) fun h3 =>
M_lines_142 kr r8 a1 a2 a3 a4 a5 h3
def M_lines_106 {ρ : Type} (kr : Int → zH → Option ρ) (r8 : Int → Int → Int → Int → Int → zH → Option ρ) (a1 a2 a4 a5 a6 a7 t0 t1 : Int) (h : zH) : Option ρ :=
if a7 = 0 then M_lines_123 kr r8 a1 a2 (wr (t1 + t0)) a4 a5 a6 1 (zhD h 12 0 58) h
else M_lines_123 kr r8 a1 a2 (wr (t1 + t0)) a4 a5 a6 0 (zhD h 12 0 58) h
def M_lines_92 {ρ : Type} (kr : Int → zH → Option ρ) (r8 : Int → Int → Int → Int → Int → zH → Option ρ) (a1 a2 a3 a4 a5 a6 t0 : Int) (h : zH) : Option ρ :=
if t0 = 0 then M_lines_106 kr r8 a1 a2 a4 a5 a6 t0 6 a3 h
else M_lines_106 kr r8 a1 a2 a4 a5 a6 t0 2 a3 h
def M_lines_42 {ρ : Type} (kr : Int → zH → Option ρ) (r8 : Int → Int → Int → Int → Int → zH → Option ρ) (a1 a2 a3 a4 a5 t0 : Int) (h : zH) : Option ρ :=
if t0 = (-1) then M_lines_142 kr r8 a1 a2 a3 a4 a5 h
else if (zand (zshr a4 t0) 1) = 0 then (zix 4 (wr ((wr (2 * a1)) + (Int.tmod t0 2))) fun j1 =>
if (zhD h 102 0 j1) = t0 then M_lines_92 kr r8 a1 a2 a3 (zor a4 (zshl 1 t0)) a5 t0 1 h
else M_lines_92 kr r8 a1 a2 a3 (zor a4 (zshl 1 t0)) a5 t0 0 h)
else M_lines_142 kr r8 a1 a2 a3 a4 a5 h
def M_lines_8b {ρ : Type} (kr : Int → zH → Option ρ) (r8 : Int → Int → Int → Int → Int → zH → Option ρ) (a1 a2 a3 a4 a5 : Int) (h : zH) : Option ρ :=
if a5 < 4 then (M_isUnder a5 h  fun v1 h2 =>
if v1 = 0 then M_lines_42 kr r8 a1 a2 a3 a4 a5 (-1) h2
else zix 160 a2 fun j3 =>
M_lane a5 (zhD h2 67 0 j3) h2  fun v4 h5 =>
M_lines_42 kr r8 a1 a2 a3 a4 a5 (wr (Int.tdiv v4 8)) h5)
else kr a3 h
def M_lines_8 {ρ : Type} (kr : Int → zH → Option ρ) : Int → Int → Int → Int → Int → zH → Option ρ := zit (fun _ _ _ _ _ _ => none) (M_lines_8b kr) zN
def M_lines {ρ : Type} (a1 a2 : Int) (h : zH) (kr : Int → zH → Option ρ) : Option ρ :=
M_lines_8 kr a1 a2 0 0 0 h
