def M_delayOf_55 {ρ : Type} (kr : Int → zH → Option ρ) (a4 : Int) (h : zH) : Option ρ :=
kr (wr (2 * a4)) h
def M_delayOf_106 {ρ : Type} (kr : Int → zH → Option ρ) (t0 : Int) (h : zH) : Option ρ :=
kr t0 h
def M_delayOf {ρ : Type} (a1 a2 a3 : Int) (h : zH) (kr : Int → zH → Option ρ) : Option ρ :=
if a2 = 42 then kr 2 h
else if a2 = 97 then M_delayOf_55 kr (wr ((wr ((wr ((zand (zhD h 12 0 63) 1) + (zand (zshr (zhD h 12 0 63) 1) 1))) + (zand (zshr (zhD h 12 0 63) 2) 1))) + (zand (zshr (zhD h 12 0 63) 3) 1))) h
else if a2 = 120 then M_delayOf_55 kr (wr ((wr ((wr ((zand (zhD h 12 0 63) 1) + (zand (zshr (zhD h 12 0 63) 1) 1))) + (zand (zshr (zhD h 12 0 63) 2) 1))) + (zand (zshr (zhD h 12 0 63) 3) 1))) h
else if a2 = 99 then kr (wr (4 * (wr ((wr ((wr ((zand (zhD h 12 0 63) 1) + (zand (zshr (zhD h 12 0 63) 1) 1))) + (zand (zshr (zhD h 12 0 63) 2) 1))) + (zand (zshr (zhD h 12 0 63) 3) 1))))) h
else M_isShared a2 h  fun v1 h2 =>
if v1 = 0 then (if a2 = 114 then (M_lines a1 a3 h2  fun v3 h4 =>
M_delayOf_106 kr v3 h4)
else M_delayOf_106 kr (wr (1 + (zhD h2 12 0 65))) h2)
else M_banks a2 a3 h2  fun v5 h6 =>
kr v5 h6
def M_doLanes_176 {ρ : Type} (kr : Int → zH → Option ρ) (r19 : Int → Int → Int → Int → Int → zH → Option ρ) (a1 a2 a3 a4 a5 : Int) (h : zH) : Option ρ :=
r19 a1 a2 a3 a4 (wr (a5 + 1)) h
def M_doLanes_122 {ρ : Type} (kr : Int → zH → Option ρ) (r19 : Int → Int → Int → Int → Int → zH → Option ρ) (a1 a2 a3 a4 a5 t0 : Int) (h : zH) : Option ρ :=
znar 2 t0 fun x1 =>
zlet (zset h 12 0 66 x1) fun h2 =>
zlet (zset h2 12 0 67 a5) fun h3 =>
M_doLanes_176 kr r19 a1 a2 a3 a4 a5 h3
def M_doLanes_157 {ρ : Type} (kr : Int → zH → Option ρ) (r19 : Int → Int → Int → Int → Int → zH → Option ρ) (a1 a2 a3 a4 a5 : Int) (h : zH) : Option ρ :=
M_doLane a1 a5 a2 a3 h  fun _ h2 =>
zlet (zset h2 12 0 64 (wr ((zhD h2 12 0 64) + 1))) fun h3 =>
M_doLanes_176 kr r19 a1 a2 a3 a4 a5 h3
def M_doLanes_148 {ρ : Type} (kr : Int → zH → Option ρ) (r19 : Int → Int → Int → Int → Int → zH → Option ρ) (a1 a2 a3 a4 a5 : Int) (h : zH) : Option ρ :=
M_doCell a1 a5 a2 a3 h  fun _ h2 =>
M_doLanes_157 kr r19 a1 a2 a3 a4 a5 h2
def M_doLanes_100 {ρ : Type} (kr : Int → zH → Option ρ) (r19 : Int → Int → Int → Int → Int → zH → Option ρ) (a1 a2 a3 a4 a5 t0 : Int) (h : zH) : Option ρ :=
if t0 = 0 then (M_isGlobal a2 h  fun v1 h2 =>
if v1 = 0 then (M_isShared a2 h2  fun v3 h4 =>
if v3 = 0 then M_doLanes_157 kr r19 a1 a2 a3 a4 a5 h4
else M_doLanes_148 kr r19 a1 a2 a3 a4 a5 h4)
else M_doLanes_148 kr r19 a1 a2 a3 a4 a5 h2)
else M_isGlobal a2 h  fun v5 h6 =>
if v5 = 0 then M_doLanes_122 kr r19 a1 a2 a3 a4 a5 115 h6
else M_doLanes_122 kr r19 a1 a2 a3 a4 a5 103 h6
def M_doLanes_95 {ρ : Type} (kr : Int → zH → Option ρ) (r19 : Int → Int → Int → Int → Int → zH → Option ρ) (a1 a2 a3 a4 a5 : Int) (h : zH) : Option ρ :=
M_doLanes_100 kr r19 a1 a2 a3 a4 a5 1 h
def M_doLanes_99 {ρ : Type} (kr : Int → zH → Option ρ) (r19 : Int → Int → Int → Int → Int → zH → Option ρ) (a1 a2 a3 a4 a5 : Int) (h : zH) : Option ρ :=
M_doLanes_100 kr r19 a1 a2 a3 a4 a5 0 h
def M_doLanes_64 {ρ : Type} (kr : Int → zH → Option ρ) (r19 : Int → Int → Int → Int → Int → zH → Option ρ) (a1 a2 a3 a4 a5 : Int) (h : zH) : Option ρ :=
M_isShared a2 h  fun v1 h2 =>
if v1 = 0 then M_doLanes_99 kr r19 a1 a2 a3 a4 a5 h2
else M_cellOf a2 a3 a5 h2  fun v3 h4 =>
zix 4 a4 fun j5 =>
M_in v3 0 (wr ((zhD h4 62 0 j5) - 1)) h4  fun v6 h7 =>
if v6 = 0 then M_doLanes_95 kr r19 a1 a2 a3 a4 a5 h7
else M_doLanes_99 kr r19 a1 a2 a3 a4 a5 h7
def M_doLanes_182 {ρ : Type} (kr : Int → zH → Option ρ) (h : zH) : Option ρ :=
kr 0 h
def M_doLanes_19b {ρ : Type} (kr : Int → zH → Option ρ) (r19 : Int → Int → Int → Int → Int → zH → Option ρ) (a1 a2 a3 a4 a5 : Int) (h : zH) : Option ρ :=
if a5 < 4 then (if (zhD h 12 0 66) = 45 then (M_isUnder a5 h  fun v1 h2 =>
if v1 = 0 then M_doLanes_176 kr r19 a1 a2 a3 a4 a5 h2
else M_isGlobal a2 h2  fun v3 h4 =>
if v3 = 0 then M_doLanes_64 kr r19 a1 a2 a3 a4 a5 h4
else M_cellOf a2 a3 a5 h4  fun v5 h6 =>
M_noCell v5 h6  fun v7 h8 =>
if v7 = 0 then M_doLanes_64 kr r19 a1 a2 a3 a4 a5 h8
else M_doLanes_95 kr r19 a1 a2 a3 a4 a5 h8)
else M_doLanes_182 kr h)
else M_doLanes_182 kr h
def M_doLanes_19 {ρ : Type} (kr : Int → zH → Option ρ) : Int → Int → Int → Int → Int → zH → Option ρ := zit (fun _ _ _ _ _ _ => none) (M_doLanes_19b kr) zN
def M_doLanes {ρ : Type} (a1 a2 a3 : Int) (h : zH) (kr : Int → zH → Option ρ) : Option ρ :=
zix 8 a1 fun j1 =>
zix 12 (wr (Int.tdiv (zhD h 94 0 j1) 6)) fun j2 =>
M_doLanes_19 kr a1 a2 a3 (zhD h 70 0 j2) 0 h
def M_carryOut_73b {ρ : Type} (kr : Int → zH → Option ρ) (r64 : Int → Int → Int → Int → Int → Int → Int → Int → zH → Option ρ) (r73 : Int → Int → Int → Int → Int → Int → Int → Int → Int → zH → Option ρ) (a1 a3 a4 a5 a6 a7 a8 a9 a10 : Int) (h : zH) : Option ρ :=
if a10 < 8 then (M_registerCell a3 a9 a10 h  fun v1 h2 =>
zix 9216 v1 fun j3 =>
zix 32 (wr ((wr (8 * a9)) + a10)) fun j4 =>
zlet (zset h2 109 0 j4 (zhD h2 91 0 j3)) fun h5 =>
r73 a1 a3 a4 a5 a6 a7 a8 a9 (wr (a10 + 1)) h5)
else r64 a1 a3 a4 a5 a6 a7 a8 (wr (a9 + 1)) h
def M_carryOut_73 {ρ : Type} (kr : Int → zH → Option ρ) (r64 : Int → Int → Int → Int → Int → Int → Int → Int → zH → Option ρ) : Int → Int → Int → Int → Int → Int → Int → Int → Int → zH → Option ρ := zit (fun _ _ _ _ _ _ _ _ _ _ => none) (M_carryOut_73b kr r64) zN
def M_carryOut_324 {ρ : Type} (kr : Int → zH → Option ρ) (a3 a4 a9 t0 t1 : Int) (h : zH) : Option ρ :=
zlet (zset h 12 0 59 (wr (t1 + t0))) fun h1 =>
zix 8 a3 fun j2 =>
zlet (zset h1 96 0 j2 (wr ((zhD h1 12 0 1) + a9))) fun h3 =>
M_settle a4 h3  fun _ h5 =>
kr 0 h5
def M_carryOut_178 {ρ : Type} (kr : Int → zH → Option ρ) (a1 a3 a4 a5 a6 a7 a8 : Int) (h : zH) : Option ρ :=
M_doLanes a3 a8 a7 h  fun _ h2 =>
zlet (zset h2 12 0 55 (wr ((zhD h2 12 0 55) + 1))) fun h3 =>
zlet (zset h3 12 0 54 (wrl ((zhD h3 12 0 54) + (zhD h3 12 0 64)))) fun h4 =>
zix 2 a1 fun j5 =>
zlet (zset h4 100 0 j5 a4) fun h6 =>
zix 8 a3 fun j7 =>
zix 2 a1 fun j8 =>
zlet (zset h6 101 0 j8 (zhD h6 95 0 j7)) fun h9 =>
if (zhD h9 12 0 66) = 45 then (M_delayOf a1 a8 a7 h9  fun v10 h11 =>
zlet (zset h11 12 0 56 (wr ((zhD h11 12 0 56) + 1))) fun h12 =>
zlet (zset h12 12 0 57 (wr ((zhD h12 12 0 57) + v10))) fun h13 =>
M_isShared a8 h13  fun v14 h15 =>
if v14 = 0 then M_carryOut_324 kr a3 a4 v10 0 (zhD h13 12 0 59) h15
else M_carryOut_324 kr a3 a4 v10 (wr (v10 - 1)) (zhD h13 12 0 59) h15)
else zix 8 a3 fun j16 =>
M_fail a5 (zhD h9 12 0 66) (Int.tmod a4 6) (wr ((wr (4 * (zhD h9 95 0 j16))) + (zhD h9 12 0 67))) a6 h9  fun _ h18 =>
kr 0 h18
def M_carryOut_162 {ρ : Type} (kr : Int → zH → Option ρ) (a1 a3 a4 a5 a6 a7 a8 : Int) (h : zH) : Option ρ :=
if a8 = 102 then (M_writeAll a3 h  fun v1 h2 =>
zlet (zset h2 12 0 65 v1) fun h3 =>
M_carryOut_178 kr a1 a3 a4 a5 a6 a7 a8 h3)
else M_carryOut_178 kr a1 a3 a4 a5 a6 a7 a8 h
def M_carryOut_156 {ρ : Type} (kr : Int → zH → Option ρ) (a1 a3 a4 a5 a6 a7 a8 : Int) (h : zH) : Option ρ :=
M_writeAll a3 h  fun v1 h2 =>
M_carryOut_162 kr a1 a3 a4 a5 a6 a7 a8 h2
def M_carryOut_64b {ρ : Type} (kr : Int → zH → Option ρ) (r64 : Int → Int → Int → Int → Int → Int → Int → Int → zH → Option ρ) (a1 a3 a4 a5 a6 a7 a8 a9 : Int) (h : zH) : Option ρ :=
if a9 < 4 then M_carryOut_73 kr r64 a1 a3 a4 a5 a6 a7 a8 a9 0 h
else zlet (zset h 12 0 64 0) fun h1 =>
zlet (zset h1 12 0 65 0) fun h2 =>
zlet (zset h2 12 0 66 45) fun h3 =>
if a8 = 97 then M_carryOut_156 kr a1 a3 a4 a5 a6 a7 a8 h3
else if a8 = 120 then M_carryOut_156 kr a1 a3 a4 a5 a6 a7 a8 h3
else if a8 = 98 then M_carryOut_156 kr a1 a3 a4 a5 a6 a7 a8 h3
else M_carryOut_162 kr a1 a3 a4 a5 a6 a7 a8 h3
def M_carryOut_64 {ρ : Type} (kr : Int → zH → Option ρ) : Int → Int → Int → Int → Int → Int → Int → Int → zH → Option ρ := zit (fun _ _ _ _ _ _ _ _ _ => none) (M_carryOut_64b kr) zN
def M_carryOut {ρ : Type} (a1 a2 : Int) (h : zH) (kr : Int → zH → Option ρ) : Option ρ :=
zix 8 (wr ((wr (4 * a1)) + a2)) fun j1 =>
M_placeOf (wr ((wr (4 * a1)) + a2)) h  fun v2 h3 =>
zix 12 (wr (Int.tdiv (zhD h 94 0 j1) 6)) fun j4 =>
zix 160 (wr ((wr (40 * (zhD h3 70 0 j4))) + v2)) fun j5 =>
M_maskOf (wr ((wr (4 * a1)) + a2)) h3  fun v6 h7 =>
zlet (zset h7 12 0 63 v6) fun h8 =>
M_carryOut_64 kr a1 (wr ((wr (4 * a1)) + a2)) (zhD h 94 0 j1) (wr (Int.tdiv (zhD h 94 0 j1) 6)) v2 (wr ((wr (40 * (zhD h3 70 0 j4))) + v2)) (zhD h3 65 0 j5) 0 h8
def M_beginLaunch {ρ : Type} (a1 : Int) (h : zH) (kr : Int → zH → Option ρ) : Option ρ :=
zix 12 a1 fun j1 =>
zlet (zset h 69 0 j1 114) fun h2 =>
kr 0 h2
def M_firstOf_30 {ρ : Type} (kr : Int → zH → Option ρ) (r2 : Int → Int → zH → Option ρ) (a1 a2 : Int) (h : zH) : Option ρ :=
r2 a1 (wr (a2 + 1)) h
def M_firstOf_2b {ρ : Type} (kr : Int → zH → Option ρ) (r2 : Int → Int → zH → Option ρ) (a1 a2 : Int) (h : zH) : Option ρ :=
if a2 < (zhD h 12 0 13) then (zix 12 a2 fun j1 =>
if (zhD h 71 0 j1) = a1 then (M_isOver a2 h  fun v2 h3 =>
if v2 = 0 then kr a2 h3
else M_firstOf_30 kr r2 a1 a2 h3)
else M_firstOf_30 kr r2 a1 a2 h)
else kr (-1) h
def M_firstOf_2 {ρ : Type} (kr : Int → zH → Option ρ) : Int → Int → zH → Option ρ := zit (fun _ _ _ => none) (M_firstOf_2b kr) zN
def M_firstOf {ρ : Type} (a1 : Int) (h : zH) (kr : Int → zH → Option ρ) : Option ρ :=
M_firstOf_2 kr a1 0 h
def M_isBroken_32 {ρ : Type} (kr : Int → zH → Option ρ) (t0 : Int) (h : zH) : Option ρ :=
znar 1 t0 fun x1 => kr x1 h
def M_isBroken_27 {ρ : Type} (kr : Int → zH → Option ρ) (h : zH) : Option ρ :=
M_isBroken_32 kr 1 h
def M_isBroken_31 {ρ : Type} (kr : Int → zH → Option ρ) (h : zH) : Option ρ :=
M_isBroken_32 kr 0 h
def M_isBroken {ρ : Type} (a1 : Int) (h : zH) (kr : Int → zH → Option ρ) : Option ρ :=
if a1 = (-1) then M_isBroken_31 kr h
else zix 12 a1 fun j1 =>
if (zhD h 69 0 j1) = 102 then M_isBroken_27 kr h
else zix 12 a1 fun j2 =>
if (zhD h 69 0 j2) = 120 then M_isBroken_27 kr h
else M_isBroken_31 kr h
def M_goThrough_137 {ρ : Type} (kr : Int → zH → Option ρ) (r2 : Int → Int → zH → Option ρ) (a1 a2 : Int) (h : zH) : Option ρ :=
r2 a1 a2 h
def M_goThrough_104 {ρ : Type} (kr : Int → zH → Option ρ) (r2 : Int → Int → zH → Option ρ) (a1 a2 a3 a4 t0 : Int) (h : zH) : Option ρ :=
if a4 = 0 then (if t0 = 0 then (M_beginLaunch a3 h  fun _ h2 =>
M_goThrough_137 kr r2 a1 a2 h2)
else M_goThrough_137 kr r2 a1 0 h)
else zix 12 a3 fun j3 =>
zlet (zset h 69 0 j3 120) fun h4 =>
M_goThrough_137 kr r2 a1 a2 h4
def M_goThrough_103 {ρ : Type} (kr : Int → zH → Option ρ) (r2 : Int → Int → zH → Option ρ) (a1 a2 a3 a4 : Int) (h : zH) : Option ρ :=
M_goThrough_104 kr r2 a1 a2 a3 a4 0 h
def M_goThrough_69 {ρ : Type} (kr : Int → zH → Option ρ) (r2 : Int → Int → zH → Option ρ) (a1 a2 a3 t0 : Int) (h : zH) : Option ρ :=
if t0 = 0 then (zix 12 a3 fun j1 =>
if (zhD h 74 0 j1) = (-1) then M_goThrough_103 kr r2 a1 a2 a3 t0 h
else zix 12 a3 fun j2 =>
M_isOver (zhD h 74 0 j2) h  fun v3 h4 =>
if v3 = 0 then M_goThrough_104 kr r2 a1 a2 a3 t0 1 h4
else M_goThrough_103 kr r2 a1 a2 a3 t0 h4)
else M_goThrough_103 kr r2 a1 a2 a3 t0 h
def M_goThrough_64 {ρ : Type} (kr : Int → zH → Option ρ) (r2 : Int → Int → zH → Option ρ) (a1 a2 a3 : Int) (h : zH) : Option ρ :=
M_goThrough_69 kr r2 a1 a2 a3 1 h
def M_goThrough_33 {ρ : Type} (kr : Int → zH → Option ρ) (r2 : Int → Int → zH → Option ρ) (a1 a3 t0 : Int) (h : zH) : Option ρ :=
if t0 = 0 then M_goThrough_137 kr r2 a1 t0 h
else zix 12 a3 fun j1 =>
M_isBroken (zhD h 75 0 j1) h  fun v2 h3 =>
if v2 = 0 then (zix 12 a3 fun j4 =>
M_isBroken (zhD h3 74 0 j4) h3  fun v5 h6 =>
if v5 = 0 then M_goThrough_69 kr r2 a1 t0 a3 0 h6
else M_goThrough_64 kr r2 a1 t0 a3 h6)
else M_goThrough_64 kr r2 a1 t0 a3 h3
def M_goThrough_32 {ρ : Type} (kr : Int → zH → Option ρ) (r2 : Int → Int → zH → Option ρ) (a1 a3 : Int) (h : zH) : Option ρ :=
M_goThrough_33 kr r2 a1 a3 0 h
def M_goThrough_2b {ρ : Type} (kr : Int → zH → Option ρ) (r2 : Int → Int → zH → Option ρ) (a1 a2 : Int) (h : zH) : Option ρ :=
if a2 = 0 then kr 0 h
else M_firstOf a1 h  fun v1 h2 =>
if v1 = (-1) then M_goThrough_32 kr r2 a1 v1 h2
else zix 12 v1 fun j3 =>
if (zhD h2 69 0 j3) = 113 then M_goThrough_33 kr r2 a1 v1 1 h2
else M_goThrough_32 kr r2 a1 v1 h2
def M_goThrough_2 {ρ : Type} (kr : Int → zH → Option ρ) : Int → Int → zH → Option ρ := zit (fun _ _ _ => none) (M_goThrough_2b kr) zN
def M_goThrough {ρ : Type} (a1 : Int) (h : zH) (kr : Int → zH → Option ρ) : Option ρ :=
M_goThrough_2 kr a1 1 h
def M_copyOne_73 {ρ : Type} (kr : Int → zH → Option ρ) (t0 t1 : Int) (h : zH) : Option ρ :=
zix 12 t1 fun j1 =>
znar 2 t0 fun x2 =>
zlet (zset h 69 0 j1 x2) fun h3 =>
kr 0 h3
def M_copyOne {ρ : Type} (a1 : Int) (h : zH) (kr : Int → zH → Option ρ) : Option ρ :=
zix 12 a1 fun j1 =>
zix 12 a1 fun j2 =>
zix 12 a1 fun j3 =>
zix 12 a1 fun j4 =>
zix 64 (wr ((zhD h 80 0 j3) + (zhD h 83 0 j4))) fun j5 =>
zix 64 (wr ((zhD h 81 0 j1) + (zhD h 83 0 j2))) fun j6 =>
zlet (zset h 60 0 j6 (zhD h 60 0 j5)) fun h7 =>
zix 12 a1 fun j8 =>
zix 12 a1 fun j9 =>
zlet (zset h7 83 0 j9 (wr ((zhD h7 83 0 j8) + 1))) fun h10 =>
zix 12 a1 fun j11 =>
zix 12 a1 fun j12 =>
if (zhD h10 83 0 j11) = (zhD h10 82 0 j12) then M_copyOne_73 kr 100 a1 h10
else M_copyOne_73 kr 114 a1 h10
def M_usedRegisters_58 {ρ : Type} (kr : Int → zH → Option ρ) (r4 : Int → Int → Int → zH → Option ρ) (a1 a3 t0 t1 : Int) (h : zH) : Option ρ :=
r4 a1 (wr (t1 + t0)) (wr (a3 + 1)) h
def M_usedRegisters_57 {ρ : Type} (kr : Int → zH → Option ρ) (r4 : Int → Int → Int → zH → Option ρ) (a1 a3 t0 : Int) (h : zH) : Option ρ :=
M_usedRegisters_58 kr r4 a1 a3 0 t0 h
def M_usedRegisters_4b {ρ : Type} (kr : Int → zH → Option ρ) (r4 : Int → Int → Int → zH → Option ρ) (a1 a2 a3 : Int) (h : zH) : Option ρ :=
if a3 < 72 then (zix 72 a3 fun j1 =>
if (zhD h 87 0 j1) = 0 then M_usedRegisters_57 kr r4 a1 a3 a2 h
else zix 72 a3 fun j2 =>
if (zhD h 88 0 j2) = a1 then (zix 12 (wr (Int.tdiv a3 6)) fun j3 =>
zix 12 (wr (Int.tdiv a3 6)) fun j4 =>
zix 4 (zhD h 70 0 j4) fun j5 =>
M_usedRegisters_58 kr r4 a1 a3 (wr ((zhD h 73 0 j3) * (zhD h 61 0 j5))) a2 h)
else M_usedRegisters_57 kr r4 a1 a3 a2 h)
else kr a2 h
def M_usedRegisters_4 {ρ : Type} (kr : Int → zH → Option ρ) : Int → Int → Int → zH → Option ρ := zit (fun _ _ _ _ => none) (M_usedRegisters_4b kr) zN
def M_usedRegisters {ρ : Type} (a1 : Int) (h : zH) (kr : Int → zH → Option ρ) : Option ρ :=
M_usedRegisters_4 kr a1 0 0 h
def M_usedShared_48 {ρ : Type} (kr : Int → zH → Option ρ) (r4 : Int → Int → Int → zH → Option ρ) (a1 a3 t0 t1 : Int) (h : zH) : Option ρ :=
r4 a1 (wr (t1 + t0)) (wr (a3 + 1)) h
def M_usedShared_47 {ρ : Type} (kr : Int → zH → Option ρ) (r4 : Int → Int → Int → zH → Option ρ) (a1 a3 t0 : Int) (h : zH) : Option ρ :=
M_usedShared_48 kr r4 a1 a3 0 t0 h
def M_usedShared_4b {ρ : Type} (kr : Int → zH → Option ρ) (r4 : Int → Int → Int → zH → Option ρ) (a1 a2 a3 : Int) (h : zH) : Option ρ :=
if a3 < 72 then (zix 72 a3 fun j1 =>
if (zhD h 87 0 j1) = 0 then M_usedShared_47 kr r4 a1 a3 a2 h
else zix 72 a3 fun j2 =>
if (zhD h 88 0 j2) = a1 then (zix 12 (wr (Int.tdiv a3 6)) fun j3 =>
zix 4 (zhD h 70 0 j3) fun j4 =>
M_usedShared_48 kr r4 a1 a3 (zhD h 62 0 j4) a2 h)
else M_usedShared_47 kr r4 a1 a3 a2 h)
else kr a2 h
def M_usedShared_4 {ρ : Type} (kr : Int → zH → Option ρ) : Int → Int → Int → zH → Option ρ := zit (fun _ _ _ _ => none) (M_usedShared_4b kr) zN
def M_usedShared {ρ : Type} (a1 : Int) (h : zH) (kr : Int → zH → Option ρ) : Option ρ :=
M_usedShared_4 kr a1 0 0 h
def M_hasRoom_72 {ρ : Type} (kr : Int → zH → Option ρ) (t0 : Int) (h : zH) : Option ρ :=
znar 1 t0 fun x1 => kr x1 h
def M_hasRoom_71 {ρ : Type} (kr : Int → zH → Option ρ) (h : zH) : Option ρ :=
M_hasRoom_72 kr 0 h
def M_hasRoom {ρ : Type} (a1 a2 : Int) (h : zH) (kr : Int → zH → Option ρ) : Option ρ :=
zix 2 a1 fun j1 =>
M_groupsOf a2 h  fun v2 h3 =>
if 4 < (wr ((zhD h 93 0 j1) + v2)) then M_hasRoom_71 kr h3
else M_usedRegisters a1 h3  fun v4 h5 =>
zix 12 a2 fun j6 =>
zix 12 a2 fun j7 =>
zix 4 (zhD h5 70 0 j7) fun j8 =>
if 64 < (wr (v4 + (wr ((zhD h5 73 0 j6) * (zhD h5 61 0 j8))))) then M_hasRoom_71 kr h5
else M_usedShared a1 h5  fun v9 h10 =>
zix 12 a2 fun j11 =>
zix 4 (zhD h10 70 0 j11) fun j12 =>
if 32 < (wr (v9 + (zhD h10 62 0 j12))) then M_hasRoom_71 kr h10
else M_hasRoom_72 kr 1 h10
def M_unitFor_50 {ρ : Type} (kr : Int → zH → Option ρ) (t0 : Int) (h : zH) : Option ρ :=
kr t0 h
def M_unitFor_37 {ρ : Type} (kr : Int → zH → Option ρ) (h : zH) : Option ρ :=
M_unitFor_50 kr 0 h
def M_unitFor_41 {ρ : Type} (kr : Int → zH → Option ρ) (a3 : Int) (h : zH) : Option ρ :=
if a3 = 0 then M_unitFor_50 kr (-1) h
else M_unitFor_50 kr 1 h
def M_unitFor {ρ : Type} (a1 : Int) (h : zH) (kr : Int → zH → Option ρ) : Option ρ :=
M_hasRoom 0 a1 h  fun v1 h2 =>
M_hasRoom 1 a1 h2  fun v3 h4 =>
if v1 = 0 then M_unitFor_41 kr v3 h4
else if v3 = 0 then M_unitFor_37 kr h4
else zix 2 0 fun j5 =>
zix 2 1 fun j6 =>
if (zhD h4 93 0 j6) < (zhD h4 93 0 j5) then M_unitFor_41 kr v3 h4
else M_unitFor_37 kr h4
def M_give_133b {ρ : Type} (kr : Int → zH → Option ρ) (r74 : Int → Int → Int → Int → zH → Option ρ) (r133 : Int → Int → Int → Int → Int → Int → zH → Option ρ) (a1 a2 a3 a4 a5 a6 : Int) (h : zH) : Option ρ :=
if a6 < 8 then (zix 9216 (wr ((wr (8 * a5)) + a6)) fun j1 =>
zlet (zset h 91 0 j1 0) fun h2 =>
r133 a1 a2 a3 a4 a5 (wr (a6 + 1)) h2)
else r74 a1 a2 a3 (wr (a4 + 1)) h
def M_give_133 {ρ : Type} (kr : Int → zH → Option ρ) (r74 : Int → Int → Int → Int → zH → Option ρ) : Int → Int → Int → Int → Int → Int → zH → Option ρ := zit (fun _ _ _ _ _ _ _ => none) (M_give_133b kr r74) zN
def M_give_129 {ρ : Type} (kr : Int → zH → Option ρ) (r74 : Int → Int → Int → Int → zH → Option ρ) (a1 a2 a3 a4 a5 t0 t1 : Int) (h : zH) : Option ρ :=
zix 1152 t1 fun j1 =>
znar 2 t0 fun x2 =>
zlet (zset h 89 0 j1 x2) fun h3 =>
M_give_133 kr r74 a1 a2 a3 a4 a5 0 h3
def M_give_169b {ρ : Type} (kr : Int → zH → Option ρ) (r169 : Int → Int → Int → Int → zH → Option ρ) (a1 a2 a3 a4 : Int) (h : zH) : Option ρ :=
M_groupsOf a1 h  fun v1 h2 =>
if a4 < v1 then (zix 2 a2 fun j5 =>
zix 8 (wr ((wr (4 * a2)) + (zhD h2 93 0 j5))) fun j6 =>
zlet (zset h2 94 0 j6 a3) fun h7 =>
zix 8 (wr ((wr (4 * a2)) + (zhD h2 93 0 j5))) fun j8 =>
zlet (zset h7 95 0 j8 a4) fun h9 =>
zix 8 (wr ((wr (4 * a2)) + (zhD h2 93 0 j5))) fun j10 =>
zlet (zset h9 96 0 j10 (zhD h9 12 0 1)) fun h11 =>
zix 8 (wr ((wr (4 * a2)) + (zhD h2 93 0 j5))) fun j12 =>
zlet (zset h11 97 0 j12 0) fun h13 =>
zix 2 a2 fun j14 =>
zix 2 a2 fun j15 =>
zlet (zset h13 93 0 j15 (wr ((zhD h13 93 0 j14) + 1))) fun h16 =>
r169 a1 a2 a3 (wr (a4 + 1)) h16)
else M_settle a3 h2  fun _ h4 =>
kr 0 h4
def M_give_169 {ρ : Type} (kr : Int → zH → Option ρ) : Int → Int → Int → Int → zH → Option ρ := zit (fun _ _ _ _ _ => none) (M_give_169b kr) zN
def M_give_74b {ρ : Type} (kr : Int → zH → Option ρ) (r74 : Int → Int → Int → Int → zH → Option ρ) (a1 a2 a3 a4 : Int) (h : zH) : Option ρ :=
zix 12 a1 fun j1 =>
if a4 < (zhD h 73 0 j1) then (M_threadCell a3 a4 h  fun v2 h3 =>
zix 1152 v2 fun j4 =>
zlet (zset h3 90 0 j4 0) fun h5 =>
zix 12 a1 fun j6 =>
zix 4 (zhD h5 70 0 j6) fun j7 =>
if (zhD h5 63 0 j7) = 0 then M_give_129 kr r74 a1 a2 a3 a4 v2 101 v2 h5
else M_give_129 kr r74 a1 a2 a3 a4 v2 114 v2 h5)
else M_give_169 kr a1 a2 a3 0 h
def M_give_74 {ρ : Type} (kr : Int → zH → Option ρ) : Int → Int → Int → Int → zH → Option ρ := zit (fun _ _ _ _ _ => none) (M_give_74b kr) zN
def M_give_45b {ρ : Type} (kr : Int → zH → Option ρ) (r45 : Int → Int → Int → Int → zH → Option ρ) (a1 a2 a3 a4 : Int) (h : zH) : Option ρ :=
if a4 < 16 then (zix 1152 (wr ((wr (16 * a3)) + a4)) fun j1 =>
zlet (zset h 92 0 j1 0) fun h2 =>
r45 a1 a2 a3 (wr (a4 + 1)) h2)
else M_give_74 kr a1 a2 a3 0 h
def M_give_45 {ρ : Type} (kr : Int → zH → Option ρ) : Int → Int → Int → Int → zH → Option ρ := zit (fun _ _ _ _ _ => none) (M_give_45b kr) zN
def M_give {ρ : Type} (a1 a2 : Int) (h : zH) (kr : Int → zH → Option ρ) : Option ρ :=
zix 12 a1 fun j1 =>
M_blockOf a1 (zhD h 78 0 j1) h  fun v2 h3 =>
zix 12 a1 fun j4 =>
zix 12 a1 fun j5 =>
zlet (zset h3 78 0 j5 (wr ((zhD h3 78 0 j4) + 1))) fun h6 =>
zix 72 v2 fun j7 =>
zlet (zset h6 87 0 j7 1) fun h8 =>
zix 72 v2 fun j9 =>
zlet (zset h8 88 0 j9 a2) fun h10 =>
zix 72 v2 fun j11 =>
zlet (zset h10 86 0 j11 0) fun h12 =>
M_give_45 kr a1 a2 v2 0 h12
def M_canGo_27 {ρ : Type} (kr : Int → zH → Option ρ) (t0 : Int) (h : zH) : Option ρ :=
znar 1 t0 fun x1 => kr x1 h
def M_canGo_26 {ρ : Type} (kr : Int → zH → Option ρ) (h : zH) : Option ρ :=
M_canGo_27 kr 0 h
def M_canGo {ρ : Type} (a1 : Int) (h : zH) (kr : Int → zH → Option ρ) : Option ρ :=
M_placeOf a1 h  fun v1 h2 =>
if v1 = (-1) then M_canGo_26 kr h2
else zix 8 a1 fun j3 =>
if (zhD h2 12 0 1) < (zhD h2 96 0 j3) then M_canGo_26 kr h2
else M_canGo_27 kr 1 h2
def M_choose_78 {ρ : Type} (kr : Int → zH → Option ρ) (r23 : Int → Int → Int → zH → Option ρ) (a1 a3 t0 : Int) (h : zH) : Option ρ :=
r23 a1 t0 (wr (a3 + 1)) h
def M_choose_77 {ρ : Type} (kr : Int → zH → Option ρ) (r23 : Int → Int → Int → zH → Option ρ) (a1 a2 a3 : Int) (h : zH) : Option ρ :=
M_choose_78 kr r23 a1 a3 a2 h
def M_choose_151 {ρ : Type} (kr : Int → zH → Option ρ) (r90 : Int → Int → Int → Int → zH → Option ρ) (a1 a2 a4 t0 : Int) (h : zH) : Option ρ :=
r90 a1 a2 t0 (wr (a4 + 1)) h
def M_choose_145 {ρ : Type} (kr : Int → zH → Option ρ) (r90 : Int → Int → Int → Int → zH → Option ρ) (a1 a2 a4 a5 : Int) (h : zH) : Option ρ :=
M_choose_151 kr r90 a1 a2 a4 a5 h
def M_choose_150 {ρ : Type} (kr : Int → zH → Option ρ) (r90 : Int → Int → Int → Int → zH → Option ρ) (a1 a2 a3 a4 : Int) (h : zH) : Option ρ :=
M_choose_151 kr r90 a1 a2 a4 a3 h
def M_choose_90b {ρ : Type} (kr : Int → zH → Option ρ) (r90 : Int → Int → Int → Int → zH → Option ρ) (a1 a2 a3 a4 : Int) (h : zH) : Option ρ :=
zix 2 a1 fun j1 =>
if a4 < (zhD h 93 0 j1) then (zix 2 a1 fun j2 =>
if zhD h 93 0 j2 = 0 then none else M_canGo (wr ((wr (4 * a1)) + (Int.tmod (wr (a2 + a4)) (zhD h 93 0 j2)))) h  fun v3 h4 =>
if v3 = 0 then M_choose_150 kr r90 a1 a2 a3 a4 h4
else if a3 = (-1) then M_choose_145 kr r90 a1 a2 a4 (Int.tmod (wr (a2 + a4)) (zhD h 93 0 j2)) h4
else if (zhD h4 12 0 2) = 121 then M_choose_145 kr r90 a1 a2 a4 (Int.tmod (wr (a2 + a4)) (zhD h 93 0 j2)) h4
else M_choose_150 kr r90 a1 a2 a3 a4 h4)
else kr a3 h
def M_choose_90 {ρ : Type} (kr : Int → zH → Option ρ) : Int → Int → Int → Int → zH → Option ρ := zit (fun _ _ _ _ _ => none) (M_choose_90b kr) zN
def M_choose_85 {ρ : Type} (kr : Int → zH → Option ρ) (a1 a2 : Int) (h : zH) : Option ρ :=
M_choose_90 kr a1 a2 (-1) 0 h
def M_choose_23b {ρ : Type} (kr : Int → zH → Option ρ) (r23 : Int → Int → Int → zH → Option ρ) (a1 a2 a3 : Int) (h : zH) : Option ρ :=
zix 2 a1 fun j1 =>
if a3 < (zhD h 93 0 j1) then (zix 8 (wr ((wr (4 * a1)) + a3)) fun j2 =>
zix 2 a1 fun j3 =>
if (zhD h 94 0 j2) = (zhD h 100 0 j3) then (zix 8 (wr ((wr (4 * a1)) + a3)) fun j4 =>
zix 2 a1 fun j5 =>
if (zhD h 95 0 j4) = (zhD h 101 0 j5) then M_choose_78 kr r23 a1 a3 (wr (a3 + 1)) h
else M_choose_77 kr r23 a1 a2 a3 h)
else M_choose_77 kr r23 a1 a2 a3 h)
else M_choose_85 kr a1 a2 h
def M_choose_23 {ρ : Type} (kr : Int → zH → Option ρ) : Int → Int → Int → zH → Option ρ := zit (fun _ _ _ _ => none) (M_choose_23b kr) zN
def M_choose {ρ : Type} (a1 : Int) (h : zH) (kr : Int → zH → Option ρ) : Option ρ :=
if (zhD h 12 0 2) = 97 then (zix 2 a1 fun j1 =>
if (zhD h 100 0 j1) = (-1) then M_choose_85 kr a1 0 h
else M_choose_23 kr a1 0 0 h)
else M_choose_85 kr a1 0 h
