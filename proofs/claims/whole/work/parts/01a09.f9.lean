def M_comeOne_51 {ρ : Type} (kr : Int → zH → Option ρ) (r17 : Int → Int → zH → Option ρ) (a1 a2 : Int) (h : zH) : Option ρ :=
r17 a1 (wr (a2 + 1)) h
def M_comeOne_93 {ρ : Type} (kr : Int → zH → Option ρ) (r59 : Int → Int → zH → Option ρ) (a1 a2 : Int) (h : zH) : Option ρ :=
r59 a1 (wr (a2 + 1)) h
def M_comeOne_167 {ρ : Type} (kr : Int → zH → Option ρ) (r101 : Int → Int → zH → Option ρ) (a1 a2 : Int) (h : zH) : Option ρ :=
r101 a1 (wr (a2 + 1)) h
def M_comeOne_109b {ρ : Type} (kr : Int → zH → Option ρ) (r101 : Int → Int → zH → Option ρ) (r109 : Int → Int → zH → Option ρ) (a1 a2 : Int) (h : zH) : Option ρ :=
zix 12 a2 fun j1 =>
if (zhD h 69 0 j1) = 114 then (zix 12 a2 fun j2 =>
if (zhD h 70 0 j2) = (-1) then M_comeOne_167 kr r101 a1 a2 h
else zix 12 a2 fun j3 =>
zix 12 a2 fun j4 =>
if (zhD h 78 0 j3) < (zhD h 72 0 j4) then (M_unitFor a2 h  fun v5 h6 =>
if v5 = (-1) then M_comeOne_167 kr r101 a1 a2 h6
else M_unitFor a2 h6  fun v7 h8 =>
M_give a2 v7 h8  fun _ h10 =>
r109 a1 a2 h10)
else M_comeOne_167 kr r101 a1 a2 h)
else M_comeOne_167 kr r101 a1 a2 h
def M_comeOne_109 {ρ : Type} (kr : Int → zH → Option ρ) (r101 : Int → Int → zH → Option ρ) : Int → Int → zH → Option ρ := zit (fun _ _ _ => none) (M_comeOne_109b kr r101) zN
def M_comeOne_205 {ρ : Type} (kr : Int → zH → Option ρ) (r179 : Int → Int → zH → Option ρ) (a1 a2 : Int) (h : zH) : Option ρ :=
r179 a1 (wr (a2 + 1)) h
def M_comeOne_262 {ρ : Type} (kr : Int → zH → Option ρ) (r213 : Int → Int → zH → Option ρ) (r230 : Int → Int → Int → zH → Option ρ) (a1 a2 a3 : Int) (h : zH) : Option ρ :=
r230 a1 a2 (wr (a3 + 1)) h
def M_comeOne_230b {ρ : Type} (kr : Int → zH → Option ρ) (r213 : Int → Int → zH → Option ρ) (r230 : Int → Int → Int → zH → Option ρ) (a1 a2 a3 : Int) (h : zH) : Option ρ :=
zix 2 a2 fun j1 =>
if a3 < (zhD h 93 0 j1) then (zix 8 (wr ((wr (4 * a2)) + a3)) fun j2 =>
if 0 < (zhD h 97 0 j2) then (M_writeFirst (wr ((wr (4 * a2)) + a3)) h  fun _ h4 =>
M_comeOne_262 kr r213 r230 a1 a2 a3 h4)
else M_comeOne_262 kr r213 r230 a1 a2 a3 h)
else r213 a1 (wr (a2 + 1)) h
def M_comeOne_230 {ρ : Type} (kr : Int → zH → Option ρ) (r213 : Int → Int → zH → Option ρ) : Int → Int → Int → zH → Option ρ := zit (fun _ _ _ _ => none) (M_comeOne_230b kr r213) zN
def M_comeOne_274 {ρ : Type} (kr : Int → zH → Option ρ) (a1 : Int) (h : zH) : Option ρ :=
zlet (zset h 12 0 1 (wr ((zhD h 12 0 1) + 1))) fun h1 =>
kr (wr ((zhD h1 12 0 55) - a1)) h1
def M_comeOne_213b {ρ : Type} (kr : Int → zH → Option ρ) (r213 : Int → Int → zH → Option ρ) (a1 a2 : Int) (h : zH) : Option ρ :=
if a2 < 2 then (if (Int.tmod (zhD h 12 0 1) 3) = 2 then M_comeOne_230 kr r213 a1 a2 0 h
else M_comeOne_274 kr a1 h)
else M_comeOne_274 kr a1 h
def M_comeOne_213 {ρ : Type} (kr : Int → zH → Option ρ) : Int → Int → zH → Option ρ := zit (fun _ _ _ => none) (M_comeOne_213b kr) zN
def M_comeOne_179b {ρ : Type} (kr : Int → zH → Option ρ) (r179 : Int → Int → zH → Option ρ) (a1 a2 : Int) (h : zH) : Option ρ :=
if a2 < 2 then (M_choose a2 h  fun v1 h2 =>
if v1 = (-1) then M_comeOne_205 kr r179 a1 a2 h2
else M_carryOut a2 v1 h2  fun _ h4 =>
M_finish h4  fun _ h6 =>
M_comeOne_205 kr r179 a1 a2 h6)
else M_comeOne_213 kr a1 0 h
def M_comeOne_179 {ρ : Type} (kr : Int → zH → Option ρ) : Int → Int → zH → Option ρ := zit (fun _ _ _ => none) (M_comeOne_179b kr) zN
def M_comeOne_101b {ρ : Type} (kr : Int → zH → Option ρ) (r101 : Int → Int → zH → Option ρ) (a1 a2 : Int) (h : zH) : Option ρ :=
if a2 < (zhD h 12 0 13) then M_comeOne_109 kr r101 a1 a2 h
else M_finish h  fun _ h2 =>
M_comeOne_179 kr a1 0 h2
def M_comeOne_101 {ρ : Type} (kr : Int → zH → Option ρ) : Int → Int → zH → Option ρ := zit (fun _ _ _ => none) (M_comeOne_101b kr) zN
def M_comeOne_59b {ρ : Type} (kr : Int → zH → Option ρ) (r59 : Int → Int → zH → Option ρ) (a1 a2 : Int) (h : zH) : Option ρ :=
if a2 < (zhD h 12 0 13) then (zix 12 a2 fun j1 =>
if (zhD h 69 0 j1) = 114 then (zix 12 a2 fun j2 =>
if (zhD h 70 0 j2) = (-1) then (M_copyOne a2 h  fun _ h4 =>
M_comeOne_93 kr r59 a1 a2 h4)
else M_comeOne_93 kr r59 a1 a2 h)
else M_comeOne_93 kr r59 a1 a2 h)
else M_comeOne_101 kr a1 0 h
def M_comeOne_59 {ρ : Type} (kr : Int → zH → Option ρ) : Int → Int → zH → Option ρ := zit (fun _ _ _ => none) (M_comeOne_59b kr) zN
def M_comeOne_17b {ρ : Type} (kr : Int → zH → Option ρ) (r17 : Int → Int → zH → Option ρ) (a1 a2 : Int) (h : zH) : Option ρ :=
if a2 < (zhD h 12 0 13) then (zix 12 a2 fun j1 =>
if (zhD h 69 0 j1) = 113 then (zix 12 a2 fun j2 =>
if (zhD h 76 0 j2) = (-1) then M_comeOne_51 kr r17 a1 a2 h
else M_beginLaunch a2 h  fun _ h4 =>
M_comeOne_51 kr r17 a1 a2 h4)
else M_comeOne_51 kr r17 a1 a2 h)
else M_comeOne_59 kr a1 0 h
def M_comeOne_17 {ρ : Type} (kr : Int → zH → Option ρ) : Int → Int → zH → Option ρ := zit (fun _ _ _ => none) (M_comeOne_17b kr) zN
def M_comeOne {ρ : Type} (h : zH) (kr : Int → zH → Option ρ) : Option ρ :=
M_goThrough 0 h  fun _ h2 =>
M_goThrough 1 h2  fun _ h4 =>
M_comeOne_17 kr (zhD h 12 0 55) 0 h4
def M_step_34b {ρ : Type} (kr : Int → zH → Option ρ) (r34 : Int → Int → Int → zH → Option ρ) (a1 a2 a3 : Int) (h : zH) : Option ρ :=
if a3 < a1 then (M_comeOne h  fun v1 h2 =>
r34 a1 (wr (a2 + v1)) (wr (a3 + 1)) h2)
else kr a2 h
def M_step_34 {ρ : Type} (kr : Int → zH → Option ρ) : Int → Int → Int → zH → Option ρ := zit (fun _ _ _ _ => none) (M_step_34b kr) zN
def M_step_21 {ρ : Type} (kr : Int → zH → Option ρ) (a1 t0 : Int) (h : zH) : Option ρ :=
M_fails t0 1 h  fun v1 h2 =>
if v1 = 0 then M_step_34 kr a1 0 0 h2
else kr 0 h2
def M_step {ρ : Type} (a1 : Int) (h : zH) (kr : Int → zH → Option ρ) : Option ρ :=
zlet (zset h 12 0 0 0) fun h1 =>
M_in a1 1 100 h1  fun v2 h3 =>
if v2 = 0 then M_step_21 kr a1 1 h3
else M_step_21 kr a1 0 h3
def M_areOver_29 {ρ : Type} (kr : Int → zH → Option ρ) (r4 : Int → Int → zH → Option ρ) (a2 t0 : Int) (h : zH) : Option ρ :=
r4 t0 (wr (a2 + 1)) h
def M_areOver_28 {ρ : Type} (kr : Int → zH → Option ρ) (r4 : Int → Int → zH → Option ρ) (a2 : Int) (h : zH) : Option ρ :=
M_areOver_29 kr r4 a2 0 h
def M_areOver_4b {ρ : Type} (kr : Int → zH → Option ρ) (r4 : Int → Int → zH → Option ρ) (a1 a2 : Int) (h : zH) : Option ρ :=
if a2 < (zhD h 12 0 13) then (if a1 = 0 then M_areOver_28 kr r4 a2 h
else M_isOver a2 h  fun v2 h3 =>
if v2 = 0 then M_areOver_28 kr r4 a2 h3
else M_areOver_29 kr r4 a2 1 h3)
else znar 1 a1 fun x1 => kr x1 h
def M_areOver_4 {ρ : Type} (kr : Int → zH → Option ρ) : Int → Int → zH → Option ρ := zit (fun _ _ _ => none) (M_areOver_4b kr) zN
def M_areOver {ρ : Type} (h : zH) (kr : Int → zH → Option ρ) : Option ρ :=
M_areOver_4 kr 1 0 h
def M_run_56 {ρ : Type} (kr : Int → zH → Option ρ) (a2 : Int) (h : zH) : Option ρ :=
kr a2 h
def M_run_33b {ρ : Type} (kr : Int → zH → Option ρ) (r33 : Int → Int → zH → Option ρ) (a1 a2 : Int) (h : zH) : Option ρ :=
if a2 < a1 then (M_areOver h  fun v1 h2 =>
if v1 = 0 then (M_comeOne h2  fun v3 h4 =>
r33 a1 (wr (a2 + 1)) h4)
else M_run_56 kr a2 h2)
else M_run_56 kr a2 h
def M_run_33 {ρ : Type} (kr : Int → zH → Option ρ) : Int → Int → zH → Option ρ := zit (fun _ _ _ => none) (M_run_33b kr) zN
def M_run_22 {ρ : Type} (kr : Int → zH → Option ρ) (a1 t0 : Int) (h : zH) : Option ρ :=
M_fails t0 1 h  fun v1 h2 =>
if v1 = 0 then M_run_33 kr a1 0 h2
else kr 0 h2
def M_run {ρ : Type} (a1 : Int) (h : zH) (kr : Int → zH → Option ρ) : Option ρ :=
zlet (zset h 12 0 0 0) fun h1 =>
M_in a1 1 500 h1  fun v2 h3 =>
if v2 = 0 then M_run_22 kr a1 1 h3
else M_run_22 kr a1 0 h3
def M_setOrder_29 {ρ : Type} (kr : Int → zH → Option ρ) (a1 t0 : Int) (h : zH) : Option ρ :=
M_fails t0 1 h  fun v1 h2 =>
if v1 = 0 then (znar 2 a1 fun x3 =>
zlet (zset h2 12 0 2 x3) fun h4 =>
znar 2 (zhD h2 12 0 2) fun x5 => kr x5 h4)
else kr 0 h2
def M_setOrder_28 {ρ : Type} (kr : Int → zH → Option ρ) (a1 : Int) (h : zH) : Option ρ :=
M_setOrder_29 kr a1 0 h
def M_setOrder {ρ : Type} (a1 : Int) (h : zH) (kr : Int → zH → Option ρ) : Option ρ :=
zlet (zset h 12 0 0 0) fun h1 =>
if a1 = 111 then M_setOrder_28 kr a1 h1
else if a1 = 121 then M_setOrder_28 kr a1 h1
else if a1 = 97 then M_setOrder_28 kr a1 h1
else M_setOrder_29 kr a1 1 h1
def M_cycle {ρ : Type} (h : zH) (kr : Int → zH → Option ρ) : Option ρ :=
zlet (zset h 12 0 0 0) fun h1 =>
kr (zhD h1 12 0 1) h1
def M_noUnit_14 {ρ : Type} (kr : Int → zH → Option ρ) (t0 : Int) (h : zH) : Option ρ :=
znar 1 t0 fun x1 => kr x1 h
def M_noUnit {ρ : Type} (a0 : Int) (h : zH) (kr : Int → zH → Option ρ) : Option ρ :=
M_in a0 0 1 h  fun v1 h2 =>
if v1 = 0 then M_noUnit_14 kr 1 h2
else M_noUnit_14 kr 0 h2
def M_noGroup_28 {ρ : Type} (kr : Int → zH → Option ρ) (t0 : Int) (h : zH) : Option ρ :=
znar 1 t0 fun x1 => kr x1 h
def M_noGroup_23 {ρ : Type} (kr : Int → zH → Option ρ) (h : zH) : Option ρ :=
M_noGroup_28 kr 1 h
def M_noGroup {ρ : Type} (a1 a2 : Int) (h : zH) (kr : Int → zH → Option ρ) : Option ρ :=
M_noUnit a1 h  fun v1 h2 =>
if v1 = 0 then (zix 2 a1 fun j3 =>
M_in a2 0 (wr ((zhD h2 93 0 j3) - 1)) h2  fun v4 h5 =>
if v4 = 0 then M_noGroup_23 kr h5
else M_noGroup_28 kr 0 h5)
else M_noGroup_23 kr h2
def M_groups_27 {ρ : Type} (kr : Int → zH → Option ρ) (t0 : Int) (h : zH) : Option ρ :=
kr t0 h
def M_groups {ρ : Type} (a1 : Int) (h : zH) (kr : Int → zH → Option ρ) : Option ρ :=
zlet (zset h 12 0 0 0) fun h1 =>
M_noUnit a1 h1  fun v2 h3 =>
M_fails v2 1 h3  fun v4 h5 =>
if v4 = 0 then (zix 2 a1 fun j6 =>
M_groups_27 kr (zhD h5 93 0 j6) h5)
else M_groups_27 kr 0 h5
def M_threadAt {ρ : Type} (a1 a2 : Int) (h : zH) (kr : Int → zH → Option ρ) : Option ρ :=
zlet (zset h 12 0 0 0) fun h1 =>
M_noGroup a1 a2 h1  fun v2 h3 =>
M_fails v2 1 h3  fun v4 h5 =>
if v4 = 0 then (zix 8 (wr ((wr (4 * a1)) + a2)) fun j6 =>
zix 8 (wr ((wr (4 * a1)) + a2)) fun j7 =>
zix 8 (wr ((wr (4 * a1)) + a2)) fun j8 =>
kr (wr ((wr ((wr (1000 * (wr (Int.tdiv (zhD h5 94 0 j6) 6)))) + (wr (100 * (Int.tmod (zhD h5 94 0 j7) 6))))) + (wr (4 * (zhD h5 95 0 j8))))) h5)
else kr 0 h5
def M_place_54 {ρ : Type} (kr : Int → zH → Option ρ) (t0 : Int) (h : zH) : Option ρ :=
kr t0 h
def M_place_42 {ρ : Type} (kr : Int → zH → Option ρ) (a3 t0 : Int) (h : zH) : Option ρ :=
M_fails t0 2 h  fun v1 h2 =>
if v1 = 0 then M_place_54 kr a3 h2
else M_place_54 kr 0 h2
def M_place {ρ : Type} (a1 a2 : Int) (h : zH) (kr : Int → zH → Option ρ) : Option ρ :=
zlet (zset h 12 0 0 0) fun h1 =>
M_noGroup a1 a2 h1  fun v2 h3 =>
M_fails v2 1 h3  fun v4 h5 =>
if v4 = 0 then (M_placeOf (wr ((wr (4 * a1)) + a2)) h5  fun v6 h7 =>
if v6 = (-1) then M_place_42 kr v6 1 h7
else M_place_42 kr v6 0 h7)
else kr 0 h5
def M_mask_32 {ρ : Type} (kr : Int → zH → Option ρ) (t0 : Int) (h : zH) : Option ρ :=
kr t0 h
def M_mask {ρ : Type} (a1 a2 : Int) (h : zH) (kr : Int → zH → Option ρ) : Option ρ :=
zlet (zset h 12 0 0 0) fun h1 =>
M_noGroup a1 a2 h1  fun v2 h3 =>
M_fails v2 1 h3  fun v4 h5 =>
if v4 = 0 then (M_maskOf (wr ((wr (4 * a1)) + a2)) h5  fun v6 h7 =>
M_mask_32 kr v6 h7)
else M_mask_32 kr 0 h5
def M_places_141 {ρ : Type} (kr : Int → zH → Option ρ) (r33 : Int → Int → Int → zH → Option ρ) (r53 : Int → Int → Int → Int → Int → zH → Option ρ) (a3 a4 a5 a7 t0 : Int) (h : zH) : Option ρ :=
r53 a3 a4 a5 t0 (wr (a7 + 1)) h
def M_places_136 {ρ : Type} (kr : Int → zH → Option ρ) (r33 : Int → Int → Int → zH → Option ρ) (r53 : Int → Int → Int → Int → Int → zH → Option ρ) (a3 a4 a5 a7 : Int) (h : zH) : Option ρ :=
M_places_141 kr r33 r53 a3 a4 a5 a7 1 h
def M_places_140 {ρ : Type} (kr : Int → zH → Option ρ) (r33 : Int → Int → Int → zH → Option ρ) (r53 : Int → Int → Int → Int → Int → zH → Option ρ) (a3 a4 a5 a7 : Int) (h : zH) : Option ρ :=
M_places_141 kr r33 r53 a3 a4 a5 a7 0 h
def M_places_161 {ρ : Type} (kr : Int → zH → Option ρ) (r33 : Int → Int → Int → zH → Option ρ) (a3 a5 t0 t1 : Int) (h : zH) : Option ρ :=
r33 a3 (wr (t1 + t0)) (wr (a5 + 1)) h
def M_places_149 {ρ : Type} (kr : Int → zH → Option ρ) (r33 : Int → Int → Int → zH → Option ρ) (a3 a4 a5 a6 : Int) (h : zH) : Option ρ :=
if a6 = 0 then M_places_161 kr r33 a3 a5 0 a4 h
else M_places_161 kr r33 a3 a5 1 a4 h
def M_places_53b {ρ : Type} (kr : Int → zH → Option ρ) (r33 : Int → Int → Int → zH → Option ρ) (r53 : Int → Int → Int → Int → Int → zH → Option ρ) (a3 a4 a5 a6 a7 : Int) (h : zH) : Option ρ :=
zix 8 a3 fun j1 =>
if a7 < (wr ((wr (4 * (zhD h 95 0 j1))) + 4)) then (zix 8 a3 fun j2 =>
zix 12 (wr (Int.tdiv (zhD h 94 0 j2) 6)) fun j3 =>
if a7 < (zhD h 73 0 j3) then (if a6 = 0 then (zix 8 a3 fun j4 =>
M_threadCell (zhD h 94 0 j4) a7 h  fun v5 h6 =>
zix 1152 v5 fun j7 =>
if (zhD h6 89 0 j7) = 114 then (zix 8 a3 fun j8 =>
M_threadCell (zhD h6 94 0 j8) a7 h6  fun v9 h10 =>
zix 1152 v9 fun j11 =>
if (zhD h10 90 0 j11) = a5 then M_places_136 kr r33 r53 a3 a4 a5 a7 h10
else M_places_140 kr r33 r53 a3 a4 a5 a7 h10)
else M_places_140 kr r33 r53 a3 a4 a5 a7 h6)
else M_places_136 kr r33 r53 a3 a4 a5 a7 h)
else M_places_149 kr r33 a3 a4 a5 a6 h)
else M_places_149 kr r33 a3 a4 a5 a6 h
def M_places_53 {ρ : Type} (kr : Int → zH → Option ρ) (r33 : Int → Int → Int → zH → Option ρ) : Int → Int → Int → Int → Int → zH → Option ρ := zit (fun _ _ _ _ _ _ => none) (M_places_53b kr r33) zN
def M_places_33b {ρ : Type} (kr : Int → zH → Option ρ) (r33 : Int → Int → Int → zH → Option ρ) (a3 a4 a5 : Int) (h : zH) : Option ρ :=
if a5 < 40 then (zix 8 a3 fun j1 =>
M_places_53 kr r33 a3 a4 a5 0 (wr (4 * (zhD h 95 0 j1))) h)
else kr a4 h
def M_places_33 {ρ : Type} (kr : Int → zH → Option ρ) : Int → Int → Int → zH → Option ρ := zit (fun _ _ _ _ => none) (M_places_33b kr) zN
def M_places {ρ : Type} (a1 a2 : Int) (h : zH) (kr : Int → zH → Option ρ) : Option ρ :=
zlet (zset h 12 0 0 0) fun h1 =>
M_noGroup a1 a2 h1  fun v2 h3 =>
M_fails v2 1 h3  fun v4 h5 =>
if v4 = 0 then M_places_33 kr (wr ((wr (4 * a1)) + a2)) 0 0 h5
else kr 0 h5
def M_reason_51 {ρ : Type} (kr : Int → zH → Option ρ) (t0 : Int) (h : zH) : Option ρ :=
znar 2 t0 fun x1 => kr x1 h
def M_reason_72 {ρ : Type} (kr : Int → zH → Option ρ) (t0 : Int) (h : zH) : Option ρ :=
znar 2 t0 fun x1 => kr x1 h
def M_reason {ρ : Type} (a1 a2 : Int) (h : zH) (kr : Int → zH → Option ρ) : Option ρ :=
zlet (zset h 12 0 0 0) fun h1 =>
M_noGroup a1 a2 h1  fun v2 h3 =>
M_fails v2 1 h3  fun v4 h5 =>
if v4 = 0 then (M_placeOf (wr ((wr (4 * a1)) + a2)) h5  fun v6 h7 =>
if v6 = (-1) then (M_hasEnded (wr ((wr (4 * a1)) + a2)) h7  fun v9 h10 =>
if v9 = 0 then M_reason_51 kr 98 h10
else M_reason_51 kr 101 h10)
else zix 8 (wr ((wr (4 * a1)) + a2)) fun j8 =>
if (zhD h7 12 0 1) < (zhD h7 96 0 j8) then M_reason_72 kr 100 h7
else M_reason_72 kr 45 h7)
else kr 0 h5
def M_register_128 {ρ : Type} (kr : Int → zH → Option ρ) (t0 : Int) (h : zH) : Option ρ :=
kr t0 h
def M_register_98 {ρ : Type} (kr : Int → zH → Option ρ) (a3 a4 a5 t0 : Int) (h : zH) : Option ρ :=
M_fails t0 1 h  fun v1 h2 =>
if v1 = 0 then (M_registerCell a5 a3 a4 h2  fun v3 h4 =>
zix 9216 v3 fun j5 =>
M_register_128 kr (zhD h4 91 0 j5) h4)
else M_register_128 kr 0 h2
def M_register_93 {ρ : Type} (kr : Int → zH → Option ρ) (a3 a4 a5 : Int) (h : zH) : Option ρ :=
M_register_98 kr a3 a4 a5 1 h
def M_register {ρ : Type} (a1 a2 a3 a4 : Int) (h : zH) (kr : Int → zH → Option ρ) : Option ρ :=
zlet (zset h 12 0 0 0) fun h1 =>
M_noGroup a1 a2 h1  fun v2 h3 =>
M_fails v2 1 h3  fun v4 h5 =>
if v4 = 0 then (zix 8 (wr ((wr (4 * a1)) + a2)) fun j6 =>
M_in a3 0 3 h5  fun v7 h8 =>
if v7 = 0 then M_register_93 kr a3 a4 (wr ((wr (4 * a1)) + a2)) h8
else zix 8 (wr ((wr (4 * a1)) + a2)) fun j9 =>
zix 12 (wr (Int.tdiv (zhD h5 94 0 j6) 6)) fun j10 =>
if (wr ((wr (4 * (zhD h8 95 0 j9))) + a3)) < (zhD h8 73 0 j10) then (zix 12 (wr (Int.tdiv (zhD h5 94 0 j6) 6)) fun j11 =>
zix 4 (zhD h8 70 0 j11) fun j12 =>
M_in a4 0 (wr ((zhD h8 61 0 j12) - 1)) h8  fun v13 h14 =>
if v13 = 0 then M_register_93 kr a3 a4 (wr ((wr (4 * a1)) + a2)) h14
else M_register_98 kr a3 a4 (wr ((wr (4 * a1)) + a2)) 0 h14)
else M_register_93 kr a3 a4 (wr ((wr (4 * a1)) + a2)) h8)
else kr 0 h5
def M_shared_87 {ρ : Type} (kr : Int → zH → Option ρ) (t0 : Int) (h : zH) : Option ρ :=
kr t0 h
def M_shared_64 {ρ : Type} (kr : Int → zH → Option ρ) (a3 a4 t0 : Int) (h : zH) : Option ρ :=
M_fails t0 1 h  fun v1 h2 =>
if v1 = 0 then (zix 1152 (wr ((wr (16 * a4)) + a3)) fun j3 =>
M_shared_87 kr (zhD h2 92 0 j3) h2)
else M_shared_87 kr 0 h2
def M_shared {ρ : Type} (a1 a2 a3 : Int) (h : zH) (kr : Int → zH → Option ρ) : Option ρ :=
zlet (zset h 12 0 0 0) fun h1 =>
M_noGroup a1 a2 h1  fun v2 h3 =>
M_fails v2 1 h3  fun v4 h5 =>
if v4 = 0 then (zix 8 (wr ((wr (4 * a1)) + a2)) fun j6 =>
zix 12 (wr (Int.tdiv (zhD h5 94 0 j6) 6)) fun j7 =>
zix 4 (zhD h5 70 0 j7) fun j8 =>
M_in a3 0 (wr ((zhD h5 62 0 j8) - 1)) h5  fun v9 h10 =>
if v9 = 0 then M_shared_64 kr a3 (zhD h5 94 0 j6) 1 h10
else M_shared_64 kr a3 (zhD h5 94 0 j6) 0 h10)
else kr 0 h5
def M_buffered_33 {ρ : Type} (kr : Int → zH → Option ρ) (t0 : Int) (h : zH) : Option ρ :=
kr t0 h
def M_buffered {ρ : Type} (a1 a2 : Int) (h : zH) (kr : Int → zH → Option ρ) : Option ρ :=
zlet (zset h 12 0 0 0) fun h1 =>
M_noGroup a1 a2 h1  fun v2 h3 =>
M_fails v2 1 h3  fun v4 h5 =>
if v4 = 0 then (zix 8 (wr ((wr (4 * a1)) + a2)) fun j6 =>
M_buffered_33 kr (zhD h5 97 0 j6) h5)
else M_buffered_33 kr 0 h5
def M_fault_52 {ρ : Type} (kr : Int → zH → Option ρ) (t0 : Int) (h : zH) : Option ρ :=
znar 2 t0 fun x1 => kr x1 h
def M_fault_42 {ρ : Type} (kr : Int → zH → Option ρ) (h : zH) : Option ρ :=
M_fault_52 kr 0 h
def M_fault_35 {ρ : Type} (kr : Int → zH → Option ρ) (a1 t0 : Int) (h : zH) : Option ρ :=
M_fails t0 2 h  fun v1 h2 =>
if v1 = 0 then (zix 12 a1 fun j3 =>
M_fault_52 kr (zhD h2 84 0 j3) h2)
else M_fault_42 kr h2
def M_fault {ρ : Type} (a1 : Int) (h : zH) (kr : Int → zH → Option ρ) : Option ρ :=
zlet (zset h 12 0 0 0) fun h1 =>
M_noLaunch a1 h1  fun v2 h3 =>
M_fails v2 1 h3  fun v4 h5 =>
if v4 = 0 then (zix 12 a1 fun j6 =>
if (zhD h5 69 0 j6) = 102 then M_fault_35 kr a1 0 h5
else M_fault_35 kr a1 1 h5)
else M_fault_42 kr h5
def M_faultAt_52 {ρ : Type} (kr : Int → zH → Option ρ) (t0 : Int) (h : zH) : Option ρ :=
kr t0 h
def M_faultAt_42 {ρ : Type} (kr : Int → zH → Option ρ) (h : zH) : Option ρ :=
M_faultAt_52 kr 0 h
def M_faultAt_35 {ρ : Type} (kr : Int → zH → Option ρ) (a1 t0 : Int) (h : zH) : Option ρ :=
M_fails t0 2 h  fun v1 h2 =>
if v1 = 0 then (zix 12 a1 fun j3 =>
M_faultAt_52 kr (zhD h2 85 0 j3) h2)
else M_faultAt_42 kr h2
def M_faultAt {ρ : Type} (a1 : Int) (h : zH) (kr : Int → zH → Option ρ) : Option ρ :=
zlet (zset h 12 0 0 0) fun h1 =>
M_noLaunch a1 h1  fun v2 h3 =>
M_fails v2 1 h3  fun v4 h5 =>
if v4 = 0 then (zix 12 a1 fun j6 =>
if (zhD h5 69 0 j6) = 102 then M_faultAt_35 kr a1 0 h5
else M_faultAt_35 kr a1 1 h5)
else M_faultAt_42 kr h5
def M_isRacing_52 {ρ : Type} (kr : Int → zH → Option ρ) (t0 : Int) (h : zH) : Option ρ :=
znar 1 t0 fun x1 => kr x1 h
def M_isRacing_51 {ρ : Type} (kr : Int → zH → Option ρ) (h : zH) : Option ρ :=
M_isRacing_52 kr 0 h
def M_isRacing_26 {ρ : Type} (kr : Int → zH → Option ρ) (a1 a2 t0 : Int) (h : zH) : Option ρ :=
M_fails t0 1 h  fun v1 h2 =>
if v1 = 0 then (zix 768 (wr ((wr (64 * a1)) + a2)) fun j3 =>
if (zhD h2 105 0 j3) = 0 then M_isRacing_51 kr h2
else M_isRacing_52 kr 1 h2)
else M_isRacing_51 kr h2
def M_isRacing_21 {ρ : Type} (kr : Int → zH → Option ρ) (a1 a2 : Int) (h : zH) : Option ρ :=
M_isRacing_26 kr a1 a2 1 h
def M_isRacing {ρ : Type} (a1 a2 : Int) (h : zH) (kr : Int → zH → Option ρ) : Option ρ :=
zlet (zset h 12 0 0 0) fun h1 =>
M_noLaunch a1 h1  fun v2 h3 =>
if v2 = 0 then (M_noCell a2 h3  fun v4 h5 =>
if v4 = 0 then M_isRacing_26 kr a1 a2 0 h5
else M_isRacing_21 kr a1 a2 h5)
else M_isRacing_21 kr a1 a2 h3
def M_races_50 {ρ : Type} (kr : Int → zH → Option ρ) (r24 : Int → Int → Int → zH → Option ρ) (a1 a3 t0 t1 : Int) (h : zH) : Option ρ :=
r24 a1 (wr (t1 + t0)) (wr (a3 + 1)) h
def M_races_89 {ρ : Type} (kr : Int → zH → Option ρ) (r63 : Int → Int → Int → zH → Option ρ) (a1 a3 t0 t1 : Int) (h : zH) : Option ρ :=
r63 a1 (wr (t1 + t0)) (wr (a3 + 1)) h
def M_races_63b {ρ : Type} (kr : Int → zH → Option ρ) (r63 : Int → Int → Int → zH → Option ρ) (a1 a2 a3 : Int) (h : zH) : Option ρ :=
if a3 < (wr ((wr (96 * a1)) + 96)) then (zix 1152 a3 fun j1 =>
if (zhD h 108 0 j1) = 0 then M_races_89 kr r63 a1 a3 0 a2 h
else M_races_89 kr r63 a1 a3 1 a2 h)
else kr a2 h
def M_races_63 {ρ : Type} (kr : Int → zH → Option ρ) : Int → Int → Int → zH → Option ρ := zit (fun _ _ _ _ => none) (M_races_63b kr) zN
def M_races_24b {ρ : Type} (kr : Int → zH → Option ρ) (r24 : Int → Int → Int → zH → Option ρ) (a1 a2 a3 : Int) (h : zH) : Option ρ :=
if a3 < 64 then (zix 768 (wr ((wr (64 * a1)) + a3)) fun j1 =>
if (zhD h 105 0 j1) = 0 then M_races_50 kr r24 a1 a3 0 a2 h
else M_races_50 kr r24 a1 a3 1 a2 h)
else M_races_63 kr a1 a2 (wr (96 * a1)) h
def M_races_24 {ρ : Type} (kr : Int → zH → Option ρ) : Int → Int → Int → zH → Option ρ := zit (fun _ _ _ _ => none) (M_races_24b kr) zN
def M_races {ρ : Type} (a1 : Int) (h : zH) (kr : Int → zH → Option ρ) : Option ρ :=
zlet (zset h 12 0 0 0) fun h1 =>
M_noLaunch a1 h1  fun v2 h3 =>
M_fails v2 1 h3  fun v4 h5 =>
if v4 = 0 then M_races_24 kr a1 0 0 h5
else kr 0 h5
def M_runThread_262 {ρ : Type} (kr : Int → zH → Option ρ) (h : zH) : Option ρ :=
kr 0 h
def M_runThread_654 {ρ : Type} (kr : Int → zH → Option ρ) (r0 : Int → Int → Int → zH → Option ρ) (a1 a2 a3 a11 : Int) (h : zH) : Option ρ :=
zix 16 a3 fun j1 =>
zlet (zset h 113 0 j1 a11) fun h2 =>
r0 a1 a2 a3 h2
def M_runThread_364 {ρ : Type} (kr : Int → zH → Option ρ) (r0 : Int → Int → Int → zH → Option ρ) (a1 a2 a3 a11 t0 t1 : Int) (h : zH) : Option ρ :=
zix 128 t1 fun j1 =>
zlet (zset h 112 0 j1 t0) fun h2 =>
M_runThread_654 kr r0 a1 a2 a3 a11 h2
def M_runThread_326 {ρ : Type} (kr : Int → zH → Option ρ) (r0 : Int → Int → Int → zH → Option ρ) (a1 a2 a3 a4 a5 a6 a10 a11 : Int) (h : zH) : Option ρ :=
zix 160 a4 fun j1 =>
if a5 = 114 then (zix 64 a10 fun j3 =>
M_runThread_364 kr r0 a1 a2 a3 a11 (zhD h 110 0 j3) (wr (a6 + (zhD h 66 0 j1))) h)
else zix 16 a10 fun j2 =>
M_runThread_364 kr r0 a1 a2 a3 a11 (zhD h 111 0 j2) (wr (a6 + (zhD h 66 0 j1))) h
def M_runThread_414 {ρ : Type} (kr : Int → zH → Option ρ) (r0 : Int → Int → Int → zH → Option ρ) (a1 a2 a3 a4 a6 a11 a12 t0 t1 : Int) (h : zH) : Option ρ :=
zix 64 t1 fun j1 =>
zlet (zset h 110 0 j1 t0) fun h2 =>
zix 160 a4 fun j3 =>
zix 128 (wr (a6 + (zhD h2 66 0 j3))) fun j4 =>
zlet (zset h2 112 0 j4 a12) fun h5 =>
M_runThread_654 kr r0 a1 a2 a3 a11 h5
def M_runThread_382 {ρ : Type} (kr : Int → zH → Option ρ) (r0 : Int → Int → Int → zH → Option ρ) (a1 a2 a3 a4 a5 a6 a8 a10 a11 : Int) (h : zH) : Option ρ :=
zix 64 a10 fun j1 =>
if a5 = 97 then M_runThread_414 kr r0 a1 a2 a3 a4 a6 a11 (zhD h 110 0 j1) (wr ((zhD h 110 0 j1) + a8)) a10 h
else M_runThread_414 kr r0 a1 a2 a3 a4 a6 a11 (zhD h 110 0 j1) a8 a10 h
def M_runThread_527 {ρ : Type} (kr : Int → zH → Option ρ) (r0 : Int → Int → Int → zH → Option ρ) (a1 a2 a3 a11 t0 t1 : Int) (h : zH) : Option ρ :=
zix 128 t1 fun j1 =>
zlet (zset h 112 0 j1 t0) fun h2 =>
M_runThread_654 kr r0 a1 a2 a3 a11 h2
def M_runThread_488 {ρ : Type} (kr : Int → zH → Option ρ) (r0 : Int → Int → Int → zH → Option ρ) (a1 a2 a3 a4 a5 a6 a11 : Int) (h : zH) : Option ρ :=
zix 160 a4 fun j1 =>
if a5 = 116 then M_runThread_527 kr r0 a1 a2 a3 a11 a3 (wr (a6 + (zhD h 66 0 j1))) h
else if a5 = 110 then M_runThread_527 kr r0 a1 a2 a3 a11 a2 (wr (a6 + (zhD h 66 0 j1))) h
else M_runThread_527 kr r0 a1 a2 a3 a11 (Int.tmod a3 4) (wr (a6 + (zhD h 66 0 j1))) h
def M_runThread_555 {ρ : Type} (kr : Int → zH → Option ρ) (r0 : Int → Int → Int → zH → Option ρ) (a1 a2 a3 t0 : Int) (h : zH) : Option ρ :=
M_runThread_654 kr r0 a1 a2 a3 t0 h
def M_runThread_264 {ρ : Type} (kr : Int → zH → Option ρ) (r0 : Int → Int → Int → zH → Option ρ) (a1 a2 a3 a4 a5 a6 a7 a8 a9 a10 : Int) (h : zH) : Option ρ :=
zix 16 a3 fun j1 =>
if a5 = 119 then (zix 64 a10 fun j20 =>
zlet (zset h 110 0 j20 a7) fun h21 =>
M_runThread_654 kr r0 a1 a2 a3 (wr ((zhD h 113 0 j1) + 1)) h21)
else if a5 = 87 then (zix 16 a10 fun j18 =>
zlet (zset h 111 0 j18 a7) fun h19 =>
M_runThread_654 kr r0 a1 a2 a3 (wr ((zhD h 113 0 j1) + 1)) h19)
else if a5 = 114 then M_runThread_326 kr r0 a1 a2 a3 a4 a5 a6 a10 (wr ((zhD h 113 0 j1) + 1)) h
else if a5 = 82 then M_runThread_326 kr r0 a1 a2 a3 a4 a5 a6 a10 (wr ((zhD h 113 0 j1) + 1)) h
else if a5 = 97 then M_runThread_382 kr r0 a1 a2 a3 a4 a5 a6 a8 a10 (wr ((zhD h 113 0 j1) + 1)) h
else if a5 = 120 then M_runThread_382 kr r0 a1 a2 a3 a4 a5 a6 a8 a10 (wr ((zhD h 113 0 j1) + 1)) h
else if a5 = 107 then (zix 160 a4 fun j14 =>
zix 160 a4 fun j15 =>
zix 128 (wr (a6 + (zhD h 66 0 j14))) fun j16 =>
zlet (zset h 112 0 j16 (zhD h 67 0 j15)) fun h17 =>
M_runThread_654 kr r0 a1 a2 a3 (wr ((zhD h 113 0 j1) + 1)) h17)
else if a5 = 116 then M_runThread_488 kr r0 a1 a2 a3 a4 a5 a6 (wr ((zhD h 113 0 j1) + 1)) h
else if a5 = 110 then M_runThread_488 kr r0 a1 a2 a3 a4 a5 a6 (wr ((zhD h 113 0 j1) + 1)) h
else if a5 = 108 then M_runThread_488 kr r0 a1 a2 a3 a4 a5 a6 (wr ((zhD h 113 0 j1) + 1)) h
else if a5 = 122 then (if a9 = 0 then (zix 160 a4 fun j13 =>
M_runThread_555 kr r0 a1 a2 a3 (zhD h 67 0 j13) h)
else M_runThread_555 kr r0 a1 a2 a3 (wr ((zhD h 113 0 j1) + 1)) h)
else if a5 = 106 then (zix 160 a4 fun j12 =>
M_runThread_654 kr r0 a1 a2 a3 (zhD h 67 0 j12) h)
else if a5 = 101 then (zix 16 a3 fun j10 =>
zlet (zset h 114 0 j10 101) fun h11 =>
M_runThread_654 kr r0 a1 a2 a3 (wr ((zhD h 113 0 j1) + 1)) h11)
else if a5 = 98 then (zix 16 a3 fun j7 =>
zlet (zset h 114 0 j7 119) fun h8 =>
zix 16 a3 fun j9 =>
M_runThread_654 kr r0 a1 a2 a3 (zhD h8 113 0 j9) h8)
else if a5 = 102 then M_runThread_654 kr r0 a1 a2 a3 (wr ((zhD h 113 0 j1) + 1)) h
else zix 160 a4 fun j2 =>
M_compute a5 a7 a8 h  fun v3 h4 =>
zix 128 (wr (a6 + (zhD h 66 0 j2))) fun j5 =>
zlet (zset h4 112 0 j5 v3) fun h6 =>
M_runThread_654 kr r0 a1 a2 a3 (wr ((zhD h 113 0 j1) + 1)) h6
def M_runThread_237 {ρ : Type} (kr : Int → zH → Option ρ) (r0 : Int → Int → Int → zH → Option ρ) (a1 a2 a3 a4 a5 a6 a7 a8 a9 a10 : Int) (h : zH) : Option ρ :=
M_isShared a5 h  fun v1 h2 =>
if v1 = 0 then M_runThread_264 kr r0 a1 a2 a3 a4 a5 a6 a7 a8 a9 a10 h2
else zix 4 a1 fun j3 =>
M_in a10 0 (wr ((zhD h2 62 0 j3) - 1)) h2  fun v4 h5 =>
if v4 = 0 then M_runThread_262 kr h5
else M_runThread_264 kr r0 a1 a2 a3 a4 a5 a6 a7 a8 a9 a10 h5
def M_runThread_207 {ρ : Type} (kr : Int → zH → Option ρ) (r0 : Int → Int → Int → zH → Option ρ) (a1 a2 a3 a4 a5 a6 a7 a8 a9 t0 : Int) (h : zH) : Option ρ :=
zix 16 a3 fun j1 =>
if 200 < (zhD h 115 0 j1) then M_runThread_262 kr h
else M_isGlobal a5 h  fun v2 h3 =>
if v2 = 0 then M_runThread_237 kr r0 a1 a2 a3 a4 a5 a6 a7 a8 a9 t0 h3
else M_noCell t0 h3  fun v4 h5 =>
if v4 = 0 then M_runThread_237 kr r0 a1 a2 a3 a4 a5 a6 a7 a8 a9 t0 h5
else M_runThread_262 kr h5
def M_runThread_200 {ρ : Type} (kr : Int → zH → Option ρ) (r0 : Int → Int → Int → zH → Option ρ) (a1 a2 a3 a4 a5 a6 a7 a8 a9 : Int) (h : zH) : Option ρ :=
M_runThread_207 kr r0 a1 a2 a3 a4 a5 a6 a7 a8 a9 a9 h
def M_runThread_184 {ρ : Type} (kr : Int → zH → Option ρ) (r0 : Int → Int → Int → zH → Option ρ) (a1 a2 a3 a4 a5 a6 a7 a8 t0 : Int) (h : zH) : Option ρ :=
if a5 = 119 then M_runThread_200 kr r0 a1 a2 a3 a4 a5 a6 a7 a8 t0 h
else if a5 = 87 then M_runThread_200 kr r0 a1 a2 a3 a4 a5 a6 a7 a8 t0 h
else M_runThread_207 kr r0 a1 a2 a3 a4 a5 a6 a7 a8 t0 a7 h
def M_runThread_147 {ρ : Type} (kr : Int → zH → Option ρ) (r0 : Int → Int → Int → zH → Option ρ) (a1 a2 a3 a4 a5 a6 a7 t0 : Int) (h : zH) : Option ρ :=
zix 160 a4 fun j1 =>
M_in (zhD h 66 0 j1) 0 7 h  fun v2 h3 =>
if v2 = 0 then M_runThread_184 kr r0 a1 a2 a3 a4 a5 a6 a7 t0 0 h3
else zix 160 a4 fun j4 =>
zix 128 (wr (a6 + (zhD h3 66 0 j4))) fun j5 =>
M_runThread_184 kr r0 a1 a2 a3 a4 a5 a6 a7 t0 (zhD h3 112 0 j5) h3
def M_runThread_110 {ρ : Type} (kr : Int → zH → Option ρ) (r0 : Int → Int → Int → zH → Option ρ) (a1 a2 a3 a4 a5 a6 t0 : Int) (h : zH) : Option ρ :=
zix 160 a4 fun j1 =>
M_in (zhD h 68 0 j1) 0 7 h  fun v2 h3 =>
if v2 = 0 then M_runThread_147 kr r0 a1 a2 a3 a4 a5 a6 t0 0 h3
else zix 160 a4 fun j4 =>
zix 128 (wr (a6 + (zhD h3 68 0 j4))) fun j5 =>
M_runThread_147 kr r0 a1 a2 a3 a4 a5 a6 t0 (zhD h3 112 0 j5) h3
def M_runThread_0b {ρ : Type} (kr : Int → zH → Option ρ) (r0 : Int → Int → Int → zH → Option ρ) (a1 a2 a3 : Int) (h : zH) : Option ρ :=
zix 16 a3 fun j1 =>
if (zhD h 114 0 j1) = 114 then (zix 16 a3 fun j2 =>
zix 4 a1 fun j3 =>
if (zhD h 113 0 j2) < (zhD h 63 0 j3) then (zix 16 a3 fun j4 =>
zix 160 (wr ((wr (40 * a1)) + (zhD h 113 0 j4))) fun j5 =>
zix 16 a3 fun j6 =>
zix 16 a3 fun j7 =>
zlet (zset h 115 0 j7 (wr ((zhD h 115 0 j6) + 1))) fun h8 =>
zix 160 (wr ((wr (40 * a1)) + (zhD h 113 0 j4))) fun j9 =>
M_in (zhD h8 67 0 j9) 0 7 h8  fun v10 h11 =>
if v10 = 0 then M_runThread_110 kr r0 a1 a2 a3 (wr ((wr (40 * a1)) + (zhD h 113 0 j4))) (zhD h 65 0 j5) (wr (8 * a3)) 0 h11
else zix 160 (wr ((wr (40 * a1)) + (zhD h 113 0 j4))) fun j12 =>
zix 128 (wr ((wr (8 * a3)) + (zhD h11 67 0 j12))) fun j13 =>
M_runThread_110 kr r0 a1 a2 a3 (wr ((wr (40 * a1)) + (zhD h 113 0 j4))) (zhD h 65 0 j5) (wr (8 * a3)) (zhD h11 112 0 j13) h11)
else zix 16 a3 fun j14 =>
zlet (zset h 114 0 j14 101) fun h15 =>
r0 a1 a2 a3 h15)
else kr 1 h
def M_runThread_0 {ρ : Type} (kr : Int → zH → Option ρ) : Int → Int → Int → zH → Option ρ := zit (fun _ _ _ _ => none) (M_runThread_0b kr) zN
def M_runThread {ρ : Type} (a1 a2 a3 : Int) (h : zH) (kr : Int → zH → Option ρ) : Option ρ :=
M_runThread_0 kr a1 a2 a3 h
