def M_thrown {ρ : Type} (h : zH) (kr : Int → zH → Option ρ) : Option ρ :=
kr (zhD h 12 0 0) h
def M_in_15 {ρ : Type} (kr : Int → zH → Option ρ) (t0 : Int) (h : zH) : Option ρ :=
znar 1 t0 fun x1 => kr x1 h
def M_in_14 {ρ : Type} (kr : Int → zH → Option ρ) (h : zH) : Option ρ :=
M_in_15 kr 0 h
def M_in {ρ : Type} (a0 a1 a2 : Int) (h : zH) (kr : Int → zH → Option ρ) : Option ρ :=
if a0 < a1 then M_in_14 kr h
else if a2 < a0 then M_in_14 kr h
else M_in_15 kr 1 h
def M_fails_28 {ρ : Type} (kr : Int → zH → Option ρ) (t0 : Int) (h : zH) : Option ρ :=
znar 1 t0 fun x1 => kr x1 h
def M_fails_16 {ρ : Type} (kr : Int → zH → Option ρ) (h : zH) : Option ρ :=
if (zhD h 12 0 0) = 0 then M_fails_28 kr 0 h
else M_fails_28 kr 1 h
def M_fails {ρ : Type} (a1 a2 : Int) (h : zH) (kr : Int → zH → Option ρ) : Option ρ :=
if a1 = 0 then M_fails_16 kr h
else if (zhD h 12 0 0) = 0 then (zlet (zset h 12 0 0 a2) fun h1 =>
M_fails_16 kr h1)
else M_fails_16 kr h
def M_noKernel_19 {ρ : Type} (kr : Int → zH → Option ρ) (t0 : Int) (h : zH) : Option ρ :=
znar 1 t0 fun x1 => kr x1 h
def M_noKernel {ρ : Type} (a1 : Int) (h : zH) (kr : Int → zH → Option ρ) : Option ρ :=
M_in a1 0 (wr ((zhD h 12 0 4) - 1)) h  fun v1 h2 =>
if v1 = 0 then M_noKernel_19 kr 1 h2
else M_noKernel_19 kr 0 h2
def M_noLaunch_19 {ρ : Type} (kr : Int → zH → Option ρ) (t0 : Int) (h : zH) : Option ρ :=
znar 1 t0 fun x1 => kr x1 h
def M_noLaunch {ρ : Type} (a1 : Int) (h : zH) (kr : Int → zH → Option ρ) : Option ρ :=
M_in a1 0 (wr ((zhD h 12 0 13) - 1)) h  fun v1 h2 =>
if v1 = 0 then M_noLaunch_19 kr 1 h2
else M_noLaunch_19 kr 0 h2
def M_noCell_15 {ρ : Type} (kr : Int → zH → Option ρ) (t0 : Int) (h : zH) : Option ρ :=
znar 1 t0 fun x1 => kr x1 h
def M_noCell {ρ : Type} (a0 : Int) (h : zH) (kr : Int → zH → Option ρ) : Option ρ :=
M_in a0 0 63 h  fun v1 h2 =>
if v1 = 0 then M_noCell_15 kr 1 h2
else M_noCell_15 kr 0 h2
def M_addKernel_59 {ρ : Type} (kr : Int → zH → Option ρ) (h : zH) : Option ρ :=
kr 0 h
def M_addKernel_52 {ρ : Type} (kr : Int → zH → Option ρ) (a1 a2 t0 : Int) (h : zH) : Option ρ :=
M_fails t0 2 h  fun v1 h2 =>
if v1 = 0 then (zix 4 (zhD h2 12 0 4) fun j3 =>
zlet (zset h2 61 0 j3 a1) fun h4 =>
zix 4 (zhD h4 12 0 4) fun j5 =>
zlet (zset h4 62 0 j5 a2) fun h6 =>
zlet (zset h6 12 0 4 (wr ((zhD h6 12 0 4) + 1))) fun h7 =>
kr (wr ((zhD h7 12 0 4) - 1)) h7)
else M_addKernel_59 kr h2
def M_addKernel_31 {ρ : Type} (kr : Int → zH → Option ρ) (a1 a2 t0 : Int) (h : zH) : Option ρ :=
M_fails t0 1 h  fun v1 h2 =>
if v1 = 0 then (if (zhD h2 12 0 4) = 4 then M_addKernel_52 kr a1 a2 1 h2
else M_addKernel_52 kr a1 a2 0 h2)
else M_addKernel_59 kr h2
def M_addKernel_26 {ρ : Type} (kr : Int → zH → Option ρ) (a1 a2 : Int) (h : zH) : Option ρ :=
M_addKernel_31 kr a1 a2 1 h
def M_addKernel {ρ : Type} (a1 a2 : Int) (h : zH) (kr : Int → zH → Option ρ) : Option ρ :=
zlet (zset h 12 0 0 0) fun h1 =>
M_in a1 1 8 h1  fun v2 h3 =>
if v2 = 0 then M_addKernel_26 kr a1 a2 h3
else M_in a2 0 16 h3  fun v4 h5 =>
if v4 = 0 then M_addKernel_26 kr a1 a2 h5
else M_addKernel_31 kr a1 a2 0 h5
def M_named_48 {ρ : Type} (kr : Int → zH → Option ρ) (h : zH) : Option ρ :=
kr 7 h
def M_named_81 {ρ : Type} (kr : Int → zH → Option ρ) (h : zH) : Option ρ :=
kr 6 h
def M_named_114 {ρ : Type} (kr : Int → zH → Option ρ) (h : zH) : Option ρ :=
kr 4 h
def M_named_155 {ρ : Type} (kr : Int → zH → Option ρ) (t0 : Int) (h : zH) : Option ρ :=
kr t0 h
def M_named_150 {ρ : Type} (kr : Int → zH → Option ρ) (h : zH) : Option ρ :=
M_named_155 kr 0 h
def M_named {ρ : Type} (a0 : Int) (h : zH) (kr : Int → zH → Option ρ) : Option ρ :=
if a0 = 43 then M_named_48 kr h
else if a0 = 45 then M_named_48 kr h
else if a0 = 42 then M_named_48 kr h
else if a0 = 60 then M_named_48 kr h
else if a0 = 61 then M_named_48 kr h
else if a0 = 97 then M_named_48 kr h
else if a0 = 120 then M_named_48 kr h
else if a0 = 115 then M_named_48 kr h
else if a0 = 114 then M_named_81 kr h
else if a0 = 119 then M_named_81 kr h
else if a0 = 82 then M_named_81 kr h
else if a0 = 87 then M_named_81 kr h
else if a0 = 118 then M_named_81 kr h
else if a0 = 107 then M_named_114 kr h
else if a0 = 116 then M_named_114 kr h
else if a0 = 110 then M_named_114 kr h
else if a0 = 108 then M_named_114 kr h
else if a0 = 122 then M_named_114 kr h
else if a0 = 99 then M_named_155 kr 5 h
else if a0 = 106 then M_named_150 kr h
else if a0 = 98 then M_named_150 kr h
else if a0 = 102 then M_named_150 kr h
else if a0 = 101 then M_named_150 kr h
else M_named_155 kr (-1) h
def M_code_204 {ρ : Type} (kr : Int → zH → Option ρ) (h : zH) : Option ρ :=
kr 0 h
def M_code_197 {ρ : Type} (kr : Int → zH → Option ρ) (a1 a2 a3 a4 a5 t0 : Int) (h : zH) : Option ρ :=
M_fails t0 3 h  fun v1 h2 =>
if v1 = 0 then (zix 4 a1 fun j3 =>
zix 160 (wr ((wr (40 * a1)) + (zhD h2 63 0 j3))) fun j4 =>
znar 2 a2 fun x5 =>
zlet (zset h2 65 0 j4 x5) fun h6 =>
zix 160 (wr ((wr (40 * a1)) + (zhD h2 63 0 j3))) fun j7 =>
zlet (zset h6 66 0 j7 a3) fun h8 =>
zix 160 (wr ((wr (40 * a1)) + (zhD h2 63 0 j3))) fun j9 =>
zlet (zset h8 67 0 j9 a4) fun h10 =>
zix 160 (wr ((wr (40 * a1)) + (zhD h2 63 0 j3))) fun j11 =>
zlet (zset h10 68 0 j11 a5) fun h12 =>
zix 4 a1 fun j13 =>
zix 4 a1 fun j14 =>
zlet (zset h12 63 0 j14 (wr ((zhD h12 63 0 j13) + 1))) fun h15 =>
zix 4 a1 fun j16 =>
kr (wr ((zhD h15 63 0 j16) - 1)) h15)
else M_code_204 kr h2
def M_code_192 {ρ : Type} (kr : Int → zH → Option ρ) (a1 a2 a3 a4 a5 : Int) (h : zH) : Option ρ :=
M_code_197 kr a1 a2 a3 a4 a5 1 h
def M_code_164 {ρ : Type} (kr : Int → zH → Option ρ) (a1 a2 a3 a4 a5 t0 : Int) (h : zH) : Option ρ :=
M_fails t0 2 h  fun v1 h2 =>
if v1 = 0 then (zix 4 a1 fun j3 =>
if (zhD h2 63 0 j3) = 40 then M_code_192 kr a1 a2 a3 a4 a5 h2
else zix 4 a1 fun j4 =>
if (zhD h2 64 0 j4) = 0 then M_code_197 kr a1 a2 a3 a4 a5 0 h2
else M_code_192 kr a1 a2 a3 a4 a5 h2)
else M_code_204 kr h2
def M_code_159 {ρ : Type} (kr : Int → zH → Option ρ) (a1 a2 a3 a4 a5 : Int) (h : zH) : Option ρ :=
M_code_164 kr a1 a2 a3 a4 a5 1 h
def M_code_146 {ρ : Type} (kr : Int → zH → Option ρ) (a1 a2 a3 a4 a5 a8 t0 : Int) (h : zH) : Option ρ :=
if a8 = 0 then (if t0 = 0 then M_code_164 kr a1 a2 a3 a4 a5 0 h
else M_code_159 kr a1 a2 a3 a4 a5 h)
else M_code_159 kr a1 a2 a3 a4 a5 h
def M_code_141 {ρ : Type} (kr : Int → zH → Option ρ) (a1 a2 a3 a4 a5 a8 : Int) (h : zH) : Option ρ :=
M_code_146 kr a1 a2 a3 a4 a5 a8 1 h
def M_code_145 {ρ : Type} (kr : Int → zH → Option ρ) (a1 a2 a3 a4 a5 a8 : Int) (h : zH) : Option ρ :=
M_code_146 kr a1 a2 a3 a4 a5 a8 0 h
def M_code_125 {ρ : Type} (kr : Int → zH → Option ρ) (a1 a2 a3 a4 a5 a8 : Int) (h : zH) : Option ρ :=
if a2 = 99 then (M_in a4 0 3 h  fun v1 h2 =>
if v1 = 0 then M_code_141 kr a1 a2 a3 a4 a5 a8 h2
else M_code_145 kr a1 a2 a3 a4 a5 a8 h2)
else M_code_145 kr a1 a2 a3 a4 a5 a8 h
def M_code_114 {ρ : Type} (kr : Int → zH → Option ρ) (a1 a2 a3 a4 a5 a8 : Int) (h : zH) : Option ρ :=
M_in a4 0 39 h  fun v1 h2 =>
if v1 = 0 then M_code_141 kr a1 a2 a3 a4 a5 a8 h2
else M_code_125 kr a1 a2 a3 a4 a5 a8 h2
def M_code_100 {ρ : Type} (kr : Int → zH → Option ρ) (a1 a2 a3 a4 a5 t0 : Int) (h : zH) : Option ρ :=
if a2 = 122 then M_code_114 kr a1 a2 a3 a4 a5 t0 h
else if a2 = 106 then M_code_114 kr a1 a2 a3 a4 a5 t0 h
else M_code_125 kr a1 a2 a3 a4 a5 t0 h
def M_code_95 {ρ : Type} (kr : Int → zH → Option ρ) (a1 a2 a3 a4 a5 : Int) (h : zH) : Option ρ :=
M_code_100 kr a1 a2 a3 a4 a5 1 h
def M_code_99 {ρ : Type} (kr : Int → zH → Option ρ) (a1 a2 a3 a4 a5 : Int) (h : zH) : Option ρ :=
M_code_100 kr a1 a2 a3 a4 a5 0 h
def M_code_77 {ρ : Type} (kr : Int → zH → Option ρ) (a1 a2 a3 a4 a5 a6 a7 : Int) (h : zH) : Option ρ :=
if 0 < (zand a6 1) then (M_in a5 0 a7 h  fun v1 h2 =>
if v1 = 0 then M_code_95 kr a1 a2 a3 a4 a5 h2
else M_code_99 kr a1 a2 a3 a4 a5 h2)
else M_code_99 kr a1 a2 a3 a4 a5 h
def M_code_59 {ρ : Type} (kr : Int → zH → Option ρ) (a1 a2 a3 a4 a5 a6 a7 : Int) (h : zH) : Option ρ :=
if 0 < (zand a6 2) then (M_in a4 0 a7 h  fun v1 h2 =>
if v1 = 0 then M_code_95 kr a1 a2 a3 a4 a5 h2
else M_code_77 kr a1 a2 a3 a4 a5 a6 a7 h2)
else M_code_77 kr a1 a2 a3 a4 a5 a6 a7 h
def M_code {ρ : Type} (a1 a2 a3 a4 a5 : Int) (h : zH) (kr : Int → zH → Option ρ) : Option ρ :=
zlet (zset h 12 0 0 0) fun h1 =>
M_noKernel a1 h1  fun v2 h3 =>
M_fails v2 1 h3  fun v4 h5 =>
if v4 = 0 then (M_named a2 h5  fun v6 h7 =>
zix 4 a1 fun j8 =>
if v6 = (-1) then M_code_95 kr a1 a2 a3 a4 a5 h7
else if 0 < (zand v6 4) then (M_in a3 0 (wr ((zhD h7 61 0 j8) - 1)) h7  fun v9 h10 =>
if v9 = 0 then M_code_95 kr a1 a2 a3 a4 a5 h10
else M_code_59 kr a1 a2 a3 a4 a5 v6 (wr ((zhD h7 61 0 j8) - 1)) h10)
else M_code_59 kr a1 a2 a3 a4 a5 v6 (wr ((zhD h7 61 0 j8) - 1)) h7)
else kr 0 h5
def M_groupsFor {ρ : Type} (a0 : Int) (h : zH) (kr : Int → zH → Option ρ) : Option ρ :=
kr (wr (Int.tdiv (wr ((wr (a0 + 4)) - 1)) 4)) h
def M_least_10 {ρ : Type} (kr : Int → zH → Option ρ) (t0 : Int) (h : zH) : Option ρ :=
kr t0 h
def M_least {ρ : Type} (a0 a1 : Int) (h : zH) (kr : Int → zH → Option ρ) : Option ρ :=
if a0 < a1 then M_least_10 kr a0 h
else M_least_10 kr a1 h
def M_fit_47 {ρ : Type} (kr : Int → zH → Option ρ) (t0 : Int) (h : zH) : Option ρ :=
kr t0 h
def M_fit {ρ : Type} (a1 a2 : Int) (h : zH) (kr : Int → zH → Option ρ) : Option ρ :=
M_groupsFor a2 h  fun v1 h2 =>
if v1 = 0 then none else zix 4 a1 fun j3 =>
if wr (a2 * (zhD h2 61 0 j3)) = 0 then none else M_least (wr (Int.tdiv 4 v1)) (wr (Int.tdiv 64 (wr (a2 * (zhD h2 61 0 j3))))) h2  fun v4 h5 =>
zix 4 a1 fun j6 =>
if (zhD h5 62 0 j6) = 0 then M_fit_47 kr v4 h5
else zix 4 a1 fun j7 =>
if zhD h5 62 0 j7 = 0 then none else M_least v4 (wr (Int.tdiv 32 (zhD h5 62 0 j7))) h5  fun v8 h9 =>
M_fit_47 kr v8 h9
def M_fits_51 {ρ : Type} (kr : Int → zH → Option ρ) (t0 : Int) (h : zH) : Option ρ :=
kr t0 h
def M_fits_41 {ρ : Type} (kr : Int → zH → Option ρ) (h : zH) : Option ρ :=
M_fits_51 kr 0 h
def M_fits_34 {ρ : Type} (kr : Int → zH → Option ρ) (a1 a2 t0 : Int) (h : zH) : Option ρ :=
M_fails t0 2 h  fun v1 h2 =>
if v1 = 0 then (M_fit a1 a2 h2  fun v3 h4 =>
M_fits_51 kr v3 h4)
else M_fits_41 kr h2
def M_fits {ρ : Type} (a1 a2 : Int) (h : zH) (kr : Int → zH → Option ρ) : Option ρ :=
zlet (zset h 12 0 0 0) fun h1 =>
M_noKernel a1 h1  fun v2 h3 =>
M_fails v2 1 h3  fun v4 h5 =>
if v4 = 0 then (M_in a2 1 16 h5  fun v6 h7 =>
if v6 = 0 then M_fits_34 kr a1 a2 1 h7
else M_fits_34 kr a1 a2 0 h7)
else M_fits_41 kr h5
def M_poke {ρ : Type} (a1 a2 : Int) (h : zH) (kr : Int → zH → Option ρ) : Option ρ :=
zlet (zset h 12 0 0 0) fun h1 =>
M_noCell a1 h1  fun v2 h3 =>
M_fails v2 1 h3  fun v4 h5 =>
if v4 = 0 then (zix 64 a1 fun j6 =>
zix 64 a1 fun j7 =>
zlet (zset h5 60 0 j7 a2) fun h8 =>
kr (zhD h5 60 0 j6) h8)
else kr 0 h5
def M_peek_27 {ρ : Type} (kr : Int → zH → Option ρ) (t0 : Int) (h : zH) : Option ρ :=
kr t0 h
def M_peek {ρ : Type} (a1 : Int) (h : zH) (kr : Int → zH → Option ρ) : Option ρ :=
zlet (zset h 12 0 0 0) fun h1 =>
M_noCell a1 h1  fun v2 h3 =>
M_fails v2 1 h3  fun v4 h5 =>
if v4 = 0 then (zix 64 a1 fun j6 =>
M_peek_27 kr (zhD h5 60 0 j6) h5)
else M_peek_27 kr 0 h5
def M_isOver_38 {ρ : Type} (kr : Int → zH → Option ρ) (t0 : Int) (h : zH) : Option ρ :=
znar 1 t0 fun x1 => kr x1 h
def M_isOver_33 {ρ : Type} (kr : Int → zH → Option ρ) (h : zH) : Option ρ :=
M_isOver_38 kr 1 h
def M_isOver {ρ : Type} (a1 : Int) (h : zH) (kr : Int → zH → Option ρ) : Option ρ :=
zix 12 a1 fun j1 =>
if (zhD h 69 0 j1) = 100 then M_isOver_33 kr h
else zix 12 a1 fun j2 =>
if (zhD h 69 0 j2) = 102 then M_isOver_33 kr h
else zix 12 a1 fun j3 =>
if (zhD h 69 0 j3) = 120 then M_isOver_33 kr h
else M_isOver_38 kr 0 h
def M_add_99 {ρ : Type} (kr : Int → zH → Option ρ) (r58 : Int → Int → Int → zH → Option ρ) (a1 a4 a5 t0 t1 : Int) (h : zH) : Option ρ :=
zix 12 t1 fun j1 =>
zlet (zset h 75 0 j1 t0) fun h2 =>
r58 a1 a4 (wr (a5 + 1)) h2
def M_add_92 {ρ : Type} (kr : Int → zH → Option ρ) (r58 : Int → Int → Int → zH → Option ρ) (a1 a4 a5 t0 : Int) (h : zH) : Option ρ :=
zix 12 a4 fun j1 =>
M_add_99 kr r58 a1 a4 a5 (zhD h 75 0 j1) t0 h
def M_add_148 {ρ : Type} (kr : Int → zH → Option ρ) (a4 t0 t1 : Int) (h : zH) : Option ρ :=
zix 12 t1 fun j1 =>
zlet (zset h 75 0 j1 t0) fun h2 =>
zlet (zset h2 12 0 13 (wr ((zhD h2 12 0 13) + 1))) fun h3 =>
kr a4 h3
def M_add_141 {ρ : Type} (kr : Int → zH → Option ρ) (a4 t0 : Int) (h : zH) : Option ρ :=
zix 12 a4 fun j1 =>
M_add_148 kr a4 (zhD h 75 0 j1) t0 h
def M_add_58b {ρ : Type} (kr : Int → zH → Option ρ) (r58 : Int → Int → Int → zH → Option ρ) (a1 a4 a5 : Int) (h : zH) : Option ρ :=
if a5 < a4 then (if a1 = (-1) then M_add_92 kr r58 a1 a4 a5 a4 h
else zix 12 a5 fun j5 =>
if (zhD h 71 0 j5) = a1 then M_add_99 kr r58 a1 a4 a5 a5 a4 h
else M_add_92 kr r58 a1 a4 a5 a4 h)
else zix 12 a4 fun j1 =>
if (zhD h 75 0 j1) = (-1) then M_add_141 kr a4 a4 h
else zix 12 a4 fun j2 =>
M_isOver (zhD h 75 0 j2) h  fun v3 h4 =>
if v3 = 0 then M_add_141 kr a4 a4 h4
else M_add_148 kr a4 (-1) a4 h4
def M_add_58 {ρ : Type} (kr : Int → zH → Option ρ) : Int → Int → Int → zH → Option ρ := zit (fun _ _ _ _ => none) (M_add_58b kr) zN
def M_add {ρ : Type} (a1 a2 a3 : Int) (h : zH) (kr : Int → zH → Option ρ) : Option ρ :=
zix 12 (zhD h 12 0 13) fun j1 =>
zlet (zset h 69 0 j1 113) fun h2 =>
zix 12 (zhD h 12 0 13) fun j3 =>
zlet (zset h2 71 0 j3 a1) fun h4 =>
zix 12 (zhD h 12 0 13) fun j5 =>
zlet (zset h4 70 0 j5 a2) fun h6 =>
zix 12 (zhD h 12 0 13) fun j7 =>
zlet (zset h6 74 0 j7 a3) fun h8 =>
zix 12 (zhD h 12 0 13) fun j9 =>
zlet (zset h8 76 0 j9 (-1)) fun h10 =>
zix 12 (zhD h 12 0 13) fun j11 =>
zlet (zset h10 75 0 j11 (-1)) fun h12 =>
M_add_58 kr a1 (zhD h 12 0 13) 0 h12
def M_launch_133 {ρ : Type} (kr : Int → zH → Option ρ) (h : zH) : Option ρ :=
kr 0 h
def M_launch_126 {ρ : Type} (kr : Int → zH → Option ρ) (a1 a2 a3 a4 a5 t0 : Int) (h : zH) : Option ρ :=
M_fails t0 4 h  fun v1 h2 =>
if v1 = 0 then (M_add a1 a2 a5 h2  fun v3 h4 =>
zix 12 v3 fun j5 =>
zlet (zset h4 72 0 j5 a3) fun h6 =>
zix 12 v3 fun j7 =>
zlet (zset h6 73 0 j7 a4) fun h8 =>
zix 4 a2 fun j9 =>
zlet (zset h8 64 0 j9 1) fun h10 =>
kr v3 h10)
else M_launch_133 kr h2
def M_launch_104 {ρ : Type} (kr : Int → zH → Option ρ) (a1 a2 a3 a4 a5 t0 : Int) (h : zH) : Option ρ :=
M_fails t0 3 h  fun v1 h2 =>
if v1 = 0 then (if (zhD h2 12 0 13) = 12 then M_launch_126 kr a1 a2 a3 a4 a5 1 h2
else M_launch_126 kr a1 a2 a3 a4 a5 0 h2)
else M_launch_133 kr h2
def M_launch_81 {ρ : Type} (kr : Int → zH → Option ρ) (a1 a2 a3 a4 a5 t0 : Int) (h : zH) : Option ρ :=
M_fails t0 2 h  fun v1 h2 =>
if v1 = 0 then (M_fit a2 a4 h2  fun v3 h4 =>
if v3 = 0 then M_launch_104 kr a1 a2 a3 a4 a5 1 h4
else M_launch_104 kr a1 a2 a3 a4 a5 0 h4)
else M_launch_133 kr h2
def M_launch_76 {ρ : Type} (kr : Int → zH → Option ρ) (a1 a2 a3 a4 a5 : Int) (h : zH) : Option ρ :=
M_launch_81 kr a1 a2 a3 a4 a5 1 h
def M_launch_42 {ρ : Type} (kr : Int → zH → Option ρ) (a1 a2 a3 a4 a5 t0 : Int) (h : zH) : Option ρ :=
M_fails t0 1 h  fun v1 h2 =>
if v1 = 0 then (M_in a3 1 6 h2  fun v3 h4 =>
if v3 = 0 then M_launch_76 kr a1 a2 a3 a4 a5 h4
else M_in a4 1 16 h4  fun v5 h6 =>
if v5 = 0 then M_launch_76 kr a1 a2 a3 a4 a5 h6
else M_launch_81 kr a1 a2 a3 a4 a5 0 h6)
else M_launch_133 kr h2
def M_launch_37 {ρ : Type} (kr : Int → zH → Option ρ) (a1 a2 a3 a4 a5 : Int) (h : zH) : Option ρ :=
M_launch_42 kr a1 a2 a3 a4 a5 1 h
def M_launch_41 {ρ : Type} (kr : Int → zH → Option ρ) (a1 a2 a3 a4 a5 : Int) (h : zH) : Option ρ :=
M_launch_42 kr a1 a2 a3 a4 a5 0 h
def M_launch {ρ : Type} (a1 a2 a3 a4 a5 : Int) (h : zH) (kr : Int → zH → Option ρ) : Option ρ :=
zlet (zset h 12 0 0 0) fun h1 =>
M_in a1 0 1 h1  fun v2 h3 =>
if v2 = 0 then M_launch_37 kr a1 a2 a3 a4 a5 h3
else M_noKernel a2 h3  fun v4 h5 =>
if v4 = 0 then (if a5 = (-1) then M_launch_41 kr a1 a2 a3 a4 a5 h5
else M_noLaunch a5 h5  fun v6 h7 =>
if v6 = 0 then M_launch_41 kr a1 a2 a3 a4 a5 h7
else M_launch_37 kr a1 a2 a3 a4 a5 h7)
else M_launch_37 kr a1 a2 a3 a4 a5 h5
def M_copy_128 {ρ : Type} (kr : Int → zH → Option ρ) (h : zH) : Option ρ :=
kr 0 h
def M_copy_121 {ρ : Type} (kr : Int → zH → Option ρ) (a1 a2 a3 a4 a5 t0 : Int) (h : zH) : Option ρ :=
M_fails t0 3 h  fun v1 h2 =>
if v1 = 0 then (M_add a1 (-1) a5 h2  fun v3 h4 =>
zix 12 v3 fun j5 =>
zlet (zset h4 80 0 j5 a2) fun h6 =>
zix 12 v3 fun j7 =>
zlet (zset h6 81 0 j7 a3) fun h8 =>
zix 12 v3 fun j9 =>
zlet (zset h8 82 0 j9 a4) fun h10 =>
kr v3 h10)
else M_copy_128 kr h2
def M_copy_84 {ρ : Type} (kr : Int → zH → Option ρ) (a1 a2 a3 a4 a5 a6 t0 : Int) (h : zH) : Option ρ :=
M_fails a6 1 h  fun v1 h2 =>
if v1 = 0 then (M_fails t0 2 h2  fun v3 h4 =>
if v3 = 0 then (if (zhD h4 12 0 13) = 12 then M_copy_121 kr a1 a2 a3 a4 a5 1 h4
else M_copy_121 kr a1 a2 a3 a4 a5 0 h4)
else M_copy_128 kr h4)
else M_copy_128 kr h2
def M_copy_79 {ρ : Type} (kr : Int → zH → Option ρ) (a1 a2 a3 a4 a5 a6 : Int) (h : zH) : Option ρ :=
M_copy_84 kr a1 a2 a3 a4 a5 a6 1 h
def M_copy_34 {ρ : Type} (kr : Int → zH → Option ρ) (a1 a2 a3 a4 a5 t0 : Int) (h : zH) : Option ρ :=
M_in a4 1 64 h  fun v1 h2 =>
if v1 = 0 then M_copy_79 kr a1 a2 a3 a4 a5 t0 h2
else M_noCell a2 h2  fun v3 h4 =>
if v3 = 0 then (M_noCell a3 h4  fun v5 h6 =>
if v5 = 0 then (if 64 < (wr (a2 + a4)) then M_copy_79 kr a1 a2 a3 a4 a5 t0 h6
else if 64 < (wr (a3 + a4)) then M_copy_79 kr a1 a2 a3 a4 a5 t0 h6
else M_copy_84 kr a1 a2 a3 a4 a5 t0 0 h6)
else M_copy_79 kr a1 a2 a3 a4 a5 t0 h6)
else M_copy_79 kr a1 a2 a3 a4 a5 t0 h4
def M_copy_29 {ρ : Type} (kr : Int → zH → Option ρ) (a1 a2 a3 a4 a5 : Int) (h : zH) : Option ρ :=
M_copy_34 kr a1 a2 a3 a4 a5 1 h
def M_copy_33 {ρ : Type} (kr : Int → zH → Option ρ) (a1 a2 a3 a4 a5 : Int) (h : zH) : Option ρ :=
M_copy_34 kr a1 a2 a3 a4 a5 0 h
def M_copy {ρ : Type} (a1 a2 a3 a4 a5 : Int) (h : zH) (kr : Int → zH → Option ρ) : Option ρ :=
zlet (zset h 12 0 0 0) fun h1 =>
M_in a1 0 1 h1  fun v2 h3 =>
if v2 = 0 then M_copy_29 kr a1 a2 a3 a4 a5 h3
else if a5 = (-1) then M_copy_33 kr a1 a2 a3 a4 a5 h3
else M_noLaunch a5 h3  fun v4 h5 =>
if v4 = 0 then M_copy_33 kr a1 a2 a3 a4 a5 h5
else M_copy_29 kr a1 a2 a3 a4 a5 h5
def M_launchChild_63 {ρ : Type} (kr : Int → zH → Option ρ) (a1 a2 a3 t0 : Int) (h : zH) : Option ρ :=
if t0 = 0 then (zlet (zset h 12 0 61 (wr ((zhD h 12 0 61) + 1))) fun h14 =>
kr 0 h14)
else M_add (-1) a2 (-1) h  fun v1 h2 =>
zix 12 v1 fun j3 =>
zlet (zset h2 72 0 j3 1) fun h4 =>
zix 12 v1 fun j5 =>
zlet (zset h4 73 0 j5 a3) fun h6 =>
zix 12 v1 fun j7 =>
zlet (zset h6 76 0 j7 a1) fun h8 =>
zix 12 a1 fun j9 =>
zix 12 v1 fun j10 =>
zlet (zset h8 77 0 j10 (wr ((zhD h8 77 0 j9) + 1))) fun h11 =>
zix 4 a2 fun j12 =>
zlet (zset h11 64 0 j12 1) fun h13 =>
kr 1 h13
def M_launchChild_62 {ρ : Type} (kr : Int → zH → Option ρ) (a1 a2 a3 : Int) (h : zH) : Option ρ :=
M_launchChild_63 kr a1 a2 a3 0 h
def M_launchChild_42 {ρ : Type} (kr : Int → zH → Option ρ) (a1 a2 a3 t0 : Int) (h : zH) : Option ρ :=
if t0 = 0 then M_launchChild_62 kr a1 a2 a3 h
else M_fit a2 a3 h  fun v1 h2 =>
if 0 < v1 then M_launchChild_63 kr a1 a2 a3 1 h2
else M_launchChild_62 kr a1 a2 a3 h2
def M_launchChild_41 {ρ : Type} (kr : Int → zH → Option ρ) (a1 a2 a3 : Int) (h : zH) : Option ρ :=
M_launchChild_42 kr a1 a2 a3 0 h
def M_launchChild {ρ : Type} (a1 a2 a3 : Int) (h : zH) (kr : Int → zH → Option ρ) : Option ρ :=
M_noKernel a2 h  fun v1 h2 =>
if v1 = 0 then (M_in a3 1 16 h2  fun v3 h4 =>
if v3 = 0 then M_launchChild_41 kr a1 a2 a3 h4
else if (zhD h4 12 0 13) < 12 then (zix 12 a1 fun j5 =>
if (zhD h4 77 0 j5) < 2 then M_launchChild_42 kr a1 a2 a3 1 h4
else M_launchChild_41 kr a1 a2 a3 h4)
else M_launchChild_41 kr a1 a2 a3 h4)
else M_launchChild_41 kr a1 a2 a3 h2
def M_launches {ρ : Type} (h : zH) (kr : Int → zH → Option ρ) : Option ρ :=
zlet (zset h 12 0 0 0) fun h1 =>
kr (zhD h1 12 0 13) h1
def M_state_28 {ρ : Type} (kr : Int → zH → Option ρ) (t0 : Int) (h : zH) : Option ρ :=
znar 2 t0 fun x1 => kr x1 h
def M_state {ρ : Type} (a1 : Int) (h : zH) (kr : Int → zH → Option ρ) : Option ρ :=
zlet (zset h 12 0 0 0) fun h1 =>
M_noLaunch a1 h1  fun v2 h3 =>
M_fails v2 1 h3  fun v4 h5 =>
if v4 = 0 then (zix 12 a1 fun j6 =>
M_state_28 kr (zhD h5 69 0 j6) h5)
else M_state_28 kr 0 h5
def M_parent_51 {ρ : Type} (kr : Int → zH → Option ρ) (t0 : Int) (h : zH) : Option ρ :=
kr t0 h
def M_parent_41 {ρ : Type} (kr : Int → zH → Option ρ) (h : zH) : Option ρ :=
M_parent_51 kr 0 h
def M_parent_34 {ρ : Type} (kr : Int → zH → Option ρ) (a1 t0 : Int) (h : zH) : Option ρ :=
M_fails t0 2 h  fun v1 h2 =>
if v1 = 0 then (zix 12 a1 fun j3 =>
M_parent_51 kr (zhD h2 76 0 j3) h2)
else M_parent_41 kr h2
def M_parent {ρ : Type} (a1 : Int) (h : zH) (kr : Int → zH → Option ρ) : Option ρ :=
zlet (zset h 12 0 0 0) fun h1 =>
M_noLaunch a1 h1  fun v2 h3 =>
M_fails v2 1 h3  fun v4 h5 =>
if v4 = 0 then (zix 12 a1 fun j6 =>
if (zhD h5 76 0 j6) = (-1) then M_parent_34 kr a1 1 h5
else M_parent_34 kr a1 0 h5)
else M_parent_41 kr h5
def M_given_28 {ρ : Type} (kr : Int → zH → Option ρ) (t0 : Int) (h : zH) : Option ρ :=
kr t0 h
def M_given {ρ : Type} (a1 : Int) (h : zH) (kr : Int → zH → Option ρ) : Option ρ :=
zlet (zset h 12 0 0 0) fun h1 =>
M_noLaunch a1 h1  fun v2 h3 =>
M_fails v2 1 h3  fun v4 h5 =>
if v4 = 0 then (zix 12 a1 fun j6 =>
M_given_28 kr (zhD h5 78 0 j6) h5)
else M_given_28 kr 0 h5
