def zc_It_bitCount : List zI := [(10, 0, 0, 0), (10, 0, 0, 0), (0, 1, 0, 0), (41, 0, 0, 0), (4, 1431655765, 265, 0), (999, 0, 0, 0), (999, 0, 0, 0), (36, 0, 0, 0), (31, 0, 0, 0), (16, 0, 0, 0), (10, 0, 0, 0), (4, 858993459, 266, 0), (999, 0, 0, 0), (999, 0, 0, 0), (36, 0, 0, 0), (10, 0, 0, 0), (0, 2, 0, 0), (41, 0, 0, 0), (4, 858993459, 266, 0), (999, 0, 0, 0), (999, 0, 0, 0), (36, 0, 0, 0), (30, 0, 0, 0), (16, 0, 0, 0), (10, 0, 0, 0), (10, 0, 0, 0), (0, 4, 0, 0), (41, 0, 0, 0), (30, 0, 0, 0), (4, 252645135, 267, 0), (999, 0, 0, 0), (999, 0, 0, 0), (36, 0, 0, 0), (16, 0, 0, 0), (10, 0, 0, 0), (10, 0, 0, 0), (1, 8, 0, 0), (999, 0, 0, 0), (41, 0, 0, 0), (30, 0, 0, 0), (16, 0, 0, 0), (10, 0, 0, 0), (10, 0, 0, 0), (1, 16, 0, 0), (999, 0, 0, 0), (41, 0, 0, 0), (30, 0, 0, 0), (16, 0, 0, 0), (10, 0, 0, 0), (1, 63, 0, 0), (999, 0, 0, 0), (36, 0, 0, 0), (130, 0, 0, 0)]
def zu_It_bitCount : List (Nat × List Bool) := []
set_option maxRecDepth 100000 in
theorem qg_It_bitCount {ρ : Type} (kr : Int → zH → Option ρ) (a0 : Int) (h : zH) : (kr (zand (wr ((wr ((zand (wr ((wr ((zand (wr (a0 - (zand (zushr a0 1) 1431655765))) 858993459) + (zand (zushr (wr (a0 - (zand (zushr a0 1) 1431655765))) 2) 858993459))) + (zushr (wr ((zand (wr (a0 - (zand (zushr a0 1) 1431655765))) 858993459) + (zand (zushr (wr (a0 - (zand (zushr a0 1) 1431655765))) 2) 858993459))) 4))) 252645135) + (zushr (zand (wr ((wr ((zand (wr (a0 - (zand (zushr a0 1) 1431655765))) 858993459) + (zand (zushr (wr (a0 - (zand (zushr a0 1) 1431655765))) 2) 858993459))) + (zushr (wr ((zand (wr (a0 - (zand (zushr a0 1) 1431655765))) 858993459) + (zand (zushr (wr (a0 - (zand (zushr a0 1) 1431655765))) 2) 858993459))) 4))) 252645135) 8))) + (zushr (wr ((zand (wr ((wr ((zand (wr (a0 - (zand (zushr a0 1) 1431655765))) 858993459) + (zand (zushr (wr (a0 - (zand (zushr a0 1) 1431655765))) 2) 858993459))) + (zushr (wr ((zand (wr (a0 - (zand (zushr a0 1) 1431655765))) 858993459) + (zand (zushr (wr (a0 - (zand (zushr a0 1) 1431655765))) 2) 858993459))) 4))) 252645135) + (zushr (zand (wr ((wr ((zand (wr (a0 - (zand (zushr a0 1) 1431655765))) 858993459) + (zand (zushr (wr (a0 - (zand (zushr a0 1) 1431655765))) 2) 858993459))) + (zushr (wr ((zand (wr (a0 - (zand (zushr a0 1) 1431655765))) 858993459) + (zand (zushr (wr (a0 - (zand (zushr a0 1) 1431655765))) 2) 858993459))) 4))) 252645135) 8))) 16))) 63) h) = zseg zPP true (zcal (ρ := ρ) []) (zget (999, 0, 0, 0) zc_It_bitCount) (zcut zu_It_bitCount) (zorc (ρ := ρ) []) kr (fun _ _ => none) 400 0 [some (0, a0)] [] h := by rfl
set_option maxRecDepth 100000 in
theorem qe_It_bitCount {ρ : Type} (kr : Int → zH → Option ρ) (a0 : Int) (h : zH) : It_bitCount a0 h kr = zseg zPP true (zcal (ρ := ρ) []) (zget (999, 0, 0, 0) zc_It_bitCount) (zcut zu_It_bitCount) (zorc (ρ := ρ) []) kr (fun _ _ => none) 400 0 [some (0, a0)] [] h := qg_It_bitCount kr a0 h
def zc_Ma_floorMod : List zI := [(10, 0, 0, 0), (10, 0, 1, 0), (34, 0, 0, 0), (16, 0, 2, 0), (10, 0, 0, 0), (10, 0, 1, 0), (38, 0, 0, 0), (63, 11, 18, 0), (999, 0, 0, 0), (999, 0, 0, 0), (10, 0, 2, 0), (60, 7, 18, 0), (999, 0, 0, 0), (999, 0, 0, 0), (10, 0, 2, 0), (10, 0, 1, 0), (30, 0, 0, 0), (130, 0, 0, 0), (10, 0, 2, 0), (130, 0, 0, 0)]
def zu_Ma_floorMod : List (Nat × List Bool) := [(18, [false, false, true])]
set_option maxRecDepth 100000 in
theorem qg_Ma_floorMod_18 {ρ : Type} (kr : Int → zH → Option ρ) (a2 : Int) (h : zH) : (kr a2 h) = zseg zPP true (zcal (ρ := ρ) []) (zget (999, 0, 0, 0) zc_Ma_floorMod) (zcut zu_Ma_floorMod) (zorc (ρ := ρ) []) kr (fun _ _ => none) 400 18 [none, none, some (0, a2)] [] h := by rfl
set_option maxRecDepth 100000 in
theorem qe_Ma_floorMod_18 {ρ : Type} (kr : Int → zH → Option ρ) (a2 : Int) (h : zH) : Ma_floorMod_18 kr a2 h = zseg zPP true (zcal (ρ := ρ) []) (zget (999, 0, 0, 0) zc_Ma_floorMod) (zcut zu_Ma_floorMod) (zorc (ρ := ρ) []) kr (fun _ _ => none) 400 18 [none, none, some (0, a2)] [] h := qg_Ma_floorMod_18 kr a2 h
set_option maxRecDepth 100000 in
theorem qg_Ma_floorMod {ρ : Type} (kr : Int → zH → Option ρ) (c18 : Int → zH → Option ρ) (a0 a1 : Int) (h : zH) : (if a1 = 0 then none else if (zxor a0 a1) < 0 then (if (Int.tmod a0 a1) = 0 then c18 (Int.tmod a0 a1) h
else kr (wr ((Int.tmod a0 a1) + a1)) h)
else c18 (Int.tmod a0 a1) h) = zseg zPP true (zcal (ρ := ρ) []) (zget (999, 0, 0, 0) zc_Ma_floorMod) (zcut zu_Ma_floorMod) (zorc (ρ := ρ) [(18, [none, none, some (0, none)], [], zap1 c18)]) kr (fun _ _ => none) 400 0 [some (0, a0), some (0, a1), none] [] h := by rfl
set_option maxRecDepth 100000 in
theorem qe_Ma_floorMod {ρ : Type} (kr : Int → zH → Option ρ) (a0 a1 : Int) (h : zH) : Ma_floorMod a0 a1 h kr = zseg zPP true (zcal (ρ := ρ) []) (zget (999, 0, 0, 0) zc_Ma_floorMod) (zcut zu_Ma_floorMod) (zorc (ρ := ρ) [(18, [none, none, some (0, none)], [], zap1 (Ma_floorMod_18 kr))]) kr (fun _ _ => none) 400 0 [some (0, a0), some (0, a1), none] [] h := qg_Ma_floorMod kr (Ma_floorMod_18 kr) a0 a1 h
def zc_Ma_max : List zI := [(10, 0, 0, 0), (10, 0, 1, 0), (68, 7, 9, 0), (999, 0, 0, 0), (999, 0, 0, 0), (10, 0, 0, 0), (72, 4, 10, 0), (999, 0, 0, 0), (999, 0, 0, 0), (10, 0, 1, 0), (130, 0, 0, 0)]
def zu_Ma_max : List (Nat × List Bool) := [(10, [false, false])]
set_option maxRecDepth 100000 in
theorem qg_Ma_max_10 {ρ : Type} (kr : Int → zH → Option ρ) (t0 : Int) (h : zH) : (kr t0 h) = zseg zPP true (zcal (ρ := ρ) []) (zget (999, 0, 0, 0) zc_Ma_max) (zcut zu_Ma_max) (zorc (ρ := ρ) []) kr (fun _ _ => none) 400 10 [none, none] [(0, t0)] h := by rfl
set_option maxRecDepth 100000 in
theorem qe_Ma_max_10 {ρ : Type} (kr : Int → zH → Option ρ) (t0 : Int) (h : zH) : Ma_max_10 kr t0 h = zseg zPP true (zcal (ρ := ρ) []) (zget (999, 0, 0, 0) zc_Ma_max) (zcut zu_Ma_max) (zorc (ρ := ρ) []) kr (fun _ _ => none) 400 10 [none, none] [(0, t0)] h := qg_Ma_max_10 kr t0 h
set_option maxRecDepth 100000 in
theorem qg_Ma_max {ρ : Type} (kr : Int → zH → Option ρ) (c10 : Int → zH → Option ρ) (a0 a1 : Int) (h : zH) : (if a0 < a1 then c10 a1 h
else c10 a0 h) = zseg zPP true (zcal (ρ := ρ) []) (zget (999, 0, 0, 0) zc_Ma_max) (zcut zu_Ma_max) (zorc (ρ := ρ) [(10, [none, none], [(0, none)], zap1 c10)]) kr (fun _ _ => none) 400 0 [some (0, a0), some (0, a1)] [] h := by rfl
set_option maxRecDepth 100000 in
theorem qe_Ma_max {ρ : Type} (kr : Int → zH → Option ρ) (a0 a1 : Int) (h : zH) : Ma_max a0 a1 h kr = zseg zPP true (zcal (ρ := ρ) []) (zget (999, 0, 0, 0) zc_Ma_max) (zcut zu_Ma_max) (zorc (ρ := ρ) [(10, [none, none], [(0, none)], zap1 (Ma_max_10 kr))]) kr (fun _ _ => none) 400 0 [some (0, a0), some (0, a1)] [] h := qg_Ma_max kr (Ma_max_10 kr) a0 a1 h
def zc_Ma_min : List zI := [(10, 0, 0, 0), (10, 0, 1, 0), (70, 7, 9, 0), (999, 0, 0, 0), (999, 0, 0, 0), (10, 0, 0, 0), (72, 4, 10, 0), (999, 0, 0, 0), (999, 0, 0, 0), (10, 0, 1, 0), (130, 0, 0, 0)]
def zu_Ma_min : List (Nat × List Bool) := [(10, [false, false])]
set_option maxRecDepth 100000 in
theorem qg_Ma_min_10 {ρ : Type} (kr : Int → zH → Option ρ) (t0 : Int) (h : zH) : (kr t0 h) = zseg zPP true (zcal (ρ := ρ) []) (zget (999, 0, 0, 0) zc_Ma_min) (zcut zu_Ma_min) (zorc (ρ := ρ) []) kr (fun _ _ => none) 400 10 [none, none] [(0, t0)] h := by rfl
set_option maxRecDepth 100000 in
theorem qe_Ma_min_10 {ρ : Type} (kr : Int → zH → Option ρ) (t0 : Int) (h : zH) : Ma_min_10 kr t0 h = zseg zPP true (zcal (ρ := ρ) []) (zget (999, 0, 0, 0) zc_Ma_min) (zcut zu_Ma_min) (zorc (ρ := ρ) []) kr (fun _ _ => none) 400 10 [none, none] [(0, t0)] h := qg_Ma_min_10 kr t0 h
set_option maxRecDepth 100000 in
theorem qg_Ma_min {ρ : Type} (kr : Int → zH → Option ρ) (c10 : Int → zH → Option ρ) (a0 a1 : Int) (h : zH) : (if a1 < a0 then c10 a1 h
else c10 a0 h) = zseg zPP true (zcal (ρ := ρ) []) (zget (999, 0, 0, 0) zc_Ma_min) (zcut zu_Ma_min) (zorc (ρ := ρ) [(10, [none, none], [(0, none)], zap1 c10)]) kr (fun _ _ => none) 400 0 [some (0, a0), some (0, a1)] [] h := by rfl
set_option maxRecDepth 100000 in
theorem qe_Ma_min {ρ : Type} (kr : Int → zH → Option ρ) (a0 a1 : Int) (h : zH) : Ma_min a0 a1 h kr = zseg zPP true (zcal (ρ := ρ) []) (zget (999, 0, 0, 0) zc_Ma_min) (zcut zu_Ma_min) (zorc (ρ := ρ) [(10, [none, none], [(0, none)], zap1 (Ma_min_10 kr))]) kr (fun _ _ => none) 400 0 [some (0, a0), some (0, a1)] [] h := qg_Ma_min kr (Ma_min_10 kr) a0 a1 h
def zc_Ar_fill_29 : List zI := [(0, 0, 0, 0), (16, 0, 2, 0), (14, 0, 0, 129), (100, 0, 0, 29), (16, 0, 3, 0), (10, 0, 2, 0), (10, 0, 3, 0), (69, 13, 20, 0), (999, 0, 0, 0), (999, 0, 0, 0), (14, 0, 0, 129), (10, 0, 2, 0), (10, 0, 1, 0), (95, 0, 0, 29), (22, 1, 2, 0), (999, 0, 0, 0), (999, 0, 0, 0), (72, (-12), 5, 0), (999, 0, 0, 0), (999, 0, 0, 0), (133, 0, 0, 0)]
def zu_Ar_fill_29 : List (Nat × List Bool) := [(5, [true, true, true, true])]
set_option maxRecDepth 100000 in
theorem qg_Ar_fill_29_5b {ρ : Type} (kr : Int → zH → Option ρ) (r5 : Int → Int → Int → Int → zH → Option ρ) (a0 a1 a2 a3 : Int) (h : zH) : (if a2 < a3 then (zob h 29 a0 fun p1 =>
zix (zhL h 29 p1) a2 fun j2 =>
zlet (zset h 29 p1 j2 a1) fun h3 =>
r5 a0 a1 (wr (a2 + 1)) a3 h3)
else kr 0 h) = zseg zPP true (zcal (ρ := ρ) []) (zget (999, 0, 0, 0) zc_Ar_fill_29) (zcut zu_Ar_fill_29) (zorc (ρ := ρ) [(5, [some (129, none), some (0, none), some (0, none), some (0, none)], [], zap4 r5)]) kr (fun _ _ => none) 400 5 [some (129, a0), some (0, a1), some (0, a2), some (0, a3)] [] h := by rfl
set_option maxRecDepth 100000 in
theorem qe_Ar_fill_29_5b {ρ : Type} (kr : Int → zH → Option ρ) (r5 : Int → Int → Int → Int → zH → Option ρ) (a0 a1 a2 a3 : Int) (h : zH) : Ar_fill_29_5b kr r5 a0 a1 a2 a3 h = zseg zPP true (zcal (ρ := ρ) []) (zget (999, 0, 0, 0) zc_Ar_fill_29) (zcut zu_Ar_fill_29) (zorc (ρ := ρ) [(5, [some (129, none), some (0, none), some (0, none), some (0, none)], [], zap4 r5)]) kr (fun _ _ => none) 400 5 [some (129, a0), some (0, a1), some (0, a2), some (0, a3)] [] h := qg_Ar_fill_29_5b kr r5 a0 a1 a2 a3 h
set_option maxRecDepth 100000 in
theorem qg_Ar_fill_29 {ρ : Type} (kr : Int → zH → Option ρ) (c5 : Int → Int → Int → Int → zH → Option ρ) (a0 a1 : Int) (h : zH) : (zob h 29 a0 fun p1 =>
c5 a0 a1 0 (zhL h 29 p1 : Int) h) = zseg zPP true (zcal (ρ := ρ) []) (zget (999, 0, 0, 0) zc_Ar_fill_29) (zcut zu_Ar_fill_29) (zorc (ρ := ρ) [(5, [some (129, none), some (0, none), some (0, none), some (0, none)], [], zap4 c5)]) kr (fun _ _ => none) 400 0 [some (129, a0), some (0, a1), none, none] [] h := by rfl
set_option maxRecDepth 100000 in
theorem qe_Ar_fill_29 {ρ : Type} (kr : Int → zH → Option ρ) (a0 a1 : Int) (h : zH) : Ar_fill_29 a0 a1 h kr = zseg zPP true (zcal (ρ := ρ) []) (zget (999, 0, 0, 0) zc_Ar_fill_29) (zcut zu_Ar_fill_29) (zorc (ρ := ρ) [(5, [some (129, none), some (0, none), some (0, none), some (0, none)], [], zap4 (Ar_fill_29_5 kr))]) kr (fun _ _ => none) 400 0 [some (129, a0), some (0, a1), none, none] [] h := qg_Ar_fill_29 kr (Ar_fill_29_5 kr) a0 a1 h
def zc_Ar_fill_31 : List zI := [(0, 0, 0, 0), (16, 0, 2, 0), (14, 0, 0, 131), (100, 0, 0, 31), (16, 0, 3, 0), (10, 0, 2, 0), (10, 0, 3, 0), (69, 13, 20, 0), (999, 0, 0, 0), (999, 0, 0, 0), (14, 0, 0, 131), (10, 0, 2, 0), (10, 0, 1, 0), (95, 0, 0, 31), (22, 1, 2, 0), (999, 0, 0, 0), (999, 0, 0, 0), (72, (-12), 5, 0), (999, 0, 0, 0), (999, 0, 0, 0), (133, 0, 0, 0)]
def zu_Ar_fill_31 : List (Nat × List Bool) := [(5, [true, true, true, true])]
set_option maxRecDepth 100000 in
theorem qg_Ar_fill_31_5b {ρ : Type} (kr : Int → zH → Option ρ) (r5 : Int → Int → Int → Int → zH → Option ρ) (a0 a1 a2 a3 : Int) (h : zH) : (if a2 < a3 then (zob h 31 a0 fun p1 =>
zix (zhL h 31 p1) a2 fun j2 =>
zlet (zset h 31 p1 j2 a1) fun h3 =>
r5 a0 a1 (wr (a2 + 1)) a3 h3)
else kr 0 h) = zseg zPP true (zcal (ρ := ρ) []) (zget (999, 0, 0, 0) zc_Ar_fill_31) (zcut zu_Ar_fill_31) (zorc (ρ := ρ) [(5, [some (131, none), some (0, none), some (0, none), some (0, none)], [], zap4 r5)]) kr (fun _ _ => none) 400 5 [some (131, a0), some (0, a1), some (0, a2), some (0, a3)] [] h := by rfl
set_option maxRecDepth 100000 in
theorem qe_Ar_fill_31_5b {ρ : Type} (kr : Int → zH → Option ρ) (r5 : Int → Int → Int → Int → zH → Option ρ) (a0 a1 a2 a3 : Int) (h : zH) : Ar_fill_31_5b kr r5 a0 a1 a2 a3 h = zseg zPP true (zcal (ρ := ρ) []) (zget (999, 0, 0, 0) zc_Ar_fill_31) (zcut zu_Ar_fill_31) (zorc (ρ := ρ) [(5, [some (131, none), some (0, none), some (0, none), some (0, none)], [], zap4 r5)]) kr (fun _ _ => none) 400 5 [some (131, a0), some (0, a1), some (0, a2), some (0, a3)] [] h := qg_Ar_fill_31_5b kr r5 a0 a1 a2 a3 h
set_option maxRecDepth 100000 in
theorem qg_Ar_fill_31 {ρ : Type} (kr : Int → zH → Option ρ) (c5 : Int → Int → Int → Int → zH → Option ρ) (a0 a1 : Int) (h : zH) : (zob h 31 a0 fun p1 =>
c5 a0 a1 0 (zhL h 31 p1 : Int) h) = zseg zPP true (zcal (ρ := ρ) []) (zget (999, 0, 0, 0) zc_Ar_fill_31) (zcut zu_Ar_fill_31) (zorc (ρ := ρ) [(5, [some (131, none), some (0, none), some (0, none), some (0, none)], [], zap4 c5)]) kr (fun _ _ => none) 400 0 [some (131, a0), some (0, a1), none, none] [] h := by rfl
set_option maxRecDepth 100000 in
theorem qe_Ar_fill_31 {ρ : Type} (kr : Int → zH → Option ρ) (a0 a1 : Int) (h : zH) : Ar_fill_31 a0 a1 h kr = zseg zPP true (zcal (ρ := ρ) []) (zget (999, 0, 0, 0) zc_Ar_fill_31) (zcut zu_Ar_fill_31) (zorc (ρ := ρ) [(5, [some (131, none), some (0, none), some (0, none), some (0, none)], [], zap4 (Ar_fill_31_5 kr))]) kr (fun _ _ => none) 400 0 [some (131, a0), some (0, a1), none, none] [] h := qg_Ar_fill_31 kr (Ar_fill_31_5 kr) a0 a1 h
def zc_Ar_fill_32 : List zI := [(0, 0, 0, 0), (16, 0, 2, 0), (14, 0, 0, 132), (100, 0, 0, 32), (16, 0, 3, 0), (10, 0, 2, 0), (10, 0, 3, 0), (69, 13, 20, 0), (999, 0, 0, 0), (999, 0, 0, 0), (14, 0, 0, 132), (10, 0, 2, 0), (10, 0, 1, 0), (95, 0, 0, 32), (22, 1, 2, 0), (999, 0, 0, 0), (999, 0, 0, 0), (72, (-12), 5, 0), (999, 0, 0, 0), (999, 0, 0, 0), (133, 0, 0, 0)]
def zu_Ar_fill_32 : List (Nat × List Bool) := [(5, [true, true, true, true])]
set_option maxRecDepth 100000 in
theorem qg_Ar_fill_32_5b {ρ : Type} (kr : Int → zH → Option ρ) (r5 : Int → Int → Int → Int → zH → Option ρ) (a0 a1 a2 a3 : Int) (h : zH) : (if a2 < a3 then (zob h 32 a0 fun p1 =>
zix (zhL h 32 p1) a2 fun j2 =>
zlet (zset h 32 p1 j2 a1) fun h3 =>
r5 a0 a1 (wr (a2 + 1)) a3 h3)
else kr 0 h) = zseg zPP true (zcal (ρ := ρ) []) (zget (999, 0, 0, 0) zc_Ar_fill_32) (zcut zu_Ar_fill_32) (zorc (ρ := ρ) [(5, [some (132, none), some (0, none), some (0, none), some (0, none)], [], zap4 r5)]) kr (fun _ _ => none) 400 5 [some (132, a0), some (0, a1), some (0, a2), some (0, a3)] [] h := by rfl
set_option maxRecDepth 100000 in
theorem qe_Ar_fill_32_5b {ρ : Type} (kr : Int → zH → Option ρ) (r5 : Int → Int → Int → Int → zH → Option ρ) (a0 a1 a2 a3 : Int) (h : zH) : Ar_fill_32_5b kr r5 a0 a1 a2 a3 h = zseg zPP true (zcal (ρ := ρ) []) (zget (999, 0, 0, 0) zc_Ar_fill_32) (zcut zu_Ar_fill_32) (zorc (ρ := ρ) [(5, [some (132, none), some (0, none), some (0, none), some (0, none)], [], zap4 r5)]) kr (fun _ _ => none) 400 5 [some (132, a0), some (0, a1), some (0, a2), some (0, a3)] [] h := qg_Ar_fill_32_5b kr r5 a0 a1 a2 a3 h
set_option maxRecDepth 100000 in
theorem qg_Ar_fill_32 {ρ : Type} (kr : Int → zH → Option ρ) (c5 : Int → Int → Int → Int → zH → Option ρ) (a0 a1 : Int) (h : zH) : (zob h 32 a0 fun p1 =>
c5 a0 a1 0 (zhL h 32 p1 : Int) h) = zseg zPP true (zcal (ρ := ρ) []) (zget (999, 0, 0, 0) zc_Ar_fill_32) (zcut zu_Ar_fill_32) (zorc (ρ := ρ) [(5, [some (132, none), some (0, none), some (0, none), some (0, none)], [], zap4 c5)]) kr (fun _ _ => none) 400 0 [some (132, a0), some (0, a1), none, none] [] h := by rfl
set_option maxRecDepth 100000 in
theorem qe_Ar_fill_32 {ρ : Type} (kr : Int → zH → Option ρ) (a0 a1 : Int) (h : zH) : Ar_fill_32 a0 a1 h kr = zseg zPP true (zcal (ρ := ρ) []) (zget (999, 0, 0, 0) zc_Ar_fill_32) (zcut zu_Ar_fill_32) (zorc (ρ := ρ) [(5, [some (132, none), some (0, none), some (0, none), some (0, none)], [], zap4 (Ar_fill_32_5 kr))]) kr (fun _ _ => none) 400 0 [some (132, a0), some (0, a1), none, none] [] h := qg_Ar_fill_32 kr (Ar_fill_32_5 kr) a0 a1 h
def zc_Ar_fill_39 : List zI := [(0, 0, 0, 0), (16, 0, 2, 0), (14, 0, 0, 139), (100, 0, 0, 39), (16, 0, 3, 0), (10, 0, 2, 0), (10, 0, 3, 0), (69, 13, 20, 0), (999, 0, 0, 0), (999, 0, 0, 0), (14, 0, 0, 139), (10, 0, 2, 0), (10, 0, 1, 0), (95, 0, 0, 39), (22, 1, 2, 0), (999, 0, 0, 0), (999, 0, 0, 0), (72, (-12), 5, 0), (999, 0, 0, 0), (999, 0, 0, 0), (133, 0, 0, 0)]
def zu_Ar_fill_39 : List (Nat × List Bool) := [(5, [true, true, true, true])]
set_option maxRecDepth 100000 in
theorem qg_Ar_fill_39_5b {ρ : Type} (kr : Int → zH → Option ρ) (r5 : Int → Int → Int → Int → zH → Option ρ) (a0 a1 a2 a3 : Int) (h : zH) : (if a2 < a3 then (zob h 39 a0 fun p1 =>
zix (zhL h 39 p1) a2 fun j2 =>
zlet (zset h 39 p1 j2 a1) fun h3 =>
r5 a0 a1 (wr (a2 + 1)) a3 h3)
else kr 0 h) = zseg zPP true (zcal (ρ := ρ) []) (zget (999, 0, 0, 0) zc_Ar_fill_39) (zcut zu_Ar_fill_39) (zorc (ρ := ρ) [(5, [some (139, none), some (0, none), some (0, none), some (0, none)], [], zap4 r5)]) kr (fun _ _ => none) 400 5 [some (139, a0), some (0, a1), some (0, a2), some (0, a3)] [] h := by rfl
set_option maxRecDepth 100000 in
theorem qe_Ar_fill_39_5b {ρ : Type} (kr : Int → zH → Option ρ) (r5 : Int → Int → Int → Int → zH → Option ρ) (a0 a1 a2 a3 : Int) (h : zH) : Ar_fill_39_5b kr r5 a0 a1 a2 a3 h = zseg zPP true (zcal (ρ := ρ) []) (zget (999, 0, 0, 0) zc_Ar_fill_39) (zcut zu_Ar_fill_39) (zorc (ρ := ρ) [(5, [some (139, none), some (0, none), some (0, none), some (0, none)], [], zap4 r5)]) kr (fun _ _ => none) 400 5 [some (139, a0), some (0, a1), some (0, a2), some (0, a3)] [] h := qg_Ar_fill_39_5b kr r5 a0 a1 a2 a3 h
set_option maxRecDepth 100000 in
theorem qg_Ar_fill_39 {ρ : Type} (kr : Int → zH → Option ρ) (c5 : Int → Int → Int → Int → zH → Option ρ) (a0 a1 : Int) (h : zH) : (zob h 39 a0 fun p1 =>
c5 a0 a1 0 (zhL h 39 p1 : Int) h) = zseg zPP true (zcal (ρ := ρ) []) (zget (999, 0, 0, 0) zc_Ar_fill_39) (zcut zu_Ar_fill_39) (zorc (ρ := ρ) [(5, [some (139, none), some (0, none), some (0, none), some (0, none)], [], zap4 c5)]) kr (fun _ _ => none) 400 0 [some (139, a0), some (0, a1), none, none] [] h := by rfl
set_option maxRecDepth 100000 in
theorem qe_Ar_fill_39 {ρ : Type} (kr : Int → zH → Option ρ) (a0 a1 : Int) (h : zH) : Ar_fill_39 a0 a1 h kr = zseg zPP true (zcal (ρ := ρ) []) (zget (999, 0, 0, 0) zc_Ar_fill_39) (zcut zu_Ar_fill_39) (zorc (ρ := ρ) [(5, [some (139, none), some (0, none), some (0, none), some (0, none)], [], zap4 (Ar_fill_39_5 kr))]) kr (fun _ _ => none) 400 0 [some (139, a0), some (0, a1), none, none] [] h := qg_Ar_fill_39 kr (Ar_fill_39_5 kr) a0 a1 h
def zc_Ar_fill_40 : List zI := [(0, 0, 0, 0), (16, 0, 2, 0), (14, 0, 0, 140), (100, 0, 0, 40), (16, 0, 3, 0), (10, 0, 2, 0), (10, 0, 3, 0), (69, 13, 20, 0), (999, 0, 0, 0), (999, 0, 0, 0), (14, 0, 0, 140), (10, 0, 2, 0), (10, 0, 1, 0), (95, 0, 0, 40), (22, 1, 2, 0), (999, 0, 0, 0), (999, 0, 0, 0), (72, (-12), 5, 0), (999, 0, 0, 0), (999, 0, 0, 0), (133, 0, 0, 0)]
def zu_Ar_fill_40 : List (Nat × List Bool) := [(5, [true, true, true, true])]
set_option maxRecDepth 100000 in
theorem qg_Ar_fill_40_5b {ρ : Type} (kr : Int → zH → Option ρ) (r5 : Int → Int → Int → Int → zH → Option ρ) (a0 a1 a2 a3 : Int) (h : zH) : (if a2 < a3 then (zob h 40 a0 fun p1 =>
zix (zhL h 40 p1) a2 fun j2 =>
zlet (zset h 40 p1 j2 a1) fun h3 =>
r5 a0 a1 (wr (a2 + 1)) a3 h3)
else kr 0 h) = zseg zPP true (zcal (ρ := ρ) []) (zget (999, 0, 0, 0) zc_Ar_fill_40) (zcut zu_Ar_fill_40) (zorc (ρ := ρ) [(5, [some (140, none), some (0, none), some (0, none), some (0, none)], [], zap4 r5)]) kr (fun _ _ => none) 400 5 [some (140, a0), some (0, a1), some (0, a2), some (0, a3)] [] h := by rfl
set_option maxRecDepth 100000 in
theorem qe_Ar_fill_40_5b {ρ : Type} (kr : Int → zH → Option ρ) (r5 : Int → Int → Int → Int → zH → Option ρ) (a0 a1 a2 a3 : Int) (h : zH) : Ar_fill_40_5b kr r5 a0 a1 a2 a3 h = zseg zPP true (zcal (ρ := ρ) []) (zget (999, 0, 0, 0) zc_Ar_fill_40) (zcut zu_Ar_fill_40) (zorc (ρ := ρ) [(5, [some (140, none), some (0, none), some (0, none), some (0, none)], [], zap4 r5)]) kr (fun _ _ => none) 400 5 [some (140, a0), some (0, a1), some (0, a2), some (0, a3)] [] h := qg_Ar_fill_40_5b kr r5 a0 a1 a2 a3 h
set_option maxRecDepth 100000 in
theorem qg_Ar_fill_40 {ρ : Type} (kr : Int → zH → Option ρ) (c5 : Int → Int → Int → Int → zH → Option ρ) (a0 a1 : Int) (h : zH) : (zob h 40 a0 fun p1 =>
c5 a0 a1 0 (zhL h 40 p1 : Int) h) = zseg zPP true (zcal (ρ := ρ) []) (zget (999, 0, 0, 0) zc_Ar_fill_40) (zcut zu_Ar_fill_40) (zorc (ρ := ρ) [(5, [some (140, none), some (0, none), some (0, none), some (0, none)], [], zap4 c5)]) kr (fun _ _ => none) 400 0 [some (140, a0), some (0, a1), none, none] [] h := by rfl
set_option maxRecDepth 100000 in
theorem qe_Ar_fill_40 {ρ : Type} (kr : Int → zH → Option ρ) (a0 a1 : Int) (h : zH) : Ar_fill_40 a0 a1 h kr = zseg zPP true (zcal (ρ := ρ) []) (zget (999, 0, 0, 0) zc_Ar_fill_40) (zcut zu_Ar_fill_40) (zorc (ρ := ρ) [(5, [some (140, none), some (0, none), some (0, none), some (0, none)], [], zap4 (Ar_fill_40_5 kr))]) kr (fun _ _ => none) 400 0 [some (140, a0), some (0, a1), none, none] [] h := qg_Ar_fill_40 kr (Ar_fill_40_5 kr) a0 a1 h
def zc_Fi_init : List zI := [(14, 0, 0, 104), (117, 0, 1, 0), (999, 0, 0, 0), (999, 0, 0, 0), (133, 0, 0, 0)]
def zu_Fi_init : List (Nat × List Bool) := []
set_option maxRecDepth 100000 in
theorem qg_Fi_init {ρ : Type} (kr : Int → zH → Option ρ) (a0 : Int) (h : zH) : (zob h 4 a0 fun _ =>
kr 0 h) = zseg zPP true (zcal (ρ := ρ) []) (zget (999, 0, 0, 0) zc_Fi_init) (zcut zu_Fi_init) (zorc (ρ := ρ) []) kr (fun _ _ => none) 400 0 [some (104, a0)] [] h := by rfl
set_option maxRecDepth 100000 in
theorem qe_Fi_init {ρ : Type} (kr : Int → zH → Option ρ) (a0 : Int) (h : zH) : Fi_init a0 h kr = zseg zPP true (zcal (ρ := ρ) []) (zget (999, 0, 0, 0) zc_Fi_init) (zcut zu_Fi_init) (zorc (ρ := ρ) []) kr (fun _ _ => none) 400 0 [some (104, a0)] [] h := qg_Fi_init kr a0 h
def zc_Un_init : List zI := [(14, 0, 0, 103), (117, 0, 3, 0), (999, 0, 0, 0), (999, 0, 0, 0), (14, 0, 0, 103), (0, 4, 0, 0), (102, 0, 9, 26), (999, 0, 0, 0), (999, 0, 0, 0), (84, 3, 11, 0), (999, 0, 0, 0), (999, 0, 0, 0), (14, 0, 0, 103), (0, 2, 0, 0), (101, 0, 0, 27), (999, 0, 0, 0), (50, 0, 0, 0), (0, 0, 0, 0), (0, (-1), 0, 0), (95, 0, 0, 27), (50, 0, 0, 0), (0, 1, 0, 0), (0, (-1), 0, 0), (95, 0, 0, 27), (84, 3, 17, 1), (999, 0, 0, 0), (999, 0, 0, 0), (133, 0, 0, 0)]
def zu_Un_init : List (Nat × List Bool) := []
set_option maxRecDepth 100000 in
theorem qg_Un_init {ρ : Type} (kr : Int → zH → Option ρ) (a0 : Int) (h : zH) : (zob h 3 a0 fun _ =>
zix 100000 4 fun n2 =>
zlet (znew h 26 n2 n2 (fun _ => -1)) fun h3 =>
zob h3 3 a0 fun p4 =>
zlet (zset h3 3 p4 0 (zhN h 26 : Int)) fun h5 =>
zix 100000 2 fun n6 =>
zlet (znew h5 27 n6 n6 (fun _ => 0)) fun h7 =>
zob h7 27 (zhN h5 27 : Int) fun p8 =>
zix (zhL h7 27 p8) 0 fun j9 =>
zlet (zset h7 27 p8 j9 (-1)) fun h10 =>
zob h10 27 (zhN h5 27 : Int) fun p11 =>
zix (zhL h10 27 p11) 1 fun j12 =>
zlet (zset h10 27 p11 j12 (-1)) fun h13 =>
zob h13 3 a0 fun p14 =>
zlet (zset h13 3 p14 1 (zhN h5 27 : Int)) fun h15 =>
kr 0 h15) = zseg zPP true (zcal (ρ := ρ) []) (zget (999, 0, 0, 0) zc_Un_init) (zcut zu_Un_init) (zorc (ρ := ρ) []) kr (fun _ _ => none) 400 0 [some (103, a0)] [] h := by rfl
set_option maxRecDepth 100000 in
theorem qe_Un_init {ρ : Type} (kr : Int → zH → Option ρ) (a0 : Int) (h : zH) : Un_init a0 h kr = zseg zPP true (zcal (ρ := ρ) []) (zget (999, 0, 0, 0) zc_Un_init) (zcut zu_Un_init) (zorc (ρ := ρ) []) kr (fun _ _ => none) 400 0 [some (103, a0)] [] h := qg_Un_init kr a0 h
def zc_Co_init : List zI := [(14, 0, 0, 102), (117, 0, 3, 0), (999, 0, 0, 0), (999, 0, 0, 0), (14, 0, 0, 102), (1, 64, 0, 0), (999, 0, 0, 0), (101, 0, 0, 22), (999, 0, 0, 0), (84, 2, 9, 1), (999, 0, 0, 0), (999, 0, 0, 0), (14, 0, 0, 102), (0, 2, 0, 0), (102, 0, 15, 23), (999, 0, 0, 0), (999, 0, 0, 0), (50, 0, 0, 0), (0, 0, 0, 0), (103, 0, 15, 3), (999, 0, 0, 0), (999, 0, 0, 0), (50, 0, 0, 0), (116, 0, 17, 276), (999, 0, 0, 0), (999, 0, 0, 0), (99, 0, 0, 23), (50, 0, 0, 0), (0, 1, 0, 0), (103, 0, 15, 3), (999, 0, 0, 0), (999, 0, 0, 0), (50, 0, 0, 0), (116, 0, 17, 276), (999, 0, 0, 0), (999, 0, 0, 0), (99, 0, 0, 23), (84, 2, 18, 2), (999, 0, 0, 0), (999, 0, 0, 0), (14, 0, 0, 102), (103, 0, 22, 4), (999, 0, 0, 0), (999, 0, 0, 0), (50, 0, 0, 0), (116, 0, 24, 201), (999, 0, 0, 0), (999, 0, 0, 0), (84, 2, 25, 3), (999, 0, 0, 0), (999, 0, 0, 0), (14, 0, 0, 102), (1, 111, 0, 0), (999, 0, 0, 0), (82, 2, 29, 5), (999, 0, 0, 0), (999, 0, 0, 0), (14, 0, 0, 102), (0, 4, 0, 0), (101, 0, 0, 24), (999, 0, 0, 0), (84, 2, 33, 6), (999, 0, 0, 0), (999, 0, 0, 0), (14, 0, 0, 102), (0, 4, 0, 0), (101, 0, 0, 25), (999, 0, 0, 0), (84, 2, 36, 7), (999, 0, 0, 0), (999, 0, 0, 0), (14, 0, 0, 102), (14, 0, 1, 101), (84, 2, 39, 0), (999, 0, 0, 0), (999, 0, 0, 0), (133, 0, 0, 0)]
def zu_Co_init : List (Nat × List Bool) := []
set_option maxRecDepth 100000 in
theorem qg_Co_init {ρ : Type} (kr : Int → zH → Option ρ) (F_Fi_init : Int → zH → (Int → zH → Option ρ) → Option ρ) (F_Un_init : Int → zH → (Int → zH → Option ρ) → Option ρ) (a0 a1 : Int) (h : zH) : (zob h 2 a0 fun _ =>
zix 100000 64 fun n2 =>
zlet (znew h 22 n2 n2 (fun _ => 0)) fun h3 =>
zob h3 2 a0 fun p4 =>
zlet (zset h3 2 p4 1 (zhN h 22 : Int)) fun h5 =>
zix 100000 2 fun n6 =>
zlet (znew h5 23 n6 n6 (fun _ => -1)) fun h7 =>
zlet (znew h7 3 0 (znf zPP 3) (fun k => zdef (zft zPP 3 k))) fun h8 =>
zob h8 3 (zhN h7 3 : Int) fun _ =>
F_Un_init (zhN h7 3 : Int) h8  fun _ h10 =>
zob h10 23 (zhN h5 23 : Int) fun p11 =>
zix (zhL h10 23 p11) 0 fun j12 =>
zorn h10 3 (zhN h7 3 : Int) (zlet (zset h10 23 p11 j12 (zhN h7 3 : Int)) fun h13 =>
zlet (znew h13 3 0 (znf zPP 3) (fun k => zdef (zft zPP 3 k))) fun h14 =>
zob h14 3 (zhN h13 3 : Int) fun _ =>
F_Un_init (zhN h13 3 : Int) h14  fun _ h16 =>
zob h16 23 (zhN h5 23 : Int) fun p17 =>
zix (zhL h16 23 p17) 1 fun j18 =>
zorn h16 3 (zhN h13 3 : Int) (zlet (zset h16 23 p17 j18 (zhN h13 3 : Int)) fun h19 =>
zob h19 2 a0 fun p20 =>
zlet (zset h19 2 p20 2 (zhN h5 23 : Int)) fun h21 =>
zlet (znew h21 4 0 (znf zPP 4) (fun k => zdef (zft zPP 4 k))) fun h22 =>
zob h22 4 (zhN h21 4 : Int) fun _ =>
F_Fi_init (zhN h21 4 : Int) h22  fun _ h24 =>
zob h24 2 a0 fun p25 =>
zlet (zset h24 2 p25 3 (zhN h21 4 : Int)) fun h26 =>
zob h26 2 a0 fun p27 =>
zlet (zset h26 2 p27 5 111) fun h28 =>
zix 100000 4 fun n29 =>
zlet (znew h28 24 n29 n29 (fun _ => 0)) fun h30 =>
zob h30 2 a0 fun p31 =>
zlet (zset h30 2 p31 6 (zhN h28 24 : Int)) fun h32 =>
zix 100000 4 fun n33 =>
zlet (znew h32 25 n33 n33 (fun _ => 0)) fun h34 =>
zob h34 2 a0 fun p35 =>
zlet (zset h34 2 p35 7 (zhN h32 25 : Int)) fun h36 =>
zob h36 2 a0 fun p37 =>
zlet (zset h36 2 p37 0 a1) fun h38 =>
kr 0 h38))) = zseg zPP true (zcal (ρ := ρ) [(201, [none], zca1 F_Fi_init), (276, [none], zca1 F_Un_init)]) (zget (999, 0, 0, 0) zc_Co_init) (zcut zu_Co_init) (zorc (ρ := ρ) []) kr (fun _ _ => none) 400 0 [some (102, a0), some (101, a1)] [] h := by rfl
set_option maxRecDepth 100000 in
theorem qe_Co_init {ρ : Type} (kr : Int → zH → Option ρ) (a0 a1 : Int) (h : zH) : Co_init a0 a1 h kr = zseg zPP true (zcal (ρ := ρ) [(201, [none], zca1 Fi_init), (276, [none], zca1 Un_init)]) (zget (999, 0, 0, 0) zc_Co_init) (zcut zu_Co_init) (zorc (ρ := ρ) []) kr (fun _ _ => none) 400 0 [some (102, a0), some (101, a1)] [] h := qg_Co_init kr Fi_init Un_init a0 a1 h
def zc_Le_init : List zI := [(14, 0, 0, 101), (117, 0, 3, 0), (999, 0, 0, 0), (999, 0, 0, 0), (14, 0, 0, 101), (0, 4, 0, 0), (102, 0, 9, 20), (999, 0, 0, 0), (999, 0, 0, 0), (84, 1, 11, 0), (999, 0, 0, 0), (999, 0, 0, 0), (14, 0, 0, 101), (1, 12, 0, 0), (999, 0, 0, 0), (102, 0, 17, 21), (999, 0, 0, 0), (999, 0, 0, 0), (84, 1, 19, 1), (999, 0, 0, 0), (999, 0, 0, 0), (133, 0, 0, 0)]
def zu_Le_init : List (Nat × List Bool) := []
set_option maxRecDepth 100000 in
theorem qg_Le_init {ρ : Type} (kr : Int → zH → Option ρ) (a0 : Int) (h : zH) : (zob h 1 a0 fun _ =>
zix 100000 4 fun n2 =>
zlet (znew h 20 n2 n2 (fun _ => -1)) fun h3 =>
zob h3 1 a0 fun p4 =>
zlet (zset h3 1 p4 0 (zhN h 20 : Int)) fun h5 =>
zix 100000 12 fun n6 =>
zlet (znew h5 21 n6 n6 (fun _ => -1)) fun h7 =>
zob h7 1 a0 fun p8 =>
zlet (zset h7 1 p8 1 (zhN h5 21 : Int)) fun h9 =>
kr 0 h9) = zseg zPP true (zcal (ρ := ρ) []) (zget (999, 0, 0, 0) zc_Le_init) (zcut zu_Le_init) (zorc (ρ := ρ) []) kr (fun _ _ => none) 400 0 [some (101, a0)] [] h := by rfl
set_option maxRecDepth 100000 in
theorem qe_Le_init {ρ : Type} (kr : Int → zH → Option ρ) (a0 : Int) (h : zH) : Le_init a0 h kr = zseg zPP true (zcal (ρ := ρ) []) (zget (999, 0, 0, 0) zc_Le_init) (zcut zu_Le_init) (zorc (ρ := ρ) []) kr (fun _ _ => none) 400 0 [some (101, a0)] [] h := qg_Le_init kr a0 h
def zc_Th_init : List zI := [(14, 0, 0, 106), (117, 0, 3, 0), (999, 0, 0, 0), (999, 0, 0, 0), (14, 0, 0, 106), (10, 0, 1, 0), (84, 6, 9, 0), (999, 0, 0, 0), (999, 0, 0, 0), (14, 0, 0, 106), (10, 0, 2, 0), (0, 0, 0, 0), (113, 0, 15, 2), (999, 0, 0, 0), (999, 0, 0, 0), (101, 0, 0, 32), (999, 0, 0, 0), (84, 6, 21, 1), (999, 0, 0, 0), (999, 0, 0, 0), (133, 0, 0, 0)]
def zu_Th_init : List (Nat × List Bool) := []
set_option maxRecDepth 100000 in
theorem qg_Th_init {ρ : Type} (kr : Int → zH → Option ρ) (F_Ma_max : Int → Int → zH → (Int → zH → Option ρ) → Option ρ) (a0 a1 a2 : Int) (h : zH) : (zob h 6 a0 fun _ =>
zob h 6 a0 fun p2 =>
zlet (zset h 6 p2 0 a1) fun h3 =>
F_Ma_max a2 0 h3  fun v4 h5 =>
zix 100000 v4 fun n6 =>
zlet (znew h5 32 n6 n6 (fun _ => 0)) fun h7 =>
zob h7 6 a0 fun p8 =>
zlet (zset h7 6 p8 1 (zhN h5 32 : Int)) fun h9 =>
kr 0 h9) = zseg zPP true (zcal (ρ := ρ) [(2, [none, none], zca2 F_Ma_max)]) (zget (999, 0, 0, 0) zc_Th_init) (zcut zu_Th_init) (zorc (ρ := ρ) []) kr (fun _ _ => none) 400 0 [some (106, a0), some (0, a1), some (0, a2)] [] h := by rfl
set_option maxRecDepth 100000 in
theorem qe_Th_init {ρ : Type} (kr : Int → zH → Option ρ) (a0 a1 a2 : Int) (h : zH) : Th_init a0 a1 a2 h kr = zseg zPP true (zcal (ρ := ρ) [(2, [none, none], zca2 Ma_max)]) (zget (999, 0, 0, 0) zc_Th_init) (zcut zu_Th_init) (zorc (ρ := ρ) []) kr (fun _ _ => none) 400 0 [some (106, a0), some (0, a1), some (0, a2)] [] h := qg_Th_init kr Ma_max a0 a1 a2 h
def zc_Re_init : List zI := [(14, 0, 0, 105), (117, 0, 3, 0), (999, 0, 0, 0), (999, 0, 0, 0), (14, 0, 0, 105), (1, 64, 0, 0), (999, 0, 0, 0), (101, 0, 0, 28), (999, 0, 0, 0), (84, 5, 9, 0), (999, 0, 0, 0), (999, 0, 0, 0), (14, 0, 0, 105), (1, 16, 0, 0), (999, 0, 0, 0), (101, 0, 0, 29), (999, 0, 0, 0), (84, 5, 15, 1), (999, 0, 0, 0), (999, 0, 0, 0), (14, 0, 0, 105), (1, 16, 0, 0), (999, 0, 0, 0), (102, 0, 18, 30), (999, 0, 0, 0), (999, 0, 0, 0), (84, 5, 20, 2), (999, 0, 0, 0), (999, 0, 0, 0), (14, 0, 0, 105), (1, 16, 0, 0), (999, 0, 0, 0), (101, 0, 0, 31), (999, 0, 0, 0), (84, 5, 24, 3), (999, 0, 0, 0), (999, 0, 0, 0), (0, 0, 0, 0), (16, 0, 1, 0), (10, 0, 1, 0), (14, 0, 0, 105), (80, 5, 20, 2), (999, 0, 0, 0), (999, 0, 0, 0), (100, 0, 0, 30), (69, 25, 70, 0), (999, 0, 0, 0), (999, 0, 0, 0), (14, 0, 0, 105), (80, 5, 20, 2), (999, 0, 0, 0), (999, 0, 0, 0), (10, 0, 1, 0), (103, 0, 18, 6), (999, 0, 0, 0), (999, 0, 0, 0), (50, 0, 0, 0), (10, 0, 1, 0), (1, 8, 0, 0), (999, 0, 0, 0), (115, 0, 27, 253), (999, 0, 0, 0), (999, 0, 0, 0), (99, 0, 0, 30), (22, 1, 1, 0), (999, 0, 0, 0), (999, 0, 0, 0), (72, (-28), 39, 0), (999, 0, 0, 0), (999, 0, 0, 0), (133, 0, 0, 0)]
def zu_Re_init : List (Nat × List Bool) := [(39, [true, true])]
set_option maxRecDepth 100000 in
theorem qg_Re_init_39b {ρ : Type} (kr : Int → zH → Option ρ) (r39 : Int → Int → zH → Option ρ) (F_Th_init : Int → Int → Int → zH → (Int → zH → Option ρ) → Option ρ) (a0 a1 : Int) (h : zH) : (zob h 5 a0 fun p1 =>
zob h 30 (zhD h 5 p1 2) fun p2 =>
if a1 < (zhL h 30 p2 : Int) then (zob h 5 a0 fun p3 =>
zlet (znew h 6 0 (znf zPP 6) (fun k => zdef (zft zPP 6 k))) fun h4 =>
zob h4 6 (zhN h 6 : Int) fun _ =>
F_Th_init (zhN h 6 : Int) a1 8 h4  fun _ h6 =>
zob h6 30 (zhD h 5 p3 2) fun p7 =>
zix (zhL h6 30 p7) a1 fun j8 =>
zorn h6 6 (zhN h 6 : Int) (zlet (zset h6 30 p7 j8 (zhN h 6 : Int)) fun h9 =>
r39 a0 (wr (a1 + 1)) h9))
else kr 0 h) = zseg zPP true (zcal (ρ := ρ) [(253, [none, none, none], zca3 F_Th_init)]) (zget (999, 0, 0, 0) zc_Re_init) (zcut zu_Re_init) (zorc (ρ := ρ) [(39, [some (105, none), some (0, none)], [], zap2 r39)]) kr (fun _ _ => none) 400 39 [some (105, a0), some (0, a1)] [] h := by rfl
set_option maxRecDepth 100000 in
theorem qe_Re_init_39b {ρ : Type} (kr : Int → zH → Option ρ) (r39 : Int → Int → zH → Option ρ) (a0 a1 : Int) (h : zH) : Re_init_39b kr r39 a0 a1 h = zseg zPP true (zcal (ρ := ρ) [(253, [none, none, none], zca3 Th_init)]) (zget (999, 0, 0, 0) zc_Re_init) (zcut zu_Re_init) (zorc (ρ := ρ) [(39, [some (105, none), some (0, none)], [], zap2 r39)]) kr (fun _ _ => none) 400 39 [some (105, a0), some (0, a1)] [] h := qg_Re_init_39b kr r39 Th_init a0 a1 h
set_option maxRecDepth 100000 in
theorem qg_Re_init {ρ : Type} (kr : Int → zH → Option ρ) (c39 : Int → Int → zH → Option ρ) (a0 : Int) (h : zH) : (zob h 5 a0 fun _ =>
zix 100000 64 fun n2 =>
zlet (znew h 28 n2 n2 (fun _ => 0)) fun h3 =>
zob h3 5 a0 fun p4 =>
zlet (zset h3 5 p4 0 (zhN h 28 : Int)) fun h5 =>
zix 100000 16 fun n6 =>
zlet (znew h5 29 n6 n6 (fun _ => 0)) fun h7 =>
zob h7 5 a0 fun p8 =>
zlet (zset h7 5 p8 1 (zhN h5 29 : Int)) fun h9 =>
zix 100000 16 fun n10 =>
zlet (znew h9 30 n10 n10 (fun _ => -1)) fun h11 =>
zob h11 5 a0 fun p12 =>
zlet (zset h11 5 p12 2 (zhN h9 30 : Int)) fun h13 =>
zix 100000 16 fun n14 =>
zlet (znew h13 31 n14 n14 (fun _ => 0)) fun h15 =>
zob h15 5 a0 fun p16 =>
zlet (zset h15 5 p16 3 (zhN h13 31 : Int)) fun h17 =>
c39 a0 0 h17) = zseg zPP true (zcal (ρ := ρ) []) (zget (999, 0, 0, 0) zc_Re_init) (zcut zu_Re_init) (zorc (ρ := ρ) [(39, [some (105, none), some (0, none)], [], zap2 c39)]) kr (fun _ _ => none) 400 0 [some (105, a0), none] [] h := by rfl
set_option maxRecDepth 100000 in
theorem qe_Re_init {ρ : Type} (kr : Int → zH → Option ρ) (a0 : Int) (h : zH) : Re_init a0 h kr = zseg zPP true (zcal (ρ := ρ) []) (zget (999, 0, 0, 0) zc_Re_init) (zcut zu_Re_init) (zorc (ρ := ρ) [(39, [some (105, none), some (0, none)], [], zap2 (Re_init_39 kr))]) kr (fun _ _ => none) 400 0 [some (105, a0), none] [] h := qg_Re_init kr (Re_init_39 kr) a0 h
def zc_X_init : List zI := [(14, 0, 0, 100), (117, 0, 1, 0), (999, 0, 0, 0), (999, 0, 0, 0), (14, 0, 0, 100), (103, 0, 7, 1), (999, 0, 0, 0), (999, 0, 0, 0), (50, 0, 0, 0), (116, 0, 9, 239), (999, 0, 0, 0), (999, 0, 0, 0), (84, 0, 10, 0), (999, 0, 0, 0), (999, 0, 0, 0), (14, 0, 0, 100), (103, 0, 16, 2), (999, 0, 0, 0), (999, 0, 0, 0), (50, 0, 0, 0), (14, 0, 0, 100), (80, 0, 10, 0), (999, 0, 0, 0), (999, 0, 0, 0), (115, 0, 18, 179), (999, 0, 0, 0), (999, 0, 0, 0), (84, 0, 21, 1), (999, 0, 0, 0), (999, 0, 0, 0), (14, 0, 0, 100), (103, 0, 25, 5), (999, 0, 0, 0), (999, 0, 0, 0), (50, 0, 0, 0), (115, 0, 27, 268), (999, 0, 0, 0), (999, 0, 0, 0), (84, 0, 28, 2), (999, 0, 0, 0), (999, 0, 0, 0), (133, 0, 0, 0)]
def zu_X_init : List (Nat × List Bool) := []
set_option maxRecDepth 100000 in
theorem qg_X_init {ρ : Type} (kr : Int → zH → Option ρ) (F_Co_init : Int → Int → zH → (Int → zH → Option ρ) → Option ρ) (F_Le_init : Int → zH → (Int → zH → Option ρ) → Option ρ) (F_Re_init : Int → zH → (Int → zH → Option ρ) → Option ρ) (a0 : Int) (h : zH) : (zob h 0 a0 fun _ =>
zlet (znew h 1 0 (znf zPP 1) (fun k => zdef (zft zPP 1 k))) fun h2 =>
zob h2 1 (zhN h 1 : Int) fun _ =>
F_Le_init (zhN h 1 : Int) h2  fun _ h4 =>
zob h4 0 a0 fun p5 =>
zlet (zset h4 0 p5 0 (zhN h 1 : Int)) fun h6 =>
zlet (znew h6 2 0 (znf zPP 2) (fun k => zdef (zft zPP 2 k))) fun h7 =>
zob h7 0 a0 fun p8 =>
zob h7 2 (zhN h6 2 : Int) fun _ =>
F_Co_init (zhN h6 2 : Int) (zhD h7 0 p8 0) h7  fun _ h10 =>
zob h10 0 a0 fun p11 =>
zlet (zset h10 0 p11 1 (zhN h6 2 : Int)) fun h12 =>
zlet (znew h12 5 0 (znf zPP 5) (fun k => zdef (zft zPP 5 k))) fun h13 =>
zob h13 5 (zhN h12 5 : Int) fun _ =>
F_Re_init (zhN h12 5 : Int) h13  fun _ h15 =>
zob h15 0 a0 fun p16 =>
zlet (zset h15 0 p16 2 (zhN h12 5 : Int)) fun h17 =>
kr 0 h17) = zseg zPP true (zcal (ρ := ρ) [(179, [none, none], zca2 F_Co_init), (239, [none], zca1 F_Le_init), (268, [none], zca1 F_Re_init)]) (zget (999, 0, 0, 0) zc_X_init) (zcut zu_X_init) (zorc (ρ := ρ) []) kr (fun _ _ => none) 400 0 [some (100, a0)] [] h := by rfl
set_option maxRecDepth 100000 in
theorem qe_X_init {ρ : Type} (kr : Int → zH → Option ρ) (a0 : Int) (h : zH) : X_init a0 h kr = zseg zPP true (zcal (ρ := ρ) [(179, [none, none], zca2 Co_init), (239, [none], zca1 Le_init), (268, [none], zca1 Re_init)]) (zget (999, 0, 0, 0) zc_X_init) (zcut zu_X_init) (zorc (ρ := ρ) []) kr (fun _ _ => none) 400 0 [some (100, a0)] [] h := qg_X_init kr Co_init Le_init Re_init a0 h
def zc_X_isWithin : List zI := [(10, 0, 0, 0), (10, 0, 1, 0), (68, 12, 14, 0), (999, 0, 0, 0), (999, 0, 0, 0), (10, 0, 0, 0), (10, 0, 2, 0), (70, 7, 14, 0), (999, 0, 0, 0), (999, 0, 0, 0), (0, 1, 0, 0), (72, 4, 15, 0), (999, 0, 0, 0), (999, 0, 0, 0), (0, 0, 0, 0), (130, 0, 1, 0)]
def zu_X_isWithin : List (Nat × List Bool) := [(14, [false, false, false]), (15, [false, false, false])]
set_option maxRecDepth 100000 in
theorem qg_X_isWithin_15 {ρ : Type} (kr : Int → zH → Option ρ) (t0 : Int) (h : zH) : (znar 1 t0 fun x1 => kr x1 h) = zseg zPP true (zcal (ρ := ρ) []) (zget (999, 0, 0, 0) zc_X_isWithin) (zcut zu_X_isWithin) (zorc (ρ := ρ) []) kr (fun _ _ => none) 400 15 [none, none, none] [(0, t0)] h := by rfl
set_option maxRecDepth 100000 in
theorem qe_X_isWithin_15 {ρ : Type} (kr : Int → zH → Option ρ) (t0 : Int) (h : zH) : X_isWithin_15 kr t0 h = zseg zPP true (zcal (ρ := ρ) []) (zget (999, 0, 0, 0) zc_X_isWithin) (zcut zu_X_isWithin) (zorc (ρ := ρ) []) kr (fun _ _ => none) 400 15 [none, none, none] [(0, t0)] h := qg_X_isWithin_15 kr t0 h
set_option maxRecDepth 100000 in
theorem qg_X_isWithin_14 {ρ : Type} (kr : Int → zH → Option ρ) (c15 : Int → zH → Option ρ) (h : zH) : (c15 0 h) = zseg zPP true (zcal (ρ := ρ) []) (zget (999, 0, 0, 0) zc_X_isWithin) (zcut zu_X_isWithin) (zorc (ρ := ρ) [(15, [none, none, none], [(0, none)], zap1 c15)]) kr (fun _ _ => none) 400 14 [none, none, none] [] h := by rfl
set_option maxRecDepth 100000 in
theorem qe_X_isWithin_14 {ρ : Type} (kr : Int → zH → Option ρ) (h : zH) : X_isWithin_14 kr h = zseg zPP true (zcal (ρ := ρ) []) (zget (999, 0, 0, 0) zc_X_isWithin) (zcut zu_X_isWithin) (zorc (ρ := ρ) [(15, [none, none, none], [(0, none)], zap1 (X_isWithin_15 kr))]) kr (fun _ _ => none) 400 14 [none, none, none] [] h := qg_X_isWithin_14 kr (X_isWithin_15 kr) h
set_option maxRecDepth 100000 in
theorem qg_X_isWithin {ρ : Type} (kr : Int → zH → Option ρ) (c14 : zH → Option ρ) (c15 : Int → zH → Option ρ) (a0 a1 a2 : Int) (h : zH) : (if a0 < a1 then c14 h
else if a2 < a0 then c14 h
else c15 1 h) = zseg zPP true (zcal (ρ := ρ) []) (zget (999, 0, 0, 0) zc_X_isWithin) (zcut zu_X_isWithin) (zorc (ρ := ρ) [(14, [none, none, none], [], zap0 c14), (15, [none, none, none], [(0, none)], zap1 c15)]) kr (fun _ _ => none) 400 0 [some (0, a0), some (0, a1), some (0, a2)] [] h := by rfl
set_option maxRecDepth 100000 in
theorem qe_X_isWithin {ρ : Type} (kr : Int → zH → Option ρ) (a0 a1 a2 : Int) (h : zH) : X_isWithin a0 a1 a2 h kr = zseg zPP true (zcal (ρ := ρ) []) (zget (999, 0, 0, 0) zc_X_isWithin) (zcut zu_X_isWithin) (zorc (ρ := ρ) [(14, [none, none, none], [], zap0 (X_isWithin_14 kr)), (15, [none, none, none], [(0, none)], zap1 (X_isWithin_15 kr))]) kr (fun _ _ => none) 400 0 [some (0, a0), some (0, a1), some (0, a2)] [] h := qg_X_isWithin kr (X_isWithin_14 kr) (X_isWithin_15 kr) a0 a1 a2 h
def zc_Ke_init : List zI := [(14, 0, 0, 107), (117, 0, 3, 0), (999, 0, 0, 0), (999, 0, 0, 0), (14, 0, 0, 107), (1, 40, 0, 0), (999, 0, 0, 0), (102, 0, 9, 33), (999, 0, 0, 0), (999, 0, 0, 0), (84, 7, 11, 2), (999, 0, 0, 0), (999, 0, 0, 0), (14, 0, 0, 107), (10, 0, 1, 0), (84, 7, 17, 0), (999, 0, 0, 0), (999, 0, 0, 0), (14, 0, 0, 107), (10, 0, 2, 0), (84, 7, 21, 1), (999, 0, 0, 0), (999, 0, 0, 0), (133, 0, 0, 0)]
def zu_Ke_init : List (Nat × List Bool) := []
set_option maxRecDepth 100000 in
theorem qg_Ke_init {ρ : Type} (kr : Int → zH → Option ρ) (a0 a1 a2 : Int) (h : zH) : (zob h 7 a0 fun _ =>
zix 100000 40 fun n2 =>
zlet (znew h 33 n2 n2 (fun _ => -1)) fun h3 =>
zob h3 7 a0 fun p4 =>
zlet (zset h3 7 p4 2 (zhN h 33 : Int)) fun h5 =>
zob h5 7 a0 fun p6 =>
zlet (zset h5 7 p6 0 a1) fun h7 =>
zob h7 7 a0 fun p8 =>
zlet (zset h7 7 p8 1 a2) fun h9 =>
kr 0 h9) = zseg zPP true (zcal (ρ := ρ) []) (zget (999, 0, 0, 0) zc_Ke_init) (zcut zu_Ke_init) (zorc (ρ := ρ) []) kr (fun _ _ => none) 400 0 [some (107, a0), some (0, a1), some (0, a2)] [] h := by rfl
set_option maxRecDepth 100000 in
theorem qe_Ke_init {ρ : Type} (kr : Int → zH → Option ρ) (a0 a1 a2 : Int) (h : zH) : Ke_init a0 a1 a2 h kr = zseg zPP true (zcal (ρ := ρ) []) (zget (999, 0, 0, 0) zc_Ke_init) (zcut zu_Ke_init) (zorc (ρ := ρ) []) kr (fun _ _ => none) 400 0 [some (107, a0), some (0, a1), some (0, a2)] [] h := qg_Ke_init kr a0 a1 a2 h
def zc_Le_enterKernel : List zI := [(14, 0, 0, 101), (80, 1, 23, 2), (999, 0, 0, 0), (999, 0, 0, 0), (14, 0, 0, 101), (80, 1, 11, 0), (999, 0, 0, 0), (999, 0, 0, 0), (100, 0, 0, 20), (69, 23, 32, 0), (999, 0, 0, 0), (999, 0, 0, 0), (14, 0, 0, 101), (80, 1, 11, 0), (999, 0, 0, 0), (999, 0, 0, 0), (14, 0, 0, 101), (80, 1, 23, 2), (999, 0, 0, 0), (999, 0, 0, 0), (14, 0, 1, 107), (99, 0, 0, 20), (14, 0, 0, 101), (50, 0, 0, 0), (80, 1, 23, 2), (999, 0, 0, 0), (999, 0, 0, 0), (0, 1, 0, 0), (30, 0, 0, 0), (82, 1, 23, 2), (999, 0, 0, 0), (999, 0, 0, 0), (14, 0, 0, 101), (80, 1, 23, 2), (999, 0, 0, 0), (999, 0, 0, 0), (0, 1, 0, 0), (31, 0, 0, 0), (130, 0, 0, 0)]
def zu_Le_enterKernel : List (Nat × List Bool) := [(32, [true, false])]
set_option maxRecDepth 100000 in
theorem qg_Le_enterKernel_32 {ρ : Type} (kr : Int → zH → Option ρ) (a0 : Int) (h : zH) : (zob h 1 a0 fun p1 =>
kr (wr ((zhD h 1 p1 2) - 1)) h) = zseg zPP true (zcal (ρ := ρ) []) (zget (999, 0, 0, 0) zc_Le_enterKernel) (zcut zu_Le_enterKernel) (zorc (ρ := ρ) []) kr (fun _ _ => none) 400 32 [some (101, a0), none] [] h := by rfl
set_option maxRecDepth 100000 in
theorem qe_Le_enterKernel_32 {ρ : Type} (kr : Int → zH → Option ρ) (a0 : Int) (h : zH) : Le_enterKernel_32 kr a0 h = zseg zPP true (zcal (ρ := ρ) []) (zget (999, 0, 0, 0) zc_Le_enterKernel) (zcut zu_Le_enterKernel) (zorc (ρ := ρ) []) kr (fun _ _ => none) 400 32 [some (101, a0), none] [] h := qg_Le_enterKernel_32 kr a0 h
set_option maxRecDepth 100000 in
theorem qg_Le_enterKernel {ρ : Type} (kr : Int → zH → Option ρ) (c32 : Int → zH → Option ρ) (a0 a1 : Int) (h : zH) : (zob h 1 a0 fun p1 =>
zob h 1 a0 fun p2 =>
zob h 20 (zhD h 1 p2 0) fun p3 =>
if (zhD h 1 p1 2) < (zhL h 20 p3 : Int) then (zob h 1 a0 fun p4 =>
zob h 1 a0 fun p5 =>
zob h 20 (zhD h 1 p4 0) fun p6 =>
zix (zhL h 20 p6) (zhD h 1 p5 2) fun j7 =>
zorn h 7 a1 (zlet (zset h 20 p6 j7 a1) fun h8 =>
zob h8 1 a0 fun p9 =>
zob h8 1 a0 fun p10 =>
zlet (zset h8 1 p10 2 (wr ((zhD h8 1 p9 2) + 1))) fun h11 =>
c32 a0 h11))
else c32 a0 h) = zseg zPP true (zcal (ρ := ρ) []) (zget (999, 0, 0, 0) zc_Le_enterKernel) (zcut zu_Le_enterKernel) (zorc (ρ := ρ) [(32, [some (101, none), none], [], zap1 c32)]) kr (fun _ _ => none) 400 0 [some (101, a0), some (107, a1)] [] h := by rfl
set_option maxRecDepth 100000 in
theorem qe_Le_enterKernel {ρ : Type} (kr : Int → zH → Option ρ) (a0 a1 : Int) (h : zH) : Le_enterKernel a0 a1 h kr = zseg zPP true (zcal (ρ := ρ) []) (zget (999, 0, 0, 0) zc_Le_enterKernel) (zcut zu_Le_enterKernel) (zorc (ρ := ρ) [(32, [some (101, none), none], [], zap1 (Le_enterKernel_32 kr))]) kr (fun _ _ => none) 400 0 [some (101, a0), some (107, a1)] [] h := qg_Le_enterKernel kr (Le_enterKernel_32 kr) a0 a1 h
def zc_X_addKernel : List zI := [(10, 0, 1, 0), (0, 1, 0, 0), (1, 8, 0, 0), (999, 0, 0, 0), (113, 0, 32, 54), (999, 0, 0, 0), (999, 0, 0, 0), (60, 13, 20, 0), (999, 0, 0, 0), (999, 0, 0, 0), (10, 0, 2, 0), (0, 0, 0, 0), (1, 16, 0, 0), (999, 0, 0, 0), (113, 0, 32, 54), (999, 0, 0, 0), (999, 0, 0, 0), (61, 11, 28, 0), (999, 0, 0, 0), (999, 0, 0, 0), (134, 38, 36, 1), (999, 0, 0, 0), (999, 0, 0, 0), (999, 0, 0, 0), (999, 0, 0, 0), (999, 0, 0, 0), (999, 0, 0, 0), (999, 0, 0, 0), (14, 0, 0, 100), (80, 0, 10, 0), (999, 0, 0, 0), (999, 0, 0, 0), (80, 1, 39, 2), (999, 0, 0, 0), (999, 0, 0, 0), (0, 4, 0, 0), (68, 11, 47, 0), (999, 0, 0, 0), (999, 0, 0, 0), (134, 45, 43, 2), (999, 0, 0, 0), (999, 0, 0, 0), (999, 0, 0, 0), (999, 0, 0, 0), (999, 0, 0, 0), (999, 0, 0, 0), (999, 0, 0, 0), (14, 0, 0, 100), (80, 0, 10, 0), (999, 0, 0, 0), (999, 0, 0, 0), (103, 0, 46, 7), (999, 0, 0, 0), (999, 0, 0, 0), (50, 0, 0, 0), (10, 0, 1, 0), (10, 0, 2, 0), (115, 0, 48, 222), (999, 0, 0, 0), (999, 0, 0, 0), (110, 0, 51, 242), (999, 0, 0, 0), (999, 0, 0, 0), (130, 0, 0, 0)]
def zu_X_addKernel : List (Nat × List Bool) := [(20, [false, false, false])]
set_option maxRecDepth 100000 in
theorem qg_X_addKernel_20 {ρ : Type} (kr : Int → zH → Option ρ) (kt : Nat → zH → Option ρ) (h : zH) : (zlet (zthrown h) fun h1 => kt 1 h1) = zseg zPP true (zcal (ρ := ρ) []) (zget (999, 0, 0, 0) zc_X_addKernel) (zcut zu_X_addKernel) (zorc (ρ := ρ) []) kr kt 400 20 [none, none, none] [] h := by rfl
set_option maxRecDepth 100000 in
theorem qe_X_addKernel_20 {ρ : Type} (kr : Int → zH → Option ρ) (kt : Nat → zH → Option ρ) (h : zH) : X_addKernel_20 kr kt h = zseg zPP true (zcal (ρ := ρ) []) (zget (999, 0, 0, 0) zc_X_addKernel) (zcut zu_X_addKernel) (zorc (ρ := ρ) []) kr kt 400 20 [none, none, none] [] h := qg_X_addKernel_20 kr kt h
set_option maxRecDepth 100000 in
theorem qg_X_addKernel {ρ : Type} (kr : Int → zH → Option ρ) (kt : Nat → zH → Option ρ) (F_X_isWithin : Int → Int → Int → zH → (Int → zH → Option ρ) → Option ρ) (F_Ke_init : Int → Int → Int → zH → (Int → zH → Option ρ) → Option ρ) (F_Le_enterKernel : Int → Int → zH → (Int → zH → Option ρ) → Option ρ) (c20 : zH → Option ρ) (a0 a1 a2 : Int) (h : zH) : (F_X_isWithin a1 1 8 h  fun v1 h2 =>
if v1 = 0 then c20 h2
else F_X_isWithin a2 0 16 h2  fun v3 h4 =>
if v3 = 0 then c20 h4
else zob h4 0 a0 fun p5 =>
zob h4 1 (zhD h4 0 p5 0) fun p6 =>
if (zhD h4 1 p6 2) < 4 then (zob h4 0 a0 fun p7 =>
zlet (znew h4 7 0 (znf zPP 7) (fun k => zdef (zft zPP 7 k))) fun h8 =>
zob h8 7 (zhN h4 7 : Int) fun _ =>
F_Ke_init (zhN h4 7 : Int) a1 a2 h8  fun _ h10 =>
zob h10 1 (zhD h4 0 p7 0) fun _ =>
F_Le_enterKernel (zhD h4 0 p7 0) (zhN h4 7 : Int) h10  fun v11 h12 =>
kr v11 h12)
else zlet (zthrown h4) fun h13 => kt 2 h13) = zseg zPP true (zcal (ρ := ρ) [(54, [none, none, none], zca3 F_X_isWithin), (222, [none, none, none], zca3 F_Ke_init), (242, [none, none], zca2 F_Le_enterKernel)]) (zget (999, 0, 0, 0) zc_X_addKernel) (zcut zu_X_addKernel) (zorc (ρ := ρ) [(20, [none, none, none], [], zap0 c20)]) kr kt 400 0 [some (100, a0), some (0, a1), some (0, a2)] [] h := by rfl
set_option maxRecDepth 100000 in
theorem qe_X_addKernel {ρ : Type} (kr : Int → zH → Option ρ) (kt : Nat → zH → Option ρ) (a0 a1 a2 : Int) (h : zH) : X_addKernel a0 a1 a2 h kt kr = zseg zPP true (zcal (ρ := ρ) [(54, [none, none, none], zca3 X_isWithin), (222, [none, none, none], zca3 Ke_init), (242, [none, none], zca2 Le_enterKernel)]) (zget (999, 0, 0, 0) zc_X_addKernel) (zcut zu_X_addKernel) (zorc (ρ := ρ) [(20, [none, none, none], [], zap0 (X_addKernel_20 kr kt))]) kr kt 400 0 [some (100, a0), some (0, a1), some (0, a2)] [] h := qg_X_addKernel kr kt X_isWithin Ke_init Le_enterKernel (X_addKernel_20 kr kt) a0 a1 a2 h
def zc_Le_kernelOf : List zI := [(10, 0, 1, 0), (0, 0, 0, 0), (14, 0, 0, 101), (80, 1, 23, 2), (999, 0, 0, 0), (999, 0, 0, 0), (0, 1, 0, 0), (31, 0, 0, 0), (114, 0, 27, 54), (999, 0, 0, 0), (999, 0, 0, 0), (60, 12, 23, 0), (999, 0, 0, 0), (999, 0, 0, 0), (14, 0, 0, 101), (80, 1, 11, 0), (999, 0, 0, 0), (999, 0, 0, 0), (10, 0, 1, 0), (94, 0, 0, 20), (72, 4, 24, 0), (999, 0, 0, 0), (999, 0, 0, 0), (7, 0, 0, 107), (132, 0, 0, 107)]
def zu_Le_kernelOf : List (Nat × List Bool) := [(24, [false, false])]
set_option maxRecDepth 100000 in
theorem qg_Le_kernelOf_24 {ρ : Type} (kr : Int → zH → Option ρ) (t0 : Int) (h : zH) : (kr t0 h) = zseg zPP true (zcal (ρ := ρ) []) (zget (999, 0, 0, 0) zc_Le_kernelOf) (zcut zu_Le_kernelOf) (zorc (ρ := ρ) []) kr (fun _ _ => none) 400 24 [none, none] [(107, t0)] h := by rfl
set_option maxRecDepth 100000 in
theorem qe_Le_kernelOf_24 {ρ : Type} (kr : Int → zH → Option ρ) (t0 : Int) (h : zH) : Le_kernelOf_24 kr t0 h = zseg zPP true (zcal (ρ := ρ) []) (zget (999, 0, 0, 0) zc_Le_kernelOf) (zcut zu_Le_kernelOf) (zorc (ρ := ρ) []) kr (fun _ _ => none) 400 24 [none, none] [(107, t0)] h := qg_Le_kernelOf_24 kr t0 h
set_option maxRecDepth 100000 in
theorem qg_Le_kernelOf {ρ : Type} (kr : Int → zH → Option ρ) (F_X_isWithin : Int → Int → Int → zH → (Int → zH → Option ρ) → Option ρ) (c24 : Int → zH → Option ρ) (a0 a1 : Int) (h : zH) : (zob h 1 a0 fun p1 =>
F_X_isWithin a1 0 (wr ((zhD h 1 p1 2) - 1)) h  fun v2 h3 =>
if v2 = 0 then c24 (-1) h3
else zob h3 1 a0 fun p4 =>
zob h3 20 (zhD h3 1 p4 0) fun p5 =>
zix (zhL h3 20 p5) a1 fun j6 =>
c24 (zhD h3 20 p5 j6) h3) = zseg zPP true (zcal (ρ := ρ) [(54, [none, none, none], zca3 F_X_isWithin)]) (zget (999, 0, 0, 0) zc_Le_kernelOf) (zcut zu_Le_kernelOf) (zorc (ρ := ρ) [(24, [none, none], [(107, none)], zap1 c24)]) kr (fun _ _ => none) 400 0 [some (101, a0), some (0, a1)] [] h := by rfl
set_option maxRecDepth 100000 in
theorem qe_Le_kernelOf {ρ : Type} (kr : Int → zH → Option ρ) (a0 a1 : Int) (h : zH) : Le_kernelOf a0 a1 h kr = zseg zPP true (zcal (ρ := ρ) [(54, [none, none, none], zca3 X_isWithin)]) (zget (999, 0, 0, 0) zc_Le_kernelOf) (zcut zu_Le_kernelOf) (zorc (ρ := ρ) [(24, [none, none], [(107, none)], zap1 (Le_kernelOf_24 kr))]) kr (fun _ _ => none) 400 0 [some (101, a0), some (0, a1)] [] h := qg_Le_kernelOf kr X_isWithin (Le_kernelOf_24 kr) a0 a1 h
def zc_X_kernelAt : List zI := [(14, 0, 0, 100), (80, 0, 10, 0), (999, 0, 0, 0), (999, 0, 0, 0), (10, 0, 1, 0), (110, 0, 294, 240), (999, 0, 0, 0), (999, 0, 0, 0), (20, 0, 2, 107), (14, 0, 2, 107), (74, 11, 21, 0), (999, 0, 0, 0), (999, 0, 0, 0), (134, 89, 87, 3), (999, 0, 0, 0), (999, 0, 0, 0), (999, 0, 0, 0), (999, 0, 0, 0), (999, 0, 0, 0), (999, 0, 0, 0), (999, 0, 0, 0), (14, 0, 2, 107), (132, 0, 0, 107)]
def zu_X_kernelAt : List (Nat × List Bool) := []
set_option maxRecDepth 100000 in
theorem qg_X_kernelAt {ρ : Type} (kr : Int → zH → Option ρ) (kt : Nat → zH → Option ρ) (F_Le_kernelOf : Int → Int → zH → (Int → zH → Option ρ) → Option ρ) (a0 a1 : Int) (h : zH) : (zob h 0 a0 fun p1 =>
zob h 1 (zhD h 0 p1 0) fun _ =>
F_Le_kernelOf (zhD h 0 p1 0) a1 h  fun v2 h3 =>
if v2 < 0 then zlet (zthrown h3) fun h4 => kt 3 h4
else kr v2 h3) = zseg zPP true (zcal (ρ := ρ) [(240, [none, none], zca2 F_Le_kernelOf)]) (zget (999, 0, 0, 0) zc_X_kernelAt) (zcut zu_X_kernelAt) (zorc (ρ := ρ) []) kr kt 400 0 [some (100, a0), some (0, a1), none] [] h := by rfl
set_option maxRecDepth 100000 in
theorem qe_X_kernelAt {ρ : Type} (kr : Int → zH → Option ρ) (kt : Nat → zH → Option ρ) (a0 a1 : Int) (h : zH) : X_kernelAt a0 a1 h kt kr = zseg zPP true (zcal (ρ := ρ) [(240, [none, none], zca2 Le_kernelOf)]) (zget (999, 0, 0, 0) zc_X_kernelAt) (zcut zu_X_kernelAt) (zorc (ρ := ρ) []) kr kt 400 0 [some (100, a0), some (0, a1), none] [] h := qg_X_kernelAt kr kt Le_kernelOf a0 a1 h
def zc_In_init : List zI := [(14, 0, 0, 108), (117, 0, 3, 0), (999, 0, 0, 0), (999, 0, 0, 0), (14, 0, 0, 108), (10, 0, 1, 0), (84, 8, 9, 0), (999, 0, 0, 0), (999, 0, 0, 0), (14, 0, 0, 108), (10, 0, 2, 0), (84, 8, 15, 1), (999, 0, 0, 0), (999, 0, 0, 0), (14, 0, 0, 108), (10, 0, 3, 0), (84, 8, 19, 2), (999, 0, 0, 0), (999, 0, 0, 0), (14, 0, 0, 108), (11, 0, 4, 0), (999, 0, 0, 0), (84, 8, 22, 3), (999, 0, 0, 0), (999, 0, 0, 0), (133, 0, 0, 0)]
def zu_In_init : List (Nat × List Bool) := []
set_option maxRecDepth 100000 in
theorem qg_In_init {ρ : Type} (kr : Int → zH → Option ρ) (a0 a1 a2 a3 a4 : Int) (h : zH) : (zob h 8 a0 fun _ =>
zob h 8 a0 fun p2 =>
znar 2 a1 fun x3 =>
zlet (zset h 8 p2 0 x3) fun h4 =>
zob h4 8 a0 fun p5 =>
zlet (zset h4 8 p5 1 a2) fun h6 =>
zob h6 8 a0 fun p7 =>
zlet (zset h6 8 p7 2 a3) fun h8 =>
zob h8 8 a0 fun p9 =>
zlet (zset h8 8 p9 3 a4) fun h10 =>
kr 0 h10) = zseg zPP true (zcal (ρ := ρ) []) (zget (999, 0, 0, 0) zc_In_init) (zcut zu_In_init) (zorc (ρ := ρ) []) kr (fun _ _ => none) 400 0 [some (108, a0), some (0, a1), some (0, a2), some (0, a3), some (0, a4)] [] h := by rfl
set_option maxRecDepth 100000 in
theorem qe_In_init {ρ : Type} (kr : Int → zH → Option ρ) (a0 a1 a2 a3 a4 : Int) (h : zH) : In_init a0 a1 a2 a3 a4 h kr = zseg zPP true (zcal (ρ := ρ) []) (zget (999, 0, 0, 0) zc_In_init) (zcut zu_In_init) (zorc (ρ := ρ) []) kr (fun _ _ => none) 400 0 [some (108, a0), some (0, a1), some (0, a2), some (0, a3), some (0, a4)] [] h := qg_In_init kr a0 a1 a2 a3 a4 h
def zc_In_isOneOf : List zI := [(14, 0, 1, 3), (14, 0, 0, 108), (80, 8, 9, 0), (999, 0, 0, 0), (999, 0, 0, 0), (120, 0, 25, 0), (999, 0, 0, 0), (999, 0, 0, 0), (62, 7, 15, 0), (999, 0, 0, 0), (999, 0, 0, 0), (0, 1, 0, 0), (72, 4, 16, 0), (999, 0, 0, 0), (999, 0, 0, 0), (0, 0, 0, 0), (130, 0, 1, 0)]
def zu_In_isOneOf : List (Nat × List Bool) := [(16, [false, false])]
set_option maxRecDepth 100000 in
theorem qg_In_isOneOf_16 {ρ : Type} (kr : Int → zH → Option ρ) (t0 : Int) (h : zH) : (znar 1 t0 fun x1 => kr x1 h) = zseg zPP true (zcal (ρ := ρ) []) (zget (999, 0, 0, 0) zc_In_isOneOf) (zcut zu_In_isOneOf) (zorc (ρ := ρ) []) kr (fun _ _ => none) 400 16 [none, none] [(0, t0)] h := by rfl
set_option maxRecDepth 100000 in
theorem qe_In_isOneOf_16 {ρ : Type} (kr : Int → zH → Option ρ) (t0 : Int) (h : zH) : In_isOneOf_16 kr t0 h = zseg zPP true (zcal (ρ := ρ) []) (zget (999, 0, 0, 0) zc_In_isOneOf) (zcut zu_In_isOneOf) (zorc (ρ := ρ) []) kr (fun _ _ => none) 400 16 [none, none] [(0, t0)] h := qg_In_isOneOf_16 kr t0 h
set_option maxRecDepth 100000 in
theorem qg_In_isOneOf {ρ : Type} (kr : Int → zH → Option ρ) (c16 : Int → zH → Option ρ) (a0 a1 : Int) (h : zH) : (zob h 8 a0 fun p1 =>
zstix a1 (zhD h 8 p1 0) fun v2 =>
if v2 < 0 then c16 0 h
else c16 1 h) = zseg zPP true (zcal (ρ := ρ) []) (zget (999, 0, 0, 0) zc_In_isOneOf) (zcut zu_In_isOneOf) (zorc (ρ := ρ) [(16, [none, none], [(0, none)], zap1 c16)]) kr (fun _ _ => none) 400 0 [some (108, a0), some (3, a1)] [] h := by rfl
set_option maxRecDepth 100000 in
theorem qe_In_isOneOf {ρ : Type} (kr : Int → zH → Option ρ) (a0 a1 : Int) (h : zH) : In_isOneOf a0 a1 h kr = zseg zPP true (zcal (ρ := ρ) []) (zget (999, 0, 0, 0) zc_In_isOneOf) (zcut zu_In_isOneOf) (zorc (ρ := ρ) [(16, [none, none], [(0, none)], zap1 (In_isOneOf_16 kr))]) kr (fun _ _ => none) 400 0 [some (108, a0), some (3, a1)] [] h := qg_In_isOneOf kr (In_isOneOf_16 kr) a0 a1 h
def zc_Ke_hasRegister : List zI := [(10, 0, 1, 0), (0, 0, 0, 0), (14, 0, 0, 107), (80, 7, 17, 0), (999, 0, 0, 0), (999, 0, 0, 0), (0, 1, 0, 0), (31, 0, 0, 0), (114, 0, 27, 54), (999, 0, 0, 0), (999, 0, 0, 0), (130, 0, 1, 0)]
def zu_Ke_hasRegister : List (Nat × List Bool) := []
set_option maxRecDepth 100000 in
theorem qg_Ke_hasRegister {ρ : Type} (kr : Int → zH → Option ρ) (F_X_isWithin : Int → Int → Int → zH → (Int → zH → Option ρ) → Option ρ) (a0 a1 : Int) (h : zH) : (zob h 7 a0 fun p1 =>
F_X_isWithin a1 0 (wr ((zhD h 7 p1 0) - 1)) h  fun v2 h3 =>
znar 1 v2 fun x4 => kr x4 h3) = zseg zPP true (zcal (ρ := ρ) [(54, [none, none, none], zca3 F_X_isWithin)]) (zget (999, 0, 0, 0) zc_Ke_hasRegister) (zcut zu_Ke_hasRegister) (zorc (ρ := ρ) []) kr (fun _ _ => none) 400 0 [some (107, a0), some (0, a1)] [] h := by rfl
set_option maxRecDepth 100000 in
theorem qe_Ke_hasRegister {ρ : Type} (kr : Int → zH → Option ρ) (a0 a1 : Int) (h : zH) : Ke_hasRegister a0 a1 h kr = zseg zPP true (zcal (ρ := ρ) [(54, [none, none, none], zca3 X_isWithin)]) (zget (999, 0, 0, 0) zc_Ke_hasRegister) (zcut zu_Ke_hasRegister) (zorc (ρ := ρ) []) kr (fun _ _ => none) 400 0 [some (107, a0), some (0, a1)] [] h := qg_Ke_hasRegister kr X_isWithin a0 a1 h
def zc_In_isAllowed : List zI := [(14, 0, 0, 108), (8, 4, 31, 0), (999, 0, 0, 0), (110, 0, 33, 219), (999, 0, 0, 0), (999, 0, 0, 0), (60, 63, 69, 0), (999, 0, 0, 0), (999, 0, 0, 0), (14, 0, 0, 108), (8, 5, 37, 0), (999, 0, 0, 0), (110, 0, 33, 219), (999, 0, 0, 0), (999, 0, 0, 0), (60, 14, 29, 0), (999, 0, 0, 0), (999, 0, 0, 0), (14, 0, 1, 107), (14, 0, 0, 108), (80, 8, 15, 1), (999, 0, 0, 0), (999, 0, 0, 0), (110, 0, 39, 225), (999, 0, 0, 0), (999, 0, 0, 0), (60, 43, 69, 0), (999, 0, 0, 0), (999, 0, 0, 0), (14, 0, 0, 108), (8, 6, 45, 0), (999, 0, 0, 0), (110, 0, 33, 219), (999, 0, 0, 0), (999, 0, 0, 0), (60, 14, 49, 0), (999, 0, 0, 0), (999, 0, 0, 0), (14, 0, 1, 107), (14, 0, 0, 108), (80, 8, 19, 2), (999, 0, 0, 0), (999, 0, 0, 0), (110, 0, 39, 225), (999, 0, 0, 0), (999, 0, 0, 0), (60, 23, 69, 0), (999, 0, 0, 0), (999, 0, 0, 0), (14, 0, 0, 108), (8, 7, 47, 0), (999, 0, 0, 0), (110, 0, 33, 219), (999, 0, 0, 0), (999, 0, 0, 0), (60, 16, 71, 0), (999, 0, 0, 0), (999, 0, 0, 0), (14, 0, 1, 107), (14, 0, 0, 108), (80, 8, 22, 3), (999, 0, 0, 0), (999, 0, 0, 0), (110, 0, 39, 225), (999, 0, 0, 0), (999, 0, 0, 0), (61, 5, 71, 0), (999, 0, 0, 0), (999, 0, 0, 0), (0, 0, 0, 0), (130, 0, 1, 0), (14, 0, 0, 108), (8, 8, 49, 0), (999, 0, 0, 0), (110, 0, 33, 219), (999, 0, 0, 0), (999, 0, 0, 0), (60, 14, 91, 0), (999, 0, 0, 0), (999, 0, 0, 0), (14, 0, 0, 108), (80, 8, 19, 2), (999, 0, 0, 0), (999, 0, 0, 0), (0, 0, 0, 0), (1, 39, 0, 0), (999, 0, 0, 0), (114, 0, 51, 54), (999, 0, 0, 0), (999, 0, 0, 0), (130, 0, 1, 0), (14, 0, 0, 108), (80, 8, 9, 0), (999, 0, 0, 0), (999, 0, 0, 0), (1, 99, 0, 0), (999, 0, 0, 0), (67, 15, 112, 0), (999, 0, 0, 0), (999, 0, 0, 0), (14, 0, 0, 108), (80, 8, 19, 2), (999, 0, 0, 0), (999, 0, 0, 0), (0, 0, 0, 0), (0, 3, 0, 0), (114, 0, 51, 54), (999, 0, 0, 0), (999, 0, 0, 0), (60, 7, 116, 0), (999, 0, 0, 0), (999, 0, 0, 0), (0, 1, 0, 0), (72, 4, 117, 0), (999, 0, 0, 0), (999, 0, 0, 0), (0, 0, 0, 0), (130, 0, 1, 0)]
def zu_In_isAllowed : List (Nat × List Bool) := [(29, [true, true]), (49, [true, true]), (69, [false, false]), (71, [true, false]), (112, [false, false]), (117, [false, false])]
set_option maxRecDepth 100000 in
theorem qg_In_isAllowed_69 {ρ : Type} (kr : Int → zH → Option ρ) (h : zH) : (kr 0 h) = zseg zPP true (zcal (ρ := ρ) []) (zget (999, 0, 0, 0) zc_In_isAllowed) (zcut zu_In_isAllowed) (zorc (ρ := ρ) []) kr (fun _ _ => none) 400 69 [none, none] [] h := by rfl
set_option maxRecDepth 100000 in
theorem qe_In_isAllowed_69 {ρ : Type} (kr : Int → zH → Option ρ) (h : zH) : In_isAllowed_69 kr h = zseg zPP true (zcal (ρ := ρ) []) (zget (999, 0, 0, 0) zc_In_isAllowed) (zcut zu_In_isAllowed) (zorc (ρ := ρ) []) kr (fun _ _ => none) 400 69 [none, none] [] h := qg_In_isAllowed_69 kr h
set_option maxRecDepth 100000 in
theorem qg_In_isAllowed_117 {ρ : Type} (kr : Int → zH → Option ρ) (t0 : Int) (h : zH) : (znar 1 t0 fun x1 => kr x1 h) = zseg zPP true (zcal (ρ := ρ) []) (zget (999, 0, 0, 0) zc_In_isAllowed) (zcut zu_In_isAllowed) (zorc (ρ := ρ) []) kr (fun _ _ => none) 400 117 [none, none] [(0, t0)] h := by rfl
set_option maxRecDepth 100000 in
theorem qe_In_isAllowed_117 {ρ : Type} (kr : Int → zH → Option ρ) (t0 : Int) (h : zH) : In_isAllowed_117 kr t0 h = zseg zPP true (zcal (ρ := ρ) []) (zget (999, 0, 0, 0) zc_In_isAllowed) (zcut zu_In_isAllowed) (zorc (ρ := ρ) []) kr (fun _ _ => none) 400 117 [none, none] [(0, t0)] h := qg_In_isAllowed_117 kr t0 h
set_option maxRecDepth 100000 in
theorem qg_In_isAllowed_112 {ρ : Type} (kr : Int → zH → Option ρ) (c117 : Int → zH → Option ρ) (h : zH) : (c117 1 h) = zseg zPP true (zcal (ρ := ρ) []) (zget (999, 0, 0, 0) zc_In_isAllowed) (zcut zu_In_isAllowed) (zorc (ρ := ρ) [(117, [none, none], [(0, none)], zap1 c117)]) kr (fun _ _ => none) 400 112 [none, none] [] h := by rfl
set_option maxRecDepth 100000 in
theorem qe_In_isAllowed_112 {ρ : Type} (kr : Int → zH → Option ρ) (h : zH) : In_isAllowed_112 kr h = zseg zPP true (zcal (ρ := ρ) []) (zget (999, 0, 0, 0) zc_In_isAllowed) (zcut zu_In_isAllowed) (zorc (ρ := ρ) [(117, [none, none], [(0, none)], zap1 (In_isAllowed_117 kr))]) kr (fun _ _ => none) 400 112 [none, none] [] h := qg_In_isAllowed_112 kr (In_isAllowed_117 kr) h
set_option maxRecDepth 100000 in
theorem qg_In_isAllowed_71 {ρ : Type} (kr : Int → zH → Option ρ) (F_X_isWithin : Int → Int → Int → zH → (Int → zH → Option ρ) → Option ρ) (F_In_isOneOf : Int → Int → zH → (Int → zH → Option ρ) → Option ρ) (c112 : zH → Option ρ) (c117 : Int → zH → Option ρ) (a0 : Int) (h : zH) : (zob h 8 a0 fun _ =>
F_In_isOneOf a0 8 h  fun v1 h2 =>
if v1 = 0 then (zob h2 8 a0 fun p3 =>
if (zhD h2 8 p3 0) = 99 then (zob h2 8 a0 fun p4 =>
F_X_isWithin (zhD h2 8 p4 2) 0 3 h2  fun v5 h6 =>
if v5 = 0 then c117 0 h6
else c112 h6)
else c112 h2)
else zob h2 8 a0 fun p7 =>
F_X_isWithin (zhD h2 8 p7 2) 0 39 h2  fun v8 h9 =>
znar 1 v8 fun x10 => kr x10 h9) = zseg zPP true (zcal (ρ := ρ) [(54, [none, none, none], zca3 F_X_isWithin), (219, [none, none], zca2 F_In_isOneOf)]) (zget (999, 0, 0, 0) zc_In_isAllowed) (zcut zu_In_isAllowed) (zorc (ρ := ρ) [(112, [none, none], [], zap0 c112), (117, [none, none], [(0, none)], zap1 c117)]) kr (fun _ _ => none) 400 71 [some (108, a0), none] [] h := by rfl
set_option maxRecDepth 100000 in
theorem qe_In_isAllowed_71 {ρ : Type} (kr : Int → zH → Option ρ) (a0 : Int) (h : zH) : In_isAllowed_71 kr a0 h = zseg zPP true (zcal (ρ := ρ) [(54, [none, none, none], zca3 X_isWithin), (219, [none, none], zca2 In_isOneOf)]) (zget (999, 0, 0, 0) zc_In_isAllowed) (zcut zu_In_isAllowed) (zorc (ρ := ρ) [(112, [none, none], [], zap0 (In_isAllowed_112 kr)), (117, [none, none], [(0, none)], zap1 (In_isAllowed_117 kr))]) kr (fun _ _ => none) 400 71 [some (108, a0), none] [] h := qg_In_isAllowed_71 kr X_isWithin In_isOneOf (In_isAllowed_112 kr) (In_isAllowed_117 kr) a0 h
set_option maxRecDepth 100000 in
theorem qg_In_isAllowed_49 {ρ : Type} (kr : Int → zH → Option ρ) (F_In_isOneOf : Int → Int → zH → (Int → zH → Option ρ) → Option ρ) (F_Ke_hasRegister : Int → Int → zH → (Int → zH → Option ρ) → Option ρ) (c69 : zH → Option ρ) (c71 : Int → zH → Option ρ) (a0 a1 : Int) (h : zH) : (zob h 8 a0 fun _ =>
F_In_isOneOf a0 7 h  fun v1 h2 =>
if v1 = 0 then c71 a0 h2
else zob h2 8 a0 fun p3 =>
zob h2 7 a1 fun _ =>
F_Ke_hasRegister a1 (zhD h2 8 p3 3) h2  fun v4 h5 =>
if v4 = 0 then c69 h5
else c71 a0 h5) = zseg zPP true (zcal (ρ := ρ) [(219, [none, none], zca2 F_In_isOneOf), (225, [none, none], zca2 F_Ke_hasRegister)]) (zget (999, 0, 0, 0) zc_In_isAllowed) (zcut zu_In_isAllowed) (zorc (ρ := ρ) [(69, [none, none], [], zap0 c69), (71, [some (108, none), none], [], zap1 c71)]) kr (fun _ _ => none) 400 49 [some (108, a0), some (107, a1)] [] h := by rfl
set_option maxRecDepth 100000 in
theorem qe_In_isAllowed_49 {ρ : Type} (kr : Int → zH → Option ρ) (a0 a1 : Int) (h : zH) : In_isAllowed_49 kr a0 a1 h = zseg zPP true (zcal (ρ := ρ) [(219, [none, none], zca2 In_isOneOf), (225, [none, none], zca2 Ke_hasRegister)]) (zget (999, 0, 0, 0) zc_In_isAllowed) (zcut zu_In_isAllowed) (zorc (ρ := ρ) [(69, [none, none], [], zap0 (In_isAllowed_69 kr)), (71, [some (108, none), none], [], zap1 (In_isAllowed_71 kr))]) kr (fun _ _ => none) 400 49 [some (108, a0), some (107, a1)] [] h := qg_In_isAllowed_49 kr In_isOneOf Ke_hasRegister (In_isAllowed_69 kr) (In_isAllowed_71 kr) a0 a1 h
set_option maxRecDepth 100000 in
theorem qg_In_isAllowed_29 {ρ : Type} (kr : Int → zH → Option ρ) (F_In_isOneOf : Int → Int → zH → (Int → zH → Option ρ) → Option ρ) (F_Ke_hasRegister : Int → Int → zH → (Int → zH → Option ρ) → Option ρ) (c49 : Int → Int → zH → Option ρ) (c69 : zH → Option ρ) (a0 a1 : Int) (h : zH) : (zob h 8 a0 fun _ =>
F_In_isOneOf a0 6 h  fun v1 h2 =>
if v1 = 0 then c49 a0 a1 h2
else zob h2 8 a0 fun p3 =>
zob h2 7 a1 fun _ =>
F_Ke_hasRegister a1 (zhD h2 8 p3 2) h2  fun v4 h5 =>
if v4 = 0 then c69 h5
else c49 a0 a1 h5) = zseg zPP true (zcal (ρ := ρ) [(219, [none, none], zca2 F_In_isOneOf), (225, [none, none], zca2 F_Ke_hasRegister)]) (zget (999, 0, 0, 0) zc_In_isAllowed) (zcut zu_In_isAllowed) (zorc (ρ := ρ) [(49, [some (108, none), some (107, none)], [], zap2 c49), (69, [none, none], [], zap0 c69)]) kr (fun _ _ => none) 400 29 [some (108, a0), some (107, a1)] [] h := by rfl
set_option maxRecDepth 100000 in
theorem qe_In_isAllowed_29 {ρ : Type} (kr : Int → zH → Option ρ) (a0 a1 : Int) (h : zH) : In_isAllowed_29 kr a0 a1 h = zseg zPP true (zcal (ρ := ρ) [(219, [none, none], zca2 In_isOneOf), (225, [none, none], zca2 Ke_hasRegister)]) (zget (999, 0, 0, 0) zc_In_isAllowed) (zcut zu_In_isAllowed) (zorc (ρ := ρ) [(49, [some (108, none), some (107, none)], [], zap2 (In_isAllowed_49 kr)), (69, [none, none], [], zap0 (In_isAllowed_69 kr))]) kr (fun _ _ => none) 400 29 [some (108, a0), some (107, a1)] [] h := qg_In_isAllowed_29 kr In_isOneOf Ke_hasRegister (In_isAllowed_49 kr) (In_isAllowed_69 kr) a0 a1 h
set_option maxRecDepth 100000 in
theorem qg_In_isAllowed {ρ : Type} (kr : Int → zH → Option ρ) (F_In_isOneOf : Int → Int → zH → (Int → zH → Option ρ) → Option ρ) (F_Ke_hasRegister : Int → Int → zH → (Int → zH → Option ρ) → Option ρ) (c29 : Int → Int → zH → Option ρ) (c69 : zH → Option ρ) (a0 a1 : Int) (h : zH) : (zob h 8 a0 fun _ =>
F_In_isOneOf a0 4 h  fun v1 h2 =>
if v1 = 0 then c69 h2
else zob h2 8 a0 fun _ =>
F_In_isOneOf a0 5 h2  fun v3 h4 =>
if v3 = 0 then c29 a0 a1 h4
else zob h4 8 a0 fun p5 =>
zob h4 7 a1 fun _ =>
F_Ke_hasRegister a1 (zhD h4 8 p5 1) h4  fun v6 h7 =>
if v6 = 0 then c69 h7
else c29 a0 a1 h7) = zseg zPP true (zcal (ρ := ρ) [(219, [none, none], zca2 F_In_isOneOf), (225, [none, none], zca2 F_Ke_hasRegister)]) (zget (999, 0, 0, 0) zc_In_isAllowed) (zcut zu_In_isAllowed) (zorc (ρ := ρ) [(29, [some (108, none), some (107, none)], [], zap2 c29), (69, [none, none], [], zap0 c69)]) kr (fun _ _ => none) 400 0 [some (108, a0), some (107, a1)] [] h := by rfl
set_option maxRecDepth 100000 in
theorem qe_In_isAllowed {ρ : Type} (kr : Int → zH → Option ρ) (a0 a1 : Int) (h : zH) : In_isAllowed a0 a1 h kr = zseg zPP true (zcal (ρ := ρ) [(219, [none, none], zca2 In_isOneOf), (225, [none, none], zca2 Ke_hasRegister)]) (zget (999, 0, 0, 0) zc_In_isAllowed) (zcut zu_In_isAllowed) (zorc (ρ := ρ) [(29, [some (108, none), some (107, none)], [], zap2 (In_isAllowed_29 kr)), (69, [none, none], [], zap0 (In_isAllowed_69 kr))]) kr (fun _ _ => none) 400 0 [some (108, a0), some (107, a1)] [] h := qg_In_isAllowed kr In_isOneOf Ke_hasRegister (In_isAllowed_29 kr) (In_isAllowed_69 kr) a0 a1 h
def zc_Ke_append : List zI := [(14, 0, 0, 107), (80, 7, 24, 3), (999, 0, 0, 0), (999, 0, 0, 0), (14, 0, 0, 107), (80, 7, 11, 2), (999, 0, 0, 0), (999, 0, 0, 0), (100, 0, 0, 33), (69, 23, 32, 0), (999, 0, 0, 0), (999, 0, 0, 0), (14, 0, 0, 107), (80, 7, 11, 2), (999, 0, 0, 0), (999, 0, 0, 0), (14, 0, 0, 107), (80, 7, 24, 3), (999, 0, 0, 0), (999, 0, 0, 0), (14, 0, 1, 108), (99, 0, 0, 33), (14, 0, 0, 107), (50, 0, 0, 0), (80, 7, 24, 3), (999, 0, 0, 0), (999, 0, 0, 0), (0, 1, 0, 0), (30, 0, 0, 0), (82, 7, 24, 3), (999, 0, 0, 0), (999, 0, 0, 0), (14, 0, 0, 107), (80, 7, 24, 3), (999, 0, 0, 0), (999, 0, 0, 0), (0, 1, 0, 0), (31, 0, 0, 0), (130, 0, 0, 0)]
def zu_Ke_append : List (Nat × List Bool) := [(32, [true, false])]
set_option maxRecDepth 100000 in
theorem qg_Ke_append_32 {ρ : Type} (kr : Int → zH → Option ρ) (a0 : Int) (h : zH) : (zob h 7 a0 fun p1 =>
kr (wr ((zhD h 7 p1 3) - 1)) h) = zseg zPP true (zcal (ρ := ρ) []) (zget (999, 0, 0, 0) zc_Ke_append) (zcut zu_Ke_append) (zorc (ρ := ρ) []) kr (fun _ _ => none) 400 32 [some (107, a0), none] [] h := by rfl
set_option maxRecDepth 100000 in
theorem qe_Ke_append_32 {ρ : Type} (kr : Int → zH → Option ρ) (a0 : Int) (h : zH) : Ke_append_32 kr a0 h = zseg zPP true (zcal (ρ := ρ) []) (zget (999, 0, 0, 0) zc_Ke_append) (zcut zu_Ke_append) (zorc (ρ := ρ) []) kr (fun _ _ => none) 400 32 [some (107, a0), none] [] h := qg_Ke_append_32 kr a0 h
set_option maxRecDepth 100000 in
theorem qg_Ke_append {ρ : Type} (kr : Int → zH → Option ρ) (c32 : Int → zH → Option ρ) (a0 a1 : Int) (h : zH) : (zob h 7 a0 fun p1 =>
zob h 7 a0 fun p2 =>
zob h 33 (zhD h 7 p2 2) fun p3 =>
if (zhD h 7 p1 3) < (zhL h 33 p3 : Int) then (zob h 7 a0 fun p4 =>
zob h 7 a0 fun p5 =>
zob h 33 (zhD h 7 p4 2) fun p6 =>
zix (zhL h 33 p6) (zhD h 7 p5 3) fun j7 =>
zorn h 8 a1 (zlet (zset h 33 p6 j7 a1) fun h8 =>
zob h8 7 a0 fun p9 =>
zob h8 7 a0 fun p10 =>
zlet (zset h8 7 p10 3 (wr ((zhD h8 7 p9 3) + 1))) fun h11 =>
c32 a0 h11))
else c32 a0 h) = zseg zPP true (zcal (ρ := ρ) []) (zget (999, 0, 0, 0) zc_Ke_append) (zcut zu_Ke_append) (zorc (ρ := ρ) [(32, [some (107, none), none], [], zap1 c32)]) kr (fun _ _ => none) 400 0 [some (107, a0), some (108, a1)] [] h := by rfl
set_option maxRecDepth 100000 in
theorem qe_Ke_append {ρ : Type} (kr : Int → zH → Option ρ) (a0 a1 : Int) (h : zH) : Ke_append a0 a1 h kr = zseg zPP true (zcal (ρ := ρ) []) (zget (999, 0, 0, 0) zc_Ke_append) (zcut zu_Ke_append) (zorc (ρ := ρ) [(32, [some (107, none), none], [], zap1 (Ke_append_32 kr))]) kr (fun _ _ => none) 400 0 [some (107, a0), some (108, a1)] [] h := qg_Ke_append kr (Ke_append_32 kr) a0 a1 h
def zc_X_code : List zI := [(14, 0, 0, 100), (10, 0, 1, 0), (110, 0, 55, 47), (999, 0, 0, 0), (999, 0, 0, 0), (21, 0, 6, 107), (999, 0, 0, 0), (103, 0, 59, 8), (999, 0, 0, 0), (999, 0, 0, 0), (50, 0, 0, 0), (10, 0, 2, 0), (10, 0, 3, 0), (11, 0, 4, 0), (999, 0, 0, 0), (11, 0, 5, 0), (999, 0, 0, 0), (115, 0, 61, 218), (999, 0, 0, 0), (999, 0, 0, 0), (21, 0, 7, 108), (999, 0, 0, 0), (15, 0, 7, 108), (999, 0, 0, 0), (15, 0, 6, 107), (999, 0, 0, 0), (110, 0, 64, 220), (999, 0, 0, 0), (999, 0, 0, 0), (61, 11, 40, 0), (999, 0, 0, 0), (999, 0, 0, 0), (134, 38, 36, 1), (999, 0, 0, 0), (999, 0, 0, 0), (999, 0, 0, 0), (999, 0, 0, 0), (999, 0, 0, 0), (999, 0, 0, 0), (999, 0, 0, 0), (15, 0, 6, 107), (999, 0, 0, 0), (80, 7, 68, 3), (999, 0, 0, 0), (999, 0, 0, 0), (1, 40, 0, 0), (999, 0, 0, 0), (69, 11, 58, 0), (999, 0, 0, 0), (999, 0, 0, 0), (15, 0, 6, 107), (999, 0, 0, 0), (80, 7, 71, 4), (999, 0, 0, 0), (999, 0, 0, 0), (60, 11, 66, 0), (999, 0, 0, 0), (999, 0, 0, 0), (134, 45, 43, 2), (999, 0, 0, 0), (999, 0, 0, 0), (999, 0, 0, 0), (999, 0, 0, 0), (999, 0, 0, 0), (999, 0, 0, 0), (999, 0, 0, 0), (15, 0, 6, 107), (999, 0, 0, 0), (15, 0, 7, 108), (999, 0, 0, 0), (110, 0, 75, 223), (999, 0, 0, 0), (999, 0, 0, 0), (130, 0, 0, 0)]
def zu_X_code : List (Nat × List Bool) := [(58, [false, false, false, false, false, false, false, false])]
set_option maxRecDepth 100000 in
theorem qg_X_code_58 {ρ : Type} (kr : Int → zH → Option ρ) (kt : Nat → zH → Option ρ) (h : zH) : (zlet (zthrown h) fun h1 => kt 2 h1) = zseg zPP true (zcal (ρ := ρ) []) (zget (999, 0, 0, 0) zc_X_code) (zcut zu_X_code) (zorc (ρ := ρ) []) kr kt 400 58 [none, none, none, none, none, none, none, none] [] h := by rfl
set_option maxRecDepth 100000 in
theorem qe_X_code_58 {ρ : Type} (kr : Int → zH → Option ρ) (kt : Nat → zH → Option ρ) (h : zH) : X_code_58 kr kt h = zseg zPP true (zcal (ρ := ρ) []) (zget (999, 0, 0, 0) zc_X_code) (zcut zu_X_code) (zorc (ρ := ρ) []) kr kt 400 58 [none, none, none, none, none, none, none, none] [] h := qg_X_code_58 kr kt h
set_option maxRecDepth 100000 in
theorem qg_X_code {ρ : Type} (kr : Int → zH → Option ρ) (kt : Nat → zH → Option ρ) (F_X_kernelAt : Int → Int → zH → (Nat → zH → Option ρ) → (Int → zH → Option ρ) → Option ρ) (F_In_init : Int → Int → Int → Int → Int → zH → (Int → zH → Option ρ) → Option ρ) (F_In_isAllowed : Int → Int → zH → (Int → zH → Option ρ) → Option ρ) (F_Ke_append : Int → Int → zH → (Int → zH → Option ρ) → Option ρ) (c58 : zH → Option ρ) (a0 a1 a2 a3 a4 a5 : Int) (h : zH) : (zob h 0 a0 fun _ =>
F_X_kernelAt a0 a1 h kt fun v1 h2 =>
zlet (znew h2 8 0 (znf zPP 8) (fun k => zdef (zft zPP 8 k))) fun h3 =>
zob h3 8 (zhN h2 8 : Int) fun _ =>
F_In_init (zhN h2 8 : Int) a2 a3 a4 a5 h3  fun _ h5 =>
zob h5 8 (zhN h2 8 : Int) fun _ =>
F_In_isAllowed (zhN h2 8 : Int) v1 h5  fun v6 h7 =>
if v6 = 0 then zlet (zthrown h7) fun h12 => kt 1 h12
else zob h7 7 v1 fun p8 =>
if (zhD h7 7 p8 3) < 40 then (zob h7 7 v1 fun p9 =>
if (zhD h7 7 p9 4) = 0 then (zob h7 7 v1 fun _ =>
F_Ke_append v1 (zhN h2 8 : Int) h7  fun v10 h11 =>
kr v10 h11)
else c58 h7)
else c58 h7) = zseg zPP true (zcal (ρ := ρ) [(47, [none, none], zcx2 F_X_kernelAt), (218, [none, none, none, none, none], zca5 F_In_init), (220, [none, none], zca2 F_In_isAllowed), (223, [none, none], zca2 F_Ke_append)]) (zget (999, 0, 0, 0) zc_X_code) (zcut zu_X_code) (zorc (ρ := ρ) [(58, [none, none, none, none, none, none, none, none], [], zap0 c58)]) kr kt 400 0 [some (100, a0), some (0, a1), some (0, a2), some (0, a3), some (0, a4), some (0, a5), none, none] [] h := by rfl
set_option maxRecDepth 100000 in
theorem qe_X_code {ρ : Type} (kr : Int → zH → Option ρ) (kt : Nat → zH → Option ρ) (a0 a1 a2 a3 a4 a5 : Int) (h : zH) : X_code a0 a1 a2 a3 a4 a5 h kt kr = zseg zPP true (zcal (ρ := ρ) [(47, [none, none], zcx2 X_kernelAt), (218, [none, none, none, none, none], zca5 In_init), (220, [none, none], zca2 In_isAllowed), (223, [none, none], zca2 Ke_append)]) (zget (999, 0, 0, 0) zc_X_code) (zcut zu_X_code) (zorc (ρ := ρ) [(58, [none, none, none, none, none, none, none, none], [], zap0 (X_code_58 kr kt))]) kr kt 400 0 [some (100, a0), some (0, a1), some (0, a2), some (0, a3), some (0, a4), some (0, a5), none, none] [] h := qg_X_code kr kt X_kernelAt In_init In_isAllowed Ke_append (X_code_58 kr kt) a0 a1 a2 a3 a4 a5 h
def zc_X_groupsFor : List zI := [(10, 0, 0, 0), (0, 4, 0, 0), (30, 0, 0, 0), (0, 1, 0, 0), (31, 0, 0, 0), (0, 4, 0, 0), (33, 0, 0, 0), (130, 0, 0, 0)]
def zu_X_groupsFor : List (Nat × List Bool) := []
set_option maxRecDepth 100000 in
theorem qg_X_groupsFor {ρ : Type} (kr : Int → zH → Option ρ) (a0 : Int) (h : zH) : (kr (wr (Int.tdiv (wr ((wr (a0 + 4)) - 1)) 4)) h) = zseg zPP true (zcal (ρ := ρ) []) (zget (999, 0, 0, 0) zc_X_groupsFor) (zcut zu_X_groupsFor) (zorc (ρ := ρ) []) kr (fun _ _ => none) 400 0 [some (0, a0)] [] h := by rfl
set_option maxRecDepth 100000 in
theorem qe_X_groupsFor {ρ : Type} (kr : Int → zH → Option ρ) (a0 : Int) (h : zH) : X_groupsFor a0 h kr = zseg zPP true (zcal (ρ := ρ) []) (zget (999, 0, 0, 0) zc_X_groupsFor) (zcut zu_X_groupsFor) (zorc (ρ := ρ) []) kr (fun _ _ => none) 400 0 [some (0, a0)] [] h := qg_X_groupsFor kr a0 h
def zc_Ke_blocksInUnit : List zI := [(10, 0, 1, 0), (0, 1, 0, 0), (1, 16, 0, 0), (999, 0, 0, 0), (114, 0, 27, 54), (999, 0, 0, 0), (999, 0, 0, 0), (60, 11, 18, 0), (999, 0, 0, 0), (999, 0, 0, 0), (14, 0, 0, 107), (80, 7, 17, 0), (999, 0, 0, 0), (999, 0, 0, 0), (0, 1, 0, 0), (69, 5, 20, 0), (999, 0, 0, 0), (999, 0, 0, 0), (0, 0, 0, 0), (130, 0, 0, 0), (0, 4, 0, 0), (10, 0, 1, 0), (114, 0, 35, 57), (999, 0, 0, 0), (999, 0, 0, 0), (33, 0, 0, 0), (1, 64, 0, 0), (999, 0, 0, 0), (10, 0, 1, 0), (14, 0, 0, 107), (80, 7, 17, 0), (999, 0, 0, 0), (999, 0, 0, 0), (32, 0, 0, 0), (33, 0, 0, 0), (113, 0, 39, 3), (999, 0, 0, 0), (999, 0, 0, 0), (16, 0, 2, 0), (14, 0, 0, 107), (80, 7, 21, 1), (999, 0, 0, 0), (999, 0, 0, 0), (0, 1, 0, 0), (69, 7, 51, 0), (999, 0, 0, 0), (999, 0, 0, 0), (10, 0, 2, 0), (72, 14, 62, 0), (999, 0, 0, 0), (999, 0, 0, 0), (10, 0, 2, 0), (1, 32, 0, 0), (999, 0, 0, 0), (14, 0, 0, 107), (80, 7, 21, 1), (999, 0, 0, 0), (999, 0, 0, 0), (33, 0, 0, 0), (113, 0, 39, 3), (999, 0, 0, 0), (999, 0, 0, 0), (130, 0, 0, 0)]
def zu_Ke_blocksInUnit : List (Nat × List Bool) := [(18, [false, false, false]), (62, [false, false, false])]
set_option maxRecDepth 100000 in
theorem qg_Ke_blocksInUnit_18 {ρ : Type} (kr : Int → zH → Option ρ) (h : zH) : (kr 0 h) = zseg zPP true (zcal (ρ := ρ) []) (zget (999, 0, 0, 0) zc_Ke_blocksInUnit) (zcut zu_Ke_blocksInUnit) (zorc (ρ := ρ) []) kr (fun _ _ => none) 400 18 [none, none, none] [] h := by rfl
set_option maxRecDepth 100000 in
theorem qe_Ke_blocksInUnit_18 {ρ : Type} (kr : Int → zH → Option ρ) (h : zH) : Ke_blocksInUnit_18 kr h = zseg zPP true (zcal (ρ := ρ) []) (zget (999, 0, 0, 0) zc_Ke_blocksInUnit) (zcut zu_Ke_blocksInUnit) (zorc (ρ := ρ) []) kr (fun _ _ => none) 400 18 [none, none, none] [] h := qg_Ke_blocksInUnit_18 kr h
set_option maxRecDepth 100000 in
theorem qg_Ke_blocksInUnit_62 {ρ : Type} (kr : Int → zH → Option ρ) (t0 : Int) (h : zH) : (kr t0 h) = zseg zPP true (zcal (ρ := ρ) []) (zget (999, 0, 0, 0) zc_Ke_blocksInUnit) (zcut zu_Ke_blocksInUnit) (zorc (ρ := ρ) []) kr (fun _ _ => none) 400 62 [none, none, none] [(0, t0)] h := by rfl
set_option maxRecDepth 100000 in
theorem qe_Ke_blocksInUnit_62 {ρ : Type} (kr : Int → zH → Option ρ) (t0 : Int) (h : zH) : Ke_blocksInUnit_62 kr t0 h = zseg zPP true (zcal (ρ := ρ) []) (zget (999, 0, 0, 0) zc_Ke_blocksInUnit) (zcut zu_Ke_blocksInUnit) (zorc (ρ := ρ) []) kr (fun _ _ => none) 400 62 [none, none, none] [(0, t0)] h := qg_Ke_blocksInUnit_62 kr t0 h
set_option maxRecDepth 100000 in
theorem qg_Ke_blocksInUnit {ρ : Type} (kr : Int → zH → Option ρ) (F_Ma_min : Int → Int → zH → (Int → zH → Option ρ) → Option ρ) (F_X_isWithin : Int → Int → Int → zH → (Int → zH → Option ρ) → Option ρ) (F_X_groupsFor : Int → zH → (Int → zH → Option ρ) → Option ρ) (c18 : zH → Option ρ) (c62 : Int → zH → Option ρ) (a0 a1 : Int) (h : zH) : (F_X_isWithin a1 1 16 h  fun v1 h2 =>
if v1 = 0 then c18 h2
else zob h2 7 a0 fun p3 =>
if (zhD h2 7 p3 0) < 1 then c18 h2
else F_X_groupsFor a1 h2  fun v4 h5 =>
if v4 = 0 then none else zob h5 7 a0 fun p6 =>
if wr (a1 * (zhD h5 7 p6 0)) = 0 then none else F_Ma_min (wr (Int.tdiv 4 v4)) (wr (Int.tdiv 64 (wr (a1 * (zhD h5 7 p6 0))))) h5  fun v7 h8 =>
zob h8 7 a0 fun p9 =>
if (zhD h8 7 p9 1) < 1 then c62 v7 h8
else zob h8 7 a0 fun p10 =>
if zhD h8 7 p10 1 = 0 then none else F_Ma_min v7 (wr (Int.tdiv 32 (zhD h8 7 p10 1))) h8  fun v11 h12 =>
c62 v11 h12) = zseg zPP true (zcal (ρ := ρ) [(3, [none, none], zca2 F_Ma_min), (54, [none, none, none], zca3 F_X_isWithin), (57, [none], zca1 F_X_groupsFor)]) (zget (999, 0, 0, 0) zc_Ke_blocksInUnit) (zcut zu_Ke_blocksInUnit) (zorc (ρ := ρ) [(18, [none, none, none], [], zap0 c18), (62, [none, none, none], [(0, none)], zap1 c62)]) kr (fun _ _ => none) 400 0 [some (107, a0), some (0, a1), none] [] h := by rfl
set_option maxRecDepth 100000 in
theorem qe_Ke_blocksInUnit {ρ : Type} (kr : Int → zH → Option ρ) (a0 a1 : Int) (h : zH) : Ke_blocksInUnit a0 a1 h kr = zseg zPP true (zcal (ρ := ρ) [(3, [none, none], zca2 Ma_min), (54, [none, none, none], zca3 X_isWithin), (57, [none], zca1 X_groupsFor)]) (zget (999, 0, 0, 0) zc_Ke_blocksInUnit) (zcut zu_Ke_blocksInUnit) (zorc (ρ := ρ) [(18, [none, none, none], [], zap0 (Ke_blocksInUnit_18 kr)), (62, [none, none, none], [(0, none)], zap1 (Ke_blocksInUnit_62 kr))]) kr (fun _ _ => none) 400 0 [some (107, a0), some (0, a1), none] [] h := qg_Ke_blocksInUnit kr Ma_min X_isWithin X_groupsFor (Ke_blocksInUnit_18 kr) (Ke_blocksInUnit_62 kr) a0 a1 h
def zc_X_fits : List zI := [(14, 0, 0, 100), (10, 0, 1, 0), (110, 0, 55, 47), (999, 0, 0, 0), (999, 0, 0, 0), (20, 0, 3, 107), (10, 0, 2, 0), (0, 1, 0, 0), (1, 16, 0, 0), (999, 0, 0, 0), (113, 0, 32, 54), (999, 0, 0, 0), (999, 0, 0, 0), (61, 11, 24, 0), (999, 0, 0, 0), (999, 0, 0, 0), (134, 38, 36, 1), (999, 0, 0, 0), (999, 0, 0, 0), (999, 0, 0, 0), (999, 0, 0, 0), (999, 0, 0, 0), (999, 0, 0, 0), (999, 0, 0, 0), (14, 0, 3, 107), (10, 0, 2, 0), (110, 0, 79, 227), (999, 0, 0, 0), (999, 0, 0, 0), (130, 0, 0, 0)]
def zu_X_fits : List (Nat × List Bool) := []
set_option maxRecDepth 100000 in
theorem qg_X_fits {ρ : Type} (kr : Int → zH → Option ρ) (kt : Nat → zH → Option ρ) (F_X_kernelAt : Int → Int → zH → (Nat → zH → Option ρ) → (Int → zH → Option ρ) → Option ρ) (F_X_isWithin : Int → Int → Int → zH → (Int → zH → Option ρ) → Option ρ) (F_Ke_blocksInUnit : Int → Int → zH → (Int → zH → Option ρ) → Option ρ) (a0 a1 a2 : Int) (h : zH) : (zob h 0 a0 fun _ =>
F_X_kernelAt a0 a1 h kt fun v1 h2 =>
F_X_isWithin a2 1 16 h2  fun v3 h4 =>
if v3 = 0 then zlet (zthrown h4) fun h7 => kt 1 h7
else zob h4 7 v1 fun _ =>
F_Ke_blocksInUnit v1 a2 h4  fun v5 h6 =>
kr v5 h6) = zseg zPP true (zcal (ρ := ρ) [(47, [none, none], zcx2 F_X_kernelAt), (54, [none, none, none], zca3 F_X_isWithin), (227, [none, none], zca2 F_Ke_blocksInUnit)]) (zget (999, 0, 0, 0) zc_X_fits) (zcut zu_X_fits) (zorc (ρ := ρ) []) kr kt 400 0 [some (100, a0), some (0, a1), some (0, a2), none] [] h := by rfl
set_option maxRecDepth 100000 in
theorem qe_X_fits {ρ : Type} (kr : Int → zH → Option ρ) (kt : Nat → zH → Option ρ) (a0 a1 a2 : Int) (h : zH) : X_fits a0 a1 a2 h kt kr = zseg zPP true (zcal (ρ := ρ) [(47, [none, none], zcx2 X_kernelAt), (54, [none, none, none], zca3 X_isWithin), (227, [none, none], zca2 Ke_blocksInUnit)]) (zget (999, 0, 0, 0) zc_X_fits) (zcut zu_X_fits) (zorc (ρ := ρ) []) kr kt 400 0 [some (100, a0), some (0, a1), some (0, a2), none] [] h := qg_X_fits kr kt X_kernelAt X_isWithin Ke_blocksInUnit a0 a1 a2 h
def zc_X_isCell : List zI := [(10, 0, 0, 0), (0, 0, 0, 0), (1, 63, 0, 0), (999, 0, 0, 0), (113, 0, 32, 54), (999, 0, 0, 0), (999, 0, 0, 0), (130, 0, 1, 0)]
def zu_X_isCell : List (Nat × List Bool) := []
set_option maxRecDepth 100000 in
theorem qg_X_isCell {ρ : Type} (kr : Int → zH → Option ρ) (F_X_isWithin : Int → Int → Int → zH → (Int → zH → Option ρ) → Option ρ) (a0 : Int) (h : zH) : (F_X_isWithin a0 0 63 h  fun v1 h2 =>
znar 1 v1 fun x3 => kr x3 h2) = zseg zPP true (zcal (ρ := ρ) [(54, [none, none, none], zca3 F_X_isWithin)]) (zget (999, 0, 0, 0) zc_X_isCell) (zcut zu_X_isCell) (zorc (ρ := ρ) []) kr (fun _ _ => none) 400 0 [some (0, a0)] [] h := by rfl
set_option maxRecDepth 100000 in
theorem qe_X_isCell {ρ : Type} (kr : Int → zH → Option ρ) (a0 : Int) (h : zH) : X_isCell a0 h kr = zseg zPP true (zcal (ρ := ρ) [(54, [none, none, none], zca3 X_isWithin)]) (zget (999, 0, 0, 0) zc_X_isCell) (zcut zu_X_isCell) (zorc (ρ := ρ) []) kr (fun _ _ => none) 400 0 [some (0, a0)] [] h := qg_X_isCell kr X_isWithin a0 h
def zc_X_poke : List zI := [(10, 0, 1, 0), (113, 0, 83, 55), (999, 0, 0, 0), (999, 0, 0, 0), (61, 11, 15, 0), (999, 0, 0, 0), (999, 0, 0, 0), (134, 89, 87, 3), (999, 0, 0, 0), (999, 0, 0, 0), (999, 0, 0, 0), (999, 0, 0, 0), (999, 0, 0, 0), (999, 0, 0, 0), (999, 0, 0, 0), (14, 0, 0, 100), (80, 0, 21, 1), (999, 0, 0, 0), (999, 0, 0, 0), (80, 2, 90, 1), (999, 0, 0, 0), (999, 0, 0, 0), (10, 0, 1, 0), (90, 0, 0, 22), (16, 0, 3, 0), (14, 0, 0, 100), (80, 0, 21, 1), (999, 0, 0, 0), (999, 0, 0, 0), (80, 2, 90, 1), (999, 0, 0, 0), (999, 0, 0, 0), (10, 0, 1, 0), (10, 0, 2, 0), (95, 0, 0, 22), (10, 0, 3, 0), (130, 0, 0, 0)]
def zu_X_poke : List (Nat × List Bool) := []
set_option maxRecDepth 100000 in
theorem qg_X_poke {ρ : Type} (kr : Int → zH → Option ρ) (kt : Nat → zH → Option ρ) (F_X_isCell : Int → zH → (Int → zH → Option ρ) → Option ρ) (a0 a1 a2 : Int) (h : zH) : (F_X_isCell a1 h  fun v1 h2 =>
if v1 = 0 then zlet (zthrown h2) fun h12 => kt 3 h12
else zob h2 0 a0 fun p3 =>
zob h2 2 (zhD h2 0 p3 1) fun p4 =>
zob h2 22 (zhD h2 2 p4 1) fun p5 =>
zix (zhL h2 22 p5) a1 fun j6 =>
zob h2 0 a0 fun p7 =>
zob h2 2 (zhD h2 0 p7 1) fun p8 =>
zob h2 22 (zhD h2 2 p8 1) fun p9 =>
zix (zhL h2 22 p9) a1 fun j10 =>
zlet (zset h2 22 p9 j10 a2) fun h11 =>
kr (zhD h2 22 p5 j6) h11) = zseg zPP true (zcal (ρ := ρ) [(55, [none], zca1 F_X_isCell)]) (zget (999, 0, 0, 0) zc_X_poke) (zcut zu_X_poke) (zorc (ρ := ρ) []) kr kt 400 0 [some (100, a0), some (0, a1), some (0, a2), none] [] h := by rfl
set_option maxRecDepth 100000 in
theorem qe_X_poke {ρ : Type} (kr : Int → zH → Option ρ) (kt : Nat → zH → Option ρ) (a0 a1 a2 : Int) (h : zH) : X_poke a0 a1 a2 h kt kr = zseg zPP true (zcal (ρ := ρ) [(55, [none], zca1 X_isCell)]) (zget (999, 0, 0, 0) zc_X_poke) (zcut zu_X_poke) (zorc (ρ := ρ) []) kr kt 400 0 [some (100, a0), some (0, a1), some (0, a2), none] [] h := qg_X_poke kr kt X_isCell a0 a1 a2 h
def zc_X_peek : List zI := [(10, 0, 1, 0), (113, 0, 83, 55), (999, 0, 0, 0), (999, 0, 0, 0), (61, 11, 15, 0), (999, 0, 0, 0), (999, 0, 0, 0), (134, 89, 87, 3), (999, 0, 0, 0), (999, 0, 0, 0), (999, 0, 0, 0), (999, 0, 0, 0), (999, 0, 0, 0), (999, 0, 0, 0), (999, 0, 0, 0), (14, 0, 0, 100), (80, 0, 21, 1), (999, 0, 0, 0), (999, 0, 0, 0), (80, 2, 90, 1), (999, 0, 0, 0), (999, 0, 0, 0), (10, 0, 1, 0), (90, 0, 0, 22), (130, 0, 0, 0)]
def zu_X_peek : List (Nat × List Bool) := []
set_option maxRecDepth 100000 in
theorem qg_X_peek {ρ : Type} (kr : Int → zH → Option ρ) (kt : Nat → zH → Option ρ) (F_X_isCell : Int → zH → (Int → zH → Option ρ) → Option ρ) (a0 a1 : Int) (h : zH) : (F_X_isCell a1 h  fun v1 h2 =>
if v1 = 0 then zlet (zthrown h2) fun h7 => kt 3 h7
else zob h2 0 a0 fun p3 =>
zob h2 2 (zhD h2 0 p3 1) fun p4 =>
zob h2 22 (zhD h2 2 p4 1) fun p5 =>
zix (zhL h2 22 p5) a1 fun j6 =>
kr (zhD h2 22 p5 j6) h2) = zseg zPP true (zcal (ρ := ρ) [(55, [none], zca1 F_X_isCell)]) (zget (999, 0, 0, 0) zc_X_peek) (zcut zu_X_peek) (zorc (ρ := ρ) []) kr kt 400 0 [some (100, a0), some (0, a1)] [] h := by rfl
set_option maxRecDepth 100000 in
theorem qe_X_peek {ρ : Type} (kr : Int → zH → Option ρ) (kt : Nat → zH → Option ρ) (a0 a1 : Int) (h : zH) : X_peek a0 a1 h kt kr = zseg zPP true (zcal (ρ := ρ) [(55, [none], zca1 X_isCell)]) (zget (999, 0, 0, 0) zc_X_peek) (zcut zu_X_peek) (zorc (ρ := ρ) []) kr kt 400 0 [some (100, a0), some (0, a1)] [] h := qg_X_peek kr kt X_isCell a0 a1 h
def zc_Le_launchOf : List zI := [(10, 0, 1, 0), (0, 0, 0, 0), (14, 0, 0, 101), (80, 1, 31, 3), (999, 0, 0, 0), (999, 0, 0, 0), (0, 1, 0, 0), (31, 0, 0, 0), (114, 0, 27, 54), (999, 0, 0, 0), (999, 0, 0, 0), (60, 12, 23, 0), (999, 0, 0, 0), (999, 0, 0, 0), (14, 0, 0, 101), (80, 1, 19, 1), (999, 0, 0, 0), (999, 0, 0, 0), (10, 0, 1, 0), (94, 0, 0, 21), (72, 4, 24, 0), (999, 0, 0, 0), (999, 0, 0, 0), (7, 0, 0, 109), (132, 0, 0, 109)]
def zu_Le_launchOf : List (Nat × List Bool) := [(24, [false, false])]
set_option maxRecDepth 100000 in
theorem qg_Le_launchOf_24 {ρ : Type} (kr : Int → zH → Option ρ) (t0 : Int) (h : zH) : (kr t0 h) = zseg zPP true (zcal (ρ := ρ) []) (zget (999, 0, 0, 0) zc_Le_launchOf) (zcut zu_Le_launchOf) (zorc (ρ := ρ) []) kr (fun _ _ => none) 400 24 [none, none] [(109, t0)] h := by rfl
set_option maxRecDepth 100000 in
theorem qe_Le_launchOf_24 {ρ : Type} (kr : Int → zH → Option ρ) (t0 : Int) (h : zH) : Le_launchOf_24 kr t0 h = zseg zPP true (zcal (ρ := ρ) []) (zget (999, 0, 0, 0) zc_Le_launchOf) (zcut zu_Le_launchOf) (zorc (ρ := ρ) []) kr (fun _ _ => none) 400 24 [none, none] [(109, t0)] h := qg_Le_launchOf_24 kr t0 h
set_option maxRecDepth 100000 in
theorem qg_Le_launchOf {ρ : Type} (kr : Int → zH → Option ρ) (F_X_isWithin : Int → Int → Int → zH → (Int → zH → Option ρ) → Option ρ) (c24 : Int → zH → Option ρ) (a0 a1 : Int) (h : zH) : (zob h 1 a0 fun p1 =>
F_X_isWithin a1 0 (wr ((zhD h 1 p1 3) - 1)) h  fun v2 h3 =>
if v2 = 0 then c24 (-1) h3
else zob h3 1 a0 fun p4 =>
zob h3 21 (zhD h3 1 p4 1) fun p5 =>
zix (zhL h3 21 p5) a1 fun j6 =>
c24 (zhD h3 21 p5 j6) h3) = zseg zPP true (zcal (ρ := ρ) [(54, [none, none, none], zca3 F_X_isWithin)]) (zget (999, 0, 0, 0) zc_Le_launchOf) (zcut zu_Le_launchOf) (zorc (ρ := ρ) [(24, [none, none], [(109, none)], zap1 c24)]) kr (fun _ _ => none) 400 0 [some (101, a0), some (0, a1)] [] h := by rfl
set_option maxRecDepth 100000 in
theorem qe_Le_launchOf {ρ : Type} (kr : Int → zH → Option ρ) (a0 a1 : Int) (h : zH) : Le_launchOf a0 a1 h kr = zseg zPP true (zcal (ρ := ρ) [(54, [none, none, none], zca3 X_isWithin)]) (zget (999, 0, 0, 0) zc_Le_launchOf) (zcut zu_Le_launchOf) (zorc (ρ := ρ) [(24, [none, none], [(109, none)], zap1 (Le_launchOf_24 kr))]) kr (fun _ _ => none) 400 0 [some (101, a0), some (0, a1)] [] h := qg_Le_launchOf kr X_isWithin (Le_launchOf_24 kr) a0 a1 h
def zc_X_launchAt : List zI := [(14, 0, 0, 100), (80, 0, 10, 0), (999, 0, 0, 0), (999, 0, 0, 0), (10, 0, 1, 0), (110, 0, 297, 241), (999, 0, 0, 0), (999, 0, 0, 0), (20, 0, 2, 109), (14, 0, 2, 109), (74, 11, 21, 0), (999, 0, 0, 0), (999, 0, 0, 0), (134, 89, 87, 3), (999, 0, 0, 0), (999, 0, 0, 0), (999, 0, 0, 0), (999, 0, 0, 0), (999, 0, 0, 0), (999, 0, 0, 0), (999, 0, 0, 0), (14, 0, 2, 109), (132, 0, 0, 109)]
def zu_X_launchAt : List (Nat × List Bool) := []
set_option maxRecDepth 100000 in
theorem qg_X_launchAt {ρ : Type} (kr : Int → zH → Option ρ) (kt : Nat → zH → Option ρ) (F_Le_launchOf : Int → Int → zH → (Int → zH → Option ρ) → Option ρ) (a0 a1 : Int) (h : zH) : (zob h 0 a0 fun p1 =>
zob h 1 (zhD h 0 p1 0) fun _ =>
F_Le_launchOf (zhD h 0 p1 0) a1 h  fun v2 h3 =>
if v2 < 0 then zlet (zthrown h3) fun h4 => kt 3 h4
else kr v2 h3) = zseg zPP true (zcal (ρ := ρ) [(241, [none, none], zca2 F_Le_launchOf)]) (zget (999, 0, 0, 0) zc_X_launchAt) (zcut zu_X_launchAt) (zorc (ρ := ρ) []) kr kt 400 0 [some (100, a0), some (0, a1), none] [] h := by rfl
set_option maxRecDepth 100000 in
theorem qe_X_launchAt {ρ : Type} (kr : Int → zH → Option ρ) (kt : Nat → zH → Option ρ) (a0 a1 : Int) (h : zH) : X_launchAt a0 a1 h kt kr = zseg zPP true (zcal (ρ := ρ) [(241, [none, none], zca2 Le_launchOf)]) (zget (999, 0, 0, 0) zc_X_launchAt) (zcut zu_X_launchAt) (zorc (ρ := ρ) []) kr kt 400 0 [some (100, a0), some (0, a1), none] [] h := qg_X_launchAt kr kt Le_launchOf a0 a1 h
def zc_X_checkQueueAndAfter : List zI := [(10, 0, 1, 0), (0, 0, 0, 0), (0, 1, 0, 0), (113, 0, 32, 54), (999, 0, 0, 0), (999, 0, 0, 0), (61, 11, 17, 0), (999, 0, 0, 0), (999, 0, 0, 0), (134, 89, 87, 3), (999, 0, 0, 0), (999, 0, 0, 0), (999, 0, 0, 0), (999, 0, 0, 0), (999, 0, 0, 0), (999, 0, 0, 0), (999, 0, 0, 0), (10, 0, 2, 0), (0, (-1), 0, 0), (66, 9, 28, 0), (999, 0, 0, 0), (999, 0, 0, 0), (14, 0, 0, 100), (10, 0, 2, 0), (110, 0, 123, 48), (999, 0, 0, 0), (999, 0, 0, 0), (52, 0, 0, 0), (133, 0, 0, 0)]
def zu_X_checkQueueAndAfter : List (Nat × List Bool) := [(28, [false, false, false])]
set_option maxRecDepth 100000 in
theorem qg_X_checkQueueAndAfter_28 {ρ : Type} (kr : Int → zH → Option ρ) (kt : Nat → zH → Option ρ) (h : zH) : (kr 0 h) = zseg zPP true (zcal (ρ := ρ) []) (zget (999, 0, 0, 0) zc_X_checkQueueAndAfter) (zcut zu_X_checkQueueAndAfter) (zorc (ρ := ρ) []) kr kt 400 28 [none, none, none] [] h := by rfl
set_option maxRecDepth 100000 in
theorem qe_X_checkQueueAndAfter_28 {ρ : Type} (kr : Int → zH → Option ρ) (kt : Nat → zH → Option ρ) (h : zH) : X_checkQueueAndAfter_28 kr kt h = zseg zPP true (zcal (ρ := ρ) []) (zget (999, 0, 0, 0) zc_X_checkQueueAndAfter) (zcut zu_X_checkQueueAndAfter) (zorc (ρ := ρ) []) kr kt 400 28 [none, none, none] [] h := qg_X_checkQueueAndAfter_28 kr kt h
set_option maxRecDepth 100000 in
theorem qg_X_checkQueueAndAfter {ρ : Type} (kr : Int → zH → Option ρ) (kt : Nat → zH → Option ρ) (F_X_launchAt : Int → Int → zH → (Nat → zH → Option ρ) → (Int → zH → Option ρ) → Option ρ) (F_X_isWithin : Int → Int → Int → zH → (Int → zH → Option ρ) → Option ρ) (c28 : zH → Option ρ) (a0 a1 a2 : Int) (h : zH) : (F_X_isWithin a1 0 1 h  fun v1 h2 =>
if v1 = 0 then zlet (zthrown h2) fun h5 => kt 3 h5
else if a2 = (-1) then c28 h2
else zob h2 0 a0 fun _ =>
F_X_launchAt a0 a2 h2 kt fun v3 h4 =>
c28 h4) = zseg zPP true (zcal (ρ := ρ) [(48, [none, none], zcx2 F_X_launchAt), (54, [none, none, none], zca3 F_X_isWithin)]) (zget (999, 0, 0, 0) zc_X_checkQueueAndAfter) (zcut zu_X_checkQueueAndAfter) (zorc (ρ := ρ) [(28, [none, none, none], [], zap0 c28)]) kr kt 400 0 [some (100, a0), some (0, a1), some (0, a2)] [] h := by rfl
set_option maxRecDepth 100000 in
theorem qe_X_checkQueueAndAfter {ρ : Type} (kr : Int → zH → Option ρ) (kt : Nat → zH → Option ρ) (a0 a1 a2 : Int) (h : zH) : X_checkQueueAndAfter a0 a1 a2 h kt kr = zseg zPP true (zcal (ρ := ρ) [(48, [none, none], zcx2 X_launchAt), (54, [none, none, none], zca3 X_isWithin)]) (zget (999, 0, 0, 0) zc_X_checkQueueAndAfter) (zcut zu_X_checkQueueAndAfter) (zorc (ρ := ρ) [(28, [none, none, none], [], zap0 (X_checkQueueAndAfter_28 kr kt))]) kr kt 400 0 [some (100, a0), some (0, a1), some (0, a2)] [] h := qg_X_checkQueueAndAfter kr kt X_launchAt X_isWithin (X_checkQueueAndAfter_28 kr kt) a0 a1 a2 h
def zc_X_checkRoomForLaunch : List zI := [(14, 0, 0, 100), (80, 0, 10, 0), (999, 0, 0, 0), (999, 0, 0, 0), (80, 1, 120, 3), (999, 0, 0, 0), (999, 0, 0, 0), (1, 12, 0, 0), (999, 0, 0, 0), (68, 11, 20, 0), (999, 0, 0, 0), (999, 0, 0, 0), (134, 45, 43, 2), (999, 0, 0, 0), (999, 0, 0, 0), (999, 0, 0, 0), (999, 0, 0, 0), (999, 0, 0, 0), (999, 0, 0, 0), (999, 0, 0, 0), (133, 0, 0, 0)]
def zu_X_checkRoomForLaunch : List (Nat × List Bool) := []
set_option maxRecDepth 100000 in
theorem qg_X_checkRoomForLaunch {ρ : Type} (kr : Int → zH → Option ρ) (kt : Nat → zH → Option ρ) (a0 : Int) (h : zH) : (zob h 0 a0 fun p1 =>
zob h 1 (zhD h 0 p1 0) fun p2 =>
if (zhD h 1 p2 3) < 12 then kr 0 h
else zlet (zthrown h) fun h3 => kt 2 h3) = zseg zPP true (zcal (ρ := ρ) []) (zget (999, 0, 0, 0) zc_X_checkRoomForLaunch) (zcut zu_X_checkRoomForLaunch) (zorc (ρ := ρ) []) kr kt 400 0 [some (100, a0)] [] h := by rfl
set_option maxRecDepth 100000 in
theorem qe_X_checkRoomForLaunch {ρ : Type} (kr : Int → zH → Option ρ) (kt : Nat → zH → Option ρ) (a0 : Int) (h : zH) : X_checkRoomForLaunch a0 h kt kr = zseg zPP true (zcal (ρ := ρ) []) (zget (999, 0, 0, 0) zc_X_checkRoomForLaunch) (zcut zu_X_checkRoomForLaunch) (zorc (ρ := ρ) []) kr kt 400 0 [some (100, a0)] [] h := qg_X_checkRoomForLaunch kr kt a0 h
def zc_La_useKernel : List zI := [(14, 0, 0, 109), (14, 0, 1, 107), (82, 9, 40, 5), (999, 0, 0, 0), (999, 0, 0, 0), (14, 0, 0, 109), (80, 9, 40, 5), (999, 0, 0, 0), (999, 0, 0, 0), (0, 1, 0, 0), (82, 7, 44, 4), (999, 0, 0, 0), (999, 0, 0, 0), (14, 0, 0, 109), (10, 0, 2, 0), (82, 9, 50, 6), (999, 0, 0, 0), (999, 0, 0, 0), (14, 0, 0, 109), (10, 0, 3, 0), (82, 9, 53, 7), (999, 0, 0, 0), (999, 0, 0, 0), (133, 0, 0, 0)]
def zu_La_useKernel : List (Nat × List Bool) := []
set_option maxRecDepth 100000 in
theorem qg_La_useKernel {ρ : Type} (kr : Int → zH → Option ρ) (a0 a1 a2 a3 : Int) (h : zH) : (zob h 9 a0 fun p1 =>
zlet (zset h 9 p1 5 a1) fun h2 =>
zob h2 9 a0 fun p3 =>
zob h2 7 (zhD h2 9 p3 5) fun p4 =>
zlet (zset h2 7 p4 4 1) fun h5 =>
zob h5 9 a0 fun p6 =>
zlet (zset h5 9 p6 6 a2) fun h7 =>
zob h7 9 a0 fun p8 =>
zlet (zset h7 9 p8 7 a3) fun h9 =>
kr 0 h9) = zseg zPP true (zcal (ρ := ρ) []) (zget (999, 0, 0, 0) zc_La_useKernel) (zcut zu_La_useKernel) (zorc (ρ := ρ) []) kr (fun _ _ => none) 400 0 [some (109, a0), some (107, a1), some (0, a2), some (0, a3)] [] h := by rfl
set_option maxRecDepth 100000 in
theorem qe_La_useKernel {ρ : Type} (kr : Int → zH → Option ρ) (a0 a1 a2 a3 : Int) (h : zH) : La_useKernel a0 a1 a2 a3 h kr = zseg zPP true (zcal (ρ := ρ) []) (zget (999, 0, 0, 0) zc_La_useKernel) (zcut zu_La_useKernel) (zorc (ρ := ρ) []) kr (fun _ _ => none) 400 0 [some (109, a0), some (107, a1), some (0, a2), some (0, a3)] [] h := qg_La_useKernel kr a0 a1 a2 a3 h
def zc_La_init : List zI := [(14, 0, 0, 109), (117, 0, 3, 0), (999, 0, 0, 0), (999, 0, 0, 0), (14, 0, 0, 109), (1, 113, 0, 0), (999, 0, 0, 0), (82, 9, 11, 10), (999, 0, 0, 0), (999, 0, 0, 0), (14, 0, 0, 109), (1, 64, 0, 0), (999, 0, 0, 0), (101, 0, 0, 34), (999, 0, 0, 0), (84, 9, 15, 16), (999, 0, 0, 0), (999, 0, 0, 0), (14, 0, 0, 109), (1, 64, 0, 0), (999, 0, 0, 0), (101, 0, 0, 35), (999, 0, 0, 0), (84, 9, 19, 17), (999, 0, 0, 0), (999, 0, 0, 0), (14, 0, 0, 109), (10, 0, 1, 0), (84, 9, 23, 0), (999, 0, 0, 0), (999, 0, 0, 0), (14, 0, 0, 109), (10, 0, 2, 0), (84, 9, 27, 1), (999, 0, 0, 0), (999, 0, 0, 0), (14, 0, 0, 109), (14, 0, 3, 109), (84, 9, 30, 2), (999, 0, 0, 0), (999, 0, 0, 0), (14, 0, 0, 109), (15, 0, 4, 109), (999, 0, 0, 0), (84, 9, 34, 3), (999, 0, 0, 0), (999, 0, 0, 0), (14, 0, 0, 109), (15, 0, 5, 109), (999, 0, 0, 0), (84, 9, 37, 4), (999, 0, 0, 0), (999, 0, 0, 0), (133, 0, 0, 0)]
def zu_La_init : List (Nat × List Bool) := []
set_option maxRecDepth 100000 in
theorem qg_La_init {ρ : Type} (kr : Int → zH → Option ρ) (a0 a1 a2 a3 a4 a5 : Int) (h : zH) : (zob h 9 a0 fun _ =>
zob h 9 a0 fun p2 =>
zlet (zset h 9 p2 10 113) fun h3 =>
zix 100000 64 fun n4 =>
zlet (znew h3 34 n4 n4 (fun _ => 0)) fun h5 =>
zob h5 9 a0 fun p6 =>
zlet (zset h5 9 p6 16 (zhN h3 34 : Int)) fun h7 =>
zix 100000 64 fun n8 =>
zlet (znew h7 35 n8 n8 (fun _ => 0)) fun h9 =>
zob h9 9 a0 fun p10 =>
zlet (zset h9 9 p10 17 (zhN h7 35 : Int)) fun h11 =>
zob h11 9 a0 fun p12 =>
zlet (zset h11 9 p12 0 a1) fun h13 =>
zob h13 9 a0 fun p14 =>
zlet (zset h13 9 p14 1 a2) fun h15 =>
zob h15 9 a0 fun p16 =>
zlet (zset h15 9 p16 2 a3) fun h17 =>
zob h17 9 a0 fun p18 =>
zlet (zset h17 9 p18 3 a4) fun h19 =>
zob h19 9 a0 fun p20 =>
zlet (zset h19 9 p20 4 a5) fun h21 =>
kr 0 h21) = zseg zPP true (zcal (ρ := ρ) []) (zget (999, 0, 0, 0) zc_La_init) (zcut zu_La_init) (zorc (ρ := ρ) []) kr (fun _ _ => none) 400 0 [some (109, a0), some (0, a1), some (0, a2), some (109, a3), some (109, a4), some (109, a5)] [] h := by rfl
set_option maxRecDepth 100000 in
theorem qe_La_init {ρ : Type} (kr : Int → zH → Option ρ) (a0 a1 a2 a3 a4 a5 : Int) (h : zH) : La_init a0 a1 a2 a3 a4 a5 h kr = zseg zPP true (zcal (ρ := ρ) []) (zget (999, 0, 0, 0) zc_La_init) (zcut zu_La_init) (zorc (ρ := ρ) []) kr (fun _ _ => none) 400 0 [some (109, a0), some (0, a1), some (0, a2), some (109, a3), some (109, a4), some (109, a5)] [] h := qg_La_init kr a0 a1 a2 a3 a4 a5 h
def zc_La_isOver : List zI := [(14, 0, 0, 109), (80, 9, 11, 10), (999, 0, 0, 0), (999, 0, 0, 0), (1, 100, 0, 0), (999, 0, 0, 0), (66, 21, 27, 0), (999, 0, 0, 0), (999, 0, 0, 0), (14, 0, 0, 109), (80, 9, 11, 10), (999, 0, 0, 0), (999, 0, 0, 0), (1, 102, 0, 0), (999, 0, 0, 0), (66, 12, 27, 0), (999, 0, 0, 0), (999, 0, 0, 0), (14, 0, 0, 109), (80, 9, 11, 10), (999, 0, 0, 0), (999, 0, 0, 0), (1, 120, 0, 0), (999, 0, 0, 0), (67, 7, 31, 0), (999, 0, 0, 0), (999, 0, 0, 0), (0, 1, 0, 0), (72, 4, 32, 0), (999, 0, 0, 0), (999, 0, 0, 0), (0, 0, 0, 0), (130, 0, 1, 0)]
def zu_La_isOver : List (Nat × List Bool) := [(27, [false]), (32, [false])]
set_option maxRecDepth 100000 in
theorem qg_La_isOver_32 {ρ : Type} (kr : Int → zH → Option ρ) (t0 : Int) (h : zH) : (znar 1 t0 fun x1 => kr x1 h) = zseg zPP true (zcal (ρ := ρ) []) (zget (999, 0, 0, 0) zc_La_isOver) (zcut zu_La_isOver) (zorc (ρ := ρ) []) kr (fun _ _ => none) 400 32 [none] [(0, t0)] h := by rfl
set_option maxRecDepth 100000 in
theorem qe_La_isOver_32 {ρ : Type} (kr : Int → zH → Option ρ) (t0 : Int) (h : zH) : La_isOver_32 kr t0 h = zseg zPP true (zcal (ρ := ρ) []) (zget (999, 0, 0, 0) zc_La_isOver) (zcut zu_La_isOver) (zorc (ρ := ρ) []) kr (fun _ _ => none) 400 32 [none] [(0, t0)] h := qg_La_isOver_32 kr t0 h
set_option maxRecDepth 100000 in
theorem qg_La_isOver_27 {ρ : Type} (kr : Int → zH → Option ρ) (c32 : Int → zH → Option ρ) (h : zH) : (c32 1 h) = zseg zPP true (zcal (ρ := ρ) []) (zget (999, 0, 0, 0) zc_La_isOver) (zcut zu_La_isOver) (zorc (ρ := ρ) [(32, [none], [(0, none)], zap1 c32)]) kr (fun _ _ => none) 400 27 [none] [] h := by rfl
set_option maxRecDepth 100000 in
theorem qe_La_isOver_27 {ρ : Type} (kr : Int → zH → Option ρ) (h : zH) : La_isOver_27 kr h = zseg zPP true (zcal (ρ := ρ) []) (zget (999, 0, 0, 0) zc_La_isOver) (zcut zu_La_isOver) (zorc (ρ := ρ) [(32, [none], [(0, none)], zap1 (La_isOver_32 kr))]) kr (fun _ _ => none) 400 27 [none] [] h := qg_La_isOver_27 kr (La_isOver_32 kr) h
set_option maxRecDepth 100000 in
theorem qg_La_isOver {ρ : Type} (kr : Int → zH → Option ρ) (c27 : zH → Option ρ) (c32 : Int → zH → Option ρ) (a0 : Int) (h : zH) : (zob h 9 a0 fun p1 =>
if (zhD h 9 p1 10) = 100 then c27 h
else zob h 9 a0 fun p2 =>
if (zhD h 9 p2 10) = 102 then c27 h
else zob h 9 a0 fun p3 =>
if (zhD h 9 p3 10) = 120 then c27 h
else c32 0 h) = zseg zPP true (zcal (ρ := ρ) []) (zget (999, 0, 0, 0) zc_La_isOver) (zcut zu_La_isOver) (zorc (ρ := ρ) [(27, [none], [], zap0 c27), (32, [none], [(0, none)], zap1 c32)]) kr (fun _ _ => none) 400 0 [some (109, a0)] [] h := by rfl
set_option maxRecDepth 100000 in
theorem qe_La_isOver {ρ : Type} (kr : Int → zH → Option ρ) (a0 : Int) (h : zH) : La_isOver a0 h kr = zseg zPP true (zcal (ρ := ρ) []) (zget (999, 0, 0, 0) zc_La_isOver) (zcut zu_La_isOver) (zorc (ρ := ρ) [(27, [none], [], zap0 (La_isOver_27 kr)), (32, [none], [(0, none)], zap1 (La_isOver_32 kr))]) kr (fun _ _ => none) 400 0 [some (109, a0)] [] h := qg_La_isOver kr (La_isOver_27 kr) (La_isOver_32 kr) a0 h
def zc_Le_enter : List zI := [(14, 0, 0, 101), (80, 1, 31, 3), (999, 0, 0, 0), (999, 0, 0, 0), (14, 0, 0, 101), (80, 1, 19, 1), (999, 0, 0, 0), (999, 0, 0, 0), (100, 0, 0, 21), (69, 23, 32, 0), (999, 0, 0, 0), (999, 0, 0, 0), (14, 0, 0, 101), (80, 1, 19, 1), (999, 0, 0, 0), (999, 0, 0, 0), (14, 0, 0, 101), (80, 1, 31, 3), (999, 0, 0, 0), (999, 0, 0, 0), (14, 0, 1, 109), (99, 0, 0, 21), (14, 0, 0, 101), (50, 0, 0, 0), (80, 1, 31, 3), (999, 0, 0, 0), (999, 0, 0, 0), (0, 1, 0, 0), (30, 0, 0, 0), (82, 1, 31, 3), (999, 0, 0, 0), (999, 0, 0, 0), (14, 0, 1, 109), (132, 0, 0, 109)]
def zu_Le_enter : List (Nat × List Bool) := [(32, [false, true])]
set_option maxRecDepth 100000 in
theorem qg_Le_enter_32 {ρ : Type} (kr : Int → zH → Option ρ) (a1 : Int) (h : zH) : (kr a1 h) = zseg zPP true (zcal (ρ := ρ) []) (zget (999, 0, 0, 0) zc_Le_enter) (zcut zu_Le_enter) (zorc (ρ := ρ) []) kr (fun _ _ => none) 400 32 [none, some (109, a1)] [] h := by rfl
set_option maxRecDepth 100000 in
theorem qe_Le_enter_32 {ρ : Type} (kr : Int → zH → Option ρ) (a1 : Int) (h : zH) : Le_enter_32 kr a1 h = zseg zPP true (zcal (ρ := ρ) []) (zget (999, 0, 0, 0) zc_Le_enter) (zcut zu_Le_enter) (zorc (ρ := ρ) []) kr (fun _ _ => none) 400 32 [none, some (109, a1)] [] h := qg_Le_enter_32 kr a1 h
set_option maxRecDepth 100000 in
theorem qg_Le_enter {ρ : Type} (kr : Int → zH → Option ρ) (c32 : Int → zH → Option ρ) (a0 a1 : Int) (h : zH) : (zob h 1 a0 fun p1 =>
zob h 1 a0 fun p2 =>
zob h 21 (zhD h 1 p2 1) fun p3 =>
if (zhD h 1 p1 3) < (zhL h 21 p3 : Int) then (zob h 1 a0 fun p4 =>
zob h 1 a0 fun p5 =>
zob h 21 (zhD h 1 p4 1) fun p6 =>
zix (zhL h 21 p6) (zhD h 1 p5 3) fun j7 =>
zorn h 9 a1 (zlet (zset h 21 p6 j7 a1) fun h8 =>
zob h8 1 a0 fun p9 =>
zob h8 1 a0 fun p10 =>
zlet (zset h8 1 p10 3 (wr ((zhD h8 1 p9 3) + 1))) fun h11 =>
c32 a1 h11))
else c32 a1 h) = zseg zPP true (zcal (ρ := ρ) []) (zget (999, 0, 0, 0) zc_Le_enter) (zcut zu_Le_enter) (zorc (ρ := ρ) [(32, [none, some (109, none)], [], zap1 c32)]) kr (fun _ _ => none) 400 0 [some (101, a0), some (109, a1)] [] h := by rfl
set_option maxRecDepth 100000 in
theorem qe_Le_enter {ρ : Type} (kr : Int → zH → Option ρ) (a0 a1 : Int) (h : zH) : Le_enter a0 a1 h kr = zseg zPP true (zcal (ρ := ρ) []) (zget (999, 0, 0, 0) zc_Le_enter) (zcut zu_Le_enter) (zorc (ρ := ρ) [(32, [none, some (109, none)], [], zap1 (Le_enter_32 kr))]) kr (fun _ _ => none) 400 0 [some (101, a0), some (109, a1)] [] h := qg_Le_enter kr (Le_enter_32 kr) a0 a1 h
def zc_Le_lastIn : List zI := [(14, 0, 0, 101), (80, 1, 31, 3), (999, 0, 0, 0), (999, 0, 0, 0), (0, 1, 0, 0), (31, 0, 0, 0), (16, 0, 2, 0), (10, 0, 2, 0), (62, 29, 37, 0), (999, 0, 0, 0), (999, 0, 0, 0), (14, 0, 0, 101), (80, 1, 19, 1), (999, 0, 0, 0), (999, 0, 0, 0), (10, 0, 2, 0), (94, 0, 0, 21), (80, 9, 52, 1), (999, 0, 0, 0), (999, 0, 0, 0), (10, 0, 1, 0), (67, 10, 31, 0), (999, 0, 0, 0), (999, 0, 0, 0), (14, 0, 0, 101), (80, 1, 19, 1), (999, 0, 0, 0), (999, 0, 0, 0), (10, 0, 2, 0), (94, 0, 0, 21), (132, 0, 0, 109), (22, (-1), 2, 0), (999, 0, 0, 0), (999, 0, 0, 0), (72, (-27), 7, 0), (999, 0, 0, 0), (999, 0, 0, 0), (7, 0, 0, 109), (132, 0, 0, 109)]
def zu_Le_lastIn : List (Nat × List Bool) := [(7, [true, true, true])]
set_option maxRecDepth 100000 in
theorem qg_Le_lastIn_7b {ρ : Type} (kr : Int → zH → Option ρ) (r7 : Int → Int → Int → zH → Option ρ) (a0 a1 a2 : Int) (h : zH) : (if a2 < 0 then kr (-1) h
else zob h 1 a0 fun p1 =>
zob h 21 (zhD h 1 p1 1) fun p2 =>
zix (zhL h 21 p2) a2 fun j3 =>
zob h 9 (zhD h 21 p2 j3) fun p4 =>
if (zhD h 9 p4 1) = a1 then (zob h 1 a0 fun p5 =>
zob h 21 (zhD h 1 p5 1) fun p6 =>
zix (zhL h 21 p6) a2 fun j7 =>
kr (zhD h 21 p6 j7) h)
else r7 a0 a1 (wr (a2 + (-1))) h) = zseg zPP true (zcal (ρ := ρ) []) (zget (999, 0, 0, 0) zc_Le_lastIn) (zcut zu_Le_lastIn) (zorc (ρ := ρ) [(7, [some (101, none), some (0, none), some (0, none)], [], zap3 r7)]) kr (fun _ _ => none) 400 7 [some (101, a0), some (0, a1), some (0, a2)] [] h := by rfl
set_option maxRecDepth 100000 in
theorem qe_Le_lastIn_7b {ρ : Type} (kr : Int → zH → Option ρ) (r7 : Int → Int → Int → zH → Option ρ) (a0 a1 a2 : Int) (h : zH) : Le_lastIn_7b kr r7 a0 a1 a2 h = zseg zPP true (zcal (ρ := ρ) []) (zget (999, 0, 0, 0) zc_Le_lastIn) (zcut zu_Le_lastIn) (zorc (ρ := ρ) [(7, [some (101, none), some (0, none), some (0, none)], [], zap3 r7)]) kr (fun _ _ => none) 400 7 [some (101, a0), some (0, a1), some (0, a2)] [] h := qg_Le_lastIn_7b kr r7 a0 a1 a2 h
set_option maxRecDepth 100000 in
theorem qg_Le_lastIn {ρ : Type} (kr : Int → zH → Option ρ) (c7 : Int → Int → Int → zH → Option ρ) (a0 a1 : Int) (h : zH) : (zob h 1 a0 fun p1 =>
c7 a0 a1 (wr ((zhD h 1 p1 3) - 1)) h) = zseg zPP true (zcal (ρ := ρ) []) (zget (999, 0, 0, 0) zc_Le_lastIn) (zcut zu_Le_lastIn) (zorc (ρ := ρ) [(7, [some (101, none), some (0, none), some (0, none)], [], zap3 c7)]) kr (fun _ _ => none) 400 0 [some (101, a0), some (0, a1), none] [] h := by rfl
set_option maxRecDepth 100000 in
theorem qe_Le_lastIn {ρ : Type} (kr : Int → zH → Option ρ) (a0 a1 : Int) (h : zH) : Le_lastIn a0 a1 h kr = zseg zPP true (zcal (ρ := ρ) []) (zget (999, 0, 0, 0) zc_Le_lastIn) (zcut zu_Le_lastIn) (zorc (ρ := ρ) [(7, [some (101, none), some (0, none), some (0, none)], [], zap3 (Le_lastIn_7 kr))]) kr (fun _ _ => none) 400 0 [some (101, a0), some (0, a1), none] [] h := qg_Le_lastIn kr (Le_lastIn_7 kr) a0 a1 h
def zc_Le_enterHostLaunch : List zI := [(14, 0, 0, 101), (10, 0, 1, 0), (110, 0, 34, 245), (999, 0, 0, 0), (999, 0, 0, 0), (20, 0, 3, 109), (14, 0, 3, 109), (73, 10, 17, 0), (999, 0, 0, 0), (999, 0, 0, 0), (14, 0, 3, 109), (110, 0, 38, 231), (999, 0, 0, 0), (999, 0, 0, 0), (60, 7, 21, 0), (999, 0, 0, 0), (999, 0, 0, 0), (0, 1, 0, 0), (72, 4, 22, 0), (999, 0, 0, 0), (999, 0, 0, 0), (0, 0, 0, 0), (17, 0, 4, 0), (999, 0, 0, 0), (14, 0, 0, 101), (103, 0, 17, 9), (999, 0, 0, 0), (999, 0, 0, 0), (50, 0, 0, 0), (14, 0, 0, 101), (80, 1, 31, 3), (999, 0, 0, 0), (999, 0, 0, 0), (10, 0, 1, 0), (11, 0, 4, 0), (999, 0, 0, 0), (60, 7, 43, 0), (999, 0, 0, 0), (999, 0, 0, 0), (7, 0, 0, 109), (72, 4, 44, 0), (999, 0, 0, 0), (999, 0, 0, 0), (14, 0, 3, 109), (14, 0, 0, 101), (10, 0, 2, 0), (110, 0, 42, 241), (999, 0, 0, 0), (999, 0, 0, 0), (7, 0, 0, 109), (115, 0, 45, 228), (999, 0, 0, 0), (999, 0, 0, 0), (110, 0, 48, 244), (999, 0, 0, 0), (999, 0, 0, 0), (132, 0, 0, 109)]
def zu_Le_enterHostLaunch : List (Nat × List Bool) := [(17, [true, true, true, true, false]), (22, [true, true, true, true, false]), (44, [true, false, true, false, false])]
set_option maxRecDepth 100000 in
theorem qg_Le_enterHostLaunch_44 {ρ : Type} (kr : Int → zH → Option ρ) (F_La_init : Int → Int → Int → Int → Int → Int → zH → (Int → zH → Option ρ) → Option ρ) (F_Le_launchOf : Int → Int → zH → (Int → zH → Option ρ) → Option ρ) (F_Le_enter : Int → Int → zH → (Int → zH → Option ρ) → Option ρ) (a0 a2 t0 t1 t2 t3 t4 t5 : Int) (h : zH) : (zob h 1 a0 fun _ =>
F_Le_launchOf a0 a2 h  fun v1 h2 =>
zob h2 9 t3 fun _ =>
F_La_init t3 t2 t1 t0 v1 (-1) h2  fun _ h4 =>
zob h4 1 t5 fun _ =>
F_Le_enter t5 t4 h4  fun v5 h6 =>
kr v5 h6) = zseg zPP true (zcal (ρ := ρ) [(228, [none, none, none, none, none, none], zca6 F_La_init), (241, [none, none], zca2 F_Le_launchOf), (244, [none, none], zca2 F_Le_enter)]) (zget (999, 0, 0, 0) zc_Le_enterHostLaunch) (zcut zu_Le_enterHostLaunch) (zorc (ρ := ρ) []) kr (fun _ _ => none) 400 44 [some (101, a0), none, some (0, a2), none, none] [(109, t0), (0, t1), (0, t2), (109, t3), (109, t4), (101, t5)] h := by rfl
set_option maxRecDepth 100000 in
theorem qe_Le_enterHostLaunch_44 {ρ : Type} (kr : Int → zH → Option ρ) (a0 a2 t0 t1 t2 t3 t4 t5 : Int) (h : zH) : Le_enterHostLaunch_44 kr a0 a2 t0 t1 t2 t3 t4 t5 h = zseg zPP true (zcal (ρ := ρ) [(228, [none, none, none, none, none, none], zca6 La_init), (241, [none, none], zca2 Le_launchOf), (244, [none, none], zca2 Le_enter)]) (zget (999, 0, 0, 0) zc_Le_enterHostLaunch) (zcut zu_Le_enterHostLaunch) (zorc (ρ := ρ) []) kr (fun _ _ => none) 400 44 [some (101, a0), none, some (0, a2), none, none] [(109, t0), (0, t1), (0, t2), (109, t3), (109, t4), (101, t5)] h := qg_Le_enterHostLaunch_44 kr La_init Le_launchOf Le_enter a0 a2 t0 t1 t2 t3 t4 t5 h
set_option maxRecDepth 100000 in
theorem qg_Le_enterHostLaunch_22 {ρ : Type} (kr : Int → zH → Option ρ) (c44 : Int → Int → Int → Int → Int → Int → Int → Int → zH → Option ρ) (a0 a1 a2 a3 t0 : Int) (h : zH) : (zlet (znew h 9 0 (znf zPP 9) (fun k => zdef (zft zPP 9 k))) fun h1 =>
zob h1 1 a0 fun p2 =>
if t0 = 0 then c44 a0 a2 a3 a1 (zhD h1 1 p2 3) (zhN h 9 : Int) (zhN h 9 : Int) a0 h1
else c44 a0 a2 (-1) a1 (zhD h1 1 p2 3) (zhN h 9 : Int) (zhN h 9 : Int) a0 h1) = zseg zPP true (zcal (ρ := ρ) []) (zget (999, 0, 0, 0) zc_Le_enterHostLaunch) (zcut zu_Le_enterHostLaunch) (zorc (ρ := ρ) [(44, [some (101, none), none, some (0, none), none, none], [(109, none), (0, none), (0, none), (109, none), (109, none), (101, none)], zap8 c44)]) kr (fun _ _ => none) 400 22 [some (101, a0), some (0, a1), some (0, a2), some (109, a3), none] [(0, t0)] h := by rfl
set_option maxRecDepth 100000 in
theorem qe_Le_enterHostLaunch_22 {ρ : Type} (kr : Int → zH → Option ρ) (a0 a1 a2 a3 t0 : Int) (h : zH) : Le_enterHostLaunch_22 kr a0 a1 a2 a3 t0 h = zseg zPP true (zcal (ρ := ρ) []) (zget (999, 0, 0, 0) zc_Le_enterHostLaunch) (zcut zu_Le_enterHostLaunch) (zorc (ρ := ρ) [(44, [some (101, none), none, some (0, none), none, none], [(109, none), (0, none), (0, none), (109, none), (109, none), (101, none)], zap8 (Le_enterHostLaunch_44 kr))]) kr (fun _ _ => none) 400 22 [some (101, a0), some (0, a1), some (0, a2), some (109, a3), none] [(0, t0)] h := qg_Le_enterHostLaunch_22 kr (Le_enterHostLaunch_44 kr) a0 a1 a2 a3 t0 h
set_option maxRecDepth 100000 in
theorem qg_Le_enterHostLaunch_17 {ρ : Type} (kr : Int → zH → Option ρ) (c22 : Int → Int → Int → Int → Int → zH → Option ρ) (a0 a1 a2 a3 : Int) (h : zH) : (c22 a0 a1 a2 a3 1 h) = zseg zPP true (zcal (ρ := ρ) []) (zget (999, 0, 0, 0) zc_Le_enterHostLaunch) (zcut zu_Le_enterHostLaunch) (zorc (ρ := ρ) [(22, [some (101, none), some (0, none), some (0, none), some (109, none), none], [(0, none)], zap5 c22)]) kr (fun _ _ => none) 400 17 [some (101, a0), some (0, a1), some (0, a2), some (109, a3), none] [] h := by rfl
set_option maxRecDepth 100000 in
theorem qe_Le_enterHostLaunch_17 {ρ : Type} (kr : Int → zH → Option ρ) (a0 a1 a2 a3 : Int) (h : zH) : Le_enterHostLaunch_17 kr a0 a1 a2 a3 h = zseg zPP true (zcal (ρ := ρ) []) (zget (999, 0, 0, 0) zc_Le_enterHostLaunch) (zcut zu_Le_enterHostLaunch) (zorc (ρ := ρ) [(22, [some (101, none), some (0, none), some (0, none), some (109, none), none], [(0, none)], zap5 (Le_enterHostLaunch_22 kr))]) kr (fun _ _ => none) 400 17 [some (101, a0), some (0, a1), some (0, a2), some (109, a3), none] [] h := qg_Le_enterHostLaunch_17 kr (Le_enterHostLaunch_22 kr) a0 a1 a2 a3 h
set_option maxRecDepth 100000 in
theorem qg_Le_enterHostLaunch {ρ : Type} (kr : Int → zH → Option ρ) (F_La_isOver : Int → zH → (Int → zH → Option ρ) → Option ρ) (F_Le_lastIn : Int → Int → zH → (Int → zH → Option ρ) → Option ρ) (c17 : Int → Int → Int → Int → zH → Option ρ) (c22 : Int → Int → Int → Int → Int → zH → Option ρ) (a0 a1 a2 : Int) (h : zH) : (zob h 1 a0 fun _ =>
F_Le_lastIn a0 a1 h  fun v1 h2 =>
if v1 < 0 then c17 a0 a1 a2 v1 h2
else zob h2 9 v1 fun _ =>
F_La_isOver v1 h2  fun v3 h4 =>
if v3 = 0 then c22 a0 a1 a2 v1 0 h4
else c17 a0 a1 a2 v1 h4) = zseg zPP true (zcal (ρ := ρ) [(231, [none], zca1 F_La_isOver), (245, [none, none], zca2 F_Le_lastIn)]) (zget (999, 0, 0, 0) zc_Le_enterHostLaunch) (zcut zu_Le_enterHostLaunch) (zorc (ρ := ρ) [(17, [some (101, none), some (0, none), some (0, none), some (109, none), none], [], zap4 c17), (22, [some (101, none), some (0, none), some (0, none), some (109, none), none], [(0, none)], zap5 c22)]) kr (fun _ _ => none) 400 0 [some (101, a0), some (0, a1), some (0, a2), none, none] [] h := by rfl
set_option maxRecDepth 100000 in
theorem qe_Le_enterHostLaunch {ρ : Type} (kr : Int → zH → Option ρ) (a0 a1 a2 : Int) (h : zH) : Le_enterHostLaunch a0 a1 a2 h kr = zseg zPP true (zcal (ρ := ρ) [(231, [none], zca1 La_isOver), (245, [none, none], zca2 Le_lastIn)]) (zget (999, 0, 0, 0) zc_Le_enterHostLaunch) (zcut zu_Le_enterHostLaunch) (zorc (ρ := ρ) [(17, [some (101, none), some (0, none), some (0, none), some (109, none), none], [], zap4 (Le_enterHostLaunch_17 kr)), (22, [some (101, none), some (0, none), some (0, none), some (109, none), none], [(0, none)], zap5 (Le_enterHostLaunch_22 kr))]) kr (fun _ _ => none) 400 0 [some (101, a0), some (0, a1), some (0, a2), none, none] [] h := qg_Le_enterHostLaunch kr La_isOver Le_lastIn (Le_enterHostLaunch_17 kr) (Le_enterHostLaunch_22 kr) a0 a1 a2 h
def zc_X_launch : List zI := [(14, 0, 0, 100), (10, 0, 1, 0), (11, 0, 5, 0), (999, 0, 0, 0), (110, 0, 94, 52), (999, 0, 0, 0), (999, 0, 0, 0), (14, 0, 0, 100), (10, 0, 2, 0), (110, 0, 55, 47), (999, 0, 0, 0), (999, 0, 0, 0), (21, 0, 6, 107), (999, 0, 0, 0), (10, 0, 3, 0), (0, 1, 0, 0), (1, 6, 0, 0), (999, 0, 0, 0), (113, 0, 32, 54), (999, 0, 0, 0), (999, 0, 0, 0), (60, 14, 35, 0), (999, 0, 0, 0), (999, 0, 0, 0), (11, 0, 4, 0), (999, 0, 0, 0), (0, 1, 0, 0), (1, 16, 0, 0), (999, 0, 0, 0), (113, 0, 32, 54), (999, 0, 0, 0), (999, 0, 0, 0), (61, 11, 43, 0), (999, 0, 0, 0), (999, 0, 0, 0), (134, 38, 36, 1), (999, 0, 0, 0), (999, 0, 0, 0), (999, 0, 0, 0), (999, 0, 0, 0), (999, 0, 0, 0), (999, 0, 0, 0), (999, 0, 0, 0), (15, 0, 6, 107), (999, 0, 0, 0), (11, 0, 4, 0), (999, 0, 0, 0), (110, 0, 79, 227), (999, 0, 0, 0), (999, 0, 0, 0), (61, 11, 61, 0), (999, 0, 0, 0), (999, 0, 0, 0), (134, 99, 97, 4), (999, 0, 0, 0), (999, 0, 0, 0), (999, 0, 0, 0), (999, 0, 0, 0), (999, 0, 0, 0), (999, 0, 0, 0), (999, 0, 0, 0), (14, 0, 0, 100), (110, 0, 100, 53), (999, 0, 0, 0), (999, 0, 0, 0), (14, 0, 0, 100), (80, 0, 10, 0), (999, 0, 0, 0), (999, 0, 0, 0), (10, 0, 1, 0), (11, 0, 5, 0), (999, 0, 0, 0), (110, 0, 103, 243), (999, 0, 0, 0), (999, 0, 0, 0), (21, 0, 7, 109), (999, 0, 0, 0), (15, 0, 7, 109), (999, 0, 0, 0), (15, 0, 6, 107), (999, 0, 0, 0), (10, 0, 3, 0), (11, 0, 4, 0), (999, 0, 0, 0), (110, 0, 107, 229), (999, 0, 0, 0), (999, 0, 0, 0), (15, 0, 7, 109), (999, 0, 0, 0), (80, 9, 113, 0), (999, 0, 0, 0), (999, 0, 0, 0), (130, 0, 0, 0)]
def zu_X_launch : List (Nat × List Bool) := [(35, [false, false, false, false, false, false, false, false])]
set_option maxRecDepth 100000 in
theorem qg_X_launch_35 {ρ : Type} (kr : Int → zH → Option ρ) (kt : Nat → zH → Option ρ) (h : zH) : (zlet (zthrown h) fun h1 => kt 1 h1) = zseg zPP true (zcal (ρ := ρ) []) (zget (999, 0, 0, 0) zc_X_launch) (zcut zu_X_launch) (zorc (ρ := ρ) []) kr kt 400 35 [none, none, none, none, none, none, none, none] [] h := by rfl
set_option maxRecDepth 100000 in
theorem qe_X_launch_35 {ρ : Type} (kr : Int → zH → Option ρ) (kt : Nat → zH → Option ρ) (h : zH) : X_launch_35 kr kt h = zseg zPP true (zcal (ρ := ρ) []) (zget (999, 0, 0, 0) zc_X_launch) (zcut zu_X_launch) (zorc (ρ := ρ) []) kr kt 400 35 [none, none, none, none, none, none, none, none] [] h := qg_X_launch_35 kr kt h
set_option maxRecDepth 100000 in
theorem qg_X_launch {ρ : Type} (kr : Int → zH → Option ρ) (kt : Nat → zH → Option ρ) (F_X_kernelAt : Int → Int → zH → (Nat → zH → Option ρ) → (Int → zH → Option ρ) → Option ρ) (F_X_checkQueueAndAfter : Int → Int → Int → zH → (Nat → zH → Option ρ) → (Int → zH → Option ρ) → Option ρ) (F_X_checkRoomForLaunch : Int → zH → (Nat → zH → Option ρ) → (Int → zH → Option ρ) → Option ρ) (F_X_isWithin : Int → Int → Int → zH → (Int → zH → Option ρ) → Option ρ) (F_Ke_blocksInUnit : Int → Int → zH → (Int → zH → Option ρ) → Option ρ) (F_La_useKernel : Int → Int → Int → Int → zH → (Int → zH → Option ρ) → Option ρ) (F_Le_enterHostLaunch : Int → Int → Int → zH → (Int → zH → Option ρ) → Option ρ) (c35 : zH → Option ρ) (a0 a1 a2 a3 a4 a5 : Int) (h : zH) : (zob h 0 a0 fun _ =>
F_X_checkQueueAndAfter a0 a1 a5 h kt fun _ h2 =>
zob h2 0 a0 fun _ =>
F_X_kernelAt a0 a2 h2 kt fun v3 h4 =>
F_X_isWithin a3 1 6 h4  fun v5 h6 =>
if v5 = 0 then c35 h6
else F_X_isWithin a4 1 16 h6  fun v7 h8 =>
if v7 = 0 then c35 h8
else zob h8 7 v3 fun _ =>
F_Ke_blocksInUnit v3 a4 h8  fun v9 h10 =>
if v9 = 0 then zlet (zthrown h10) fun h19 => kt 4 h19
else zob h10 0 a0 fun _ =>
F_X_checkRoomForLaunch a0 h10 kt fun _ h12 =>
zob h12 0 a0 fun p13 =>
zob h12 1 (zhD h12 0 p13 0) fun _ =>
F_Le_enterHostLaunch (zhD h12 0 p13 0) a1 a5 h12  fun v14 h15 =>
zob h15 9 v14 fun _ =>
F_La_useKernel v14 v3 a3 a4 h15  fun _ h17 =>
zob h17 9 v14 fun p18 =>
kr (zhD h17 9 p18 0) h17) = zseg zPP true (zcal (ρ := ρ) [(47, [none, none], zcx2 F_X_kernelAt), (52, [none, none, none], zcx3 F_X_checkQueueAndAfter), (53, [none], zcx1 F_X_checkRoomForLaunch), (54, [none, none, none], zca3 F_X_isWithin), (227, [none, none], zca2 F_Ke_blocksInUnit), (229, [none, none, none, none], zca4 F_La_useKernel), (243, [none, none, none], zca3 F_Le_enterHostLaunch)]) (zget (999, 0, 0, 0) zc_X_launch) (zcut zu_X_launch) (zorc (ρ := ρ) [(35, [none, none, none, none, none, none, none, none], [], zap0 c35)]) kr kt 400 0 [some (100, a0), some (0, a1), some (0, a2), some (0, a3), some (0, a4), some (0, a5), none, none] [] h := by rfl
set_option maxRecDepth 100000 in
theorem qe_X_launch {ρ : Type} (kr : Int → zH → Option ρ) (kt : Nat → zH → Option ρ) (a0 a1 a2 a3 a4 a5 : Int) (h : zH) : X_launch a0 a1 a2 a3 a4 a5 h kt kr = zseg zPP true (zcal (ρ := ρ) [(47, [none, none], zcx2 X_kernelAt), (52, [none, none, none], zcx3 X_checkQueueAndAfter), (53, [none], zcx1 X_checkRoomForLaunch), (54, [none, none, none], zca3 X_isWithin), (227, [none, none], zca2 Ke_blocksInUnit), (229, [none, none, none, none], zca4 La_useKernel), (243, [none, none, none], zca3 Le_enterHostLaunch)]) (zget (999, 0, 0, 0) zc_X_launch) (zcut zu_X_launch) (zorc (ρ := ρ) [(35, [none, none, none, none, none, none, none, none], [], zap0 (X_launch_35 kr kt))]) kr kt 400 0 [some (100, a0), some (0, a1), some (0, a2), some (0, a3), some (0, a4), some (0, a5), none, none] [] h := qg_X_launch kr kt X_kernelAt X_checkQueueAndAfter X_checkRoomForLaunch X_isWithin Ke_blocksInUnit La_useKernel Le_enterHostLaunch (X_launch_35 kr kt) a0 a1 a2 a3 a4 a5 h
def zc_La_useCopy : List zI := [(14, 0, 0, 109), (10, 0, 1, 0), (82, 9, 56, 13), (999, 0, 0, 0), (999, 0, 0, 0), (14, 0, 0, 109), (10, 0, 2, 0), (82, 9, 59, 14), (999, 0, 0, 0), (999, 0, 0, 0), (14, 0, 0, 109), (10, 0, 3, 0), (82, 9, 62, 15), (999, 0, 0, 0), (999, 0, 0, 0), (133, 0, 0, 0)]
def zu_La_useCopy : List (Nat × List Bool) := []
set_option maxRecDepth 100000 in
theorem qg_La_useCopy {ρ : Type} (kr : Int → zH → Option ρ) (a0 a1 a2 a3 : Int) (h : zH) : (zob h 9 a0 fun p1 =>
zlet (zset h 9 p1 13 a1) fun h2 =>
zob h2 9 a0 fun p3 =>
zlet (zset h2 9 p3 14 a2) fun h4 =>
zob h4 9 a0 fun p5 =>
zlet (zset h4 9 p5 15 a3) fun h6 =>
kr 0 h6) = zseg zPP true (zcal (ρ := ρ) []) (zget (999, 0, 0, 0) zc_La_useCopy) (zcut zu_La_useCopy) (zorc (ρ := ρ) []) kr (fun _ _ => none) 400 0 [some (109, a0), some (0, a1), some (0, a2), some (0, a3)] [] h := by rfl
set_option maxRecDepth 100000 in
theorem qe_La_useCopy {ρ : Type} (kr : Int → zH → Option ρ) (a0 a1 a2 a3 : Int) (h : zH) : La_useCopy a0 a1 a2 a3 h kr = zseg zPP true (zcal (ρ := ρ) []) (zget (999, 0, 0, 0) zc_La_useCopy) (zcut zu_La_useCopy) (zorc (ρ := ρ) []) kr (fun _ _ => none) 400 0 [some (109, a0), some (0, a1), some (0, a2), some (0, a3)] [] h := qg_La_useCopy kr a0 a1 a2 a3 h
def zc_X_copy : List zI := [(14, 0, 0, 100), (10, 0, 1, 0), (11, 0, 5, 0), (999, 0, 0, 0), (110, 0, 94, 52), (999, 0, 0, 0), (999, 0, 0, 0), (11, 0, 4, 0), (999, 0, 0, 0), (0, 1, 0, 0), (1, 64, 0, 0), (999, 0, 0, 0), (113, 0, 32, 54), (999, 0, 0, 0), (999, 0, 0, 0), (60, 29, 44, 0), (999, 0, 0, 0), (999, 0, 0, 0), (10, 0, 2, 0), (0, 0, 0, 0), (1, 64, 0, 0), (999, 0, 0, 0), (11, 0, 4, 0), (999, 0, 0, 0), (31, 0, 0, 0), (113, 0, 32, 54), (999, 0, 0, 0), (999, 0, 0, 0), (60, 16, 44, 0), (999, 0, 0, 0), (999, 0, 0, 0), (10, 0, 3, 0), (0, 0, 0, 0), (1, 64, 0, 0), (999, 0, 0, 0), (11, 0, 4, 0), (999, 0, 0, 0), (31, 0, 0, 0), (113, 0, 32, 54), (999, 0, 0, 0), (999, 0, 0, 0), (61, 11, 52, 0), (999, 0, 0, 0), (999, 0, 0, 0), (134, 38, 36, 1), (999, 0, 0, 0), (999, 0, 0, 0), (999, 0, 0, 0), (999, 0, 0, 0), (999, 0, 0, 0), (999, 0, 0, 0), (999, 0, 0, 0), (14, 0, 0, 100), (110, 0, 100, 53), (999, 0, 0, 0), (999, 0, 0, 0), (14, 0, 0, 100), (80, 0, 10, 0), (999, 0, 0, 0), (999, 0, 0, 0), (10, 0, 1, 0), (11, 0, 5, 0), (999, 0, 0, 0), (110, 0, 103, 243), (999, 0, 0, 0), (999, 0, 0, 0), (21, 0, 6, 109), (999, 0, 0, 0), (15, 0, 6, 109), (999, 0, 0, 0), (10, 0, 2, 0), (10, 0, 3, 0), (11, 0, 4, 0), (999, 0, 0, 0), (110, 0, 116, 230), (999, 0, 0, 0), (999, 0, 0, 0), (15, 0, 6, 109), (999, 0, 0, 0), (80, 9, 113, 0), (999, 0, 0, 0), (999, 0, 0, 0), (130, 0, 0, 0)]
def zu_X_copy : List (Nat × List Bool) := [(44, [false, false, false, false, false, false, false])]
set_option maxRecDepth 100000 in
theorem qg_X_copy_44 {ρ : Type} (kr : Int → zH → Option ρ) (kt : Nat → zH → Option ρ) (h : zH) : (zlet (zthrown h) fun h1 => kt 1 h1) = zseg zPP true (zcal (ρ := ρ) []) (zget (999, 0, 0, 0) zc_X_copy) (zcut zu_X_copy) (zorc (ρ := ρ) []) kr kt 400 44 [none, none, none, none, none, none, none] [] h := by rfl
set_option maxRecDepth 100000 in
theorem qe_X_copy_44 {ρ : Type} (kr : Int → zH → Option ρ) (kt : Nat → zH → Option ρ) (h : zH) : X_copy_44 kr kt h = zseg zPP true (zcal (ρ := ρ) []) (zget (999, 0, 0, 0) zc_X_copy) (zcut zu_X_copy) (zorc (ρ := ρ) []) kr kt 400 44 [none, none, none, none, none, none, none] [] h := qg_X_copy_44 kr kt h
set_option maxRecDepth 100000 in
theorem qg_X_copy {ρ : Type} (kr : Int → zH → Option ρ) (kt : Nat → zH → Option ρ) (F_X_checkQueueAndAfter : Int → Int → Int → zH → (Nat → zH → Option ρ) → (Int → zH → Option ρ) → Option ρ) (F_X_checkRoomForLaunch : Int → zH → (Nat → zH → Option ρ) → (Int → zH → Option ρ) → Option ρ) (F_X_isWithin : Int → Int → Int → zH → (Int → zH → Option ρ) → Option ρ) (F_La_useCopy : Int → Int → Int → Int → zH → (Int → zH → Option ρ) → Option ρ) (F_Le_enterHostLaunch : Int → Int → Int → zH → (Int → zH → Option ρ) → Option ρ) (c44 : zH → Option ρ) (a0 a1 a2 a3 a4 a5 : Int) (h : zH) : (zob h 0 a0 fun _ =>
F_X_checkQueueAndAfter a0 a1 a5 h kt fun _ h2 =>
F_X_isWithin a4 1 64 h2  fun v3 h4 =>
if v3 = 0 then c44 h4
else F_X_isWithin a2 0 (wr (64 - a4)) h4  fun v5 h6 =>
if v5 = 0 then c44 h6
else F_X_isWithin a3 0 (wr (64 - a4)) h6  fun v7 h8 =>
if v7 = 0 then c44 h8
else zob h8 0 a0 fun _ =>
F_X_checkRoomForLaunch a0 h8 kt fun _ h10 =>
zob h10 0 a0 fun p11 =>
zob h10 1 (zhD h10 0 p11 0) fun _ =>
F_Le_enterHostLaunch (zhD h10 0 p11 0) a1 a5 h10  fun v12 h13 =>
zob h13 9 v12 fun _ =>
F_La_useCopy v12 a2 a3 a4 h13  fun _ h15 =>
zob h15 9 v12 fun p16 =>
kr (zhD h15 9 p16 0) h15) = zseg zPP true (zcal (ρ := ρ) [(52, [none, none, none], zcx3 F_X_checkQueueAndAfter), (53, [none], zcx1 F_X_checkRoomForLaunch), (54, [none, none, none], zca3 F_X_isWithin), (230, [none, none, none, none], zca4 F_La_useCopy), (243, [none, none, none], zca3 F_Le_enterHostLaunch)]) (zget (999, 0, 0, 0) zc_X_copy) (zcut zu_X_copy) (zorc (ρ := ρ) [(44, [none, none, none, none, none, none, none], [], zap0 c44)]) kr kt 400 0 [some (100, a0), some (0, a1), some (0, a2), some (0, a3), some (0, a4), some (0, a5), none] [] h := by rfl
set_option maxRecDepth 100000 in
theorem qe_X_copy {ρ : Type} (kr : Int → zH → Option ρ) (kt : Nat → zH → Option ρ) (a0 a1 a2 a3 a4 a5 : Int) (h : zH) : X_copy a0 a1 a2 a3 a4 a5 h kt kr = zseg zPP true (zcal (ρ := ρ) [(52, [none, none, none], zcx3 X_checkQueueAndAfter), (53, [none], zcx1 X_checkRoomForLaunch), (54, [none, none, none], zca3 X_isWithin), (230, [none, none, none, none], zca4 La_useCopy), (243, [none, none, none], zca3 Le_enterHostLaunch)]) (zget (999, 0, 0, 0) zc_X_copy) (zcut zu_X_copy) (zorc (ρ := ρ) [(44, [none, none, none, none, none, none, none], [], zap0 (X_copy_44 kr kt))]) kr kt 400 0 [some (100, a0), some (0, a1), some (0, a2), some (0, a3), some (0, a4), some (0, a5), none] [] h := qg_X_copy kr kt X_checkQueueAndAfter X_checkRoomForLaunch X_isWithin La_useCopy Le_enterHostLaunch (X_copy_44 kr kt) a0 a1 a2 a3 a4 a5 h
def zc_X_launches : List zI := [(14, 0, 0, 100), (80, 0, 10, 0), (999, 0, 0, 0), (999, 0, 0, 0), (80, 1, 120, 3), (999, 0, 0, 0), (999, 0, 0, 0), (130, 0, 0, 0)]
def zu_X_launches : List (Nat × List Bool) := []
set_option maxRecDepth 100000 in
theorem qg_X_launches {ρ : Type} (kr : Int → zH → Option ρ) (a0 : Int) (h : zH) : (zob h 0 a0 fun p1 =>
zob h 1 (zhD h 0 p1 0) fun p2 =>
kr (zhD h 1 p2 3) h) = zseg zPP true (zcal (ρ := ρ) []) (zget (999, 0, 0, 0) zc_X_launches) (zcut zu_X_launches) (zorc (ρ := ρ) []) kr (fun _ _ => none) 400 0 [some (100, a0)] [] h := by rfl
set_option maxRecDepth 100000 in
theorem qe_X_launches {ρ : Type} (kr : Int → zH → Option ρ) (a0 : Int) (h : zH) : X_launches a0 h kr = zseg zPP true (zcal (ρ := ρ) []) (zget (999, 0, 0, 0) zc_X_launches) (zcut zu_X_launches) (zorc (ρ := ρ) []) kr (fun _ _ => none) 400 0 [some (100, a0)] [] h := qg_X_launches kr a0 h
def zc_X_state : List zI := [(14, 0, 0, 100), (10, 0, 1, 0), (110, 0, 123, 48), (999, 0, 0, 0), (999, 0, 0, 0), (80, 9, 127, 10), (999, 0, 0, 0), (999, 0, 0, 0), (130, 0, 2, 0)]
def zu_X_state : List (Nat × List Bool) := []
set_option maxRecDepth 100000 in
theorem qg_X_state {ρ : Type} (kr : Int → zH → Option ρ) (kt : Nat → zH → Option ρ) (F_X_launchAt : Int → Int → zH → (Nat → zH → Option ρ) → (Int → zH → Option ρ) → Option ρ) (a0 a1 : Int) (h : zH) : (zob h 0 a0 fun _ =>
F_X_launchAt a0 a1 h kt fun v1 h2 =>
zob h2 9 v1 fun p3 =>
znar 2 (zhD h2 9 p3 10) fun x4 => kr x4 h2) = zseg zPP true (zcal (ρ := ρ) [(48, [none, none], zcx2 F_X_launchAt)]) (zget (999, 0, 0, 0) zc_X_state) (zcut zu_X_state) (zorc (ρ := ρ) []) kr kt 400 0 [some (100, a0), some (0, a1)] [] h := by rfl
set_option maxRecDepth 100000 in
theorem qe_X_state {ρ : Type} (kr : Int → zH → Option ρ) (kt : Nat → zH → Option ρ) (a0 a1 : Int) (h : zH) : X_state a0 a1 h kt kr = zseg zPP true (zcal (ρ := ρ) [(48, [none, none], zcx2 X_launchAt)]) (zget (999, 0, 0, 0) zc_X_state) (zcut zu_X_state) (zorc (ρ := ρ) []) kr kt 400 0 [some (100, a0), some (0, a1)] [] h := qg_X_state kr kt X_launchAt a0 a1 h
def zc_X_parent : List zI := [(14, 0, 0, 100), (10, 0, 1, 0), (110, 0, 123, 48), (999, 0, 0, 0), (999, 0, 0, 0), (20, 0, 2, 109), (14, 0, 2, 109), (80, 9, 131, 4), (999, 0, 0, 0), (999, 0, 0, 0), (74, 11, 21, 0), (999, 0, 0, 0), (999, 0, 0, 0), (134, 137, 135, 5), (999, 0, 0, 0), (999, 0, 0, 0), (999, 0, 0, 0), (999, 0, 0, 0), (999, 0, 0, 0), (999, 0, 0, 0), (999, 0, 0, 0), (14, 0, 2, 109), (80, 9, 131, 4), (999, 0, 0, 0), (999, 0, 0, 0), (80, 9, 113, 0), (999, 0, 0, 0), (999, 0, 0, 0), (130, 0, 0, 0)]
def zu_X_parent : List (Nat × List Bool) := []
set_option maxRecDepth 100000 in
theorem qg_X_parent {ρ : Type} (kr : Int → zH → Option ρ) (kt : Nat → zH → Option ρ) (F_X_launchAt : Int → Int → zH → (Nat → zH → Option ρ) → (Int → zH → Option ρ) → Option ρ) (a0 a1 : Int) (h : zH) : (zob h 0 a0 fun _ =>
F_X_launchAt a0 a1 h kt fun v1 h2 =>
zob h2 9 v1 fun p3 =>
if (zhD h2 9 p3 4) < 0 then zlet (zthrown h2) fun h6 => kt 5 h6
else zob h2 9 v1 fun p4 =>
zob h2 9 (zhD h2 9 p4 4) fun p5 =>
kr (zhD h2 9 p5 0) h2) = zseg zPP true (zcal (ρ := ρ) [(48, [none, none], zcx2 F_X_launchAt)]) (zget (999, 0, 0, 0) zc_X_parent) (zcut zu_X_parent) (zorc (ρ := ρ) []) kr kt 400 0 [some (100, a0), some (0, a1), none] [] h := by rfl
set_option maxRecDepth 100000 in
theorem qe_X_parent {ρ : Type} (kr : Int → zH → Option ρ) (kt : Nat → zH → Option ρ) (a0 a1 : Int) (h : zH) : X_parent a0 a1 h kt kr = zseg zPP true (zcal (ρ := ρ) [(48, [none, none], zcx2 X_launchAt)]) (zget (999, 0, 0, 0) zc_X_parent) (zcut zu_X_parent) (zorc (ρ := ρ) []) kr kt 400 0 [some (100, a0), some (0, a1), none] [] h := qg_X_parent kr kt X_launchAt a0 a1 h
