def zc_It_bitCount : List zI := [(10, 0, 0, 0), (10, 0, 0, 0), (0, 1, 0, 0), (41, 0, 0, 0), (4, 1431655765, 265, 0), (999, 0, 0, 0), (999, 0, 0, 0), (36, 0, 0, 0), (31, 0, 0, 0), (16, 0, 0, 0), (10, 0, 0, 0), (4, 858993459, 266, 0), (999, 0, 0, 0), (999, 0, 0, 0), (36, 0, 0, 0), (10, 0, 0, 0), (0, 2, 0, 0), (41, 0, 0, 0), (4, 858993459, 266, 0), (999, 0, 0, 0), (999, 0, 0, 0), (36, 0, 0, 0), (30, 0, 0, 0), (16, 0, 0, 0), (10, 0, 0, 0), (10, 0, 0, 0), (0, 4, 0, 0), (41, 0, 0, 0), (30, 0, 0, 0), (4, 252645135, 267, 0), (999, 0, 0, 0), (999, 0, 0, 0), (36, 0, 0, 0), (16, 0, 0, 0), (10, 0, 0, 0), (10, 0, 0, 0), (1, 8, 0, 0), (999, 0, 0, 0), (41, 0, 0, 0), (30, 0, 0, 0), (16, 0, 0, 0), (10, 0, 0, 0), (10, 0, 0, 0), (1, 16, 0, 0), (999, 0, 0, 0), (41, 0, 0, 0), (30, 0, 0, 0), (16, 0, 0, 0), (10, 0, 0, 0), (1, 63, 0, 0), (999, 0, 0, 0), (36, 0, 0, 0), (130, 0, 0, 0)]
def zu_It_bitCount : List (Nat × List Bool) := []
set_option maxRecDepth 100000 in
theorem qe_It_bitCount {ρ : Type} (kr : Int → zH → Option ρ) (a0 : Int) (h : zH) : It_bitCount a0 h kr = zseg zPP true (zcal []) (zget (999, 0, 0, 0) zc_It_bitCount) (zcut zu_It_bitCount) (zorc []) kr (fun _ _ => none) 400 0 [some (0, a0)] [] h := by rfl
def zc_Ma_floorMod : List zI := [(10, 0, 0, 0), (10, 0, 1, 0), (34, 0, 0, 0), (16, 0, 2, 0), (10, 0, 0, 0), (10, 0, 1, 0), (38, 0, 0, 0), (63, 11, 18, 0), (999, 0, 0, 0), (999, 0, 0, 0), (10, 0, 2, 0), (60, 7, 18, 0), (999, 0, 0, 0), (999, 0, 0, 0), (10, 0, 2, 0), (10, 0, 1, 0), (30, 0, 0, 0), (130, 0, 0, 0), (10, 0, 2, 0), (130, 0, 0, 0)]
def zu_Ma_floorMod : List (Nat × List Bool) := [(18, [false, false, true])]
set_option maxRecDepth 100000 in
theorem qe_Ma_floorMod_18 {ρ : Type} (kr : Int → zH → Option ρ) (a2 : Int) (h : zH) : Ma_floorMod_18 kr a2 h = zseg zPP true (zcal []) (zget (999, 0, 0, 0) zc_Ma_floorMod) (zcut zu_Ma_floorMod) (zorc []) kr (fun _ _ => none) 400 18 [none, none, some (0, a2)] [] h := by rfl
set_option maxRecDepth 100000 in
theorem qe_Ma_floorMod {ρ : Type} (kr : Int → zH → Option ρ) (a0 a1 : Int) (h : zH) : Ma_floorMod a0 a1 h kr = zseg zPP true (zcal []) (zget (999, 0, 0, 0) zc_Ma_floorMod) (zcut zu_Ma_floorMod) (zorc [(18, [none, none, some (0, none)], [], fun xs h => match xs with
  | [a2] => Ma_floorMod_18 kr a2 h
  | _ => none)]) kr (fun _ _ => none) 400 0 [some (0, a0), some (0, a1), none] [] h := by rfl
def zc_Ma_max : List zI := [(10, 0, 0, 0), (10, 0, 1, 0), (68, 7, 9, 0), (999, 0, 0, 0), (999, 0, 0, 0), (10, 0, 0, 0), (72, 4, 10, 0), (999, 0, 0, 0), (999, 0, 0, 0), (10, 0, 1, 0), (130, 0, 0, 0)]
def zu_Ma_max : List (Nat × List Bool) := [(10, [false, false])]
set_option maxRecDepth 100000 in
theorem qe_Ma_max_10 {ρ : Type} (kr : Int → zH → Option ρ) (t0 : Int) (h : zH) : Ma_max_10 kr t0 h = zseg zPP true (zcal []) (zget (999, 0, 0, 0) zc_Ma_max) (zcut zu_Ma_max) (zorc []) kr (fun _ _ => none) 400 10 [none, none] [(0, t0)] h := by rfl
set_option maxRecDepth 100000 in
theorem qe_Ma_max {ρ : Type} (kr : Int → zH → Option ρ) (a0 a1 : Int) (h : zH) : Ma_max a0 a1 h kr = zseg zPP true (zcal []) (zget (999, 0, 0, 0) zc_Ma_max) (zcut zu_Ma_max) (zorc [(10, [none, none], [(0, none)], fun xs h => match xs with
  | [t0] => Ma_max_10 kr t0 h
  | _ => none)]) kr (fun _ _ => none) 400 0 [some (0, a0), some (0, a1)] [] h := by rfl
def zc_Ma_min : List zI := [(10, 0, 0, 0), (10, 0, 1, 0), (70, 7, 9, 0), (999, 0, 0, 0), (999, 0, 0, 0), (10, 0, 0, 0), (72, 4, 10, 0), (999, 0, 0, 0), (999, 0, 0, 0), (10, 0, 1, 0), (130, 0, 0, 0)]
def zu_Ma_min : List (Nat × List Bool) := [(10, [false, false])]
set_option maxRecDepth 100000 in
theorem qe_Ma_min_10 {ρ : Type} (kr : Int → zH → Option ρ) (t0 : Int) (h : zH) : Ma_min_10 kr t0 h = zseg zPP true (zcal []) (zget (999, 0, 0, 0) zc_Ma_min) (zcut zu_Ma_min) (zorc []) kr (fun _ _ => none) 400 10 [none, none] [(0, t0)] h := by rfl
set_option maxRecDepth 100000 in
theorem qe_Ma_min {ρ : Type} (kr : Int → zH → Option ρ) (a0 a1 : Int) (h : zH) : Ma_min a0 a1 h kr = zseg zPP true (zcal []) (zget (999, 0, 0, 0) zc_Ma_min) (zcut zu_Ma_min) (zorc [(10, [none, none], [(0, none)], fun xs h => match xs with
  | [t0] => Ma_min_10 kr t0 h
  | _ => none)]) kr (fun _ _ => none) 400 0 [some (0, a0), some (0, a1)] [] h := by rfl
def zc_Ar_fill_29 : List zI := [(0, 0, 0, 0), (16, 0, 2, 0), (14, 0, 0, 129), (100, 0, 0, 29), (16, 0, 3, 0), (10, 0, 2, 0), (10, 0, 3, 0), (69, 13, 20, 0), (999, 0, 0, 0), (999, 0, 0, 0), (14, 0, 0, 129), (10, 0, 2, 0), (10, 0, 1, 0), (95, 0, 0, 29), (22, 1, 2, 0), (999, 0, 0, 0), (999, 0, 0, 0), (72, (-12), 5, 0), (999, 0, 0, 0), (999, 0, 0, 0), (133, 0, 0, 0)]
def zu_Ar_fill_29 : List (Nat × List Bool) := [(5, [true, true, true, true])]
set_option maxRecDepth 100000 in
theorem qe_Ar_fill_29_5b {ρ : Type} (kr : Int → zH → Option ρ) (r5 : Int → Int → Int → Int → zH → Option ρ) (a0 a1 a2 a3 : Int) (h : zH) : Ar_fill_29_5b kr r5 a0 a1 a2 a3 h = zseg zPP true (zcal []) (zget (999, 0, 0, 0) zc_Ar_fill_29) (zcut zu_Ar_fill_29) (zorc [(5, [some (129, none), some (0, none), some (0, none), some (0, none)], [], fun xs h => match xs with
  | [a0, a1, a2, a3] => r5 a0 a1 a2 a3 h
  | _ => none)]) kr (fun _ _ => none) 400 5 [some (129, a0), some (0, a1), some (0, a2), some (0, a3)] [] h := by rfl
set_option maxRecDepth 100000 in
theorem qe_Ar_fill_29 {ρ : Type} (kr : Int → zH → Option ρ) (a0 a1 : Int) (h : zH) : Ar_fill_29 a0 a1 h kr = zseg zPP true (zcal []) (zget (999, 0, 0, 0) zc_Ar_fill_29) (zcut zu_Ar_fill_29) (zorc [(5, [some (129, none), some (0, none), some (0, none), some (0, none)], [], fun xs h => match xs with
  | [a0, a1, a2, a3] => Ar_fill_29_5 kr a0 a1 a2 a3 h
  | _ => none)]) kr (fun _ _ => none) 400 0 [some (129, a0), some (0, a1), none, none] [] h := by rfl
def zc_Ar_fill_31 : List zI := [(0, 0, 0, 0), (16, 0, 2, 0), (14, 0, 0, 131), (100, 0, 0, 31), (16, 0, 3, 0), (10, 0, 2, 0), (10, 0, 3, 0), (69, 13, 20, 0), (999, 0, 0, 0), (999, 0, 0, 0), (14, 0, 0, 131), (10, 0, 2, 0), (10, 0, 1, 0), (95, 0, 0, 31), (22, 1, 2, 0), (999, 0, 0, 0), (999, 0, 0, 0), (72, (-12), 5, 0), (999, 0, 0, 0), (999, 0, 0, 0), (133, 0, 0, 0)]
def zu_Ar_fill_31 : List (Nat × List Bool) := [(5, [true, true, true, true])]
set_option maxRecDepth 100000 in
theorem qe_Ar_fill_31_5b {ρ : Type} (kr : Int → zH → Option ρ) (r5 : Int → Int → Int → Int → zH → Option ρ) (a0 a1 a2 a3 : Int) (h : zH) : Ar_fill_31_5b kr r5 a0 a1 a2 a3 h = zseg zPP true (zcal []) (zget (999, 0, 0, 0) zc_Ar_fill_31) (zcut zu_Ar_fill_31) (zorc [(5, [some (131, none), some (0, none), some (0, none), some (0, none)], [], fun xs h => match xs with
  | [a0, a1, a2, a3] => r5 a0 a1 a2 a3 h
  | _ => none)]) kr (fun _ _ => none) 400 5 [some (131, a0), some (0, a1), some (0, a2), some (0, a3)] [] h := by rfl
set_option maxRecDepth 100000 in
theorem qe_Ar_fill_31 {ρ : Type} (kr : Int → zH → Option ρ) (a0 a1 : Int) (h : zH) : Ar_fill_31 a0 a1 h kr = zseg zPP true (zcal []) (zget (999, 0, 0, 0) zc_Ar_fill_31) (zcut zu_Ar_fill_31) (zorc [(5, [some (131, none), some (0, none), some (0, none), some (0, none)], [], fun xs h => match xs with
  | [a0, a1, a2, a3] => Ar_fill_31_5 kr a0 a1 a2 a3 h
  | _ => none)]) kr (fun _ _ => none) 400 0 [some (131, a0), some (0, a1), none, none] [] h := by rfl
def zc_Ar_fill_32 : List zI := [(0, 0, 0, 0), (16, 0, 2, 0), (14, 0, 0, 132), (100, 0, 0, 32), (16, 0, 3, 0), (10, 0, 2, 0), (10, 0, 3, 0), (69, 13, 20, 0), (999, 0, 0, 0), (999, 0, 0, 0), (14, 0, 0, 132), (10, 0, 2, 0), (10, 0, 1, 0), (95, 0, 0, 32), (22, 1, 2, 0), (999, 0, 0, 0), (999, 0, 0, 0), (72, (-12), 5, 0), (999, 0, 0, 0), (999, 0, 0, 0), (133, 0, 0, 0)]
def zu_Ar_fill_32 : List (Nat × List Bool) := [(5, [true, true, true, true])]
set_option maxRecDepth 100000 in
theorem qe_Ar_fill_32_5b {ρ : Type} (kr : Int → zH → Option ρ) (r5 : Int → Int → Int → Int → zH → Option ρ) (a0 a1 a2 a3 : Int) (h : zH) : Ar_fill_32_5b kr r5 a0 a1 a2 a3 h = zseg zPP true (zcal []) (zget (999, 0, 0, 0) zc_Ar_fill_32) (zcut zu_Ar_fill_32) (zorc [(5, [some (132, none), some (0, none), some (0, none), some (0, none)], [], fun xs h => match xs with
  | [a0, a1, a2, a3] => r5 a0 a1 a2 a3 h
  | _ => none)]) kr (fun _ _ => none) 400 5 [some (132, a0), some (0, a1), some (0, a2), some (0, a3)] [] h := by rfl
set_option maxRecDepth 100000 in
theorem qe_Ar_fill_32 {ρ : Type} (kr : Int → zH → Option ρ) (a0 a1 : Int) (h : zH) : Ar_fill_32 a0 a1 h kr = zseg zPP true (zcal []) (zget (999, 0, 0, 0) zc_Ar_fill_32) (zcut zu_Ar_fill_32) (zorc [(5, [some (132, none), some (0, none), some (0, none), some (0, none)], [], fun xs h => match xs with
  | [a0, a1, a2, a3] => Ar_fill_32_5 kr a0 a1 a2 a3 h
  | _ => none)]) kr (fun _ _ => none) 400 0 [some (132, a0), some (0, a1), none, none] [] h := by rfl
def zc_Ar_fill_39 : List zI := [(0, 0, 0, 0), (16, 0, 2, 0), (14, 0, 0, 139), (100, 0, 0, 39), (16, 0, 3, 0), (10, 0, 2, 0), (10, 0, 3, 0), (69, 13, 20, 0), (999, 0, 0, 0), (999, 0, 0, 0), (14, 0, 0, 139), (10, 0, 2, 0), (10, 0, 1, 0), (95, 0, 0, 39), (22, 1, 2, 0), (999, 0, 0, 0), (999, 0, 0, 0), (72, (-12), 5, 0), (999, 0, 0, 0), (999, 0, 0, 0), (133, 0, 0, 0)]
def zu_Ar_fill_39 : List (Nat × List Bool) := [(5, [true, true, true, true])]
set_option maxRecDepth 100000 in
theorem qe_Ar_fill_39_5b {ρ : Type} (kr : Int → zH → Option ρ) (r5 : Int → Int → Int → Int → zH → Option ρ) (a0 a1 a2 a3 : Int) (h : zH) : Ar_fill_39_5b kr r5 a0 a1 a2 a3 h = zseg zPP true (zcal []) (zget (999, 0, 0, 0) zc_Ar_fill_39) (zcut zu_Ar_fill_39) (zorc [(5, [some (139, none), some (0, none), some (0, none), some (0, none)], [], fun xs h => match xs with
  | [a0, a1, a2, a3] => r5 a0 a1 a2 a3 h
  | _ => none)]) kr (fun _ _ => none) 400 5 [some (139, a0), some (0, a1), some (0, a2), some (0, a3)] [] h := by rfl
set_option maxRecDepth 100000 in
theorem qe_Ar_fill_39 {ρ : Type} (kr : Int → zH → Option ρ) (a0 a1 : Int) (h : zH) : Ar_fill_39 a0 a1 h kr = zseg zPP true (zcal []) (zget (999, 0, 0, 0) zc_Ar_fill_39) (zcut zu_Ar_fill_39) (zorc [(5, [some (139, none), some (0, none), some (0, none), some (0, none)], [], fun xs h => match xs with
  | [a0, a1, a2, a3] => Ar_fill_39_5 kr a0 a1 a2 a3 h
  | _ => none)]) kr (fun _ _ => none) 400 0 [some (139, a0), some (0, a1), none, none] [] h := by rfl
def zc_Ar_fill_40 : List zI := [(0, 0, 0, 0), (16, 0, 2, 0), (14, 0, 0, 140), (100, 0, 0, 40), (16, 0, 3, 0), (10, 0, 2, 0), (10, 0, 3, 0), (69, 13, 20, 0), (999, 0, 0, 0), (999, 0, 0, 0), (14, 0, 0, 140), (10, 0, 2, 0), (10, 0, 1, 0), (95, 0, 0, 40), (22, 1, 2, 0), (999, 0, 0, 0), (999, 0, 0, 0), (72, (-12), 5, 0), (999, 0, 0, 0), (999, 0, 0, 0), (133, 0, 0, 0)]
def zu_Ar_fill_40 : List (Nat × List Bool) := [(5, [true, true, true, true])]
set_option maxRecDepth 100000 in
theorem qe_Ar_fill_40_5b {ρ : Type} (kr : Int → zH → Option ρ) (r5 : Int → Int → Int → Int → zH → Option ρ) (a0 a1 a2 a3 : Int) (h : zH) : Ar_fill_40_5b kr r5 a0 a1 a2 a3 h = zseg zPP true (zcal []) (zget (999, 0, 0, 0) zc_Ar_fill_40) (zcut zu_Ar_fill_40) (zorc [(5, [some (140, none), some (0, none), some (0, none), some (0, none)], [], fun xs h => match xs with
  | [a0, a1, a2, a3] => r5 a0 a1 a2 a3 h
  | _ => none)]) kr (fun _ _ => none) 400 5 [some (140, a0), some (0, a1), some (0, a2), some (0, a3)] [] h := by rfl
set_option maxRecDepth 100000 in
theorem qe_Ar_fill_40 {ρ : Type} (kr : Int → zH → Option ρ) (a0 a1 : Int) (h : zH) : Ar_fill_40 a0 a1 h kr = zseg zPP true (zcal []) (zget (999, 0, 0, 0) zc_Ar_fill_40) (zcut zu_Ar_fill_40) (zorc [(5, [some (140, none), some (0, none), some (0, none), some (0, none)], [], fun xs h => match xs with
  | [a0, a1, a2, a3] => Ar_fill_40_5 kr a0 a1 a2 a3 h
  | _ => none)]) kr (fun _ _ => none) 400 0 [some (140, a0), some (0, a1), none, none] [] h := by rfl
def zc_Fi_init : List zI := [(14, 0, 0, 104), (117, 0, 1, 0), (999, 0, 0, 0), (999, 0, 0, 0), (133, 0, 0, 0)]
def zu_Fi_init : List (Nat × List Bool) := []
set_option maxRecDepth 100000 in
theorem qe_Fi_init {ρ : Type} (kr : Int → zH → Option ρ) (a0 : Int) (h : zH) : Fi_init a0 h kr = zseg zPP true (zcal []) (zget (999, 0, 0, 0) zc_Fi_init) (zcut zu_Fi_init) (zorc []) kr (fun _ _ => none) 400 0 [some (104, a0)] [] h := by rfl
def zc_Un_init : List zI := [(14, 0, 0, 103), (117, 0, 3, 0), (999, 0, 0, 0), (999, 0, 0, 0), (14, 0, 0, 103), (0, 4, 0, 0), (102, 0, 9, 26), (999, 0, 0, 0), (999, 0, 0, 0), (84, 3, 11, 0), (999, 0, 0, 0), (999, 0, 0, 0), (14, 0, 0, 103), (0, 2, 0, 0), (101, 0, 0, 27), (999, 0, 0, 0), (50, 0, 0, 0), (0, 0, 0, 0), (0, (-1), 0, 0), (95, 0, 0, 27), (50, 0, 0, 0), (0, 1, 0, 0), (0, (-1), 0, 0), (95, 0, 0, 27), (84, 3, 17, 1), (999, 0, 0, 0), (999, 0, 0, 0), (133, 0, 0, 0)]
def zu_Un_init : List (Nat × List Bool) := []
set_option maxRecDepth 100000 in
theorem qe_Un_init {ρ : Type} (kr : Int → zH → Option ρ) (a0 : Int) (h : zH) : Un_init a0 h kr = zseg zPP true (zcal []) (zget (999, 0, 0, 0) zc_Un_init) (zcut zu_Un_init) (zorc []) kr (fun _ _ => none) 400 0 [some (103, a0)] [] h := by rfl
def zc_Co_init : List zI := [(14, 0, 0, 102), (117, 0, 3, 0), (999, 0, 0, 0), (999, 0, 0, 0), (14, 0, 0, 102), (1, 64, 0, 0), (999, 0, 0, 0), (101, 0, 0, 22), (999, 0, 0, 0), (84, 2, 9, 1), (999, 0, 0, 0), (999, 0, 0, 0), (14, 0, 0, 102), (0, 2, 0, 0), (102, 0, 15, 23), (999, 0, 0, 0), (999, 0, 0, 0), (50, 0, 0, 0), (0, 0, 0, 0), (103, 0, 15, 3), (999, 0, 0, 0), (999, 0, 0, 0), (50, 0, 0, 0), (116, 0, 17, 276), (999, 0, 0, 0), (999, 0, 0, 0), (99, 0, 0, 23), (50, 0, 0, 0), (0, 1, 0, 0), (103, 0, 15, 3), (999, 0, 0, 0), (999, 0, 0, 0), (50, 0, 0, 0), (116, 0, 17, 276), (999, 0, 0, 0), (999, 0, 0, 0), (99, 0, 0, 23), (84, 2, 18, 2), (999, 0, 0, 0), (999, 0, 0, 0), (14, 0, 0, 102), (103, 0, 22, 4), (999, 0, 0, 0), (999, 0, 0, 0), (50, 0, 0, 0), (116, 0, 24, 201), (999, 0, 0, 0), (999, 0, 0, 0), (84, 2, 25, 3), (999, 0, 0, 0), (999, 0, 0, 0), (14, 0, 0, 102), (1, 111, 0, 0), (999, 0, 0, 0), (82, 2, 29, 5), (999, 0, 0, 0), (999, 0, 0, 0), (14, 0, 0, 102), (0, 4, 0, 0), (101, 0, 0, 24), (999, 0, 0, 0), (84, 2, 33, 6), (999, 0, 0, 0), (999, 0, 0, 0), (14, 0, 0, 102), (0, 4, 0, 0), (101, 0, 0, 25), (999, 0, 0, 0), (84, 2, 36, 7), (999, 0, 0, 0), (999, 0, 0, 0), (14, 0, 0, 102), (14, 0, 1, 101), (84, 2, 39, 0), (999, 0, 0, 0), (999, 0, 0, 0), (133, 0, 0, 0)]
def zu_Co_init : List (Nat × List Bool) := []
set_option maxRecDepth 100000 in
theorem qe_Co_init {ρ : Type} (kr : Int → zH → Option ρ) (a0 a1 : Int) (h : zH) : Co_init a0 a1 h kr = zseg zPP true (zcal [(201, [none], fun xs h kr kt => match xs with
  | [x0] => Fi_init x0 h kr
  | _ => none), (276, [none], fun xs h kr kt => match xs with
  | [x0] => Un_init x0 h kr
  | _ => none)]) (zget (999, 0, 0, 0) zc_Co_init) (zcut zu_Co_init) (zorc []) kr (fun _ _ => none) 400 0 [some (102, a0), some (101, a1)] [] h := by rfl
def zc_Le_init : List zI := [(14, 0, 0, 101), (117, 0, 3, 0), (999, 0, 0, 0), (999, 0, 0, 0), (14, 0, 0, 101), (0, 4, 0, 0), (102, 0, 9, 20), (999, 0, 0, 0), (999, 0, 0, 0), (84, 1, 11, 0), (999, 0, 0, 0), (999, 0, 0, 0), (14, 0, 0, 101), (1, 12, 0, 0), (999, 0, 0, 0), (102, 0, 17, 21), (999, 0, 0, 0), (999, 0, 0, 0), (84, 1, 19, 1), (999, 0, 0, 0), (999, 0, 0, 0), (133, 0, 0, 0)]
def zu_Le_init : List (Nat × List Bool) := []
set_option maxRecDepth 100000 in
theorem qe_Le_init {ρ : Type} (kr : Int → zH → Option ρ) (a0 : Int) (h : zH) : Le_init a0 h kr = zseg zPP true (zcal []) (zget (999, 0, 0, 0) zc_Le_init) (zcut zu_Le_init) (zorc []) kr (fun _ _ => none) 400 0 [some (101, a0)] [] h := by rfl
def zc_Th_init : List zI := [(14, 0, 0, 106), (117, 0, 3, 0), (999, 0, 0, 0), (999, 0, 0, 0), (14, 0, 0, 106), (10, 0, 1, 0), (84, 6, 9, 0), (999, 0, 0, 0), (999, 0, 0, 0), (14, 0, 0, 106), (10, 0, 2, 0), (0, 0, 0, 0), (113, 0, 15, 2), (999, 0, 0, 0), (999, 0, 0, 0), (101, 0, 0, 32), (999, 0, 0, 0), (84, 6, 21, 1), (999, 0, 0, 0), (999, 0, 0, 0), (133, 0, 0, 0)]
def zu_Th_init : List (Nat × List Bool) := []
set_option maxRecDepth 100000 in
theorem qe_Th_init {ρ : Type} (kr : Int → zH → Option ρ) (a0 a1 a2 : Int) (h : zH) : Th_init a0 a1 a2 h kr = zseg zPP true (zcal [(2, [none, none], fun xs h kr kt => match xs with
  | [x0, x1] => Ma_max x0 x1 h kr
  | _ => none)]) (zget (999, 0, 0, 0) zc_Th_init) (zcut zu_Th_init) (zorc []) kr (fun _ _ => none) 400 0 [some (106, a0), some (0, a1), some (0, a2)] [] h := by rfl
def zc_Re_init : List zI := [(14, 0, 0, 105), (117, 0, 3, 0), (999, 0, 0, 0), (999, 0, 0, 0), (14, 0, 0, 105), (1, 64, 0, 0), (999, 0, 0, 0), (101, 0, 0, 28), (999, 0, 0, 0), (84, 5, 9, 0), (999, 0, 0, 0), (999, 0, 0, 0), (14, 0, 0, 105), (1, 16, 0, 0), (999, 0, 0, 0), (101, 0, 0, 29), (999, 0, 0, 0), (84, 5, 15, 1), (999, 0, 0, 0), (999, 0, 0, 0), (14, 0, 0, 105), (1, 16, 0, 0), (999, 0, 0, 0), (102, 0, 18, 30), (999, 0, 0, 0), (999, 0, 0, 0), (84, 5, 20, 2), (999, 0, 0, 0), (999, 0, 0, 0), (14, 0, 0, 105), (1, 16, 0, 0), (999, 0, 0, 0), (101, 0, 0, 31), (999, 0, 0, 0), (84, 5, 24, 3), (999, 0, 0, 0), (999, 0, 0, 0), (0, 0, 0, 0), (16, 0, 1, 0), (10, 0, 1, 0), (14, 0, 0, 105), (80, 5, 20, 2), (999, 0, 0, 0), (999, 0, 0, 0), (100, 0, 0, 30), (69, 25, 70, 0), (999, 0, 0, 0), (999, 0, 0, 0), (14, 0, 0, 105), (80, 5, 20, 2), (999, 0, 0, 0), (999, 0, 0, 0), (10, 0, 1, 0), (103, 0, 18, 6), (999, 0, 0, 0), (999, 0, 0, 0), (50, 0, 0, 0), (10, 0, 1, 0), (1, 8, 0, 0), (999, 0, 0, 0), (115, 0, 27, 253), (999, 0, 0, 0), (999, 0, 0, 0), (99, 0, 0, 30), (22, 1, 1, 0), (999, 0, 0, 0), (999, 0, 0, 0), (72, (-28), 39, 0), (999, 0, 0, 0), (999, 0, 0, 0), (133, 0, 0, 0)]
def zu_Re_init : List (Nat × List Bool) := [(39, [true, true])]
set_option maxRecDepth 100000 in
theorem qe_Re_init_39b {ρ : Type} (kr : Int → zH → Option ρ) (r39 : Int → Int → zH → Option ρ) (a0 a1 : Int) (h : zH) : Re_init_39b kr r39 a0 a1 h = zseg zPP true (zcal [(253, [none, none, none], fun xs h kr kt => match xs with
  | [x0, x1, x2] => Th_init x0 x1 x2 h kr
  | _ => none)]) (zget (999, 0, 0, 0) zc_Re_init) (zcut zu_Re_init) (zorc [(39, [some (105, none), some (0, none)], [], fun xs h => match xs with
  | [a0, a1] => r39 a0 a1 h
  | _ => none)]) kr (fun _ _ => none) 400 39 [some (105, a0), some (0, a1)] [] h := by rfl
set_option maxRecDepth 100000 in
theorem qe_Re_init {ρ : Type} (kr : Int → zH → Option ρ) (a0 : Int) (h : zH) : Re_init a0 h kr = zseg zPP true (zcal []) (zget (999, 0, 0, 0) zc_Re_init) (zcut zu_Re_init) (zorc [(39, [some (105, none), some (0, none)], [], fun xs h => match xs with
  | [a0, a1] => Re_init_39 kr a0 a1 h
  | _ => none)]) kr (fun _ _ => none) 400 0 [some (105, a0), none] [] h := by rfl
def zc_X_init : List zI := [(14, 0, 0, 100), (117, 0, 1, 0), (999, 0, 0, 0), (999, 0, 0, 0), (14, 0, 0, 100), (103, 0, 7, 1), (999, 0, 0, 0), (999, 0, 0, 0), (50, 0, 0, 0), (116, 0, 9, 239), (999, 0, 0, 0), (999, 0, 0, 0), (84, 0, 10, 0), (999, 0, 0, 0), (999, 0, 0, 0), (14, 0, 0, 100), (103, 0, 16, 2), (999, 0, 0, 0), (999, 0, 0, 0), (50, 0, 0, 0), (14, 0, 0, 100), (80, 0, 10, 0), (999, 0, 0, 0), (999, 0, 0, 0), (115, 0, 18, 179), (999, 0, 0, 0), (999, 0, 0, 0), (84, 0, 21, 1), (999, 0, 0, 0), (999, 0, 0, 0), (14, 0, 0, 100), (103, 0, 25, 5), (999, 0, 0, 0), (999, 0, 0, 0), (50, 0, 0, 0), (115, 0, 27, 268), (999, 0, 0, 0), (999, 0, 0, 0), (84, 0, 28, 2), (999, 0, 0, 0), (999, 0, 0, 0), (133, 0, 0, 0)]
def zu_X_init : List (Nat × List Bool) := []
set_option maxRecDepth 100000 in
theorem qe_X_init {ρ : Type} (kr : Int → zH → Option ρ) (a0 : Int) (h : zH) : X_init a0 h kr = zseg zPP true (zcal [(179, [none, none], fun xs h kr kt => match xs with
  | [x0, x1] => Co_init x0 x1 h kr
  | _ => none), (239, [none], fun xs h kr kt => match xs with
  | [x0] => Le_init x0 h kr
  | _ => none), (268, [none], fun xs h kr kt => match xs with
  | [x0] => Re_init x0 h kr
  | _ => none)]) (zget (999, 0, 0, 0) zc_X_init) (zcut zu_X_init) (zorc []) kr (fun _ _ => none) 400 0 [some (100, a0)] [] h := by rfl
def zc_X_isWithin : List zI := [(10, 0, 0, 0), (10, 0, 1, 0), (68, 12, 14, 0), (999, 0, 0, 0), (999, 0, 0, 0), (10, 0, 0, 0), (10, 0, 2, 0), (70, 7, 14, 0), (999, 0, 0, 0), (999, 0, 0, 0), (0, 1, 0, 0), (72, 4, 15, 0), (999, 0, 0, 0), (999, 0, 0, 0), (0, 0, 0, 0), (130, 0, 1, 0)]
def zu_X_isWithin : List (Nat × List Bool) := [(14, [false, false, false]), (15, [false, false, false])]
set_option maxRecDepth 100000 in
theorem qe_X_isWithin_15 {ρ : Type} (kr : Int → zH → Option ρ) (t0 : Int) (h : zH) : X_isWithin_15 kr t0 h = zseg zPP true (zcal []) (zget (999, 0, 0, 0) zc_X_isWithin) (zcut zu_X_isWithin) (zorc []) kr (fun _ _ => none) 400 15 [none, none, none] [(0, t0)] h := by rfl
set_option maxRecDepth 100000 in
theorem qe_X_isWithin_14 {ρ : Type} (kr : Int → zH → Option ρ) (h : zH) : X_isWithin_14 kr h = zseg zPP true (zcal []) (zget (999, 0, 0, 0) zc_X_isWithin) (zcut zu_X_isWithin) (zorc [(15, [none, none, none], [(0, none)], fun xs h => match xs with
  | [t0] => X_isWithin_15 kr t0 h
  | _ => none)]) kr (fun _ _ => none) 400 14 [none, none, none] [] h := by rfl
set_option maxRecDepth 100000 in
theorem qe_X_isWithin {ρ : Type} (kr : Int → zH → Option ρ) (a0 a1 a2 : Int) (h : zH) : X_isWithin a0 a1 a2 h kr = zseg zPP true (zcal []) (zget (999, 0, 0, 0) zc_X_isWithin) (zcut zu_X_isWithin) (zorc [(14, [none, none, none], [], fun xs h => match xs with
  | [] => X_isWithin_14 kr h
  | _ => none), (15, [none, none, none], [(0, none)], fun xs h => match xs with
  | [t0] => X_isWithin_15 kr t0 h
  | _ => none)]) kr (fun _ _ => none) 400 0 [some (0, a0), some (0, a1), some (0, a2)] [] h := by rfl
def zc_Ke_init : List zI := [(14, 0, 0, 107), (117, 0, 3, 0), (999, 0, 0, 0), (999, 0, 0, 0), (14, 0, 0, 107), (1, 40, 0, 0), (999, 0, 0, 0), (102, 0, 9, 33), (999, 0, 0, 0), (999, 0, 0, 0), (84, 7, 11, 2), (999, 0, 0, 0), (999, 0, 0, 0), (14, 0, 0, 107), (10, 0, 1, 0), (84, 7, 17, 0), (999, 0, 0, 0), (999, 0, 0, 0), (14, 0, 0, 107), (10, 0, 2, 0), (84, 7, 21, 1), (999, 0, 0, 0), (999, 0, 0, 0), (133, 0, 0, 0)]
def zu_Ke_init : List (Nat × List Bool) := []
set_option maxRecDepth 100000 in
theorem qe_Ke_init {ρ : Type} (kr : Int → zH → Option ρ) (a0 a1 a2 : Int) (h : zH) : Ke_init a0 a1 a2 h kr = zseg zPP true (zcal []) (zget (999, 0, 0, 0) zc_Ke_init) (zcut zu_Ke_init) (zorc []) kr (fun _ _ => none) 400 0 [some (107, a0), some (0, a1), some (0, a2)] [] h := by rfl
def zc_Le_enterKernel : List zI := [(14, 0, 0, 101), (80, 1, 23, 2), (999, 0, 0, 0), (999, 0, 0, 0), (14, 0, 0, 101), (80, 1, 11, 0), (999, 0, 0, 0), (999, 0, 0, 0), (100, 0, 0, 20), (69, 23, 32, 0), (999, 0, 0, 0), (999, 0, 0, 0), (14, 0, 0, 101), (80, 1, 11, 0), (999, 0, 0, 0), (999, 0, 0, 0), (14, 0, 0, 101), (80, 1, 23, 2), (999, 0, 0, 0), (999, 0, 0, 0), (14, 0, 1, 107), (99, 0, 0, 20), (14, 0, 0, 101), (50, 0, 0, 0), (80, 1, 23, 2), (999, 0, 0, 0), (999, 0, 0, 0), (0, 1, 0, 0), (30, 0, 0, 0), (82, 1, 23, 2), (999, 0, 0, 0), (999, 0, 0, 0), (14, 0, 0, 101), (80, 1, 23, 2), (999, 0, 0, 0), (999, 0, 0, 0), (0, 1, 0, 0), (31, 0, 0, 0), (130, 0, 0, 0)]
def zu_Le_enterKernel : List (Nat × List Bool) := [(32, [true, false])]
set_option maxRecDepth 100000 in
theorem qe_Le_enterKernel_32 {ρ : Type} (kr : Int → zH → Option ρ) (a0 : Int) (h : zH) : Le_enterKernel_32 kr a0 h = zseg zPP true (zcal []) (zget (999, 0, 0, 0) zc_Le_enterKernel) (zcut zu_Le_enterKernel) (zorc []) kr (fun _ _ => none) 400 32 [some (101, a0), none] [] h := by rfl
set_option maxRecDepth 100000 in
theorem qe_Le_enterKernel {ρ : Type} (kr : Int → zH → Option ρ) (a0 a1 : Int) (h : zH) : Le_enterKernel a0 a1 h kr = zseg zPP true (zcal []) (zget (999, 0, 0, 0) zc_Le_enterKernel) (zcut zu_Le_enterKernel) (zorc [(32, [some (101, none), none], [], fun xs h => match xs with
  | [a0] => Le_enterKernel_32 kr a0 h
  | _ => none)]) kr (fun _ _ => none) 400 0 [some (101, a0), some (107, a1)] [] h := by rfl
def zc_X_addKernel : List zI := [(10, 0, 1, 0), (0, 1, 0, 0), (1, 8, 0, 0), (999, 0, 0, 0), (113, 0, 32, 54), (999, 0, 0, 0), (999, 0, 0, 0), (60, 13, 20, 0), (999, 0, 0, 0), (999, 0, 0, 0), (10, 0, 2, 0), (0, 0, 0, 0), (1, 16, 0, 0), (999, 0, 0, 0), (113, 0, 32, 54), (999, 0, 0, 0), (999, 0, 0, 0), (61, 11, 28, 0), (999, 0, 0, 0), (999, 0, 0, 0), (134, 38, 36, 1), (999, 0, 0, 0), (999, 0, 0, 0), (999, 0, 0, 0), (999, 0, 0, 0), (999, 0, 0, 0), (999, 0, 0, 0), (999, 0, 0, 0), (14, 0, 0, 100), (80, 0, 10, 0), (999, 0, 0, 0), (999, 0, 0, 0), (80, 1, 39, 2), (999, 0, 0, 0), (999, 0, 0, 0), (0, 4, 0, 0), (68, 11, 47, 0), (999, 0, 0, 0), (999, 0, 0, 0), (134, 45, 43, 2), (999, 0, 0, 0), (999, 0, 0, 0), (999, 0, 0, 0), (999, 0, 0, 0), (999, 0, 0, 0), (999, 0, 0, 0), (999, 0, 0, 0), (14, 0, 0, 100), (80, 0, 10, 0), (999, 0, 0, 0), (999, 0, 0, 0), (103, 0, 46, 7), (999, 0, 0, 0), (999, 0, 0, 0), (50, 0, 0, 0), (10, 0, 1, 0), (10, 0, 2, 0), (115, 0, 48, 222), (999, 0, 0, 0), (999, 0, 0, 0), (110, 0, 51, 242), (999, 0, 0, 0), (999, 0, 0, 0), (130, 0, 0, 0)]
def zu_X_addKernel : List (Nat × List Bool) := [(20, [false, false, false])]
set_option maxRecDepth 100000 in
theorem qe_X_addKernel_20 {ρ : Type} (kr : Int → zH → Option ρ) (kt : Nat → zH → Option ρ) (h : zH) : X_addKernel_20 kr kt h = zseg zPP true (zcal []) (zget (999, 0, 0, 0) zc_X_addKernel) (zcut zu_X_addKernel) (zorc []) kr kt 400 20 [none, none, none] [] h := by rfl
set_option maxRecDepth 100000 in
theorem qe_X_addKernel {ρ : Type} (kr : Int → zH → Option ρ) (kt : Nat → zH → Option ρ) (a0 a1 a2 : Int) (h : zH) : X_addKernel a0 a1 a2 h kr kt = zseg zPP true (zcal [(54, [none, none, none], fun xs h kr kt => match xs with
  | [x0, x1, x2] => X_isWithin x0 x1 x2 h kr
  | _ => none), (222, [none, none, none], fun xs h kr kt => match xs with
  | [x0, x1, x2] => Ke_init x0 x1 x2 h kr
  | _ => none), (242, [none, none], fun xs h kr kt => match xs with
  | [x0, x1] => Le_enterKernel x0 x1 h kr
  | _ => none)]) (zget (999, 0, 0, 0) zc_X_addKernel) (zcut zu_X_addKernel) (zorc [(20, [none, none, none], [], fun xs h => match xs with
  | [] => X_addKernel_20 kr kt h
  | _ => none)]) kr kt 400 0 [some (100, a0), some (0, a1), some (0, a2)] [] h := by rfl
def zc_Le_kernelOf : List zI := [(10, 0, 1, 0), (0, 0, 0, 0), (14, 0, 0, 101), (80, 1, 23, 2), (999, 0, 0, 0), (999, 0, 0, 0), (0, 1, 0, 0), (31, 0, 0, 0), (114, 0, 27, 54), (999, 0, 0, 0), (999, 0, 0, 0), (60, 12, 23, 0), (999, 0, 0, 0), (999, 0, 0, 0), (14, 0, 0, 101), (80, 1, 11, 0), (999, 0, 0, 0), (999, 0, 0, 0), (10, 0, 1, 0), (94, 0, 0, 20), (72, 4, 24, 0), (999, 0, 0, 0), (999, 0, 0, 0), (7, 0, 0, 107), (132, 0, 0, 107)]
def zu_Le_kernelOf : List (Nat × List Bool) := [(24, [false, false])]
set_option maxRecDepth 100000 in
theorem qe_Le_kernelOf_24 {ρ : Type} (kr : Int → zH → Option ρ) (t0 : Int) (h : zH) : Le_kernelOf_24 kr t0 h = zseg zPP true (zcal []) (zget (999, 0, 0, 0) zc_Le_kernelOf) (zcut zu_Le_kernelOf) (zorc []) kr (fun _ _ => none) 400 24 [none, none] [(107, t0)] h := by rfl
set_option maxRecDepth 100000 in
theorem qe_Le_kernelOf {ρ : Type} (kr : Int → zH → Option ρ) (a0 a1 : Int) (h : zH) : Le_kernelOf a0 a1 h kr = zseg zPP true (zcal [(54, [none, none, none], fun xs h kr kt => match xs with
  | [x0, x1, x2] => X_isWithin x0 x1 x2 h kr
  | _ => none)]) (zget (999, 0, 0, 0) zc_Le_kernelOf) (zcut zu_Le_kernelOf) (zorc [(24, [none, none], [(107, none)], fun xs h => match xs with
  | [t0] => Le_kernelOf_24 kr t0 h
  | _ => none)]) kr (fun _ _ => none) 400 0 [some (101, a0), some (0, a1)] [] h := by rfl
def zc_X_kernelAt : List zI := [(14, 0, 0, 100), (80, 0, 10, 0), (999, 0, 0, 0), (999, 0, 0, 0), (10, 0, 1, 0), (110, 0, 294, 240), (999, 0, 0, 0), (999, 0, 0, 0), (20, 0, 2, 107), (14, 0, 2, 107), (74, 11, 21, 0), (999, 0, 0, 0), (999, 0, 0, 0), (134, 89, 87, 3), (999, 0, 0, 0), (999, 0, 0, 0), (999, 0, 0, 0), (999, 0, 0, 0), (999, 0, 0, 0), (999, 0, 0, 0), (999, 0, 0, 0), (14, 0, 2, 107), (132, 0, 0, 107)]
def zu_X_kernelAt : List (Nat × List Bool) := []
set_option maxRecDepth 100000 in
theorem qe_X_kernelAt {ρ : Type} (kr : Int → zH → Option ρ) (kt : Nat → zH → Option ρ) (a0 a1 : Int) (h : zH) : X_kernelAt a0 a1 h kr kt = zseg zPP true (zcal [(240, [none, none], fun xs h kr kt => match xs with
  | [x0, x1] => Le_kernelOf x0 x1 h kr
  | _ => none)]) (zget (999, 0, 0, 0) zc_X_kernelAt) (zcut zu_X_kernelAt) (zorc []) kr kt 400 0 [some (100, a0), some (0, a1), none] [] h := by rfl
def zc_In_init : List zI := [(14, 0, 0, 108), (117, 0, 3, 0), (999, 0, 0, 0), (999, 0, 0, 0), (14, 0, 0, 108), (10, 0, 1, 0), (84, 8, 9, 0), (999, 0, 0, 0), (999, 0, 0, 0), (14, 0, 0, 108), (10, 0, 2, 0), (84, 8, 15, 1), (999, 0, 0, 0), (999, 0, 0, 0), (14, 0, 0, 108), (10, 0, 3, 0), (84, 8, 19, 2), (999, 0, 0, 0), (999, 0, 0, 0), (14, 0, 0, 108), (11, 0, 4, 0), (999, 0, 0, 0), (84, 8, 22, 3), (999, 0, 0, 0), (999, 0, 0, 0), (133, 0, 0, 0)]
def zu_In_init : List (Nat × List Bool) := []
set_option maxRecDepth 100000 in
theorem qe_In_init {ρ : Type} (kr : Int → zH → Option ρ) (a0 a1 a2 a3 a4 : Int) (h : zH) : In_init a0 a1 a2 a3 a4 h kr = zseg zPP true (zcal []) (zget (999, 0, 0, 0) zc_In_init) (zcut zu_In_init) (zorc []) kr (fun _ _ => none) 400 0 [some (108, a0), some (0, a1), some (0, a2), some (0, a3), some (0, a4)] [] h := by rfl
def zc_In_isOneOf : List zI := [(14, 0, 1, 3), (14, 0, 0, 108), (80, 8, 9, 0), (999, 0, 0, 0), (999, 0, 0, 0), (120, 0, 25, 0), (999, 0, 0, 0), (999, 0, 0, 0), (62, 7, 15, 0), (999, 0, 0, 0), (999, 0, 0, 0), (0, 1, 0, 0), (72, 4, 16, 0), (999, 0, 0, 0), (999, 0, 0, 0), (0, 0, 0, 0), (130, 0, 1, 0)]
def zu_In_isOneOf : List (Nat × List Bool) := [(16, [false, false])]
set_option maxRecDepth 100000 in
theorem qe_In_isOneOf_16 {ρ : Type} (kr : Int → zH → Option ρ) (t0 : Int) (h : zH) : In_isOneOf_16 kr t0 h = zseg zPP true (zcal []) (zget (999, 0, 0, 0) zc_In_isOneOf) (zcut zu_In_isOneOf) (zorc []) kr (fun _ _ => none) 400 16 [none, none] [(0, t0)] h := by rfl
set_option maxRecDepth 100000 in
theorem qe_In_isOneOf {ρ : Type} (kr : Int → zH → Option ρ) (a0 a1 : Int) (h : zH) : In_isOneOf a0 a1 h kr = zseg zPP true (zcal []) (zget (999, 0, 0, 0) zc_In_isOneOf) (zcut zu_In_isOneOf) (zorc [(16, [none, none], [(0, none)], fun xs h => match xs with
  | [t0] => In_isOneOf_16 kr t0 h
  | _ => none)]) kr (fun _ _ => none) 400 0 [some (108, a0), some (3, a1)] [] h := by rfl
def zc_Ke_hasRegister : List zI := [(10, 0, 1, 0), (0, 0, 0, 0), (14, 0, 0, 107), (80, 7, 17, 0), (999, 0, 0, 0), (999, 0, 0, 0), (0, 1, 0, 0), (31, 0, 0, 0), (114, 0, 27, 54), (999, 0, 0, 0), (999, 0, 0, 0), (130, 0, 1, 0)]
def zu_Ke_hasRegister : List (Nat × List Bool) := []
set_option maxRecDepth 100000 in
theorem qe_Ke_hasRegister {ρ : Type} (kr : Int → zH → Option ρ) (a0 a1 : Int) (h : zH) : Ke_hasRegister a0 a1 h kr = zseg zPP true (zcal [(54, [none, none, none], fun xs h kr kt => match xs with
  | [x0, x1, x2] => X_isWithin x0 x1 x2 h kr
  | _ => none)]) (zget (999, 0, 0, 0) zc_Ke_hasRegister) (zcut zu_Ke_hasRegister) (zorc []) kr (fun _ _ => none) 400 0 [some (107, a0), some (0, a1)] [] h := by rfl
def zc_In_isAllowed : List zI := [(14, 0, 0, 108), (8, 4, 31, 0), (999, 0, 0, 0), (110, 0, 33, 219), (999, 0, 0, 0), (999, 0, 0, 0), (60, 63, 69, 0), (999, 0, 0, 0), (999, 0, 0, 0), (14, 0, 0, 108), (8, 5, 37, 0), (999, 0, 0, 0), (110, 0, 33, 219), (999, 0, 0, 0), (999, 0, 0, 0), (60, 14, 29, 0), (999, 0, 0, 0), (999, 0, 0, 0), (14, 0, 1, 107), (14, 0, 0, 108), (80, 8, 15, 1), (999, 0, 0, 0), (999, 0, 0, 0), (110, 0, 39, 225), (999, 0, 0, 0), (999, 0, 0, 0), (60, 43, 69, 0), (999, 0, 0, 0), (999, 0, 0, 0), (14, 0, 0, 108), (8, 6, 45, 0), (999, 0, 0, 0), (110, 0, 33, 219), (999, 0, 0, 0), (999, 0, 0, 0), (60, 14, 49, 0), (999, 0, 0, 0), (999, 0, 0, 0), (14, 0, 1, 107), (14, 0, 0, 108), (80, 8, 19, 2), (999, 0, 0, 0), (999, 0, 0, 0), (110, 0, 39, 225), (999, 0, 0, 0), (999, 0, 0, 0), (60, 23, 69, 0), (999, 0, 0, 0), (999, 0, 0, 0), (14, 0, 0, 108), (8, 7, 47, 0), (999, 0, 0, 0), (110, 0, 33, 219), (999, 0, 0, 0), (999, 0, 0, 0), (60, 16, 71, 0), (999, 0, 0, 0), (999, 0, 0, 0), (14, 0, 1, 107), (14, 0, 0, 108), (80, 8, 22, 3), (999, 0, 0, 0), (999, 0, 0, 0), (110, 0, 39, 225), (999, 0, 0, 0), (999, 0, 0, 0), (61, 5, 71, 0), (999, 0, 0, 0), (999, 0, 0, 0), (0, 0, 0, 0), (130, 0, 1, 0), (14, 0, 0, 108), (8, 8, 49, 0), (999, 0, 0, 0), (110, 0, 33, 219), (999, 0, 0, 0), (999, 0, 0, 0), (60, 14, 91, 0), (999, 0, 0, 0), (999, 0, 0, 0), (14, 0, 0, 108), (80, 8, 19, 2), (999, 0, 0, 0), (999, 0, 0, 0), (0, 0, 0, 0), (1, 39, 0, 0), (999, 0, 0, 0), (114, 0, 51, 54), (999, 0, 0, 0), (999, 0, 0, 0), (130, 0, 1, 0), (14, 0, 0, 108), (80, 8, 9, 0), (999, 0, 0, 0), (999, 0, 0, 0), (1, 99, 0, 0), (999, 0, 0, 0), (67, 15, 112, 0), (999, 0, 0, 0), (999, 0, 0, 0), (14, 0, 0, 108), (80, 8, 19, 2), (999, 0, 0, 0), (999, 0, 0, 0), (0, 0, 0, 0), (0, 3, 0, 0), (114, 0, 51, 54), (999, 0, 0, 0), (999, 0, 0, 0), (60, 7, 116, 0), (999, 0, 0, 0), (999, 0, 0, 0), (0, 1, 0, 0), (72, 4, 117, 0), (999, 0, 0, 0), (999, 0, 0, 0), (0, 0, 0, 0), (130, 0, 1, 0)]
def zu_In_isAllowed : List (Nat × List Bool) := [(29, [true, true]), (49, [true, true]), (69, [false, false]), (71, [true, false]), (112, [false, false]), (117, [false, false])]
set_option maxRecDepth 100000 in
theorem qe_In_isAllowed_69 {ρ : Type} (kr : Int → zH → Option ρ) (h : zH) : In_isAllowed_69 kr h = zseg zPP true (zcal []) (zget (999, 0, 0, 0) zc_In_isAllowed) (zcut zu_In_isAllowed) (zorc []) kr (fun _ _ => none) 400 69 [none, none] [] h := by rfl
set_option maxRecDepth 100000 in
theorem qe_In_isAllowed_117 {ρ : Type} (kr : Int → zH → Option ρ) (t0 : Int) (h : zH) : In_isAllowed_117 kr t0 h = zseg zPP true (zcal []) (zget (999, 0, 0, 0) zc_In_isAllowed) (zcut zu_In_isAllowed) (zorc []) kr (fun _ _ => none) 400 117 [none, none] [(0, t0)] h := by rfl
set_option maxRecDepth 100000 in
theorem qe_In_isAllowed_112 {ρ : Type} (kr : Int → zH → Option ρ) (h : zH) : In_isAllowed_112 kr h = zseg zPP true (zcal []) (zget (999, 0, 0, 0) zc_In_isAllowed) (zcut zu_In_isAllowed) (zorc [(117, [none, none], [(0, none)], fun xs h => match xs with
  | [t0] => In_isAllowed_117 kr t0 h
  | _ => none)]) kr (fun _ _ => none) 400 112 [none, none] [] h := by rfl
set_option maxRecDepth 100000 in
theorem qe_In_isAllowed_71 {ρ : Type} (kr : Int → zH → Option ρ) (a0 : Int) (h : zH) : In_isAllowed_71 kr a0 h = zseg zPP true (zcal [(54, [none, none, none], fun xs h kr kt => match xs with
  | [x0, x1, x2] => X_isWithin x0 x1 x2 h kr
  | _ => none), (219, [none, none], fun xs h kr kt => match xs with
  | [x0, x1] => In_isOneOf x0 x1 h kr
  | _ => none)]) (zget (999, 0, 0, 0) zc_In_isAllowed) (zcut zu_In_isAllowed) (zorc [(112, [none, none], [], fun xs h => match xs with
  | [] => In_isAllowed_112 kr h
  | _ => none), (117, [none, none], [(0, none)], fun xs h => match xs with
  | [t0] => In_isAllowed_117 kr t0 h
  | _ => none)]) kr (fun _ _ => none) 400 71 [some (108, a0), none] [] h := by rfl
set_option maxRecDepth 100000 in
theorem qe_In_isAllowed_49 {ρ : Type} (kr : Int → zH → Option ρ) (a0 a1 : Int) (h : zH) : In_isAllowed_49 kr a0 a1 h = zseg zPP true (zcal [(219, [none, none], fun xs h kr kt => match xs with
  | [x0, x1] => In_isOneOf x0 x1 h kr
  | _ => none), (225, [none, none], fun xs h kr kt => match xs with
  | [x0, x1] => Ke_hasRegister x0 x1 h kr
  | _ => none)]) (zget (999, 0, 0, 0) zc_In_isAllowed) (zcut zu_In_isAllowed) (zorc [(69, [none, none], [], fun xs h => match xs with
  | [] => In_isAllowed_69 kr h
  | _ => none), (71, [some (108, none), none], [], fun xs h => match xs with
  | [a0] => In_isAllowed_71 kr a0 h
  | _ => none)]) kr (fun _ _ => none) 400 49 [some (108, a0), some (107, a1)] [] h := by rfl
set_option maxRecDepth 100000 in
theorem qe_In_isAllowed_29 {ρ : Type} (kr : Int → zH → Option ρ) (a0 a1 : Int) (h : zH) : In_isAllowed_29 kr a0 a1 h = zseg zPP true (zcal [(219, [none, none], fun xs h kr kt => match xs with
  | [x0, x1] => In_isOneOf x0 x1 h kr
  | _ => none), (225, [none, none], fun xs h kr kt => match xs with
  | [x0, x1] => Ke_hasRegister x0 x1 h kr
  | _ => none)]) (zget (999, 0, 0, 0) zc_In_isAllowed) (zcut zu_In_isAllowed) (zorc [(49, [some (108, none), some (107, none)], [], fun xs h => match xs with
  | [a0, a1] => In_isAllowed_49 kr a0 a1 h
  | _ => none), (69, [none, none], [], fun xs h => match xs with
  | [] => In_isAllowed_69 kr h
  | _ => none)]) kr (fun _ _ => none) 400 29 [some (108, a0), some (107, a1)] [] h := by rfl
set_option maxRecDepth 100000 in
theorem qe_In_isAllowed {ρ : Type} (kr : Int → zH → Option ρ) (a0 a1 : Int) (h : zH) : In_isAllowed a0 a1 h kr = zseg zPP true (zcal [(219, [none, none], fun xs h kr kt => match xs with
  | [x0, x1] => In_isOneOf x0 x1 h kr
  | _ => none), (225, [none, none], fun xs h kr kt => match xs with
  | [x0, x1] => Ke_hasRegister x0 x1 h kr
  | _ => none)]) (zget (999, 0, 0, 0) zc_In_isAllowed) (zcut zu_In_isAllowed) (zorc [(29, [some (108, none), some (107, none)], [], fun xs h => match xs with
  | [a0, a1] => In_isAllowed_29 kr a0 a1 h
  | _ => none), (69, [none, none], [], fun xs h => match xs with
  | [] => In_isAllowed_69 kr h
  | _ => none)]) kr (fun _ _ => none) 400 0 [some (108, a0), some (107, a1)] [] h := by rfl
def zc_Ke_append : List zI := [(14, 0, 0, 107), (80, 7, 24, 3), (999, 0, 0, 0), (999, 0, 0, 0), (14, 0, 0, 107), (80, 7, 11, 2), (999, 0, 0, 0), (999, 0, 0, 0), (100, 0, 0, 33), (69, 23, 32, 0), (999, 0, 0, 0), (999, 0, 0, 0), (14, 0, 0, 107), (80, 7, 11, 2), (999, 0, 0, 0), (999, 0, 0, 0), (14, 0, 0, 107), (80, 7, 24, 3), (999, 0, 0, 0), (999, 0, 0, 0), (14, 0, 1, 108), (99, 0, 0, 33), (14, 0, 0, 107), (50, 0, 0, 0), (80, 7, 24, 3), (999, 0, 0, 0), (999, 0, 0, 0), (0, 1, 0, 0), (30, 0, 0, 0), (82, 7, 24, 3), (999, 0, 0, 0), (999, 0, 0, 0), (14, 0, 0, 107), (80, 7, 24, 3), (999, 0, 0, 0), (999, 0, 0, 0), (0, 1, 0, 0), (31, 0, 0, 0), (130, 0, 0, 0)]
def zu_Ke_append : List (Nat × List Bool) := [(32, [true, false])]
set_option maxRecDepth 100000 in
theorem qe_Ke_append_32 {ρ : Type} (kr : Int → zH → Option ρ) (a0 : Int) (h : zH) : Ke_append_32 kr a0 h = zseg zPP true (zcal []) (zget (999, 0, 0, 0) zc_Ke_append) (zcut zu_Ke_append) (zorc []) kr (fun _ _ => none) 400 32 [some (107, a0), none] [] h := by rfl
set_option maxRecDepth 100000 in
theorem qe_Ke_append {ρ : Type} (kr : Int → zH → Option ρ) (a0 a1 : Int) (h : zH) : Ke_append a0 a1 h kr = zseg zPP true (zcal []) (zget (999, 0, 0, 0) zc_Ke_append) (zcut zu_Ke_append) (zorc [(32, [some (107, none), none], [], fun xs h => match xs with
  | [a0] => Ke_append_32 kr a0 h
  | _ => none)]) kr (fun _ _ => none) 400 0 [some (107, a0), some (108, a1)] [] h := by rfl
def zc_X_code : List zI := [(14, 0, 0, 100), (10, 0, 1, 0), (110, 0, 55, 47), (999, 0, 0, 0), (999, 0, 0, 0), (21, 0, 6, 107), (999, 0, 0, 0), (103, 0, 59, 8), (999, 0, 0, 0), (999, 0, 0, 0), (50, 0, 0, 0), (10, 0, 2, 0), (10, 0, 3, 0), (11, 0, 4, 0), (999, 0, 0, 0), (11, 0, 5, 0), (999, 0, 0, 0), (115, 0, 61, 218), (999, 0, 0, 0), (999, 0, 0, 0), (21, 0, 7, 108), (999, 0, 0, 0), (15, 0, 7, 108), (999, 0, 0, 0), (15, 0, 6, 107), (999, 0, 0, 0), (110, 0, 64, 220), (999, 0, 0, 0), (999, 0, 0, 0), (61, 11, 40, 0), (999, 0, 0, 0), (999, 0, 0, 0), (134, 38, 36, 1), (999, 0, 0, 0), (999, 0, 0, 0), (999, 0, 0, 0), (999, 0, 0, 0), (999, 0, 0, 0), (999, 0, 0, 0), (999, 0, 0, 0), (15, 0, 6, 107), (999, 0, 0, 0), (80, 7, 68, 3), (999, 0, 0, 0), (999, 0, 0, 0), (1, 40, 0, 0), (999, 0, 0, 0), (69, 11, 58, 0), (999, 0, 0, 0), (999, 0, 0, 0), (15, 0, 6, 107), (999, 0, 0, 0), (80, 7, 71, 4), (999, 0, 0, 0), (999, 0, 0, 0), (60, 11, 66, 0), (999, 0, 0, 0), (999, 0, 0, 0), (134, 45, 43, 2), (999, 0, 0, 0), (999, 0, 0, 0), (999, 0, 0, 0), (999, 0, 0, 0), (999, 0, 0, 0), (999, 0, 0, 0), (999, 0, 0, 0), (15, 0, 6, 107), (999, 0, 0, 0), (15, 0, 7, 108), (999, 0, 0, 0), (110, 0, 75, 223), (999, 0, 0, 0), (999, 0, 0, 0), (130, 0, 0, 0)]
def zu_X_code : List (Nat × List Bool) := [(58, [false, false, false, false, false, false, false, false])]
set_option maxRecDepth 100000 in
theorem qe_X_code_58 {ρ : Type} (kr : Int → zH → Option ρ) (kt : Nat → zH → Option ρ) (h : zH) : X_code_58 kr kt h = zseg zPP true (zcal []) (zget (999, 0, 0, 0) zc_X_code) (zcut zu_X_code) (zorc []) kr kt 400 58 [none, none, none, none, none, none, none, none] [] h := by rfl
set_option maxRecDepth 100000 in
theorem qe_X_code {ρ : Type} (kr : Int → zH → Option ρ) (kt : Nat → zH → Option ρ) (a0 a1 a2 a3 a4 a5 : Int) (h : zH) : X_code a0 a1 a2 a3 a4 a5 h kr kt = zseg zPP true (zcal [(47, [none, none], fun xs h kr kt => match xs with
  | [x0, x1] => X_kernelAt x0 x1 h kr kt
  | _ => none), (218, [none, none, none, none, none], fun xs h kr kt => match xs with
  | [x0, x1, x2, x3, x4] => In_init x0 x1 x2 x3 x4 h kr
  | _ => none), (220, [none, none], fun xs h kr kt => match xs with
  | [x0, x1] => In_isAllowed x0 x1 h kr
  | _ => none), (223, [none, none], fun xs h kr kt => match xs with
  | [x0, x1] => Ke_append x0 x1 h kr
  | _ => none)]) (zget (999, 0, 0, 0) zc_X_code) (zcut zu_X_code) (zorc [(58, [none, none, none, none, none, none, none, none], [], fun xs h => match xs with
  | [] => X_code_58 kr kt h
  | _ => none)]) kr kt 400 0 [some (100, a0), some (0, a1), some (0, a2), some (0, a3), some (0, a4), some (0, a5), none, none] [] h := by rfl
def zc_X_groupsFor : List zI := [(10, 0, 0, 0), (0, 4, 0, 0), (30, 0, 0, 0), (0, 1, 0, 0), (31, 0, 0, 0), (0, 4, 0, 0), (33, 0, 0, 0), (130, 0, 0, 0)]
def zu_X_groupsFor : List (Nat × List Bool) := []
set_option maxRecDepth 100000 in
theorem qe_X_groupsFor {ρ : Type} (kr : Int → zH → Option ρ) (a0 : Int) (h : zH) : X_groupsFor a0 h kr = zseg zPP true (zcal []) (zget (999, 0, 0, 0) zc_X_groupsFor) (zcut zu_X_groupsFor) (zorc []) kr (fun _ _ => none) 400 0 [some (0, a0)] [] h := by rfl
def zc_Ke_blocksInUnit : List zI := [(10, 0, 1, 0), (0, 1, 0, 0), (1, 16, 0, 0), (999, 0, 0, 0), (114, 0, 27, 54), (999, 0, 0, 0), (999, 0, 0, 0), (60, 11, 18, 0), (999, 0, 0, 0), (999, 0, 0, 0), (14, 0, 0, 107), (80, 7, 17, 0), (999, 0, 0, 0), (999, 0, 0, 0), (0, 1, 0, 0), (69, 5, 20, 0), (999, 0, 0, 0), (999, 0, 0, 0), (0, 0, 0, 0), (130, 0, 0, 0), (0, 4, 0, 0), (10, 0, 1, 0), (114, 0, 35, 57), (999, 0, 0, 0), (999, 0, 0, 0), (33, 0, 0, 0), (1, 64, 0, 0), (999, 0, 0, 0), (10, 0, 1, 0), (14, 0, 0, 107), (80, 7, 17, 0), (999, 0, 0, 0), (999, 0, 0, 0), (32, 0, 0, 0), (33, 0, 0, 0), (113, 0, 39, 3), (999, 0, 0, 0), (999, 0, 0, 0), (16, 0, 2, 0), (14, 0, 0, 107), (80, 7, 21, 1), (999, 0, 0, 0), (999, 0, 0, 0), (0, 1, 0, 0), (69, 7, 51, 0), (999, 0, 0, 0), (999, 0, 0, 0), (10, 0, 2, 0), (72, 14, 62, 0), (999, 0, 0, 0), (999, 0, 0, 0), (10, 0, 2, 0), (1, 32, 0, 0), (999, 0, 0, 0), (14, 0, 0, 107), (80, 7, 21, 1), (999, 0, 0, 0), (999, 0, 0, 0), (33, 0, 0, 0), (113, 0, 39, 3), (999, 0, 0, 0), (999, 0, 0, 0), (130, 0, 0, 0)]
def zu_Ke_blocksInUnit : List (Nat × List Bool) := [(18, [false, false, false]), (62, [false, false, false])]
set_option maxRecDepth 100000 in
theorem qe_Ke_blocksInUnit_18 {ρ : Type} (kr : Int → zH → Option ρ) (h : zH) : Ke_blocksInUnit_18 kr h = zseg zPP true (zcal []) (zget (999, 0, 0, 0) zc_Ke_blocksInUnit) (zcut zu_Ke_blocksInUnit) (zorc []) kr (fun _ _ => none) 400 18 [none, none, none] [] h := by rfl
set_option maxRecDepth 100000 in
theorem qe_Ke_blocksInUnit_62 {ρ : Type} (kr : Int → zH → Option ρ) (t0 : Int) (h : zH) : Ke_blocksInUnit_62 kr t0 h = zseg zPP true (zcal []) (zget (999, 0, 0, 0) zc_Ke_blocksInUnit) (zcut zu_Ke_blocksInUnit) (zorc []) kr (fun _ _ => none) 400 62 [none, none, none] [(0, t0)] h := by rfl
set_option maxRecDepth 100000 in
theorem qe_Ke_blocksInUnit {ρ : Type} (kr : Int → zH → Option ρ) (a0 a1 : Int) (h : zH) : Ke_blocksInUnit a0 a1 h kr = zseg zPP true (zcal [(3, [none, none], fun xs h kr kt => match xs with
  | [x0, x1] => Ma_min x0 x1 h kr
  | _ => none), (54, [none, none, none], fun xs h kr kt => match xs with
  | [x0, x1, x2] => X_isWithin x0 x1 x2 h kr
  | _ => none), (57, [none], fun xs h kr kt => match xs with
  | [x0] => X_groupsFor x0 h kr
  | _ => none)]) (zget (999, 0, 0, 0) zc_Ke_blocksInUnit) (zcut zu_Ke_blocksInUnit) (zorc [(18, [none, none, none], [], fun xs h => match xs with
  | [] => Ke_blocksInUnit_18 kr h
  | _ => none), (62, [none, none, none], [(0, none)], fun xs h => match xs with
  | [t0] => Ke_blocksInUnit_62 kr t0 h
  | _ => none)]) kr (fun _ _ => none) 400 0 [some (107, a0), some (0, a1), none] [] h := by rfl
def zc_X_fits : List zI := [(14, 0, 0, 100), (10, 0, 1, 0), (110, 0, 55, 47), (999, 0, 0, 0), (999, 0, 0, 0), (20, 0, 3, 107), (10, 0, 2, 0), (0, 1, 0, 0), (1, 16, 0, 0), (999, 0, 0, 0), (113, 0, 32, 54), (999, 0, 0, 0), (999, 0, 0, 0), (61, 11, 24, 0), (999, 0, 0, 0), (999, 0, 0, 0), (134, 38, 36, 1), (999, 0, 0, 0), (999, 0, 0, 0), (999, 0, 0, 0), (999, 0, 0, 0), (999, 0, 0, 0), (999, 0, 0, 0), (999, 0, 0, 0), (14, 0, 3, 107), (10, 0, 2, 0), (110, 0, 79, 227), (999, 0, 0, 0), (999, 0, 0, 0), (130, 0, 0, 0)]
def zu_X_fits : List (Nat × List Bool) := []
set_option maxRecDepth 100000 in
theorem qe_X_fits {ρ : Type} (kr : Int → zH → Option ρ) (kt : Nat → zH → Option ρ) (a0 a1 a2 : Int) (h : zH) : X_fits a0 a1 a2 h kr kt = zseg zPP true (zcal [(47, [none, none], fun xs h kr kt => match xs with
  | [x0, x1] => X_kernelAt x0 x1 h kr kt
  | _ => none), (54, [none, none, none], fun xs h kr kt => match xs with
  | [x0, x1, x2] => X_isWithin x0 x1 x2 h kr
  | _ => none), (227, [none, none], fun xs h kr kt => match xs with
  | [x0, x1] => Ke_blocksInUnit x0 x1 h kr
  | _ => none)]) (zget (999, 0, 0, 0) zc_X_fits) (zcut zu_X_fits) (zorc []) kr kt 400 0 [some (100, a0), some (0, a1), some (0, a2), none] [] h := by rfl
def zc_X_isCell : List zI := [(10, 0, 0, 0), (0, 0, 0, 0), (1, 63, 0, 0), (999, 0, 0, 0), (113, 0, 32, 54), (999, 0, 0, 0), (999, 0, 0, 0), (130, 0, 1, 0)]
def zu_X_isCell : List (Nat × List Bool) := []
set_option maxRecDepth 100000 in
theorem qe_X_isCell {ρ : Type} (kr : Int → zH → Option ρ) (a0 : Int) (h : zH) : X_isCell a0 h kr = zseg zPP true (zcal [(54, [none, none, none], fun xs h kr kt => match xs with
  | [x0, x1, x2] => X_isWithin x0 x1 x2 h kr
  | _ => none)]) (zget (999, 0, 0, 0) zc_X_isCell) (zcut zu_X_isCell) (zorc []) kr (fun _ _ => none) 400 0 [some (0, a0)] [] h := by rfl
def zc_X_poke : List zI := [(10, 0, 1, 0), (113, 0, 83, 55), (999, 0, 0, 0), (999, 0, 0, 0), (61, 11, 15, 0), (999, 0, 0, 0), (999, 0, 0, 0), (134, 89, 87, 3), (999, 0, 0, 0), (999, 0, 0, 0), (999, 0, 0, 0), (999, 0, 0, 0), (999, 0, 0, 0), (999, 0, 0, 0), (999, 0, 0, 0), (14, 0, 0, 100), (80, 0, 21, 1), (999, 0, 0, 0), (999, 0, 0, 0), (80, 2, 90, 1), (999, 0, 0, 0), (999, 0, 0, 0), (10, 0, 1, 0), (90, 0, 0, 22), (16, 0, 3, 0), (14, 0, 0, 100), (80, 0, 21, 1), (999, 0, 0, 0), (999, 0, 0, 0), (80, 2, 90, 1), (999, 0, 0, 0), (999, 0, 0, 0), (10, 0, 1, 0), (10, 0, 2, 0), (95, 0, 0, 22), (10, 0, 3, 0), (130, 0, 0, 0)]
def zu_X_poke : List (Nat × List Bool) := []
set_option maxRecDepth 100000 in
theorem qe_X_poke {ρ : Type} (kr : Int → zH → Option ρ) (kt : Nat → zH → Option ρ) (a0 a1 a2 : Int) (h : zH) : X_poke a0 a1 a2 h kr kt = zseg zPP true (zcal [(55, [none], fun xs h kr kt => match xs with
  | [x0] => X_isCell x0 h kr
  | _ => none)]) (zget (999, 0, 0, 0) zc_X_poke) (zcut zu_X_poke) (zorc []) kr kt 400 0 [some (100, a0), some (0, a1), some (0, a2), none] [] h := by rfl
def zc_X_peek : List zI := [(10, 0, 1, 0), (113, 0, 83, 55), (999, 0, 0, 0), (999, 0, 0, 0), (61, 11, 15, 0), (999, 0, 0, 0), (999, 0, 0, 0), (134, 89, 87, 3), (999, 0, 0, 0), (999, 0, 0, 0), (999, 0, 0, 0), (999, 0, 0, 0), (999, 0, 0, 0), (999, 0, 0, 0), (999, 0, 0, 0), (14, 0, 0, 100), (80, 0, 21, 1), (999, 0, 0, 0), (999, 0, 0, 0), (80, 2, 90, 1), (999, 0, 0, 0), (999, 0, 0, 0), (10, 0, 1, 0), (90, 0, 0, 22), (130, 0, 0, 0)]
def zu_X_peek : List (Nat × List Bool) := []
set_option maxRecDepth 100000 in
theorem qe_X_peek {ρ : Type} (kr : Int → zH → Option ρ) (kt : Nat → zH → Option ρ) (a0 a1 : Int) (h : zH) : X_peek a0 a1 h kr kt = zseg zPP true (zcal [(55, [none], fun xs h kr kt => match xs with
  | [x0] => X_isCell x0 h kr
  | _ => none)]) (zget (999, 0, 0, 0) zc_X_peek) (zcut zu_X_peek) (zorc []) kr kt 400 0 [some (100, a0), some (0, a1)] [] h := by rfl
def zc_Le_launchOf : List zI := [(10, 0, 1, 0), (0, 0, 0, 0), (14, 0, 0, 101), (80, 1, 31, 3), (999, 0, 0, 0), (999, 0, 0, 0), (0, 1, 0, 0), (31, 0, 0, 0), (114, 0, 27, 54), (999, 0, 0, 0), (999, 0, 0, 0), (60, 12, 23, 0), (999, 0, 0, 0), (999, 0, 0, 0), (14, 0, 0, 101), (80, 1, 19, 1), (999, 0, 0, 0), (999, 0, 0, 0), (10, 0, 1, 0), (94, 0, 0, 21), (72, 4, 24, 0), (999, 0, 0, 0), (999, 0, 0, 0), (7, 0, 0, 109), (132, 0, 0, 109)]
def zu_Le_launchOf : List (Nat × List Bool) := [(24, [false, false])]
set_option maxRecDepth 100000 in
theorem qe_Le_launchOf_24 {ρ : Type} (kr : Int → zH → Option ρ) (t0 : Int) (h : zH) : Le_launchOf_24 kr t0 h = zseg zPP true (zcal []) (zget (999, 0, 0, 0) zc_Le_launchOf) (zcut zu_Le_launchOf) (zorc []) kr (fun _ _ => none) 400 24 [none, none] [(109, t0)] h := by rfl
set_option maxRecDepth 100000 in
theorem qe_Le_launchOf {ρ : Type} (kr : Int → zH → Option ρ) (a0 a1 : Int) (h : zH) : Le_launchOf a0 a1 h kr = zseg zPP true (zcal [(54, [none, none, none], fun xs h kr kt => match xs with
  | [x0, x1, x2] => X_isWithin x0 x1 x2 h kr
  | _ => none)]) (zget (999, 0, 0, 0) zc_Le_launchOf) (zcut zu_Le_launchOf) (zorc [(24, [none, none], [(109, none)], fun xs h => match xs with
  | [t0] => Le_launchOf_24 kr t0 h
  | _ => none)]) kr (fun _ _ => none) 400 0 [some (101, a0), some (0, a1)] [] h := by rfl
def zc_X_launchAt : List zI := [(14, 0, 0, 100), (80, 0, 10, 0), (999, 0, 0, 0), (999, 0, 0, 0), (10, 0, 1, 0), (110, 0, 297, 241), (999, 0, 0, 0), (999, 0, 0, 0), (20, 0, 2, 109), (14, 0, 2, 109), (74, 11, 21, 0), (999, 0, 0, 0), (999, 0, 0, 0), (134, 89, 87, 3), (999, 0, 0, 0), (999, 0, 0, 0), (999, 0, 0, 0), (999, 0, 0, 0), (999, 0, 0, 0), (999, 0, 0, 0), (999, 0, 0, 0), (14, 0, 2, 109), (132, 0, 0, 109)]
def zu_X_launchAt : List (Nat × List Bool) := []
set_option maxRecDepth 100000 in
theorem qe_X_launchAt {ρ : Type} (kr : Int → zH → Option ρ) (kt : Nat → zH → Option ρ) (a0 a1 : Int) (h : zH) : X_launchAt a0 a1 h kr kt = zseg zPP true (zcal [(241, [none, none], fun xs h kr kt => match xs with
  | [x0, x1] => Le_launchOf x0 x1 h kr
  | _ => none)]) (zget (999, 0, 0, 0) zc_X_launchAt) (zcut zu_X_launchAt) (zorc []) kr kt 400 0 [some (100, a0), some (0, a1), none] [] h := by rfl
def zc_X_checkQueueAndAfter : List zI := [(10, 0, 1, 0), (0, 0, 0, 0), (0, 1, 0, 0), (113, 0, 32, 54), (999, 0, 0, 0), (999, 0, 0, 0), (61, 11, 17, 0), (999, 0, 0, 0), (999, 0, 0, 0), (134, 89, 87, 3), (999, 0, 0, 0), (999, 0, 0, 0), (999, 0, 0, 0), (999, 0, 0, 0), (999, 0, 0, 0), (999, 0, 0, 0), (999, 0, 0, 0), (10, 0, 2, 0), (0, (-1), 0, 0), (66, 9, 28, 0), (999, 0, 0, 0), (999, 0, 0, 0), (14, 0, 0, 100), (10, 0, 2, 0), (110, 0, 123, 48), (999, 0, 0, 0), (999, 0, 0, 0), (52, 0, 0, 0), (133, 0, 0, 0)]
def zu_X_checkQueueAndAfter : List (Nat × List Bool) := [(28, [false, false, false])]
set_option maxRecDepth 100000 in
theorem qe_X_checkQueueAndAfter_28 {ρ : Type} (kr : Int → zH → Option ρ) (kt : Nat → zH → Option ρ) (h : zH) : X_checkQueueAndAfter_28 kr kt h = zseg zPP true (zcal []) (zget (999, 0, 0, 0) zc_X_checkQueueAndAfter) (zcut zu_X_checkQueueAndAfter) (zorc []) kr kt 400 28 [none, none, none] [] h := by rfl
set_option maxRecDepth 100000 in
theorem qe_X_checkQueueAndAfter {ρ : Type} (kr : Int → zH → Option ρ) (kt : Nat → zH → Option ρ) (a0 a1 a2 : Int) (h : zH) : X_checkQueueAndAfter a0 a1 a2 h kr kt = zseg zPP true (zcal [(48, [none, none], fun xs h kr kt => match xs with
  | [x0, x1] => X_launchAt x0 x1 h kr kt
  | _ => none), (54, [none, none, none], fun xs h kr kt => match xs with
  | [x0, x1, x2] => X_isWithin x0 x1 x2 h kr
  | _ => none)]) (zget (999, 0, 0, 0) zc_X_checkQueueAndAfter) (zcut zu_X_checkQueueAndAfter) (zorc [(28, [none, none, none], [], fun xs h => match xs with
  | [] => X_checkQueueAndAfter_28 kr kt h
  | _ => none)]) kr kt 400 0 [some (100, a0), some (0, a1), some (0, a2)] [] h := by rfl
def zc_X_checkRoomForLaunch : List zI := [(14, 0, 0, 100), (80, 0, 10, 0), (999, 0, 0, 0), (999, 0, 0, 0), (80, 1, 120, 3), (999, 0, 0, 0), (999, 0, 0, 0), (1, 12, 0, 0), (999, 0, 0, 0), (68, 11, 20, 0), (999, 0, 0, 0), (999, 0, 0, 0), (134, 45, 43, 2), (999, 0, 0, 0), (999, 0, 0, 0), (999, 0, 0, 0), (999, 0, 0, 0), (999, 0, 0, 0), (999, 0, 0, 0), (999, 0, 0, 0), (133, 0, 0, 0)]
def zu_X_checkRoomForLaunch : List (Nat × List Bool) := []
set_option maxRecDepth 100000 in
theorem qe_X_checkRoomForLaunch {ρ : Type} (kr : Int → zH → Option ρ) (kt : Nat → zH → Option ρ) (a0 : Int) (h : zH) : X_checkRoomForLaunch a0 h kr kt = zseg zPP true (zcal []) (zget (999, 0, 0, 0) zc_X_checkRoomForLaunch) (zcut zu_X_checkRoomForLaunch) (zorc []) kr kt 400 0 [some (100, a0)] [] h := by rfl
def zc_La_useKernel : List zI := [(14, 0, 0, 109), (14, 0, 1, 107), (82, 9, 40, 5), (999, 0, 0, 0), (999, 0, 0, 0), (14, 0, 0, 109), (80, 9, 40, 5), (999, 0, 0, 0), (999, 0, 0, 0), (0, 1, 0, 0), (82, 7, 44, 4), (999, 0, 0, 0), (999, 0, 0, 0), (14, 0, 0, 109), (10, 0, 2, 0), (82, 9, 50, 6), (999, 0, 0, 0), (999, 0, 0, 0), (14, 0, 0, 109), (10, 0, 3, 0), (82, 9, 53, 7), (999, 0, 0, 0), (999, 0, 0, 0), (133, 0, 0, 0)]
def zu_La_useKernel : List (Nat × List Bool) := []
set_option maxRecDepth 100000 in
theorem qe_La_useKernel {ρ : Type} (kr : Int → zH → Option ρ) (a0 a1 a2 a3 : Int) (h : zH) : La_useKernel a0 a1 a2 a3 h kr = zseg zPP true (zcal []) (zget (999, 0, 0, 0) zc_La_useKernel) (zcut zu_La_useKernel) (zorc []) kr (fun _ _ => none) 400 0 [some (109, a0), some (107, a1), some (0, a2), some (0, a3)] [] h := by rfl
def zc_La_init : List zI := [(14, 0, 0, 109), (117, 0, 3, 0), (999, 0, 0, 0), (999, 0, 0, 0), (14, 0, 0, 109), (1, 113, 0, 0), (999, 0, 0, 0), (82, 9, 11, 10), (999, 0, 0, 0), (999, 0, 0, 0), (14, 0, 0, 109), (1, 64, 0, 0), (999, 0, 0, 0), (101, 0, 0, 34), (999, 0, 0, 0), (84, 9, 15, 16), (999, 0, 0, 0), (999, 0, 0, 0), (14, 0, 0, 109), (1, 64, 0, 0), (999, 0, 0, 0), (101, 0, 0, 35), (999, 0, 0, 0), (84, 9, 19, 17), (999, 0, 0, 0), (999, 0, 0, 0), (14, 0, 0, 109), (10, 0, 1, 0), (84, 9, 23, 0), (999, 0, 0, 0), (999, 0, 0, 0), (14, 0, 0, 109), (10, 0, 2, 0), (84, 9, 27, 1), (999, 0, 0, 0), (999, 0, 0, 0), (14, 0, 0, 109), (14, 0, 3, 109), (84, 9, 30, 2), (999, 0, 0, 0), (999, 0, 0, 0), (14, 0, 0, 109), (15, 0, 4, 109), (999, 0, 0, 0), (84, 9, 34, 3), (999, 0, 0, 0), (999, 0, 0, 0), (14, 0, 0, 109), (15, 0, 5, 109), (999, 0, 0, 0), (84, 9, 37, 4), (999, 0, 0, 0), (999, 0, 0, 0), (133, 0, 0, 0)]
def zu_La_init : List (Nat × List Bool) := []
set_option maxRecDepth 100000 in
theorem qe_La_init {ρ : Type} (kr : Int → zH → Option ρ) (a0 a1 a2 a3 a4 a5 : Int) (h : zH) : La_init a0 a1 a2 a3 a4 a5 h kr = zseg zPP true (zcal []) (zget (999, 0, 0, 0) zc_La_init) (zcut zu_La_init) (zorc []) kr (fun _ _ => none) 400 0 [some (109, a0), some (0, a1), some (0, a2), some (109, a3), some (109, a4), some (109, a5)] [] h := by rfl
def zc_La_isOver : List zI := [(14, 0, 0, 109), (80, 9, 11, 10), (999, 0, 0, 0), (999, 0, 0, 0), (1, 100, 0, 0), (999, 0, 0, 0), (66, 21, 27, 0), (999, 0, 0, 0), (999, 0, 0, 0), (14, 0, 0, 109), (80, 9, 11, 10), (999, 0, 0, 0), (999, 0, 0, 0), (1, 102, 0, 0), (999, 0, 0, 0), (66, 12, 27, 0), (999, 0, 0, 0), (999, 0, 0, 0), (14, 0, 0, 109), (80, 9, 11, 10), (999, 0, 0, 0), (999, 0, 0, 0), (1, 120, 0, 0), (999, 0, 0, 0), (67, 7, 31, 0), (999, 0, 0, 0), (999, 0, 0, 0), (0, 1, 0, 0), (72, 4, 32, 0), (999, 0, 0, 0), (999, 0, 0, 0), (0, 0, 0, 0), (130, 0, 1, 0)]
def zu_La_isOver : List (Nat × List Bool) := [(27, [false]), (32, [false])]
set_option maxRecDepth 100000 in
theorem qe_La_isOver_32 {ρ : Type} (kr : Int → zH → Option ρ) (t0 : Int) (h : zH) : La_isOver_32 kr t0 h = zseg zPP true (zcal []) (zget (999, 0, 0, 0) zc_La_isOver) (zcut zu_La_isOver) (zorc []) kr (fun _ _ => none) 400 32 [none] [(0, t0)] h := by rfl
set_option maxRecDepth 100000 in
theorem qe_La_isOver_27 {ρ : Type} (kr : Int → zH → Option ρ) (h : zH) : La_isOver_27 kr h = zseg zPP true (zcal []) (zget (999, 0, 0, 0) zc_La_isOver) (zcut zu_La_isOver) (zorc [(32, [none], [(0, none)], fun xs h => match xs with
  | [t0] => La_isOver_32 kr t0 h
  | _ => none)]) kr (fun _ _ => none) 400 27 [none] [] h := by rfl
set_option maxRecDepth 100000 in
theorem qe_La_isOver {ρ : Type} (kr : Int → zH → Option ρ) (a0 : Int) (h : zH) : La_isOver a0 h kr = zseg zPP true (zcal []) (zget (999, 0, 0, 0) zc_La_isOver) (zcut zu_La_isOver) (zorc [(27, [none], [], fun xs h => match xs with
  | [] => La_isOver_27 kr h
  | _ => none), (32, [none], [(0, none)], fun xs h => match xs with
  | [t0] => La_isOver_32 kr t0 h
  | _ => none)]) kr (fun _ _ => none) 400 0 [some (109, a0)] [] h := by rfl
def zc_Le_enter : List zI := [(14, 0, 0, 101), (80, 1, 31, 3), (999, 0, 0, 0), (999, 0, 0, 0), (14, 0, 0, 101), (80, 1, 19, 1), (999, 0, 0, 0), (999, 0, 0, 0), (100, 0, 0, 21), (69, 23, 32, 0), (999, 0, 0, 0), (999, 0, 0, 0), (14, 0, 0, 101), (80, 1, 19, 1), (999, 0, 0, 0), (999, 0, 0, 0), (14, 0, 0, 101), (80, 1, 31, 3), (999, 0, 0, 0), (999, 0, 0, 0), (14, 0, 1, 109), (99, 0, 0, 21), (14, 0, 0, 101), (50, 0, 0, 0), (80, 1, 31, 3), (999, 0, 0, 0), (999, 0, 0, 0), (0, 1, 0, 0), (30, 0, 0, 0), (82, 1, 31, 3), (999, 0, 0, 0), (999, 0, 0, 0), (14, 0, 1, 109), (132, 0, 0, 109)]
def zu_Le_enter : List (Nat × List Bool) := [(32, [false, true])]
set_option maxRecDepth 100000 in
theorem qe_Le_enter_32 {ρ : Type} (kr : Int → zH → Option ρ) (a1 : Int) (h : zH) : Le_enter_32 kr a1 h = zseg zPP true (zcal []) (zget (999, 0, 0, 0) zc_Le_enter) (zcut zu_Le_enter) (zorc []) kr (fun _ _ => none) 400 32 [none, some (109, a1)] [] h := by rfl
set_option maxRecDepth 100000 in
theorem qe_Le_enter {ρ : Type} (kr : Int → zH → Option ρ) (a0 a1 : Int) (h : zH) : Le_enter a0 a1 h kr = zseg zPP true (zcal []) (zget (999, 0, 0, 0) zc_Le_enter) (zcut zu_Le_enter) (zorc [(32, [none, some (109, none)], [], fun xs h => match xs with
  | [a1] => Le_enter_32 kr a1 h
  | _ => none)]) kr (fun _ _ => none) 400 0 [some (101, a0), some (109, a1)] [] h := by rfl
def zc_Le_lastIn : List zI := [(14, 0, 0, 101), (80, 1, 31, 3), (999, 0, 0, 0), (999, 0, 0, 0), (0, 1, 0, 0), (31, 0, 0, 0), (16, 0, 2, 0), (10, 0, 2, 0), (62, 29, 37, 0), (999, 0, 0, 0), (999, 0, 0, 0), (14, 0, 0, 101), (80, 1, 19, 1), (999, 0, 0, 0), (999, 0, 0, 0), (10, 0, 2, 0), (94, 0, 0, 21), (80, 9, 52, 1), (999, 0, 0, 0), (999, 0, 0, 0), (10, 0, 1, 0), (67, 10, 31, 0), (999, 0, 0, 0), (999, 0, 0, 0), (14, 0, 0, 101), (80, 1, 19, 1), (999, 0, 0, 0), (999, 0, 0, 0), (10, 0, 2, 0), (94, 0, 0, 21), (132, 0, 0, 109), (22, (-1), 2, 0), (999, 0, 0, 0), (999, 0, 0, 0), (72, (-27), 7, 0), (999, 0, 0, 0), (999, 0, 0, 0), (7, 0, 0, 109), (132, 0, 0, 109)]
def zu_Le_lastIn : List (Nat × List Bool) := [(7, [true, true, true])]
set_option maxRecDepth 100000 in
theorem qe_Le_lastIn_7b {ρ : Type} (kr : Int → zH → Option ρ) (r7 : Int → Int → Int → zH → Option ρ) (a0 a1 a2 : Int) (h : zH) : Le_lastIn_7b kr r7 a0 a1 a2 h = zseg zPP true (zcal []) (zget (999, 0, 0, 0) zc_Le_lastIn) (zcut zu_Le_lastIn) (zorc [(7, [some (101, none), some (0, none), some (0, none)], [], fun xs h => match xs with
  | [a0, a1, a2] => r7 a0 a1 a2 h
  | _ => none)]) kr (fun _ _ => none) 400 7 [some (101, a0), some (0, a1), some (0, a2)] [] h := by rfl
set_option maxRecDepth 100000 in
theorem qe_Le_lastIn {ρ : Type} (kr : Int → zH → Option ρ) (a0 a1 : Int) (h : zH) : Le_lastIn a0 a1 h kr = zseg zPP true (zcal []) (zget (999, 0, 0, 0) zc_Le_lastIn) (zcut zu_Le_lastIn) (zorc [(7, [some (101, none), some (0, none), some (0, none)], [], fun xs h => match xs with
  | [a0, a1, a2] => Le_lastIn_7 kr a0 a1 a2 h
  | _ => none)]) kr (fun _ _ => none) 400 0 [some (101, a0), some (0, a1), none] [] h := by rfl
def zc_Le_enterHostLaunch : List zI := [(14, 0, 0, 101), (10, 0, 1, 0), (110, 0, 34, 245), (999, 0, 0, 0), (999, 0, 0, 0), (20, 0, 3, 109), (14, 0, 3, 109), (73, 10, 17, 0), (999, 0, 0, 0), (999, 0, 0, 0), (14, 0, 3, 109), (110, 0, 38, 231), (999, 0, 0, 0), (999, 0, 0, 0), (60, 7, 21, 0), (999, 0, 0, 0), (999, 0, 0, 0), (0, 1, 0, 0), (72, 4, 22, 0), (999, 0, 0, 0), (999, 0, 0, 0), (0, 0, 0, 0), (17, 0, 4, 0), (999, 0, 0, 0), (14, 0, 0, 101), (103, 0, 17, 9), (999, 0, 0, 0), (999, 0, 0, 0), (50, 0, 0, 0), (14, 0, 0, 101), (80, 1, 31, 3), (999, 0, 0, 0), (999, 0, 0, 0), (10, 0, 1, 0), (11, 0, 4, 0), (999, 0, 0, 0), (60, 7, 43, 0), (999, 0, 0, 0), (999, 0, 0, 0), (7, 0, 0, 109), (72, 4, 44, 0), (999, 0, 0, 0), (999, 0, 0, 0), (14, 0, 3, 109), (14, 0, 0, 101), (10, 0, 2, 0), (110, 0, 42, 241), (999, 0, 0, 0), (999, 0, 0, 0), (7, 0, 0, 109), (115, 0, 45, 228), (999, 0, 0, 0), (999, 0, 0, 0), (110, 0, 48, 244), (999, 0, 0, 0), (999, 0, 0, 0), (132, 0, 0, 109)]
def zu_Le_enterHostLaunch : List (Nat × List Bool) := [(17, [true, true, true, true, false]), (22, [true, true, true, true, false]), (44, [true, false, true, false, false])]
set_option maxRecDepth 100000 in
theorem qe_Le_enterHostLaunch_44 {ρ : Type} (kr : Int → zH → Option ρ) (a0 a2 t0 t1 t2 t3 t4 t5 : Int) (h : zH) : Le_enterHostLaunch_44 kr a0 a2 t0 t1 t2 t3 t4 t5 h = zseg zPP true (zcal [(228, [none, none, none, none, none, none], fun xs h kr kt => match xs with
  | [x0, x1, x2, x3, x4, x5] => La_init x0 x1 x2 x3 x4 x5 h kr
  | _ => none), (241, [none, none], fun xs h kr kt => match xs with
  | [x0, x1] => Le_launchOf x0 x1 h kr
  | _ => none), (244, [none, none], fun xs h kr kt => match xs with
  | [x0, x1] => Le_enter x0 x1 h kr
  | _ => none)]) (zget (999, 0, 0, 0) zc_Le_enterHostLaunch) (zcut zu_Le_enterHostLaunch) (zorc []) kr (fun _ _ => none) 400 44 [some (101, a0), none, some (0, a2), none, none] [(109, t0), (0, t1), (0, t2), (109, t3), (109, t4), (101, t5)] h := by rfl
set_option maxRecDepth 100000 in
theorem qe_Le_enterHostLaunch_22 {ρ : Type} (kr : Int → zH → Option ρ) (a0 a1 a2 a3 t0 : Int) (h : zH) : Le_enterHostLaunch_22 kr a0 a1 a2 a3 t0 h = zseg zPP true (zcal []) (zget (999, 0, 0, 0) zc_Le_enterHostLaunch) (zcut zu_Le_enterHostLaunch) (zorc [(44, [some (101, none), none, some (0, none), none, none], [(109, none), (0, none), (0, none), (109, none), (109, none), (101, none)], fun xs h => match xs with
  | [a0, a2, t0, t1, t2, t3, t4, t5] => Le_enterHostLaunch_44 kr a0 a2 t0 t1 t2 t3 t4 t5 h
  | _ => none)]) kr (fun _ _ => none) 400 22 [some (101, a0), some (0, a1), some (0, a2), some (109, a3), none] [(0, t0)] h := by rfl
set_option maxRecDepth 100000 in
theorem qe_Le_enterHostLaunch_17 {ρ : Type} (kr : Int → zH → Option ρ) (a0 a1 a2 a3 : Int) (h : zH) : Le_enterHostLaunch_17 kr a0 a1 a2 a3 h = zseg zPP true (zcal []) (zget (999, 0, 0, 0) zc_Le_enterHostLaunch) (zcut zu_Le_enterHostLaunch) (zorc [(22, [some (101, none), some (0, none), some (0, none), some (109, none), none], [(0, none)], fun xs h => match xs with
  | [a0, a1, a2, a3, t0] => Le_enterHostLaunch_22 kr a0 a1 a2 a3 t0 h
  | _ => none)]) kr (fun _ _ => none) 400 17 [some (101, a0), some (0, a1), some (0, a2), some (109, a3), none] [] h := by rfl
set_option maxRecDepth 100000 in
theorem qe_Le_enterHostLaunch {ρ : Type} (kr : Int → zH → Option ρ) (a0 a1 a2 : Int) (h : zH) : Le_enterHostLaunch a0 a1 a2 h kr = zseg zPP true (zcal [(231, [none], fun xs h kr kt => match xs with
  | [x0] => La_isOver x0 h kr
  | _ => none), (245, [none, none], fun xs h kr kt => match xs with
  | [x0, x1] => Le_lastIn x0 x1 h kr
  | _ => none)]) (zget (999, 0, 0, 0) zc_Le_enterHostLaunch) (zcut zu_Le_enterHostLaunch) (zorc [(17, [some (101, none), some (0, none), some (0, none), some (109, none), none], [], fun xs h => match xs with
  | [a0, a1, a2, a3] => Le_enterHostLaunch_17 kr a0 a1 a2 a3 h
  | _ => none), (22, [some (101, none), some (0, none), some (0, none), some (109, none), none], [(0, none)], fun xs h => match xs with
  | [a0, a1, a2, a3, t0] => Le_enterHostLaunch_22 kr a0 a1 a2 a3 t0 h
  | _ => none)]) kr (fun _ _ => none) 400 0 [some (101, a0), some (0, a1), some (0, a2), none, none] [] h := by rfl
def zc_X_launch : List zI := [(14, 0, 0, 100), (10, 0, 1, 0), (11, 0, 5, 0), (999, 0, 0, 0), (110, 0, 94, 52), (999, 0, 0, 0), (999, 0, 0, 0), (14, 0, 0, 100), (10, 0, 2, 0), (110, 0, 55, 47), (999, 0, 0, 0), (999, 0, 0, 0), (21, 0, 6, 107), (999, 0, 0, 0), (10, 0, 3, 0), (0, 1, 0, 0), (1, 6, 0, 0), (999, 0, 0, 0), (113, 0, 32, 54), (999, 0, 0, 0), (999, 0, 0, 0), (60, 14, 35, 0), (999, 0, 0, 0), (999, 0, 0, 0), (11, 0, 4, 0), (999, 0, 0, 0), (0, 1, 0, 0), (1, 16, 0, 0), (999, 0, 0, 0), (113, 0, 32, 54), (999, 0, 0, 0), (999, 0, 0, 0), (61, 11, 43, 0), (999, 0, 0, 0), (999, 0, 0, 0), (134, 38, 36, 1), (999, 0, 0, 0), (999, 0, 0, 0), (999, 0, 0, 0), (999, 0, 0, 0), (999, 0, 0, 0), (999, 0, 0, 0), (999, 0, 0, 0), (15, 0, 6, 107), (999, 0, 0, 0), (11, 0, 4, 0), (999, 0, 0, 0), (110, 0, 79, 227), (999, 0, 0, 0), (999, 0, 0, 0), (61, 11, 61, 0), (999, 0, 0, 0), (999, 0, 0, 0), (134, 99, 97, 4), (999, 0, 0, 0), (999, 0, 0, 0), (999, 0, 0, 0), (999, 0, 0, 0), (999, 0, 0, 0), (999, 0, 0, 0), (999, 0, 0, 0), (14, 0, 0, 100), (110, 0, 100, 53), (999, 0, 0, 0), (999, 0, 0, 0), (14, 0, 0, 100), (80, 0, 10, 0), (999, 0, 0, 0), (999, 0, 0, 0), (10, 0, 1, 0), (11, 0, 5, 0), (999, 0, 0, 0), (110, 0, 103, 243), (999, 0, 0, 0), (999, 0, 0, 0), (21, 0, 7, 109), (999, 0, 0, 0), (15, 0, 7, 109), (999, 0, 0, 0), (15, 0, 6, 107), (999, 0, 0, 0), (10, 0, 3, 0), (11, 0, 4, 0), (999, 0, 0, 0), (110, 0, 107, 229), (999, 0, 0, 0), (999, 0, 0, 0), (15, 0, 7, 109), (999, 0, 0, 0), (80, 9, 113, 0), (999, 0, 0, 0), (999, 0, 0, 0), (130, 0, 0, 0)]
def zu_X_launch : List (Nat × List Bool) := [(35, [false, false, false, false, false, false, false, false])]
set_option maxRecDepth 100000 in
theorem qe_X_launch_35 {ρ : Type} (kr : Int → zH → Option ρ) (kt : Nat → zH → Option ρ) (h : zH) : X_launch_35 kr kt h = zseg zPP true (zcal []) (zget (999, 0, 0, 0) zc_X_launch) (zcut zu_X_launch) (zorc []) kr kt 400 35 [none, none, none, none, none, none, none, none] [] h := by rfl
set_option maxRecDepth 100000 in
theorem qe_X_launch {ρ : Type} (kr : Int → zH → Option ρ) (kt : Nat → zH → Option ρ) (a0 a1 a2 a3 a4 a5 : Int) (h : zH) : X_launch a0 a1 a2 a3 a4 a5 h kr kt = zseg zPP true (zcal [(47, [none, none], fun xs h kr kt => match xs with
  | [x0, x1] => X_kernelAt x0 x1 h kr kt
  | _ => none), (52, [none, none, none], fun xs h kr kt => match xs with
  | [x0, x1, x2] => X_checkQueueAndAfter x0 x1 x2 h kr kt
  | _ => none), (53, [none], fun xs h kr kt => match xs with
  | [x0] => X_checkRoomForLaunch x0 h kr kt
  | _ => none), (54, [none, none, none], fun xs h kr kt => match xs with
  | [x0, x1, x2] => X_isWithin x0 x1 x2 h kr
  | _ => none), (227, [none, none], fun xs h kr kt => match xs with
  | [x0, x1] => Ke_blocksInUnit x0 x1 h kr
  | _ => none), (229, [none, none, none, none], fun xs h kr kt => match xs with
  | [x0, x1, x2, x3] => La_useKernel x0 x1 x2 x3 h kr
  | _ => none), (243, [none, none, none], fun xs h kr kt => match xs with
  | [x0, x1, x2] => Le_enterHostLaunch x0 x1 x2 h kr
  | _ => none)]) (zget (999, 0, 0, 0) zc_X_launch) (zcut zu_X_launch) (zorc [(35, [none, none, none, none, none, none, none, none], [], fun xs h => match xs with
  | [] => X_launch_35 kr kt h
  | _ => none)]) kr kt 400 0 [some (100, a0), some (0, a1), some (0, a2), some (0, a3), some (0, a4), some (0, a5), none, none] [] h := by rfl
def zc_La_useCopy : List zI := [(14, 0, 0, 109), (10, 0, 1, 0), (82, 9, 56, 13), (999, 0, 0, 0), (999, 0, 0, 0), (14, 0, 0, 109), (10, 0, 2, 0), (82, 9, 59, 14), (999, 0, 0, 0), (999, 0, 0, 0), (14, 0, 0, 109), (10, 0, 3, 0), (82, 9, 62, 15), (999, 0, 0, 0), (999, 0, 0, 0), (133, 0, 0, 0)]
def zu_La_useCopy : List (Nat × List Bool) := []
set_option maxRecDepth 100000 in
theorem qe_La_useCopy {ρ : Type} (kr : Int → zH → Option ρ) (a0 a1 a2 a3 : Int) (h : zH) : La_useCopy a0 a1 a2 a3 h kr = zseg zPP true (zcal []) (zget (999, 0, 0, 0) zc_La_useCopy) (zcut zu_La_useCopy) (zorc []) kr (fun _ _ => none) 400 0 [some (109, a0), some (0, a1), some (0, a2), some (0, a3)] [] h := by rfl
def zc_X_copy : List zI := [(14, 0, 0, 100), (10, 0, 1, 0), (11, 0, 5, 0), (999, 0, 0, 0), (110, 0, 94, 52), (999, 0, 0, 0), (999, 0, 0, 0), (11, 0, 4, 0), (999, 0, 0, 0), (0, 1, 0, 0), (1, 64, 0, 0), (999, 0, 0, 0), (113, 0, 32, 54), (999, 0, 0, 0), (999, 0, 0, 0), (60, 29, 44, 0), (999, 0, 0, 0), (999, 0, 0, 0), (10, 0, 2, 0), (0, 0, 0, 0), (1, 64, 0, 0), (999, 0, 0, 0), (11, 0, 4, 0), (999, 0, 0, 0), (31, 0, 0, 0), (113, 0, 32, 54), (999, 0, 0, 0), (999, 0, 0, 0), (60, 16, 44, 0), (999, 0, 0, 0), (999, 0, 0, 0), (10, 0, 3, 0), (0, 0, 0, 0), (1, 64, 0, 0), (999, 0, 0, 0), (11, 0, 4, 0), (999, 0, 0, 0), (31, 0, 0, 0), (113, 0, 32, 54), (999, 0, 0, 0), (999, 0, 0, 0), (61, 11, 52, 0), (999, 0, 0, 0), (999, 0, 0, 0), (134, 38, 36, 1), (999, 0, 0, 0), (999, 0, 0, 0), (999, 0, 0, 0), (999, 0, 0, 0), (999, 0, 0, 0), (999, 0, 0, 0), (999, 0, 0, 0), (14, 0, 0, 100), (110, 0, 100, 53), (999, 0, 0, 0), (999, 0, 0, 0), (14, 0, 0, 100), (80, 0, 10, 0), (999, 0, 0, 0), (999, 0, 0, 0), (10, 0, 1, 0), (11, 0, 5, 0), (999, 0, 0, 0), (110, 0, 103, 243), (999, 0, 0, 0), (999, 0, 0, 0), (21, 0, 6, 109), (999, 0, 0, 0), (15, 0, 6, 109), (999, 0, 0, 0), (10, 0, 2, 0), (10, 0, 3, 0), (11, 0, 4, 0), (999, 0, 0, 0), (110, 0, 116, 230), (999, 0, 0, 0), (999, 0, 0, 0), (15, 0, 6, 109), (999, 0, 0, 0), (80, 9, 113, 0), (999, 0, 0, 0), (999, 0, 0, 0), (130, 0, 0, 0)]
def zu_X_copy : List (Nat × List Bool) := [(44, [false, false, false, false, false, false, false])]
set_option maxRecDepth 100000 in
theorem qe_X_copy_44 {ρ : Type} (kr : Int → zH → Option ρ) (kt : Nat → zH → Option ρ) (h : zH) : X_copy_44 kr kt h = zseg zPP true (zcal []) (zget (999, 0, 0, 0) zc_X_copy) (zcut zu_X_copy) (zorc []) kr kt 400 44 [none, none, none, none, none, none, none] [] h := by rfl
set_option maxRecDepth 100000 in
theorem qe_X_copy {ρ : Type} (kr : Int → zH → Option ρ) (kt : Nat → zH → Option ρ) (a0 a1 a2 a3 a4 a5 : Int) (h : zH) : X_copy a0 a1 a2 a3 a4 a5 h kr kt = zseg zPP true (zcal [(52, [none, none, none], fun xs h kr kt => match xs with
  | [x0, x1, x2] => X_checkQueueAndAfter x0 x1 x2 h kr kt
  | _ => none), (53, [none], fun xs h kr kt => match xs with
  | [x0] => X_checkRoomForLaunch x0 h kr kt
  | _ => none), (54, [none, none, none], fun xs h kr kt => match xs with
  | [x0, x1, x2] => X_isWithin x0 x1 x2 h kr
  | _ => none), (230, [none, none, none, none], fun xs h kr kt => match xs with
  | [x0, x1, x2, x3] => La_useCopy x0 x1 x2 x3 h kr
  | _ => none), (243, [none, none, none], fun xs h kr kt => match xs with
  | [x0, x1, x2] => Le_enterHostLaunch x0 x1 x2 h kr
  | _ => none)]) (zget (999, 0, 0, 0) zc_X_copy) (zcut zu_X_copy) (zorc [(44, [none, none, none, none, none, none, none], [], fun xs h => match xs with
  | [] => X_copy_44 kr kt h
  | _ => none)]) kr kt 400 0 [some (100, a0), some (0, a1), some (0, a2), some (0, a3), some (0, a4), some (0, a5), none] [] h := by rfl
def zc_X_launches : List zI := [(14, 0, 0, 100), (80, 0, 10, 0), (999, 0, 0, 0), (999, 0, 0, 0), (80, 1, 120, 3), (999, 0, 0, 0), (999, 0, 0, 0), (130, 0, 0, 0)]
def zu_X_launches : List (Nat × List Bool) := []
set_option maxRecDepth 100000 in
theorem qe_X_launches {ρ : Type} (kr : Int → zH → Option ρ) (a0 : Int) (h : zH) : X_launches a0 h kr = zseg zPP true (zcal []) (zget (999, 0, 0, 0) zc_X_launches) (zcut zu_X_launches) (zorc []) kr (fun _ _ => none) 400 0 [some (100, a0)] [] h := by rfl
def zc_X_state : List zI := [(14, 0, 0, 100), (10, 0, 1, 0), (110, 0, 123, 48), (999, 0, 0, 0), (999, 0, 0, 0), (80, 9, 127, 10), (999, 0, 0, 0), (999, 0, 0, 0), (130, 0, 2, 0)]
def zu_X_state : List (Nat × List Bool) := []
set_option maxRecDepth 100000 in
theorem qe_X_state {ρ : Type} (kr : Int → zH → Option ρ) (kt : Nat → zH → Option ρ) (a0 a1 : Int) (h : zH) : X_state a0 a1 h kr kt = zseg zPP true (zcal [(48, [none, none], fun xs h kr kt => match xs with
  | [x0, x1] => X_launchAt x0 x1 h kr kt
  | _ => none)]) (zget (999, 0, 0, 0) zc_X_state) (zcut zu_X_state) (zorc []) kr kt 400 0 [some (100, a0), some (0, a1)] [] h := by rfl
def zc_X_parent : List zI := [(14, 0, 0, 100), (10, 0, 1, 0), (110, 0, 123, 48), (999, 0, 0, 0), (999, 0, 0, 0), (20, 0, 2, 109), (14, 0, 2, 109), (80, 9, 131, 4), (999, 0, 0, 0), (999, 0, 0, 0), (74, 11, 21, 0), (999, 0, 0, 0), (999, 0, 0, 0), (134, 137, 135, 5), (999, 0, 0, 0), (999, 0, 0, 0), (999, 0, 0, 0), (999, 0, 0, 0), (999, 0, 0, 0), (999, 0, 0, 0), (999, 0, 0, 0), (14, 0, 2, 109), (80, 9, 131, 4), (999, 0, 0, 0), (999, 0, 0, 0), (80, 9, 113, 0), (999, 0, 0, 0), (999, 0, 0, 0), (130, 0, 0, 0)]
def zu_X_parent : List (Nat × List Bool) := []
set_option maxRecDepth 100000 in
theorem qe_X_parent {ρ : Type} (kr : Int → zH → Option ρ) (kt : Nat → zH → Option ρ) (a0 a1 : Int) (h : zH) : X_parent a0 a1 h kr kt = zseg zPP true (zcal [(48, [none, none], fun xs h kr kt => match xs with
  | [x0, x1] => X_launchAt x0 x1 h kr kt
  | _ => none)]) (zget (999, 0, 0, 0) zc_X_parent) (zcut zu_X_parent) (zorc []) kr kt 400 0 [some (100, a0), some (0, a1), none] [] h := by rfl
