def zPP : zP := ([[4, 4, 4], [4, 4, 0, 0], [4, 4, 4, 4, 0, 2, 4, 4, 0, 0, 0], [4, 4, 0, 4], [3, 3, 3, 3, 0, 0, 0, 0], [4, 4, 4, 4, 4, 0, 1], [0, 4, 0, 0, 2], [0, 0, 4, 0, 1], [2, 0, 0, 0], [0, 0, 4, 4, 4, 4, 0, 0, 0, 0, 2, 2, 0, 0, 0, 0, 4, 4, 0], [4, 0, 4, 4, 4, 4, 4, 4], [4, 0, 4, 4, 4, 0, 0], [0, 0, 2, 4, 0, 4, 4, 4, 4, 4, 4, 4, 4, 0, 4, 4, 4, 4, 4, 4, 4, 4, 4, 4, 4, 4, 4, 4, 4, 4, 4, 4, 4, 4, 4, 4, 4, 4, 4, 4, 4, 4, 4, 4, 4, 4, 4, 4, 4, 4, 4, 4, 4, 4, 3, 0, 0, 0, 0, 0, 0, 0, 4, 0, 0, 0, 2, 0, 4, 4, 4, 4, 4, 4]],
 [(0, [0, 0], 0, 99), (0, [0, 0], 0, 99), (0, [0, 0], 0, 99), (0, [0, 2], 9, 99), (0, [0], 0, 99), (2, [2], 9, 0), (1, [0, 0, 2], 0, 0), (1, [0, 0, 0, 0, 0, 2], 0, 0), (1, [0, 0, 2], 0, 0), (1, [0, 0, 2], 0, 0), (1, [0, 2], 0, 0), (1, [0, 0, 0, 0, 0, 2], 0, 0), (1, [0, 0, 0, 0, 0, 2], 0, 0), (1, [2], 0, 0), (1, [0, 2], 0, 0), (1, [0, 2], 0, 0), (1, [0, 2], 0, 0), (1, [0, 2], 0, 0), (1, [0, 2], 0, 0), (1, [0, 2], 0, 0), (1, [2], 0, 0), (1, [0, 2], 0, 0), (1, [0, 0, 2], 0, 0), (1, [0, 0, 2], 0, 0), (1, [0, 0, 2], 0, 0), (1, [0, 0, 2], 0, 0), (1, [0, 0, 2], 0, 0), (1, [0, 0, 0, 0, 2], 0, 0), (1, [0, 0, 0, 2], 0, 0), (1, [0, 0, 2], 0, 0), (1, [0, 2], 0, 0), (1, [0, 2], 0, 0), (1, [0, 0, 2], 0, 0), (1, [0, 2], 0, 0), (1, [0, 0, 0, 0, 0, 2], 0, 0), (1, [2], 1, 0), (1, [2], 0, 0), (1, [2], 0, 0), (1, [2], 0, 0), (1, [2], 0, 0), (1, [2], 0, 0), (1, [0, 2], 2, 0), (1, [0, 2], 2, 0), (1, [0, 2], 2, 0), (1, [0, 2], 2, 0), (1, [0, 0, 2], 2, 0), (1, [0, 0, 2], 9, 0), (1, [2], 9, 0), (0, [0, 0, 0], 0, 0), (0, [0], 0, 0), (0, [0, 0], 0, 0), (0, [0], 0, 0), (0, [0, 0, 0], 0, 0), (0, [0, 0, 0], 0, 0), (0, [2, 2, 0, 2], 9, 0), (2, [2], 9, 12), (1, [2], 0, 12), (0, [0, 0, 0], 0, 12), (1, [0, 0, 2], 0, 12), (1, [0, 2], 0, 12), (1, [0, 2], 0, 12), (0, [0], 0, 12), (1, [0, 0, 2], 0, 12), (0, [0], 0, 12), (1, [0, 0, 0, 0, 0, 2], 0, 12), (0, [0], 0, 12), (0, [0, 0], 0, 12), (1, [0, 0, 2], 0, 12), (1, [0, 0, 2], 0, 12), (1, [0, 0, 2], 0, 12), (1, [0, 2], 0, 12), (1, [0, 2], 0, 12), (1, [0, 0, 0, 2], 0, 12), (1, [0, 0, 0, 0, 0, 2], 0, 12), (1, [0, 0, 0, 0, 0, 2], 0, 12), (1, [0, 0, 0, 2], 0, 12), (1, [2], 0, 12), (1, [0, 2], 0, 12), (1, [0, 2], 0, 12), (1, [0, 2], 0, 12), (1, [2], 9, 12), (0, [0, 0], 0, 12), (1, [0, 2], 0, 12), (1, [0, 0, 2], 9, 12), (1, [0, 2], 9, 12), (1, [0, 0, 0, 0, 0, 2], 9, 12), (1, [0, 0, 2], 0, 12), (1, [0, 0, 2], 0, 12), (1, [0, 2], 9, 12), (1, [0, 2], 0, 12), (1, [0, 2], 9, 12), (1, [0, 2], 0, 12), (1, [0, 2], 9, 12), (1, [0, 2], 9, 12), (1, [0, 0, 0, 0, 2], 9, 12), (1, [0, 0, 0, 0, 2], 9, 12), (1, [0, 2], 0, 12), (1, [0, 2], 0, 12), (1, [0, 0, 0, 2], 0, 12), (1, [0, 0, 2], 0, 12), (1, [0, 0, 0, 0, 2], 9, 12), (1, [0, 2], 0, 12), (0, [0], 0, 12), (1, [0, 2], 0, 12), (1, [0, 0, 2], 0, 12), (1, [0, 0, 0, 2], 0, 12), (0, [0], 0, 12), (0, [0], 0, 12), (0, [0, 0, 0], 0, 12), (1, [0, 0, 0, 0, 2], 9, 12), (1, [0, 0, 0, 0, 2], 9, 12), (1, [0, 0, 0, 2], 0, 12), (1, [0, 0, 0, 2], 0, 12), (1, [0, 0, 2], 0, 12), (1, [0, 0, 2], 0, 12), (1, [0, 0, 0, 2], 9, 12), (1, [0, 0, 2], 9, 12), (1, [0, 2], 9, 12), (1, [0, 2], 0, 12), (1, [0, 2], 0, 12), (1, [0, 2], 9, 12), (1, [0, 2], 9, 12), (1, [0, 2], 0, 12), (1, [0, 2], 0, 12), (1, [0, 0, 2], 0, 12), (1, [0, 2], 0, 12), (1, [0, 0, 2], 9, 12), (1, [0, 2], 0, 12), (1, [0, 2], 0, 12), (1, [2], 0, 12), (1, [0, 2], 0, 12), (1, [2], 0, 12), (1, [0, 2], 0, 12), (1, [0, 2], 0, 12), (1, [2], 0, 12), (0, [0], 0, 12), (1, [0, 0, 2], 0, 12), (1, [0, 2], 0, 12), (1, [0, 0, 2], 0, 12), (1, [0, 0, 2], 0, 12), (1, [0, 0, 2], 0, 12), (1, [0, 0, 2], 0, 12), (1, [0, 0, 2], 0, 12), (1, [0, 0, 0, 0, 2], 0, 12), (1, [0, 0, 0, 2], 0, 12), (1, [0, 0, 2], 0, 12), (1, [0, 2], 0, 12), (1, [0, 2], 0, 12), (1, [0, 0, 2], 0, 12), (1, [0, 2], 0, 12), (1, [0, 0, 0, 2], 0, 12), (1, [0, 2], 0, 12), (1, [0, 0, 0, 0, 2], 0, 12), (1, [0, 0, 0, 0, 0, 2], 0, 12), (1, [2], 1, 12), (1, [2], 0, 12), (1, [2], 0, 12), (1, [2], 0, 12), (1, [2], 0, 12), (1, [2], 0, 12), (2, [0, 2, 2], 9, 10), (0, [2], 2, 10), (1, [0, 2], 0, 10), (1, [2], 0, 10), (1, [2], 0, 10), (1, [2], 2, 10), (1, [0, 2], 0, 10), (1, [0, 0, 0, 2], 9, 10), (1, [0, 0, 0, 2], 9, 10), (1, [2, 2], 9, 10), (2, [2, 2], 9, 2), (1, [2], 9, 2), (1, [2], 9, 2), (1, [2], 9, 2), (1, [2, 2], 2, 2), (1, [2, 2, 2], 9, 2), (1, [2], 9, 2), (1, [2, 2, 2], 0, 2), (1, [2, 2, 2], 9, 2), (1, [2, 2, 0, 2, 2], 0, 2), (1, [2, 2, 0, 2, 2], 0, 2), (0, [2, 2, 0, 2], 0, 2), (1, [2, 2, 2, 2], 9, 2), (1, [2, 2, 2], 0, 2), (1, [2, 2, 2], 0, 2), (1, [2], 0, 2), (1, [2, 2], 0, 2), (1, [0, 0, 2], 0, 2), (1, [2, 2], 9, 2), (1, [2, 2], 9, 2), (1, [2, 2], 9, 2), (1, [0, 0, 0, 2, 2], 9, 2), (2, [2], 9, 4), (2, [0, 2, 2], 9, 11), (1, [0, 2], 2, 11), (1, [0, 2], 0, 11), (1, [2], 0, 11), (1, [2], 0, 11), (1, [2], 0, 11), (1, [0, 2], 0, 11), (1, [2], 0, 11), (1, [0, 2], 0, 11), (1, [0, 2], 0, 11), (1, [2], 0, 11), (1, [2], 0, 11), (1, [0, 0, 2], 9, 11), (1, [2, 0, 2], 0, 11), (1, [2, 2], 9, 11), (1, [2, 2], 0, 11), (2, [0, 0, 0, 0, 2], 9, 8), (1, [3, 2], 0, 8), (1, [2, 2], 0, 8), (1, [2], 0, 8), (2, [0, 0, 2], 9, 7), (1, [2, 2], 0, 7), (1, [0, 2], 2, 7), (1, [0, 2], 0, 7), (1, [3, 2], 0, 7), (1, [0, 2], 0, 7), (2, [2, 2, 2, 0, 0, 2], 9, 9), (1, [0, 0, 2, 2], 9, 9), (1, [0, 0, 0, 2], 9, 9), (1, [2], 0, 9), (1, [2], 0, 9), (1, [2], 0, 9), (1, [2], 0, 9), (1, [2], 0, 9), (1, [2], 0, 9), (1, [2, 2], 9, 9), (1, [0, 2], 9, 9), (2, [2], 9, 1), (1, [0, 2], 2, 1), (1, [0, 2], 2, 1), (1, [2, 2], 0, 1), (1, [0, 0, 2], 2, 1), (1, [2, 2], 2, 1), (1, [0, 2], 2, 1), (1, [0, 0, 2, 2], 0, 1), (1, [2], 0, 1), (1, [2], 9, 1), (1, [0, 2], 9, 1), (0, [2], 9, 1), (1, [2, 2], 9, 1), (1, [2, 2], 0, 1), (2, [0, 0, 2], 9, 6), (1, [0, 0, 2], 9, 6), (1, [2], 0, 6), (1, [2], 0, 6), (1, [2], 0, 6), (1, [0, 2], 0, 6), (1, [0, 0, 2], 9, 6), (1, [2, 2], 9, 6), (1, [0, 2, 2], 9, 6), (1, [0, 0, 2], 9, 6), (0, [0, 2], 0, 6), (0, [0, 2], 2, 6), (0, [0, 0, 0, 2], 0, 6), (2, [2], 9, 5), (1, [2, 0, 0, 2, 2], 9, 5), (1, [0, 2], 0, 5), (1, [0, 2], 0, 5), (1, [2, 2], 0, 5), (1, [2, 2, 2], 0, 5), (1, [0, 2, 2, 2], 0, 5), (1, [0, 2, 2, 2], 0, 5), (2, [2], 9, 3), (1, [0, 2], 2, 3), (1, [0, 2, 2], 0, 3), (1, [2], 0, 3), (1, [2], 0, 3), (1, [2, 2], 9, 3), (1, [2, 2], 9, 3), (1, [2, 2], 9, 3), (1, [0, 2], 9, 3), (1, [0, 0, 2], 2, 3), (1, [2], 0, 3), (1, [0, 2], 0, 3), (1, [2], 0, 3)],
 [([(42, 88), (82, 90), (87, 90), (97, 108), (99, 118), (102, 101), (114, 95), (119, 101), (120, 108)], 128), ([(42, 159), (43, 103), (45, 131), (60, 187), (61, 222), (107, 88), (108, 287), (110, 272), (116, 257)], 304)])
def zML : List (Nat × Nat) := (12, 0) :: [(20, 64), (20, 4), (20, 4), (20, 4), (21, 4), (22, 160), (20, 160), (20, 160), (20, 160), (22, 12), (20, 12), (20, 12), (20, 12), (20, 12), (20, 12), (20, 12), (20, 12), (20, 12), (20, 12), (20, 12), (20, 12), (20, 12), (20, 12), (20, 12), (22, 12), (20, 12), (20, 72), (21, 72), (20, 72), (22, 1152), (20, 1152), (20, 9216), (20, 1152), (20, 2), (20, 8), (20, 8), (20, 8), (20, 8), (20, 32), (20, 32), (20, 2), (20, 2), (20, 4), (20, 73728), (20, 73728), (21, 768), (20, 18432), (20, 18432), (21, 1152), (20, 32), (20, 64), (20, 16), (20, 128), (20, 16), (22, 16), (20, 16)]
def zfinM (c k : Nat) : Option Int := if c = 12 then zget none [none, none, none, some 1, none, some 2, some 3, some 4, some 5, some 6, some 7, some 8, some 9, none, some 10, some 11, some 12, some 13, some 14, some 15, some 16, some 17, some 18, some 19, some 20, some 21, some 22, some 23, some 24, some 25, some 26, some 27, some 28, some 29, some 30, some 31, some 32, some 33, some 34, some 35, some 36, some 37, some 38, some 39, some 40, some 41, some 42, some 43, some 44, some 45, some 46, some 47, some 48, some 49, none, none, none, none, none, none, none, none, some 50, none, none, none, none, none, some 51, some 52, some 53, some 54, some 55, some 56] k else none
def zM (s : zD) : zH := (57, (fun a => (zget (0, 0) zML a).1), (fun a => (zget (0, 0) zML a).2), s, 0, 0)
def zc_Ma_max : List zI := [(10, 0, 0, 0), (10, 0, 1, 0), (68, 7, 9, 0), (999, 0, 0, 0), (999, 0, 0, 0), (10, 0, 0, 0), (72, 4, 10, 0), (999, 0, 0, 0), (999, 0, 0, 0), (10, 0, 1, 0), (130, 0, 0, 0)]
def Ma_max_10 {ρ : Type} (kr : Int → zH → Option ρ) (t0 : Int) (h : zH) : Option ρ :=
kr t0 h
def Ma_max {ρ : Type} (a0 a1 : Int) (h : zH) (kr : Int → zH → Option ρ) : Option ρ :=
if a0 < a1 then Ma_max_10 kr a1 h
else Ma_max_10 kr a0 h
set_option maxRecDepth 100000 in
theorem qe_Ma_max_10 {ρ : Type} (kr : Int → zH → Option ρ) (t0 : Int) (h : zH) : Ma_max_10 kr t0 h = zseg zPP true (fun _ _ => none) (zcal []) (zget (999, 0, 0, 0) zc_Ma_max) (zcut [(10, [false, false])]) (zorc []) kr (fun _ _ => none) 400 10 [none, none] [(0, t0)] h := by rfl
set_option maxRecDepth 100000 in
theorem qe_Ma_max {ρ : Type} (kr : Int → zH → Option ρ) (a0 a1 : Int) (h : zH) : Ma_max a0 a1 h kr = zseg zPP true (fun _ _ => none) (zcal []) (zget (999, 0, 0, 0) zc_Ma_max) (zcut [(10, [false, false])]) (zorc [(10, [none, none], [(0, none)], fun xs h => match xs with
  | [t0] => Ma_max_10 kr t0 h
  | _ => none)]) kr (fun _ _ => none) 400 0 [some (0, a0), some (0, a1)] [] h := by rfl
def zc_Ma_min : List zI := [(10, 0, 0, 0), (10, 0, 1, 0), (70, 7, 9, 0), (999, 0, 0, 0), (999, 0, 0, 0), (10, 0, 0, 0), (72, 4, 10, 0), (999, 0, 0, 0), (999, 0, 0, 0), (10, 0, 1, 0), (130, 0, 0, 0)]
def Ma_min_10 {ρ : Type} (kr : Int → zH → Option ρ) (t0 : Int) (h : zH) : Option ρ :=
kr t0 h
def Ma_min {ρ : Type} (a0 a1 : Int) (h : zH) (kr : Int → zH → Option ρ) : Option ρ :=
if a1 < a0 then Ma_min_10 kr a1 h
else Ma_min_10 kr a0 h
set_option maxRecDepth 100000 in
theorem qe_Ma_min_10 {ρ : Type} (kr : Int → zH → Option ρ) (t0 : Int) (h : zH) : Ma_min_10 kr t0 h = zseg zPP true (fun _ _ => none) (zcal []) (zget (999, 0, 0, 0) zc_Ma_min) (zcut [(10, [false, false])]) (zorc []) kr (fun _ _ => none) 400 10 [none, none] [(0, t0)] h := by rfl
set_option maxRecDepth 100000 in
theorem qe_Ma_min {ρ : Type} (kr : Int → zH → Option ρ) (a0 a1 : Int) (h : zH) : Ma_min a0 a1 h kr = zseg zPP true (fun _ _ => none) (zcal []) (zget (999, 0, 0, 0) zc_Ma_min) (zcut [(10, [false, false])]) (zorc [(10, [none, none], [(0, none)], fun xs h => match xs with
  | [t0] => Ma_min_10 kr t0 h
  | _ => none)]) kr (fun _ _ => none) 400 0 [some (0, a0), some (0, a1)] [] h := by rfl
def zc_Ma_floorMod : List zI := [(10, 0, 0, 0), (10, 0, 1, 0), (34, 0, 0, 0), (16, 0, 2, 0), (10, 0, 0, 0), (10, 0, 1, 0), (38, 0, 0, 0), (63, 11, 18, 0), (999, 0, 0, 0), (999, 0, 0, 0), (10, 0, 2, 0), (60, 7, 18, 0), (999, 0, 0, 0), (999, 0, 0, 0), (10, 0, 2, 0), (10, 0, 1, 0), (30, 0, 0, 0), (130, 0, 0, 0), (10, 0, 2, 0), (130, 0, 0, 0)]
def Ma_floorMod_18 {ρ : Type} (kr : Int → zH → Option ρ) (a2 : Int) (h : zH) : Option ρ :=
kr a2 h
def Ma_floorMod {ρ : Type} (a0 a1 : Int) (h : zH) (kr : Int → zH → Option ρ) : Option ρ :=
if a1 = 0 then none else if (zxor a0 a1) < 0 then (if (Int.tmod a0 a1) = 0 then Ma_floorMod_18 kr (Int.tmod a0 a1) h
else kr (wr ((Int.tmod a0 a1) + a1)) h)
else Ma_floorMod_18 kr (Int.tmod a0 a1) h
set_option maxRecDepth 100000 in
theorem qe_Ma_floorMod_18 {ρ : Type} (kr : Int → zH → Option ρ) (a2 : Int) (h : zH) : Ma_floorMod_18 kr a2 h = zseg zPP true (fun _ _ => none) (zcal []) (zget (999, 0, 0, 0) zc_Ma_floorMod) (zcut [(18, [false, false, true])]) (zorc []) kr (fun _ _ => none) 400 18 [none, none, some (0, a2)] [] h := by rfl
set_option maxRecDepth 100000 in
theorem qe_Ma_floorMod {ρ : Type} (kr : Int → zH → Option ρ) (a0 a1 : Int) (h : zH) : Ma_floorMod a0 a1 h kr = zseg zPP true (fun _ _ => none) (zcal []) (zget (999, 0, 0, 0) zc_Ma_floorMod) (zcut [(18, [false, false, true])]) (zorc [(18, [none, none, some (0, none)], [], fun xs h => match xs with
  | [a2] => Ma_floorMod_18 kr a2 h
  | _ => none)]) kr (fun _ _ => none) 400 0 [some (0, a0), some (0, a1), none] [] h := by rfl
def zc_Ar_fill : List zI := [(0, 0, 0, 0), (16, 0, 2, 0), (14, 0, 0, 0), (100, 0, 0, 20), (16, 0, 3, 0), (10, 0, 2, 0), (10, 0, 3, 0), (69, 13, 20, 0), (999, 0, 0, 0), (999, 0, 0, 0), (14, 0, 0, 0), (10, 0, 2, 0), (10, 0, 1, 0), (95, 0, 0, 0), (22, 1, 2, 0), (999, 0, 0, 0), (999, 0, 0, 0), (72, (-12), 5, 0), (999, 0, 0, 0), (999, 0, 0, 0), (133, 0, 0, 0)]
def Ar_fill_5b {ρ : Type} (kr : Int → zH → Option ρ) (r5 : Int → Int → Int → Int → zH → Option ρ) (a0 a1 a2 a3 : Int) (h : zH) : Option ρ :=
if a2 < a3 then (zob h 20 a0 fun p2 =>
zix (zhl h p2) a2 fun j1 =>
zlet (zset h p2 j1 a1) fun h3 =>
r5 a0 a1 (wr (a2 + 1)) a3 h3)
else kr 0 h
def Ar_fill_5 {ρ : Type} (kr : Int → zH → Option ρ) : Int → Int → Int → Int → zH → Option ρ := zit (fun _ _ _ _ _ => none) (Ar_fill_5b kr) zN
def Ar_fill {ρ : Type} (a0 a1 : Int) (h : zH) (kr : Int → zH → Option ρ) : Option ρ :=
zob h 20 a0 fun p1 =>
Ar_fill_5 kr a0 a1 0 (zhl h p1 : Int) h
set_option maxRecDepth 100000 in
theorem qe_Ar_fill_5b {ρ : Type} (kr : Int → zH → Option ρ) (r5 : Int → Int → Int → Int → zH → Option ρ) (a0 a1 a2 a3 : Int) (h : zH) : Ar_fill_5b kr r5 a0 a1 a2 a3 h = zseg zPP true (fun _ _ => none) (zcal []) (zget (999, 0, 0, 0) zc_Ar_fill) (zcut [(5, [true, true, true, true])]) (zorc [(5, [some (2, none), some (0, none), some (0, none), some (0, none)], [], fun xs h => match xs with
  | [a0, a1, a2, a3] => r5 a0 a1 a2 a3 h
  | _ => none)]) kr (fun _ _ => none) 400 5 [some (2, a0), some (0, a1), some (0, a2), some (0, a3)] [] h := by rfl
set_option maxRecDepth 100000 in
theorem qe_Ar_fill {ρ : Type} (kr : Int → zH → Option ρ) (a0 a1 : Int) (h : zH) : Ar_fill a0 a1 h kr = zseg zPP true (fun _ _ => none) (zcal []) (zget (999, 0, 0, 0) zc_Ar_fill) (zcut [(5, [true, true, true, true])]) (zorc [(5, [some (2, none), some (0, none), some (0, none), some (0, none)], [], fun xs h => match xs with
  | [a0, a1, a2, a3] => Ar_fill_5 kr a0 a1 a2 a3 h
  | _ => none)]) kr (fun _ _ => none) 400 0 [some (2, a0), some (0, a1), none, none] [] h := by rfl
def zc_It_bitCount : List zI := [(10, 0, 0, 0), (10, 0, 0, 0), (0, 1, 0, 0), (41, 0, 0, 0), (4, 1431655765, 265, 0), (999, 0, 0, 0), (999, 0, 0, 0), (36, 0, 0, 0), (31, 0, 0, 0), (16, 0, 0, 0), (10, 0, 0, 0), (4, 858993459, 266, 0), (999, 0, 0, 0), (999, 0, 0, 0), (36, 0, 0, 0), (10, 0, 0, 0), (0, 2, 0, 0), (41, 0, 0, 0), (4, 858993459, 266, 0), (999, 0, 0, 0), (999, 0, 0, 0), (36, 0, 0, 0), (30, 0, 0, 0), (16, 0, 0, 0), (10, 0, 0, 0), (10, 0, 0, 0), (0, 4, 0, 0), (41, 0, 0, 0), (30, 0, 0, 0), (4, 252645135, 267, 0), (999, 0, 0, 0), (999, 0, 0, 0), (36, 0, 0, 0), (16, 0, 0, 0), (10, 0, 0, 0), (10, 0, 0, 0), (1, 8, 0, 0), (999, 0, 0, 0), (41, 0, 0, 0), (30, 0, 0, 0), (16, 0, 0, 0), (10, 0, 0, 0), (10, 0, 0, 0), (1, 16, 0, 0), (999, 0, 0, 0), (41, 0, 0, 0), (30, 0, 0, 0), (16, 0, 0, 0), (10, 0, 0, 0), (1, 63, 0, 0), (999, 0, 0, 0), (36, 0, 0, 0), (130, 0, 0, 0)]
def It_bitCount {ρ : Type} (a0 : Int) (h : zH) (kr : Int → zH → Option ρ) : Option ρ :=
kr (zand (wr ((wr ((zand (wr ((wr ((zand (wr (a0 - (zand (zushr a0 1) 1431655765))) 858993459) + (zand (zushr (wr (a0 - (zand (zushr a0 1) 1431655765))) 2) 858993459))) + (zushr (wr ((zand (wr (a0 - (zand (zushr a0 1) 1431655765))) 858993459) + (zand (zushr (wr (a0 - (zand (zushr a0 1) 1431655765))) 2) 858993459))) 4))) 252645135) + (zushr (zand (wr ((wr ((zand (wr (a0 - (zand (zushr a0 1) 1431655765))) 858993459) + (zand (zushr (wr (a0 - (zand (zushr a0 1) 1431655765))) 2) 858993459))) + (zushr (wr ((zand (wr (a0 - (zand (zushr a0 1) 1431655765))) 858993459) + (zand (zushr (wr (a0 - (zand (zushr a0 1) 1431655765))) 2) 858993459))) 4))) 252645135) 8))) + (zushr (wr ((zand (wr ((wr ((zand (wr (a0 - (zand (zushr a0 1) 1431655765))) 858993459) + (zand (zushr (wr (a0 - (zand (zushr a0 1) 1431655765))) 2) 858993459))) + (zushr (wr ((zand (wr (a0 - (zand (zushr a0 1) 1431655765))) 858993459) + (zand (zushr (wr (a0 - (zand (zushr a0 1) 1431655765))) 2) 858993459))) 4))) 252645135) + (zushr (zand (wr ((wr ((zand (wr (a0 - (zand (zushr a0 1) 1431655765))) 858993459) + (zand (zushr (wr (a0 - (zand (zushr a0 1) 1431655765))) 2) 858993459))) + (zushr (wr ((zand (wr (a0 - (zand (zushr a0 1) 1431655765))) 858993459) + (zand (zushr (wr (a0 - (zand (zushr a0 1) 1431655765))) 2) 858993459))) 4))) 252645135) 8))) 16))) 63) h
set_option maxRecDepth 100000 in
theorem qe_It_bitCount {ρ : Type} (kr : Int → zH → Option ρ) (a0 : Int) (h : zH) : It_bitCount a0 h kr = zseg zPP true (fun _ _ => none) (zcal []) (zget (999, 0, 0, 0) zc_It_bitCount) (zcut []) (zorc []) kr (fun _ _ => none) 400 0 [some (0, a0)] [] h := by rfl
def zc_Fi_init : List zI := [(14, 0, 0, 0), (117, 0, 1, 0), (999, 0, 0, 0), (999, 0, 0, 0), (133, 0, 0, 0)]
def Fi_init {ρ : Type} (a0 : Int) (h : zH) (kr : Int → zH → Option ρ) : Option ρ :=
kr 0 h
set_option maxRecDepth 100000 in
theorem qe_Fi_init {ρ : Type} (kr : Int → zH → Option ρ) (a0 : Int) (h : zH) : Fi_init a0 h kr = zseg zPP true (fun _ _ => none) (zcal []) (zget (999, 0, 0, 0) zc_Fi_init) (zcut []) (zorc []) kr (fun _ _ => none) 400 0 [some (2, a0)] [] h := by rfl
def zc_Un_init : List zI := [(14, 0, 0, 0), (117, 0, 3, 0), (999, 0, 0, 0), (999, 0, 0, 0), (14, 0, 0, 0), (0, 4, 0, 0), (102, 0, 9, 11), (999, 0, 0, 0), (999, 0, 0, 0), (84, 3, 11, 0), (999, 0, 0, 0), (999, 0, 0, 0), (14, 0, 0, 0), (0, 2, 0, 0), (101, 0, 0, 20), (999, 0, 0, 0), (50, 0, 0, 0), (0, 0, 0, 0), (0, (-1), 0, 0), (95, 0, 0, 0), (50, 0, 0, 0), (0, 1, 0, 0), (0, (-1), 0, 0), (95, 0, 0, 0), (84, 3, 17, 1), (999, 0, 0, 0), (999, 0, 0, 0), (133, 0, 0, 0)]
def Un_init {ρ : Type} (a0 : Int) (h : zH) (kr : Int → zH → Option ρ) : Option ρ :=
zix 100000 4 fun n1 =>
zlet (znew h 41 n1 n1 (fun _ => -1)) fun h2 =>
zob h2 3 a0 fun p3 =>
zlet (zset h2 p3 0 (zhn h : Int)) fun h4 =>
zix 100000 2 fun n5 =>
zlet (znew h4 20 n5 n5 (fun _ => 0)) fun h6 =>
zob h6 20 (zhn h4 : Int) fun p8 =>
zix (zhl h6 p8) 0 fun j7 =>
zlet (zset h6 p8 j7 (-1)) fun h9 =>
zob h9 20 (zhn h4 : Int) fun p11 =>
zix (zhl h9 p11) 1 fun j10 =>
zlet (zset h9 p11 j10 (-1)) fun h12 =>
zob h12 3 a0 fun p13 =>
zlet (zset h12 p13 1 (zhn h4 : Int)) fun h14 =>
kr 0 h14
set_option maxRecDepth 100000 in
theorem qe_Un_init {ρ : Type} (kr : Int → zH → Option ρ) (a0 : Int) (h : zH) : Un_init a0 h kr = zseg zPP true (fun _ _ => none) (zcal []) (zget (999, 0, 0, 0) zc_Un_init) (zcut []) (zorc []) kr (fun _ _ => none) 400 0 [some (2, a0)] [] h := by rfl
def zc_Co_init : List zI := [(14, 0, 0, 0), (117, 0, 3, 0), (999, 0, 0, 0), (999, 0, 0, 0), (14, 0, 0, 0), (1, 64, 0, 0), (999, 0, 0, 0), (101, 0, 0, 20), (999, 0, 0, 0), (84, 2, 9, 1), (999, 0, 0, 0), (999, 0, 0, 0), (14, 0, 0, 0), (0, 2, 0, 0), (102, 0, 15, 3), (999, 0, 0, 0), (999, 0, 0, 0), (50, 0, 0, 0), (0, 0, 0, 0), (103, 0, 15, 3), (999, 0, 0, 0), (999, 0, 0, 0), (50, 0, 0, 0), (116, 0, 17, 265), (999, 0, 0, 0), (999, 0, 0, 0), (99, 0, 0, 3), (50, 0, 0, 0), (0, 1, 0, 0), (103, 0, 15, 3), (999, 0, 0, 0), (999, 0, 0, 0), (50, 0, 0, 0), (116, 0, 17, 265), (999, 0, 0, 0), (999, 0, 0, 0), (99, 0, 0, 3), (84, 2, 18, 2), (999, 0, 0, 0), (999, 0, 0, 0), (14, 0, 0, 0), (103, 0, 22, 4), (999, 0, 0, 0), (999, 0, 0, 0), (50, 0, 0, 0), (116, 0, 24, 192), (999, 0, 0, 0), (999, 0, 0, 0), (84, 2, 25, 3), (999, 0, 0, 0), (999, 0, 0, 0), (14, 0, 0, 0), (1, 111, 0, 0), (999, 0, 0, 0), (82, 2, 29, 5), (999, 0, 0, 0), (999, 0, 0, 0), (14, 0, 0, 0), (0, 4, 0, 0), (101, 0, 0, 20), (999, 0, 0, 0), (84, 2, 33, 6), (999, 0, 0, 0), (999, 0, 0, 0), (14, 0, 0, 0), (0, 4, 0, 0), (101, 0, 0, 20), (999, 0, 0, 0), (84, 2, 36, 7), (999, 0, 0, 0), (999, 0, 0, 0), (14, 0, 0, 0), (14, 0, 1, 0), (84, 2, 39, 0), (999, 0, 0, 0), (999, 0, 0, 0), (133, 0, 0, 0)]
def Co_init {ρ : Type} (a0 a1 : Int) (h : zH) (kr : Int → zH → Option ρ) : Option ρ :=
zix 100000 64 fun n1 =>
zlet (znew h 20 n1 n1 (fun _ => 0)) fun h2 =>
zob h2 2 a0 fun p3 =>
zlet (zset h2 p3 1 (zhn h : Int)) fun h4 =>
zix 100000 2 fun n5 =>
zlet (znew h4 33 n5 n5 (fun _ => -1)) fun h6 =>
zlet (znew h6 3 0 (znf zPP 3) (fun k => zdef (zft zPP 3 k))) fun h7 =>
Un_init (zhn h6 : Int) h7  fun _ h9 =>
zob h9 33 (zhn h4 : Int) fun p11 =>
zix (zhl h9 p11) 0 fun j10 =>
if (zhn h6 : Int) < 0 then (zlet (zset h9 p11 j10 (-1)) fun h12 =>
zlet (znew h12 3 0 (znf zPP 3) (fun k => zdef (zft zPP 3 k))) fun h14 =>
Un_init (zhn h12 : Int) h14  fun _ h16 =>
zob h16 33 (zhn h4 : Int) fun p18 =>
zix (zhl h16 p18) 1 fun j17 =>
if (zhn h12 : Int) < 0 then (zlet (zset h16 p18 j17 (-1)) fun h19 =>
zob h19 2 a0 fun p21 =>
zlet (zset h19 p21 2 (zhn h4 : Int)) fun h22 =>
zlet (znew h22 4 0 (znf zPP 4) (fun k => zdef (zft zPP 4 k))) fun h23 =>
Fi_init (zhn h22 : Int) h23  fun _ h25 =>
zob h25 2 a0 fun p26 =>
zlet (zset h25 p26 3 (zhn h22 : Int)) fun h27 =>
zob h27 2 a0 fun p28 =>
zlet (zset h27 p28 5 111) fun h29 =>
zix 100000 4 fun n30 =>
zlet (znew h29 20 n30 n30 (fun _ => 0)) fun h31 =>
zob h31 2 a0 fun p32 =>
zlet (zset h31 p32 6 (zhn h29 : Int)) fun h33 =>
zix 100000 4 fun n34 =>
zlet (znew h33 20 n34 n34 (fun _ => 0)) fun h35 =>
zob h35 2 a0 fun p36 =>
zlet (zset h35 p36 7 (zhn h33 : Int)) fun h37 =>
zob h37 2 a0 fun p38 =>
zlet (zset h37 p38 0 a1) fun h39 =>
kr 0 h39)
else zob h16 3 (zhn h12 : Int) fun _ =>
zlet (zset h16 p18 j17 (zhn h12 : Int)) fun h20 =>
zob h20 2 a0 fun p40 =>
zlet (zset h20 p40 2 (zhn h4 : Int)) fun h41 =>
zlet (znew h41 4 0 (znf zPP 4) (fun k => zdef (zft zPP 4 k))) fun h42 =>
Fi_init (zhn h41 : Int) h42  fun _ h44 =>
zob h44 2 a0 fun p45 =>
zlet (zset h44 p45 3 (zhn h41 : Int)) fun h46 =>
zob h46 2 a0 fun p47 =>
zlet (zset h46 p47 5 111) fun h48 =>
zix 100000 4 fun n49 =>
zlet (znew h48 20 n49 n49 (fun _ => 0)) fun h50 =>
zob h50 2 a0 fun p51 =>
zlet (zset h50 p51 6 (zhn h48 : Int)) fun h52 =>
zix 100000 4 fun n53 =>
zlet (znew h52 20 n53 n53 (fun _ => 0)) fun h54 =>
zob h54 2 a0 fun p55 =>
zlet (zset h54 p55 7 (zhn h52 : Int)) fun h56 =>
zob h56 2 a0 fun p57 =>
zlet (zset h56 p57 0 a1) fun h58 =>
kr 0 h58)
else zob h9 3 (zhn h6 : Int) fun _ =>
zlet (zset h9 p11 j10 (zhn h6 : Int)) fun h13 =>
zlet (znew h13 3 0 (znf zPP 3) (fun k => zdef (zft zPP 3 k))) fun h59 =>
Un_init (zhn h13 : Int) h59  fun _ h61 =>
zob h61 33 (zhn h4 : Int) fun p63 =>
zix (zhl h61 p63) 1 fun j62 =>
if (zhn h13 : Int) < 0 then (zlet (zset h61 p63 j62 (-1)) fun h64 =>
zob h64 2 a0 fun p66 =>
zlet (zset h64 p66 2 (zhn h4 : Int)) fun h67 =>
zlet (znew h67 4 0 (znf zPP 4) (fun k => zdef (zft zPP 4 k))) fun h68 =>
Fi_init (zhn h67 : Int) h68  fun _ h70 =>
zob h70 2 a0 fun p71 =>
zlet (zset h70 p71 3 (zhn h67 : Int)) fun h72 =>
zob h72 2 a0 fun p73 =>
zlet (zset h72 p73 5 111) fun h74 =>
zix 100000 4 fun n75 =>
zlet (znew h74 20 n75 n75 (fun _ => 0)) fun h76 =>
zob h76 2 a0 fun p77 =>
zlet (zset h76 p77 6 (zhn h74 : Int)) fun h78 =>
zix 100000 4 fun n79 =>
zlet (znew h78 20 n79 n79 (fun _ => 0)) fun h80 =>
zob h80 2 a0 fun p81 =>
zlet (zset h80 p81 7 (zhn h78 : Int)) fun h82 =>
zob h82 2 a0 fun p83 =>
zlet (zset h82 p83 0 a1) fun h84 =>
kr 0 h84)
else zob h61 3 (zhn h13 : Int) fun _ =>
zlet (zset h61 p63 j62 (zhn h13 : Int)) fun h65 =>
zob h65 2 a0 fun p85 =>
zlet (zset h65 p85 2 (zhn h4 : Int)) fun h86 =>
zlet (znew h86 4 0 (znf zPP 4) (fun k => zdef (zft zPP 4 k))) fun h87 =>
Fi_init (zhn h86 : Int) h87  fun _ h89 =>
zob h89 2 a0 fun p90 =>
zlet (zset h89 p90 3 (zhn h86 : Int)) fun h91 =>
zob h91 2 a0 fun p92 =>
zlet (zset h91 p92 5 111) fun h93 =>
zix 100000 4 fun n94 =>
zlet (znew h93 20 n94 n94 (fun _ => 0)) fun h95 =>
zob h95 2 a0 fun p96 =>
zlet (zset h95 p96 6 (zhn h93 : Int)) fun h97 =>
zix 100000 4 fun n98 =>
zlet (znew h97 20 n98 n98 (fun _ => 0)) fun h99 =>
zob h99 2 a0 fun p100 =>
zlet (zset h99 p100 7 (zhn h97 : Int)) fun h101 =>
zob h101 2 a0 fun p102 =>
zlet (zset h101 p102 0 a1) fun h103 =>
kr 0 h103
set_option maxRecDepth 100000 in
theorem qe_Co_init {ρ : Type} (kr : Int → zH → Option ρ) (a0 a1 : Int) (h : zH) : Co_init a0 a1 h kr = zseg zPP true (fun _ _ => none) (zcal [(192, [none], fun xs h kr kt => match xs with
  | [x0] => Fi_init x0 h kr
  | _ => none), (265, [none], fun xs h kr kt => match xs with
  | [x0] => Un_init x0 h kr
  | _ => none)]) (zget (999, 0, 0, 0) zc_Co_init) (zcut []) (zorc []) kr (fun _ _ => none) 400 0 [some (2, a0), some (2, a1)] [] h := by rfl
def zc_Le_init : List zI := [(14, 0, 0, 0), (117, 0, 3, 0), (999, 0, 0, 0), (999, 0, 0, 0), (14, 0, 0, 0), (0, 4, 0, 0), (102, 0, 9, 7), (999, 0, 0, 0), (999, 0, 0, 0), (84, 1, 11, 0), (999, 0, 0, 0), (999, 0, 0, 0), (14, 0, 0, 0), (1, 12, 0, 0), (999, 0, 0, 0), (102, 0, 17, 9), (999, 0, 0, 0), (999, 0, 0, 0), (84, 1, 19, 1), (999, 0, 0, 0), (999, 0, 0, 0), (133, 0, 0, 0)]
def Le_init {ρ : Type} (a0 : Int) (h : zH) (kr : Int → zH → Option ρ) : Option ρ :=
zix 100000 4 fun n1 =>
zlet (znew h 37 n1 n1 (fun _ => -1)) fun h2 =>
zob h2 1 a0 fun p3 =>
zlet (zset h2 p3 0 (zhn h : Int)) fun h4 =>
zix 100000 12 fun n5 =>
zlet (znew h4 39 n5 n5 (fun _ => -1)) fun h6 =>
zob h6 1 a0 fun p7 =>
zlet (zset h6 p7 1 (zhn h4 : Int)) fun h8 =>
kr 0 h8
set_option maxRecDepth 100000 in
theorem qe_Le_init {ρ : Type} (kr : Int → zH → Option ρ) (a0 : Int) (h : zH) : Le_init a0 h kr = zseg zPP true (fun _ _ => none) (zcal []) (zget (999, 0, 0, 0) zc_Le_init) (zcut []) (zorc []) kr (fun _ _ => none) 400 0 [some (2, a0)] [] h := by rfl
def zc_Th_init : List zI := [(14, 0, 0, 0), (117, 0, 3, 0), (999, 0, 0, 0), (999, 0, 0, 0), (14, 0, 0, 0), (10, 0, 1, 0), (84, 6, 9, 0), (999, 0, 0, 0), (999, 0, 0, 0), (14, 0, 0, 0), (10, 0, 2, 0), (0, 0, 0, 0), (113, 0, 15, 0), (999, 0, 0, 0), (999, 0, 0, 0), (101, 0, 0, 20), (999, 0, 0, 0), (84, 6, 21, 1), (999, 0, 0, 0), (999, 0, 0, 0), (133, 0, 0, 0)]
def Th_init {ρ : Type} (a0 a1 a2 : Int) (h : zH) (kr : Int → zH → Option ρ) : Option ρ :=
zob h 6 a0 fun p1 =>
zlet (zset h p1 0 a1) fun h2 =>
Ma_max a2 0 h2  fun v3 h4 =>
zix 100000 v3 fun n5 =>
zlet (znew h4 20 n5 n5 (fun _ => 0)) fun h6 =>
zob h6 6 a0 fun p7 =>
zlet (zset h6 p7 1 (zhn h4 : Int)) fun h8 =>
kr 0 h8
set_option maxRecDepth 100000 in
theorem qe_Th_init {ρ : Type} (kr : Int → zH → Option ρ) (a0 a1 a2 : Int) (h : zH) : Th_init a0 a1 a2 h kr = zseg zPP true (fun _ _ => none) (zcal [(0, [none, none], fun xs h kr kt => match xs with
  | [x0, x1] => Ma_max x0 x1 h kr
  | _ => none)]) (zget (999, 0, 0, 0) zc_Th_init) (zcut []) (zorc []) kr (fun _ _ => none) 400 0 [some (2, a0), some (0, a1), some (0, a2)] [] h := by rfl
def zc_Re_init : List zI := [(14, 0, 0, 0), (117, 0, 3, 0), (999, 0, 0, 0), (999, 0, 0, 0), (14, 0, 0, 0), (1, 64, 0, 0), (999, 0, 0, 0), (101, 0, 0, 20), (999, 0, 0, 0), (84, 5, 9, 0), (999, 0, 0, 0), (999, 0, 0, 0), (14, 0, 0, 0), (1, 16, 0, 0), (999, 0, 0, 0), (101, 0, 0, 20), (999, 0, 0, 0), (84, 5, 15, 1), (999, 0, 0, 0), (999, 0, 0, 0), (14, 0, 0, 0), (1, 16, 0, 0), (999, 0, 0, 0), (102, 0, 18, 6), (999, 0, 0, 0), (999, 0, 0, 0), (84, 5, 20, 2), (999, 0, 0, 0), (999, 0, 0, 0), (14, 0, 0, 0), (1, 16, 0, 0), (999, 0, 0, 0), (101, 0, 0, 20), (999, 0, 0, 0), (84, 5, 24, 3), (999, 0, 0, 0), (999, 0, 0, 0), (0, 0, 0, 0), (16, 0, 1, 0), (10, 0, 1, 0), (14, 0, 0, 0), (80, 5, 20, 2), (999, 0, 0, 0), (999, 0, 0, 0), (100, 0, 0, 36), (69, 25, 70, 0), (999, 0, 0, 0), (999, 0, 0, 0), (14, 0, 0, 0), (80, 5, 20, 2), (999, 0, 0, 0), (999, 0, 0, 0), (10, 0, 1, 0), (103, 0, 18, 6), (999, 0, 0, 0), (999, 0, 0, 0), (50, 0, 0, 0), (10, 0, 1, 0), (1, 8, 0, 0), (999, 0, 0, 0), (115, 0, 27, 244), (999, 0, 0, 0), (999, 0, 0, 0), (99, 0, 0, 6), (22, 1, 1, 0), (999, 0, 0, 0), (999, 0, 0, 0), (72, (-28), 39, 0), (999, 0, 0, 0), (999, 0, 0, 0), (133, 0, 0, 0)]
def Re_init_39b {ρ : Type} (kr : Int → zH → Option ρ) (r39 : Int → Int → zH → Option ρ) (a0 a1 : Int) (h : zH) : Option ρ :=
zob h 5 a0 fun p1 =>
zob h 36 (zhd h p1 2) fun p2 =>
if a1 < (zhl h p2 : Int) then (zob h 5 a0 fun p3 =>
zlet (znew h 6 0 (znf zPP 6) (fun k => zdef (zft zPP 6 k))) fun h4 =>
Th_init (zhn h : Int) a1 8 h4  fun _ h6 =>
zob h6 36 (zhd h p3 2) fun p8 =>
zix (zhl h6 p8) a1 fun j7 =>
if (zhn h : Int) < 0 then (zlet (zset h6 p8 j7 (-1)) fun h9 =>
r39 a0 (wr (a1 + 1)) h9)
else zob h6 6 (zhn h : Int) fun _ =>
zlet (zset h6 p8 j7 (zhn h : Int)) fun h10 =>
r39 a0 (wr (a1 + 1)) h10)
else kr 0 h
def Re_init_39 {ρ : Type} (kr : Int → zH → Option ρ) : Int → Int → zH → Option ρ := zit (fun _ _ _ => none) (Re_init_39b kr) zN
def Re_init {ρ : Type} (a0 : Int) (h : zH) (kr : Int → zH → Option ρ) : Option ρ :=
zix 100000 64 fun n1 =>
zlet (znew h 20 n1 n1 (fun _ => 0)) fun h2 =>
zob h2 5 a0 fun p3 =>
zlet (zset h2 p3 0 (zhn h : Int)) fun h4 =>
zix 100000 16 fun n5 =>
zlet (znew h4 20 n5 n5 (fun _ => 0)) fun h6 =>
zob h6 5 a0 fun p7 =>
zlet (zset h6 p7 1 (zhn h4 : Int)) fun h8 =>
zix 100000 16 fun n9 =>
zlet (znew h8 36 n9 n9 (fun _ => -1)) fun h10 =>
zob h10 5 a0 fun p11 =>
zlet (zset h10 p11 2 (zhn h8 : Int)) fun h12 =>
zix 100000 16 fun n13 =>
zlet (znew h12 20 n13 n13 (fun _ => 0)) fun h14 =>
zob h14 5 a0 fun p15 =>
zlet (zset h14 p15 3 (zhn h12 : Int)) fun h16 =>
Re_init_39 kr a0 0 h16
set_option maxRecDepth 100000 in
theorem qe_Re_init_39b {ρ : Type} (kr : Int → zH → Option ρ) (r39 : Int → Int → zH → Option ρ) (a0 a1 : Int) (h : zH) : Re_init_39b kr r39 a0 a1 h = zseg zPP true (fun _ _ => none) (zcal [(244, [none, none, none], fun xs h kr kt => match xs with
  | [x0, x1, x2] => Th_init x0 x1 x2 h kr
  | _ => none)]) (zget (999, 0, 0, 0) zc_Re_init) (zcut [(39, [true, true])]) (zorc [(39, [some (2, none), some (0, none)], [], fun xs h => match xs with
  | [a0, a1] => r39 a0 a1 h
  | _ => none)]) kr (fun _ _ => none) 400 39 [some (2, a0), some (0, a1)] [] h := by rfl
set_option maxRecDepth 100000 in
theorem qe_Re_init {ρ : Type} (kr : Int → zH → Option ρ) (a0 : Int) (h : zH) : Re_init a0 h kr = zseg zPP true (fun _ _ => none) (zcal []) (zget (999, 0, 0, 0) zc_Re_init) (zcut [(39, [true, true])]) (zorc [(39, [some (2, none), some (0, none)], [], fun xs h => match xs with
  | [a0, a1] => Re_init_39 kr a0 a1 h
  | _ => none)]) kr (fun _ _ => none) 400 0 [some (2, a0), none] [] h := by rfl
def zc_X_init : List zI := [(14, 0, 0, 0), (117, 0, 1, 0), (999, 0, 0, 0), (999, 0, 0, 0), (14, 0, 0, 0), (103, 0, 7, 1), (999, 0, 0, 0), (999, 0, 0, 0), (50, 0, 0, 0), (116, 0, 9, 230), (999, 0, 0, 0), (999, 0, 0, 0), (84, 0, 10, 0), (999, 0, 0, 0), (999, 0, 0, 0), (14, 0, 0, 0), (103, 0, 16, 2), (999, 0, 0, 0), (999, 0, 0, 0), (50, 0, 0, 0), (14, 0, 0, 0), (80, 0, 10, 0), (999, 0, 0, 0), (999, 0, 0, 0), (115, 0, 18, 170), (999, 0, 0, 0), (999, 0, 0, 0), (84, 0, 21, 1), (999, 0, 0, 0), (999, 0, 0, 0), (14, 0, 0, 0), (103, 0, 25, 5), (999, 0, 0, 0), (999, 0, 0, 0), (50, 0, 0, 0), (115, 0, 27, 257), (999, 0, 0, 0), (999, 0, 0, 0), (84, 0, 28, 2), (999, 0, 0, 0), (999, 0, 0, 0), (133, 0, 0, 0)]
def X_init {ρ : Type} (a0 : Int) (h : zH) (kr : Int → zH → Option ρ) : Option ρ :=
zlet (znew h 1 0 (znf zPP 1) (fun k => zdef (zft zPP 1 k))) fun h1 =>
Le_init (zhn h : Int) h1  fun _ h3 =>
zob h3 0 a0 fun p4 =>
zlet (zset h3 p4 0 (zhn h : Int)) fun h5 =>
zlet (znew h5 2 0 (znf zPP 2) (fun k => zdef (zft zPP 2 k))) fun h6 =>
zob h6 0 a0 fun p7 =>
Co_init (zhn h5 : Int) (zhd h6 p7 0) h6  fun _ h9 =>
zob h9 0 a0 fun p10 =>
zlet (zset h9 p10 1 (zhn h5 : Int)) fun h11 =>
zlet (znew h11 5 0 (znf zPP 5) (fun k => zdef (zft zPP 5 k))) fun h12 =>
Re_init (zhn h11 : Int) h12  fun _ h14 =>
zob h14 0 a0 fun p15 =>
zlet (zset h14 p15 2 (zhn h11 : Int)) fun h16 =>
kr 0 h16
set_option maxRecDepth 100000 in
theorem qe_X_init {ρ : Type} (kr : Int → zH → Option ρ) (a0 : Int) (h : zH) : X_init a0 h kr = zseg zPP true (fun _ _ => none) (zcal [(170, [none, none], fun xs h kr kt => match xs with
  | [x0, x1] => Co_init x0 x1 h kr
  | _ => none), (230, [none], fun xs h kr kt => match xs with
  | [x0] => Le_init x0 h kr
  | _ => none), (257, [none], fun xs h kr kt => match xs with
  | [x0] => Re_init x0 h kr
  | _ => none)]) (zget (999, 0, 0, 0) zc_X_init) (zcut []) (zorc []) kr (fun _ _ => none) 400 0 [some (2, a0)] [] h := by rfl
def zc_X_isWithin : List zI := [(10, 0, 0, 0), (10, 0, 1, 0), (68, 12, 14, 0), (999, 0, 0, 0), (999, 0, 0, 0), (10, 0, 0, 0), (10, 0, 2, 0), (70, 7, 14, 0), (999, 0, 0, 0), (999, 0, 0, 0), (0, 1, 0, 0), (72, 4, 15, 0), (999, 0, 0, 0), (999, 0, 0, 0), (0, 0, 0, 0), (130, 0, 1, 0)]
def X_isWithin_15 {ρ : Type} (kr : Int → zH → Option ρ) (t0 : Int) (h : zH) : Option ρ :=
znar 1 t0 fun x1 => kr x1 h
def X_isWithin_14 {ρ : Type} (kr : Int → zH → Option ρ) (h : zH) : Option ρ :=
X_isWithin_15 kr 0 h
def X_isWithin {ρ : Type} (a0 a1 a2 : Int) (h : zH) (kr : Int → zH → Option ρ) : Option ρ :=
if a0 < a1 then X_isWithin_14 kr h
else if a2 < a0 then X_isWithin_14 kr h
else X_isWithin_15 kr 1 h
set_option maxRecDepth 100000 in
theorem qe_X_isWithin_15 {ρ : Type} (kr : Int → zH → Option ρ) (t0 : Int) (h : zH) : X_isWithin_15 kr t0 h = zseg zPP true (fun _ _ => none) (zcal []) (zget (999, 0, 0, 0) zc_X_isWithin) (zcut [(14, [false, false, false]), (15, [false, false, false])]) (zorc []) kr (fun _ _ => none) 400 15 [none, none, none] [(0, t0)] h := by rfl
set_option maxRecDepth 100000 in
theorem qe_X_isWithin_14 {ρ : Type} (kr : Int → zH → Option ρ) (h : zH) : X_isWithin_14 kr h = zseg zPP true (fun _ _ => none) (zcal []) (zget (999, 0, 0, 0) zc_X_isWithin) (zcut [(14, [false, false, false]), (15, [false, false, false])]) (zorc [(15, [none, none, none], [(0, none)], fun xs h => match xs with
  | [t0] => X_isWithin_15 kr t0 h
  | _ => none)]) kr (fun _ _ => none) 400 14 [none, none, none] [] h := by rfl
set_option maxRecDepth 100000 in
theorem qe_X_isWithin {ρ : Type} (kr : Int → zH → Option ρ) (a0 a1 a2 : Int) (h : zH) : X_isWithin a0 a1 a2 h kr = zseg zPP true (fun _ _ => none) (zcal []) (zget (999, 0, 0, 0) zc_X_isWithin) (zcut [(14, [false, false, false]), (15, [false, false, false])]) (zorc [(14, [none, none, none], [], fun xs h => match xs with
  | [] => X_isWithin_14 kr  h
  | _ => none), (15, [none, none, none], [(0, none)], fun xs h => match xs with
  | [t0] => X_isWithin_15 kr t0 h
  | _ => none)]) kr (fun _ _ => none) 400 0 [some (0, a0), some (0, a1), some (0, a2)] [] h := by rfl
def zc_Ke_init : List zI := [(14, 0, 0, 0), (117, 0, 3, 0), (999, 0, 0, 0), (999, 0, 0, 0), (14, 0, 0, 0), (1, 40, 0, 0), (999, 0, 0, 0), (102, 0, 9, 8), (999, 0, 0, 0), (999, 0, 0, 0), (84, 7, 11, 2), (999, 0, 0, 0), (999, 0, 0, 0), (14, 0, 0, 0), (10, 0, 1, 0), (84, 7, 17, 0), (999, 0, 0, 0), (999, 0, 0, 0), (14, 0, 0, 0), (10, 0, 2, 0), (84, 7, 21, 1), (999, 0, 0, 0), (999, 0, 0, 0), (133, 0, 0, 0)]
def Ke_init {ρ : Type} (a0 a1 a2 : Int) (h : zH) (kr : Int → zH → Option ρ) : Option ρ :=
zix 100000 40 fun n1 =>
zlet (znew h 38 n1 n1 (fun _ => -1)) fun h2 =>
zob h2 7 a0 fun p3 =>
zlet (zset h2 p3 2 (zhn h : Int)) fun h4 =>
zob h4 7 a0 fun p5 =>
zlet (zset h4 p5 0 a1) fun h6 =>
zob h6 7 a0 fun p7 =>
zlet (zset h6 p7 1 a2) fun h8 =>
kr 0 h8
set_option maxRecDepth 100000 in
theorem qe_Ke_init {ρ : Type} (kr : Int → zH → Option ρ) (a0 a1 a2 : Int) (h : zH) : Ke_init a0 a1 a2 h kr = zseg zPP true (fun _ _ => none) (zcal []) (zget (999, 0, 0, 0) zc_Ke_init) (zcut []) (zorc []) kr (fun _ _ => none) 400 0 [some (2, a0), some (0, a1), some (0, a2)] [] h := by rfl
def zc_Le_enterKernel : List zI := [(14, 0, 0, 0), (80, 1, 23, 2), (999, 0, 0, 0), (999, 0, 0, 0), (14, 0, 0, 0), (80, 1, 11, 0), (999, 0, 0, 0), (999, 0, 0, 0), (100, 0, 0, 37), (69, 23, 32, 0), (999, 0, 0, 0), (999, 0, 0, 0), (14, 0, 0, 0), (80, 1, 11, 0), (999, 0, 0, 0), (999, 0, 0, 0), (14, 0, 0, 0), (80, 1, 23, 2), (999, 0, 0, 0), (999, 0, 0, 0), (14, 0, 1, 0), (99, 0, 0, 7), (14, 0, 0, 0), (50, 0, 0, 0), (80, 1, 23, 2), (999, 0, 0, 0), (999, 0, 0, 0), (0, 1, 0, 0), (30, 0, 0, 0), (82, 1, 23, 2), (999, 0, 0, 0), (999, 0, 0, 0), (14, 0, 0, 0), (80, 1, 23, 2), (999, 0, 0, 0), (999, 0, 0, 0), (0, 1, 0, 0), (31, 0, 0, 0), (130, 0, 0, 0)]
def Le_enterKernel_32 {ρ : Type} (kr : Int → zH → Option ρ) (a0 : Int) (h : zH) : Option ρ :=
zob h 1 a0 fun p1 =>
kr (wr ((zhd h p1 2) - 1)) h
def Le_enterKernel {ρ : Type} (a0 a1 : Int) (h : zH) (kr : Int → zH → Option ρ) : Option ρ :=
zob h 1 a0 fun p1 =>
zob h 1 a0 fun p2 =>
zob h 37 (zhd h p2 0) fun p3 =>
if (zhd h p1 2) < (zhl h p3 : Int) then (zob h 1 a0 fun p4 =>
zob h 1 a0 fun p5 =>
zob h 37 (zhd h p4 0) fun p7 =>
zix (zhl h p7) (zhd h p5 2) fun j6 =>
if a1 < 0 then (zlet (zset h p7 j6 (-1)) fun h8 =>
zob h8 1 a0 fun p10 =>
zob h8 1 a0 fun p11 =>
zlet (zset h8 p11 2 (wr ((zhd h8 p10 2) + 1))) fun h12 =>
Le_enterKernel_32 kr a0 h12)
else zob h 7 a1 fun _ =>
zlet (zset h p7 j6 a1) fun h9 =>
zob h9 1 a0 fun p13 =>
zob h9 1 a0 fun p14 =>
zlet (zset h9 p14 2 (wr ((zhd h9 p13 2) + 1))) fun h15 =>
Le_enterKernel_32 kr a0 h15)
else Le_enterKernel_32 kr a0 h
set_option maxRecDepth 100000 in
theorem qe_Le_enterKernel_32 {ρ : Type} (kr : Int → zH → Option ρ) (a0 : Int) (h : zH) : Le_enterKernel_32 kr a0 h = zseg zPP true (fun _ _ => none) (zcal []) (zget (999, 0, 0, 0) zc_Le_enterKernel) (zcut [(32, [true, false])]) (zorc []) kr (fun _ _ => none) 400 32 [some (2, a0), none] [] h := by rfl
set_option maxRecDepth 100000 in
theorem qe_Le_enterKernel {ρ : Type} (kr : Int → zH → Option ρ) (a0 a1 : Int) (h : zH) : Le_enterKernel a0 a1 h kr = zseg zPP true (fun _ _ => none) (zcal []) (zget (999, 0, 0, 0) zc_Le_enterKernel) (zcut [(32, [true, false])]) (zorc [(32, [some (2, none), none], [], fun xs h => match xs with
  | [a0] => Le_enterKernel_32 kr a0 h
  | _ => none)]) kr (fun _ _ => none) 400 0 [some (2, a0), some (2, a1)] [] h := by rfl
def zc_X_addKernel : List zI := [(10, 0, 1, 0), (0, 1, 0, 0), (1, 8, 0, 0), (999, 0, 0, 0), (113, 0, 32, 48), (999, 0, 0, 0), (999, 0, 0, 0), (60, 13, 20, 0), (999, 0, 0, 0), (999, 0, 0, 0), (10, 0, 2, 0), (0, 0, 0, 0), (1, 16, 0, 0), (999, 0, 0, 0), (113, 0, 32, 48), (999, 0, 0, 0), (999, 0, 0, 0), (61, 11, 28, 0), (999, 0, 0, 0), (999, 0, 0, 0), (134, 38, 36, 1), (999, 0, 0, 0), (999, 0, 0, 0), (999, 0, 0, 0), (999, 0, 0, 0), (999, 0, 0, 0), (999, 0, 0, 0), (999, 0, 0, 0), (14, 0, 0, 0), (80, 0, 10, 0), (999, 0, 0, 0), (999, 0, 0, 0), (80, 1, 39, 2), (999, 0, 0, 0), (999, 0, 0, 0), (0, 4, 0, 0), (68, 11, 47, 0), (999, 0, 0, 0), (999, 0, 0, 0), (134, 45, 43, 2), (999, 0, 0, 0), (999, 0, 0, 0), (999, 0, 0, 0), (999, 0, 0, 0), (999, 0, 0, 0), (999, 0, 0, 0), (999, 0, 0, 0), (14, 0, 0, 0), (80, 0, 10, 0), (999, 0, 0, 0), (999, 0, 0, 0), (103, 0, 46, 7), (999, 0, 0, 0), (999, 0, 0, 0), (50, 0, 0, 0), (10, 0, 1, 0), (10, 0, 2, 0), (115, 0, 48, 213), (999, 0, 0, 0), (999, 0, 0, 0), (110, 0, 51, 233), (999, 0, 0, 0), (999, 0, 0, 0), (130, 0, 0, 0)]
def X_addKernel_20 {ρ : Type} (kr : Int → zH → Option ρ) (kt : Nat → zH → Option ρ) (h : zH) : Option ρ :=
zlet (zthrown h) fun h1 => kt 1 h1
def X_addKernel {ρ : Type} (a0 a1 a2 : Int) (h : zH) (kt : Nat → zH → Option ρ) (kr : Int → zH → Option ρ) : Option ρ :=
X_isWithin a1 1 8 h  fun v1 h2 =>
if v1 = 0 then X_addKernel_20 kr kt h2
else X_isWithin a2 0 16 h2  fun v3 h4 =>
if v3 = 0 then X_addKernel_20 kr kt h4
else zob h4 0 a0 fun p5 =>
zob h4 1 (zhd h4 p5 0) fun p6 =>
if (zhd h4 p6 2) < 4 then (zob h4 0 a0 fun p7 =>
zlet (znew h4 7 0 (znf zPP 7) (fun k => zdef (zft zPP 7 k))) fun h8 =>
Ke_init (zhn h4 : Int) a1 a2 h8  fun _ h10 =>
zob h10 1 (zhd h4 p7 0) fun _ =>
Le_enterKernel (zhd h4 p7 0) (zhn h4 : Int) h10  fun v11 h12 =>
kr v11 h12)
else zlet (zthrown h4) fun h13 => kt 2 h13
set_option maxRecDepth 100000 in
theorem qe_X_addKernel_20 {ρ : Type} (kr : Int → zH → Option ρ) (kt : Nat → zH → Option ρ) (h : zH) : X_addKernel_20 kr kt h = zseg zPP true (fun _ _ => none) (zcal []) (zget (999, 0, 0, 0) zc_X_addKernel) (zcut [(20, [false, false, false])]) (zorc []) kr kt 400 20 [none, none, none] [] h := by rfl
set_option maxRecDepth 100000 in
theorem qe_X_addKernel {ρ : Type} (kr : Int → zH → Option ρ) (kt : Nat → zH → Option ρ) (a0 a1 a2 : Int) (h : zH) : X_addKernel a0 a1 a2 h kt kr = zseg zPP true (fun _ _ => none) (zcal [(48, [none, none, none], fun xs h kr kt => match xs with
  | [x0, x1, x2] => X_isWithin x0 x1 x2 h kr
  | _ => none), (213, [none, none, none], fun xs h kr kt => match xs with
  | [x0, x1, x2] => Ke_init x0 x1 x2 h kr
  | _ => none), (233, [none, none], fun xs h kr kt => match xs with
  | [x0, x1] => Le_enterKernel x0 x1 h kr
  | _ => none)]) (zget (999, 0, 0, 0) zc_X_addKernel) (zcut [(20, [false, false, false])]) (zorc [(20, [none, none, none], [], fun xs h => match xs with
  | [] => X_addKernel_20 kr kt  h
  | _ => none)]) kr kt 400 0 [some (2, a0), some (0, a1), some (0, a2)] [] h := by rfl
def zc_Le_kernelOf : List zI := [(10, 0, 1, 0), (0, 0, 0, 0), (14, 0, 0, 0), (80, 1, 23, 2), (999, 0, 0, 0), (999, 0, 0, 0), (0, 1, 0, 0), (31, 0, 0, 0), (114, 0, 27, 48), (999, 0, 0, 0), (999, 0, 0, 0), (60, 12, 23, 0), (999, 0, 0, 0), (999, 0, 0, 0), (14, 0, 0, 0), (80, 1, 11, 0), (999, 0, 0, 0), (999, 0, 0, 0), (10, 0, 1, 0), (94, 0, 0, 7), (72, 4, 24, 0), (999, 0, 0, 0), (999, 0, 0, 0), (7, 0, 0, 0), (132, 0, 0, 0)]
def Le_kernelOf_24 {ρ : Type} (kr : Int → zH → Option ρ) (t0 : Int) (h : zH) : Option ρ :=
kr t0 h
def Le_kernelOf {ρ : Type} (a0 a1 : Int) (h : zH) (kr : Int → zH → Option ρ) : Option ρ :=
zob h 1 a0 fun p1 =>
X_isWithin a1 0 (wr ((zhd h p1 2) - 1)) h  fun v2 h3 =>
if v2 = 0 then Le_kernelOf_24 kr (-1) h3
else zob h3 1 a0 fun p4 =>
zob h3 37 (zhd h3 p4 0) fun p6 =>
zix (zhl h3 p6) a1 fun j5 =>
Le_kernelOf_24 kr (zhd h3 p6 j5) h3
set_option maxRecDepth 100000 in
theorem qe_Le_kernelOf_24 {ρ : Type} (kr : Int → zH → Option ρ) (t0 : Int) (h : zH) : Le_kernelOf_24 kr t0 h = zseg zPP true (fun _ _ => none) (zcal []) (zget (999, 0, 0, 0) zc_Le_kernelOf) (zcut [(24, [false, false])]) (zorc []) kr (fun _ _ => none) 400 24 [none, none] [(2, t0)] h := by rfl
set_option maxRecDepth 100000 in
theorem qe_Le_kernelOf {ρ : Type} (kr : Int → zH → Option ρ) (a0 a1 : Int) (h : zH) : Le_kernelOf a0 a1 h kr = zseg zPP true (fun _ _ => none) (zcal [(48, [none, none, none], fun xs h kr kt => match xs with
  | [x0, x1, x2] => X_isWithin x0 x1 x2 h kr
  | _ => none)]) (zget (999, 0, 0, 0) zc_Le_kernelOf) (zcut [(24, [false, false])]) (zorc [(24, [none, none], [(2, none)], fun xs h => match xs with
  | [t0] => Le_kernelOf_24 kr t0 h
  | _ => none)]) kr (fun _ _ => none) 400 0 [some (2, a0), some (0, a1)] [] h := by rfl
def zc_X_kernelAt : List zI := [(14, 0, 0, 0), (80, 0, 10, 0), (999, 0, 0, 0), (999, 0, 0, 0), (10, 0, 1, 0), (110, 0, 294, 231), (999, 0, 0, 0), (999, 0, 0, 0), (20, 0, 2, 0), (14, 0, 2, 0), (74, 11, 21, 0), (999, 0, 0, 0), (999, 0, 0, 0), (134, 89, 87, 3), (999, 0, 0, 0), (999, 0, 0, 0), (999, 0, 0, 0), (999, 0, 0, 0), (999, 0, 0, 0), (999, 0, 0, 0), (999, 0, 0, 0), (14, 0, 2, 0), (132, 0, 0, 0)]
def X_kernelAt {ρ : Type} (a0 a1 : Int) (h : zH) (kt : Nat → zH → Option ρ) (kr : Int → zH → Option ρ) : Option ρ :=
zob h 0 a0 fun p1 =>
zob h 1 (zhd h p1 0) fun _ =>
Le_kernelOf (zhd h p1 0) a1 h  fun v2 h3 =>
if v2 < 0 then zlet (zthrown h3) fun h4 => kt 3 h4
else kr v2 h3
set_option maxRecDepth 100000 in
theorem qe_X_kernelAt {ρ : Type} (kr : Int → zH → Option ρ) (kt : Nat → zH → Option ρ) (a0 a1 : Int) (h : zH) : X_kernelAt a0 a1 h kt kr = zseg zPP true (fun _ _ => none) (zcal [(231, [none, none], fun xs h kr kt => match xs with
  | [x0, x1] => Le_kernelOf x0 x1 h kr
  | _ => none)]) (zget (999, 0, 0, 0) zc_X_kernelAt) (zcut []) (zorc []) kr kt 400 0 [some (2, a0), some (0, a1), none] [] h := by rfl
def zc_In_init : List zI := [(14, 0, 0, 0), (117, 0, 3, 0), (999, 0, 0, 0), (999, 0, 0, 0), (14, 0, 0, 0), (10, 0, 1, 0), (84, 8, 9, 0), (999, 0, 0, 0), (999, 0, 0, 0), (14, 0, 0, 0), (10, 0, 2, 0), (84, 8, 15, 1), (999, 0, 0, 0), (999, 0, 0, 0), (14, 0, 0, 0), (10, 0, 3, 0), (84, 8, 19, 2), (999, 0, 0, 0), (999, 0, 0, 0), (14, 0, 0, 0), (11, 0, 4, 0), (999, 0, 0, 0), (84, 8, 22, 3), (999, 0, 0, 0), (999, 0, 0, 0), (133, 0, 0, 0)]
def In_init {ρ : Type} (a0 a1 a2 a3 a4 : Int) (h : zH) (kr : Int → zH → Option ρ) : Option ρ :=
zob h 8 a0 fun p1 =>
znar 2 a1 fun x2 =>
zlet (zset h p1 0 x2) fun h3 =>
zob h3 8 a0 fun p4 =>
zlet (zset h3 p4 1 a2) fun h5 =>
zob h5 8 a0 fun p6 =>
zlet (zset h5 p6 2 a3) fun h7 =>
zob h7 8 a0 fun p8 =>
zlet (zset h7 p8 3 a4) fun h9 =>
kr 0 h9
set_option maxRecDepth 100000 in
theorem qe_In_init {ρ : Type} (kr : Int → zH → Option ρ) (a0 a1 a2 a3 a4 : Int) (h : zH) : In_init a0 a1 a2 a3 a4 h kr = zseg zPP true (fun _ _ => none) (zcal []) (zget (999, 0, 0, 0) zc_In_init) (zcut []) (zorc []) kr (fun _ _ => none) 400 0 [some (2, a0), some (0, a1), some (0, a2), some (0, a3), some (0, a4)] [] h := by rfl
def zc_In_isOneOf : List zI := [(14, 0, 1, 1), (14, 0, 0, 0), (80, 8, 9, 0), (999, 0, 0, 0), (999, 0, 0, 0), (120, 0, 25, 278), (999, 0, 0, 0), (999, 0, 0, 0), (62, 7, 15, 0), (999, 0, 0, 0), (999, 0, 0, 0), (0, 1, 0, 0), (72, 4, 16, 0), (999, 0, 0, 0), (999, 0, 0, 0), (0, 0, 0, 0), (130, 0, 1, 0)]
def In_isOneOf_16 {ρ : Type} (kr : Int → zH → Option ρ) (t0 : Int) (h : zH) : Option ρ :=
znar 1 t0 fun x1 => kr x1 h
def In_isOneOf {ρ : Type} (a0 a1 : Int) (h : zH) (kr : Int → zH → Option ρ) : Option ρ :=
zob h 8 a0 fun p1 =>
zstix a1 (zhd h p1 0) fun v2 =>
if v2 < 0 then In_isOneOf_16 kr 0 h
else In_isOneOf_16 kr 1 h
set_option maxRecDepth 100000 in
theorem qe_In_isOneOf_16 {ρ : Type} (kr : Int → zH → Option ρ) (t0 : Int) (h : zH) : In_isOneOf_16 kr t0 h = zseg zPP true (fun _ _ => none) (zcal []) (zget (999, 0, 0, 0) zc_In_isOneOf) (zcut [(16, [false, false])]) (zorc []) kr (fun _ _ => none) 400 16 [none, none] [(0, t0)] h := by rfl
set_option maxRecDepth 100000 in
theorem qe_In_isOneOf {ρ : Type} (kr : Int → zH → Option ρ) (a0 a1 : Int) (h : zH) : In_isOneOf a0 a1 h kr = zseg zPP true (fun _ _ => none) (zcal []) (zget (999, 0, 0, 0) zc_In_isOneOf) (zcut [(16, [false, false])]) (zorc [(16, [none, none], [(0, none)], fun xs h => match xs with
  | [t0] => In_isOneOf_16 kr t0 h
  | _ => none)]) kr (fun _ _ => none) 400 0 [some (2, a0), some (3, a1)] [] h := by rfl
def zc_Ke_hasRegister : List zI := [(10, 0, 1, 0), (0, 0, 0, 0), (14, 0, 0, 0), (80, 7, 17, 0), (999, 0, 0, 0), (999, 0, 0, 0), (0, 1, 0, 0), (31, 0, 0, 0), (114, 0, 27, 48), (999, 0, 0, 0), (999, 0, 0, 0), (130, 0, 1, 0)]
def Ke_hasRegister {ρ : Type} (a0 a1 : Int) (h : zH) (kr : Int → zH → Option ρ) : Option ρ :=
zob h 7 a0 fun p1 =>
X_isWithin a1 0 (wr ((zhd h p1 0) - 1)) h  fun v2 h3 =>
znar 1 v2 fun x4 => kr x4 h3
set_option maxRecDepth 100000 in
theorem qe_Ke_hasRegister {ρ : Type} (kr : Int → zH → Option ρ) (a0 a1 : Int) (h : zH) : Ke_hasRegister a0 a1 h kr = zseg zPP true (fun _ _ => none) (zcal [(48, [none, none, none], fun xs h kr kt => match xs with
  | [x0, x1, x2] => X_isWithin x0 x1 x2 h kr
  | _ => none)]) (zget (999, 0, 0, 0) zc_Ke_hasRegister) (zcut []) (zorc []) kr (fun _ _ => none) 400 0 [some (2, a0), some (0, a1)] [] h := by rfl
def zc_In_isAllowed : List zI := [(14, 0, 0, 0), (8, 4, 31, 0), (999, 0, 0, 0), (110, 0, 33, 210), (999, 0, 0, 0), (999, 0, 0, 0), (60, 63, 69, 0), (999, 0, 0, 0), (999, 0, 0, 0), (14, 0, 0, 0), (8, 5, 37, 0), (999, 0, 0, 0), (110, 0, 33, 210), (999, 0, 0, 0), (999, 0, 0, 0), (60, 14, 29, 0), (999, 0, 0, 0), (999, 0, 0, 0), (14, 0, 1, 0), (14, 0, 0, 0), (80, 8, 15, 1), (999, 0, 0, 0), (999, 0, 0, 0), (110, 0, 39, 216), (999, 0, 0, 0), (999, 0, 0, 0), (60, 43, 69, 0), (999, 0, 0, 0), (999, 0, 0, 0), (14, 0, 0, 0), (8, 6, 45, 0), (999, 0, 0, 0), (110, 0, 33, 210), (999, 0, 0, 0), (999, 0, 0, 0), (60, 14, 49, 0), (999, 0, 0, 0), (999, 0, 0, 0), (14, 0, 1, 0), (14, 0, 0, 0), (80, 8, 19, 2), (999, 0, 0, 0), (999, 0, 0, 0), (110, 0, 39, 216), (999, 0, 0, 0), (999, 0, 0, 0), (60, 23, 69, 0), (999, 0, 0, 0), (999, 0, 0, 0), (14, 0, 0, 0), (8, 7, 47, 0), (999, 0, 0, 0), (110, 0, 33, 210), (999, 0, 0, 0), (999, 0, 0, 0), (60, 16, 71, 0), (999, 0, 0, 0), (999, 0, 0, 0), (14, 0, 1, 0), (14, 0, 0, 0), (80, 8, 22, 3), (999, 0, 0, 0), (999, 0, 0, 0), (110, 0, 39, 216), (999, 0, 0, 0), (999, 0, 0, 0), (61, 5, 71, 0), (999, 0, 0, 0), (999, 0, 0, 0), (0, 0, 0, 0), (130, 0, 1, 0), (14, 0, 0, 0), (8, 8, 49, 0), (999, 0, 0, 0), (110, 0, 33, 210), (999, 0, 0, 0), (999, 0, 0, 0), (60, 14, 91, 0), (999, 0, 0, 0), (999, 0, 0, 0), (14, 0, 0, 0), (80, 8, 19, 2), (999, 0, 0, 0), (999, 0, 0, 0), (0, 0, 0, 0), (1, 39, 0, 0), (999, 0, 0, 0), (114, 0, 51, 48), (999, 0, 0, 0), (999, 0, 0, 0), (130, 0, 1, 0), (14, 0, 0, 0), (80, 8, 9, 0), (999, 0, 0, 0), (999, 0, 0, 0), (1, 99, 0, 0), (999, 0, 0, 0), (67, 15, 112, 0), (999, 0, 0, 0), (999, 0, 0, 0), (14, 0, 0, 0), (80, 8, 19, 2), (999, 0, 0, 0), (999, 0, 0, 0), (0, 0, 0, 0), (0, 3, 0, 0), (114, 0, 51, 48), (999, 0, 0, 0), (999, 0, 0, 0), (60, 7, 116, 0), (999, 0, 0, 0), (999, 0, 0, 0), (0, 1, 0, 0), (72, 4, 117, 0), (999, 0, 0, 0), (999, 0, 0, 0), (0, 0, 0, 0), (130, 0, 1, 0)]
def In_isAllowed_69 {ρ : Type} (kr : Int → zH → Option ρ) (h : zH) : Option ρ :=
kr 0 h
def In_isAllowed_117 {ρ : Type} (kr : Int → zH → Option ρ) (t0 : Int) (h : zH) : Option ρ :=
znar 1 t0 fun x1 => kr x1 h
def In_isAllowed_112 {ρ : Type} (kr : Int → zH → Option ρ) (h : zH) : Option ρ :=
In_isAllowed_117 kr 1 h
def In_isAllowed_71 {ρ : Type} (kr : Int → zH → Option ρ) (a0 : Int) (h : zH) : Option ρ :=
zob h 8 a0 fun _ =>
In_isOneOf a0 8 h  fun v1 h2 =>
if v1 = 0 then (zob h2 8 a0 fun p3 =>
if (zhd h2 p3 0) = 99 then (zob h2 8 a0 fun p4 =>
X_isWithin (zhd h2 p4 2) 0 3 h2  fun v5 h6 =>
if v5 = 0 then In_isAllowed_117 kr 0 h6
else In_isAllowed_112 kr h6)
else In_isAllowed_112 kr h2)
else zob h2 8 a0 fun p7 =>
X_isWithin (zhd h2 p7 2) 0 39 h2  fun v8 h9 =>
znar 1 v8 fun x10 => kr x10 h9
def In_isAllowed_49 {ρ : Type} (kr : Int → zH → Option ρ) (a0 a1 : Int) (h : zH) : Option ρ :=
zob h 8 a0 fun _ =>
In_isOneOf a0 7 h  fun v1 h2 =>
if v1 = 0 then In_isAllowed_71 kr a0 h2
else zob h2 8 a0 fun p3 =>
zob h2 7 a1 fun _ =>
Ke_hasRegister a1 (zhd h2 p3 3) h2  fun v4 h5 =>
if v4 = 0 then In_isAllowed_69 kr h5
else In_isAllowed_71 kr a0 h5
def In_isAllowed_29 {ρ : Type} (kr : Int → zH → Option ρ) (a0 a1 : Int) (h : zH) : Option ρ :=
zob h 8 a0 fun _ =>
In_isOneOf a0 6 h  fun v1 h2 =>
if v1 = 0 then In_isAllowed_49 kr a0 a1 h2
else zob h2 8 a0 fun p3 =>
zob h2 7 a1 fun _ =>
Ke_hasRegister a1 (zhd h2 p3 2) h2  fun v4 h5 =>
if v4 = 0 then In_isAllowed_69 kr h5
else In_isAllowed_49 kr a0 a1 h5
def In_isAllowed {ρ : Type} (a0 a1 : Int) (h : zH) (kr : Int → zH → Option ρ) : Option ρ :=
zob h 8 a0 fun _ =>
In_isOneOf a0 4 h  fun v1 h2 =>
if v1 = 0 then In_isAllowed_69 kr h2
else zob h2 8 a0 fun _ =>
In_isOneOf a0 5 h2  fun v3 h4 =>
if v3 = 0 then In_isAllowed_29 kr a0 a1 h4
else zob h4 8 a0 fun p5 =>
zob h4 7 a1 fun _ =>
Ke_hasRegister a1 (zhd h4 p5 1) h4  fun v6 h7 =>
if v6 = 0 then In_isAllowed_69 kr h7
else In_isAllowed_29 kr a0 a1 h7
set_option maxRecDepth 100000 in
theorem qe_In_isAllowed_69 {ρ : Type} (kr : Int → zH → Option ρ) (h : zH) : In_isAllowed_69 kr h = zseg zPP true (fun _ _ => none) (zcal []) (zget (999, 0, 0, 0) zc_In_isAllowed) (zcut [(29, [true, true]), (49, [true, true]), (69, [false, false]), (71, [true, false]), (112, [false, false]), (117, [false, false])]) (zorc []) kr (fun _ _ => none) 400 69 [none, none] [] h := by rfl
set_option maxRecDepth 100000 in
theorem qe_In_isAllowed_117 {ρ : Type} (kr : Int → zH → Option ρ) (t0 : Int) (h : zH) : In_isAllowed_117 kr t0 h = zseg zPP true (fun _ _ => none) (zcal []) (zget (999, 0, 0, 0) zc_In_isAllowed) (zcut [(29, [true, true]), (49, [true, true]), (69, [false, false]), (71, [true, false]), (112, [false, false]), (117, [false, false])]) (zorc []) kr (fun _ _ => none) 400 117 [none, none] [(0, t0)] h := by rfl
set_option maxRecDepth 100000 in
theorem qe_In_isAllowed_112 {ρ : Type} (kr : Int → zH → Option ρ) (h : zH) : In_isAllowed_112 kr h = zseg zPP true (fun _ _ => none) (zcal []) (zget (999, 0, 0, 0) zc_In_isAllowed) (zcut [(29, [true, true]), (49, [true, true]), (69, [false, false]), (71, [true, false]), (112, [false, false]), (117, [false, false])]) (zorc [(117, [none, none], [(0, none)], fun xs h => match xs with
  | [t0] => In_isAllowed_117 kr t0 h
  | _ => none)]) kr (fun _ _ => none) 400 112 [none, none] [] h := by rfl
set_option maxRecDepth 100000 in
theorem qe_In_isAllowed_71 {ρ : Type} (kr : Int → zH → Option ρ) (a0 : Int) (h : zH) : In_isAllowed_71 kr a0 h = zseg zPP true (fun _ _ => none) (zcal [(48, [none, none, none], fun xs h kr kt => match xs with
  | [x0, x1, x2] => X_isWithin x0 x1 x2 h kr
  | _ => none), (210, [none, none], fun xs h kr kt => match xs with
  | [x0, x1] => In_isOneOf x0 x1 h kr
  | _ => none)]) (zget (999, 0, 0, 0) zc_In_isAllowed) (zcut [(29, [true, true]), (49, [true, true]), (69, [false, false]), (71, [true, false]), (112, [false, false]), (117, [false, false])]) (zorc [(112, [none, none], [], fun xs h => match xs with
  | [] => In_isAllowed_112 kr  h
  | _ => none), (117, [none, none], [(0, none)], fun xs h => match xs with
  | [t0] => In_isAllowed_117 kr t0 h
  | _ => none)]) kr (fun _ _ => none) 400 71 [some (2, a0), none] [] h := by rfl
set_option maxRecDepth 100000 in
theorem qe_In_isAllowed_49 {ρ : Type} (kr : Int → zH → Option ρ) (a0 a1 : Int) (h : zH) : In_isAllowed_49 kr a0 a1 h = zseg zPP true (fun _ _ => none) (zcal [(210, [none, none], fun xs h kr kt => match xs with
  | [x0, x1] => In_isOneOf x0 x1 h kr
  | _ => none), (216, [none, none], fun xs h kr kt => match xs with
  | [x0, x1] => Ke_hasRegister x0 x1 h kr
  | _ => none)]) (zget (999, 0, 0, 0) zc_In_isAllowed) (zcut [(29, [true, true]), (49, [true, true]), (69, [false, false]), (71, [true, false]), (112, [false, false]), (117, [false, false])]) (zorc [(69, [none, none], [], fun xs h => match xs with
  | [] => In_isAllowed_69 kr  h
  | _ => none), (71, [some (2, none), none], [], fun xs h => match xs with
  | [a0] => In_isAllowed_71 kr a0 h
  | _ => none)]) kr (fun _ _ => none) 400 49 [some (2, a0), some (2, a1)] [] h := by rfl
set_option maxRecDepth 100000 in
theorem qe_In_isAllowed_29 {ρ : Type} (kr : Int → zH → Option ρ) (a0 a1 : Int) (h : zH) : In_isAllowed_29 kr a0 a1 h = zseg zPP true (fun _ _ => none) (zcal [(210, [none, none], fun xs h kr kt => match xs with
  | [x0, x1] => In_isOneOf x0 x1 h kr
  | _ => none), (216, [none, none], fun xs h kr kt => match xs with
  | [x0, x1] => Ke_hasRegister x0 x1 h kr
  | _ => none)]) (zget (999, 0, 0, 0) zc_In_isAllowed) (zcut [(29, [true, true]), (49, [true, true]), (69, [false, false]), (71, [true, false]), (112, [false, false]), (117, [false, false])]) (zorc [(49, [some (2, none), some (2, none)], [], fun xs h => match xs with
  | [a0, a1] => In_isAllowed_49 kr a0 a1 h
  | _ => none), (69, [none, none], [], fun xs h => match xs with
  | [] => In_isAllowed_69 kr  h
  | _ => none)]) kr (fun _ _ => none) 400 29 [some (2, a0), some (2, a1)] [] h := by rfl
set_option maxRecDepth 100000 in
theorem qe_In_isAllowed {ρ : Type} (kr : Int → zH → Option ρ) (a0 a1 : Int) (h : zH) : In_isAllowed a0 a1 h kr = zseg zPP true (fun _ _ => none) (zcal [(210, [none, none], fun xs h kr kt => match xs with
  | [x0, x1] => In_isOneOf x0 x1 h kr
  | _ => none), (216, [none, none], fun xs h kr kt => match xs with
  | [x0, x1] => Ke_hasRegister x0 x1 h kr
  | _ => none)]) (zget (999, 0, 0, 0) zc_In_isAllowed) (zcut [(29, [true, true]), (49, [true, true]), (69, [false, false]), (71, [true, false]), (112, [false, false]), (117, [false, false])]) (zorc [(29, [some (2, none), some (2, none)], [], fun xs h => match xs with
  | [a0, a1] => In_isAllowed_29 kr a0 a1 h
  | _ => none), (69, [none, none], [], fun xs h => match xs with
  | [] => In_isAllowed_69 kr  h
  | _ => none)]) kr (fun _ _ => none) 400 0 [some (2, a0), some (2, a1)] [] h := by rfl
def zc_Ke_append : List zI := [(14, 0, 0, 0), (80, 7, 24, 3), (999, 0, 0, 0), (999, 0, 0, 0), (14, 0, 0, 0), (80, 7, 11, 2), (999, 0, 0, 0), (999, 0, 0, 0), (100, 0, 0, 38), (69, 23, 32, 0), (999, 0, 0, 0), (999, 0, 0, 0), (14, 0, 0, 0), (80, 7, 11, 2), (999, 0, 0, 0), (999, 0, 0, 0), (14, 0, 0, 0), (80, 7, 24, 3), (999, 0, 0, 0), (999, 0, 0, 0), (14, 0, 1, 0), (99, 0, 0, 8), (14, 0, 0, 0), (50, 0, 0, 0), (80, 7, 24, 3), (999, 0, 0, 0), (999, 0, 0, 0), (0, 1, 0, 0), (30, 0, 0, 0), (82, 7, 24, 3), (999, 0, 0, 0), (999, 0, 0, 0), (14, 0, 0, 0), (80, 7, 24, 3), (999, 0, 0, 0), (999, 0, 0, 0), (0, 1, 0, 0), (31, 0, 0, 0), (130, 0, 0, 0)]
def Ke_append_32 {ρ : Type} (kr : Int → zH → Option ρ) (a0 : Int) (h : zH) : Option ρ :=
zob h 7 a0 fun p1 =>
kr (wr ((zhd h p1 3) - 1)) h
def Ke_append {ρ : Type} (a0 a1 : Int) (h : zH) (kr : Int → zH → Option ρ) : Option ρ :=
zob h 7 a0 fun p1 =>
zob h 7 a0 fun p2 =>
zob h 38 (zhd h p2 2) fun p3 =>
if (zhd h p1 3) < (zhl h p3 : Int) then (zob h 7 a0 fun p4 =>
zob h 7 a0 fun p5 =>
zob h 38 (zhd h p4 2) fun p7 =>
zix (zhl h p7) (zhd h p5 3) fun j6 =>
if a1 < 0 then (zlet (zset h p7 j6 (-1)) fun h8 =>
zob h8 7 a0 fun p10 =>
zob h8 7 a0 fun p11 =>
zlet (zset h8 p11 3 (wr ((zhd h8 p10 3) + 1))) fun h12 =>
Ke_append_32 kr a0 h12)
else zob h 8 a1 fun _ =>
zlet (zset h p7 j6 a1) fun h9 =>
zob h9 7 a0 fun p13 =>
zob h9 7 a0 fun p14 =>
zlet (zset h9 p14 3 (wr ((zhd h9 p13 3) + 1))) fun h15 =>
Ke_append_32 kr a0 h15)
else Ke_append_32 kr a0 h
set_option maxRecDepth 100000 in
theorem qe_Ke_append_32 {ρ : Type} (kr : Int → zH → Option ρ) (a0 : Int) (h : zH) : Ke_append_32 kr a0 h = zseg zPP true (fun _ _ => none) (zcal []) (zget (999, 0, 0, 0) zc_Ke_append) (zcut [(32, [true, false])]) (zorc []) kr (fun _ _ => none) 400 32 [some (2, a0), none] [] h := by rfl
set_option maxRecDepth 100000 in
theorem qe_Ke_append {ρ : Type} (kr : Int → zH → Option ρ) (a0 a1 : Int) (h : zH) : Ke_append a0 a1 h kr = zseg zPP true (fun _ _ => none) (zcal []) (zget (999, 0, 0, 0) zc_Ke_append) (zcut [(32, [true, false])]) (zorc [(32, [some (2, none), none], [], fun xs h => match xs with
  | [a0] => Ke_append_32 kr a0 h
  | _ => none)]) kr (fun _ _ => none) 400 0 [some (2, a0), some (2, a1)] [] h := by rfl
def zc_X_code : List zI := [(14, 0, 0, 0), (10, 0, 1, 0), (110, 0, 55, 41), (999, 0, 0, 0), (999, 0, 0, 0), (21, 0, 6, 0), (999, 0, 0, 0), (103, 0, 59, 8), (999, 0, 0, 0), (999, 0, 0, 0), (50, 0, 0, 0), (10, 0, 2, 0), (10, 0, 3, 0), (11, 0, 4, 0), (999, 0, 0, 0), (11, 0, 5, 0), (999, 0, 0, 0), (115, 0, 61, 209), (999, 0, 0, 0), (999, 0, 0, 0), (21, 0, 7, 0), (999, 0, 0, 0), (15, 0, 7, 0), (999, 0, 0, 0), (15, 0, 6, 0), (999, 0, 0, 0), (110, 0, 64, 211), (999, 0, 0, 0), (999, 0, 0, 0), (61, 11, 40, 0), (999, 0, 0, 0), (999, 0, 0, 0), (134, 38, 36, 1), (999, 0, 0, 0), (999, 0, 0, 0), (999, 0, 0, 0), (999, 0, 0, 0), (999, 0, 0, 0), (999, 0, 0, 0), (999, 0, 0, 0), (15, 0, 6, 0), (999, 0, 0, 0), (80, 7, 68, 3), (999, 0, 0, 0), (999, 0, 0, 0), (1, 40, 0, 0), (999, 0, 0, 0), (69, 11, 58, 0), (999, 0, 0, 0), (999, 0, 0, 0), (15, 0, 6, 0), (999, 0, 0, 0), (80, 7, 71, 4), (999, 0, 0, 0), (999, 0, 0, 0), (60, 11, 66, 0), (999, 0, 0, 0), (999, 0, 0, 0), (134, 45, 43, 2), (999, 0, 0, 0), (999, 0, 0, 0), (999, 0, 0, 0), (999, 0, 0, 0), (999, 0, 0, 0), (999, 0, 0, 0), (999, 0, 0, 0), (15, 0, 6, 0), (999, 0, 0, 0), (15, 0, 7, 0), (999, 0, 0, 0), (110, 0, 75, 214), (999, 0, 0, 0), (999, 0, 0, 0), (130, 0, 0, 0)]
def X_code_58 {ρ : Type} (kr : Int → zH → Option ρ) (kt : Nat → zH → Option ρ) (h : zH) : Option ρ :=
zlet (zthrown h) fun h1 => kt 2 h1
def X_code {ρ : Type} (a0 a1 a2 a3 a4 a5 : Int) (h : zH) (kt : Nat → zH → Option ρ) (kr : Int → zH → Option ρ) : Option ρ :=
zob h 0 a0 fun _ =>
X_kernelAt a0 a1 h (kt := kt) fun v1 h2 =>
zlet (znew h2 8 0 (znf zPP 8) (fun k => zdef (zft zPP 8 k))) fun h3 =>
In_init (zhn h2 : Int) a2 a3 a4 a5 h3  fun _ h5 =>
zob h5 8 (zhn h2 : Int) fun _ =>
In_isAllowed (zhn h2 : Int) v1 h5  fun v6 h7 =>
if v6 = 0 then zlet (zthrown h7) fun h12 => kt 1 h12
else zob h7 7 v1 fun p8 =>
if (zhd h7 p8 3) < 40 then (zob h7 7 v1 fun p9 =>
if (zhd h7 p9 4) = 0 then (zob h7 7 v1 fun _ =>
Ke_append v1 (zhn h2 : Int) h7  fun v10 h11 =>
kr v10 h11)
else X_code_58 kr kt h7)
else X_code_58 kr kt h7
set_option maxRecDepth 100000 in
theorem qe_X_code_58 {ρ : Type} (kr : Int → zH → Option ρ) (kt : Nat → zH → Option ρ) (h : zH) : X_code_58 kr kt h = zseg zPP true (fun _ _ => none) (zcal []) (zget (999, 0, 0, 0) zc_X_code) (zcut [(58, [false, false, false, false, false, false, false, false])]) (zorc []) kr kt 400 58 [none, none, none, none, none, none, none, none] [] h := by rfl
set_option maxRecDepth 100000 in
theorem qe_X_code {ρ : Type} (kr : Int → zH → Option ρ) (kt : Nat → zH → Option ρ) (a0 a1 a2 a3 a4 a5 : Int) (h : zH) : X_code a0 a1 a2 a3 a4 a5 h kt kr = zseg zPP true (fun _ _ => none) (zcal [(41, [none, none], fun xs h kr kt => match xs with
  | [x0, x1] => X_kernelAt x0 x1 h kt kr
  | _ => none), (209, [none, none, none, none, none], fun xs h kr kt => match xs with
  | [x0, x1, x2, x3, x4] => In_init x0 x1 x2 x3 x4 h kr
  | _ => none), (211, [none, none], fun xs h kr kt => match xs with
  | [x0, x1] => In_isAllowed x0 x1 h kr
  | _ => none), (214, [none, none], fun xs h kr kt => match xs with
  | [x0, x1] => Ke_append x0 x1 h kr
  | _ => none)]) (zget (999, 0, 0, 0) zc_X_code) (zcut [(58, [false, false, false, false, false, false, false, false])]) (zorc [(58, [none, none, none, none, none, none, none, none], [], fun xs h => match xs with
  | [] => X_code_58 kr kt  h
  | _ => none)]) kr kt 400 0 [some (2, a0), some (0, a1), some (0, a2), some (0, a3), some (0, a4), some (0, a5), none, none] [] h := by rfl
def zc_X_groupsFor : List zI := [(10, 0, 0, 0), (0, 4, 0, 0), (30, 0, 0, 0), (0, 1, 0, 0), (31, 0, 0, 0), (0, 4, 0, 0), (33, 0, 0, 0), (130, 0, 0, 0)]
def X_groupsFor {ρ : Type} (a0 : Int) (h : zH) (kr : Int → zH → Option ρ) : Option ρ :=
kr (wr (Int.tdiv (wr ((wr (a0 + 4)) - 1)) 4)) h
set_option maxRecDepth 100000 in
theorem qe_X_groupsFor {ρ : Type} (kr : Int → zH → Option ρ) (a0 : Int) (h : zH) : X_groupsFor a0 h kr = zseg zPP true (fun _ _ => none) (zcal []) (zget (999, 0, 0, 0) zc_X_groupsFor) (zcut []) (zorc []) kr (fun _ _ => none) 400 0 [some (0, a0)] [] h := by rfl
def zc_Ke_blocksInUnit : List zI := [(10, 0, 1, 0), (0, 1, 0, 0), (1, 16, 0, 0), (999, 0, 0, 0), (114, 0, 27, 48), (999, 0, 0, 0), (999, 0, 0, 0), (60, 11, 18, 0), (999, 0, 0, 0), (999, 0, 0, 0), (14, 0, 0, 0), (80, 7, 17, 0), (999, 0, 0, 0), (999, 0, 0, 0), (0, 1, 0, 0), (69, 5, 20, 0), (999, 0, 0, 0), (999, 0, 0, 0), (0, 0, 0, 0), (130, 0, 0, 0), (0, 4, 0, 0), (10, 0, 1, 0), (114, 0, 35, 51), (999, 0, 0, 0), (999, 0, 0, 0), (33, 0, 0, 0), (1, 64, 0, 0), (999, 0, 0, 0), (10, 0, 1, 0), (14, 0, 0, 0), (80, 7, 17, 0), (999, 0, 0, 0), (999, 0, 0, 0), (32, 0, 0, 0), (33, 0, 0, 0), (113, 0, 39, 1), (999, 0, 0, 0), (999, 0, 0, 0), (16, 0, 2, 0), (14, 0, 0, 0), (80, 7, 21, 1), (999, 0, 0, 0), (999, 0, 0, 0), (0, 1, 0, 0), (69, 7, 51, 0), (999, 0, 0, 0), (999, 0, 0, 0), (10, 0, 2, 0), (72, 14, 62, 0), (999, 0, 0, 0), (999, 0, 0, 0), (10, 0, 2, 0), (1, 32, 0, 0), (999, 0, 0, 0), (14, 0, 0, 0), (80, 7, 21, 1), (999, 0, 0, 0), (999, 0, 0, 0), (33, 0, 0, 0), (113, 0, 39, 1), (999, 0, 0, 0), (999, 0, 0, 0), (130, 0, 0, 0)]
def Ke_blocksInUnit_18 {ρ : Type} (kr : Int → zH → Option ρ) (h : zH) : Option ρ :=
kr 0 h
def Ke_blocksInUnit_62 {ρ : Type} (kr : Int → zH → Option ρ) (t0 : Int) (h : zH) : Option ρ :=
kr t0 h
def Ke_blocksInUnit {ρ : Type} (a0 a1 : Int) (h : zH) (kr : Int → zH → Option ρ) : Option ρ :=
X_isWithin a1 1 16 h  fun v1 h2 =>
if v1 = 0 then Ke_blocksInUnit_18 kr h2
else zob h2 7 a0 fun p3 =>
if (zhd h2 p3 0) < 1 then Ke_blocksInUnit_18 kr h2
else X_groupsFor a1 h2  fun v4 h5 =>
if v4 = 0 then none else zob h5 7 a0 fun p6 =>
if wr (a1 * (zhd h5 p6 0)) = 0 then none else Ma_min (wr (Int.tdiv 4 v4)) (wr (Int.tdiv 64 (wr (a1 * (zhd h5 p6 0))))) h5  fun v7 h8 =>
zob h8 7 a0 fun p9 =>
if (zhd h8 p9 1) < 1 then Ke_blocksInUnit_62 kr v7 h8
else zob h8 7 a0 fun p10 =>
if zhd h8 p10 1 = 0 then none else Ma_min v7 (wr (Int.tdiv 32 (zhd h8 p10 1))) h8  fun v11 h12 =>
Ke_blocksInUnit_62 kr v11 h12
set_option maxRecDepth 100000 in
theorem qe_Ke_blocksInUnit_18 {ρ : Type} (kr : Int → zH → Option ρ) (h : zH) : Ke_blocksInUnit_18 kr h = zseg zPP true (fun _ _ => none) (zcal []) (zget (999, 0, 0, 0) zc_Ke_blocksInUnit) (zcut [(18, [false, false, false]), (62, [false, false, false])]) (zorc []) kr (fun _ _ => none) 400 18 [none, none, none] [] h := by rfl
set_option maxRecDepth 100000 in
theorem qe_Ke_blocksInUnit_62 {ρ : Type} (kr : Int → zH → Option ρ) (t0 : Int) (h : zH) : Ke_blocksInUnit_62 kr t0 h = zseg zPP true (fun _ _ => none) (zcal []) (zget (999, 0, 0, 0) zc_Ke_blocksInUnit) (zcut [(18, [false, false, false]), (62, [false, false, false])]) (zorc []) kr (fun _ _ => none) 400 62 [none, none, none] [(0, t0)] h := by rfl
set_option maxRecDepth 100000 in
theorem qe_Ke_blocksInUnit {ρ : Type} (kr : Int → zH → Option ρ) (a0 a1 : Int) (h : zH) : Ke_blocksInUnit a0 a1 h kr = zseg zPP true (fun _ _ => none) (zcal [(1, [none, none], fun xs h kr kt => match xs with
  | [x0, x1] => Ma_min x0 x1 h kr
  | _ => none), (48, [none, none, none], fun xs h kr kt => match xs with
  | [x0, x1, x2] => X_isWithin x0 x1 x2 h kr
  | _ => none), (51, [none], fun xs h kr kt => match xs with
  | [x0] => X_groupsFor x0 h kr
  | _ => none)]) (zget (999, 0, 0, 0) zc_Ke_blocksInUnit) (zcut [(18, [false, false, false]), (62, [false, false, false])]) (zorc [(18, [none, none, none], [], fun xs h => match xs with
  | [] => Ke_blocksInUnit_18 kr  h
  | _ => none), (62, [none, none, none], [(0, none)], fun xs h => match xs with
  | [t0] => Ke_blocksInUnit_62 kr t0 h
  | _ => none)]) kr (fun _ _ => none) 400 0 [some (2, a0), some (0, a1), none] [] h := by rfl
def zc_X_fits : List zI := [(14, 0, 0, 0), (10, 0, 1, 0), (110, 0, 55, 41), (999, 0, 0, 0), (999, 0, 0, 0), (20, 0, 3, 0), (10, 0, 2, 0), (0, 1, 0, 0), (1, 16, 0, 0), (999, 0, 0, 0), (113, 0, 32, 48), (999, 0, 0, 0), (999, 0, 0, 0), (61, 11, 24, 0), (999, 0, 0, 0), (999, 0, 0, 0), (134, 38, 36, 1), (999, 0, 0, 0), (999, 0, 0, 0), (999, 0, 0, 0), (999, 0, 0, 0), (999, 0, 0, 0), (999, 0, 0, 0), (999, 0, 0, 0), (14, 0, 3, 0), (10, 0, 2, 0), (110, 0, 79, 218), (999, 0, 0, 0), (999, 0, 0, 0), (130, 0, 0, 0)]
def X_fits {ρ : Type} (a0 a1 a2 : Int) (h : zH) (kt : Nat → zH → Option ρ) (kr : Int → zH → Option ρ) : Option ρ :=
zob h 0 a0 fun _ =>
X_kernelAt a0 a1 h (kt := kt) fun v1 h2 =>
X_isWithin a2 1 16 h2  fun v3 h4 =>
if v3 = 0 then zlet (zthrown h4) fun h7 => kt 1 h7
else zob h4 7 v1 fun _ =>
Ke_blocksInUnit v1 a2 h4  fun v5 h6 =>
kr v5 h6
set_option maxRecDepth 100000 in
theorem qe_X_fits {ρ : Type} (kr : Int → zH → Option ρ) (kt : Nat → zH → Option ρ) (a0 a1 a2 : Int) (h : zH) : X_fits a0 a1 a2 h kt kr = zseg zPP true (fun _ _ => none) (zcal [(41, [none, none], fun xs h kr kt => match xs with
  | [x0, x1] => X_kernelAt x0 x1 h kt kr
  | _ => none), (48, [none, none, none], fun xs h kr kt => match xs with
  | [x0, x1, x2] => X_isWithin x0 x1 x2 h kr
  | _ => none), (218, [none, none], fun xs h kr kt => match xs with
  | [x0, x1] => Ke_blocksInUnit x0 x1 h kr
  | _ => none)]) (zget (999, 0, 0, 0) zc_X_fits) (zcut []) (zorc []) kr kt 400 0 [some (2, a0), some (0, a1), some (0, a2), none] [] h := by rfl
def zc_X_isCell : List zI := [(10, 0, 0, 0), (0, 0, 0, 0), (1, 63, 0, 0), (999, 0, 0, 0), (113, 0, 32, 48), (999, 0, 0, 0), (999, 0, 0, 0), (130, 0, 1, 0)]
def X_isCell {ρ : Type} (a0 : Int) (h : zH) (kr : Int → zH → Option ρ) : Option ρ :=
X_isWithin a0 0 63 h  fun v1 h2 =>
znar 1 v1 fun x3 => kr x3 h2
set_option maxRecDepth 100000 in
theorem qe_X_isCell {ρ : Type} (kr : Int → zH → Option ρ) (a0 : Int) (h : zH) : X_isCell a0 h kr = zseg zPP true (fun _ _ => none) (zcal [(48, [none, none, none], fun xs h kr kt => match xs with
  | [x0, x1, x2] => X_isWithin x0 x1 x2 h kr
  | _ => none)]) (zget (999, 0, 0, 0) zc_X_isCell) (zcut []) (zorc []) kr (fun _ _ => none) 400 0 [some (0, a0)] [] h := by rfl
def zc_X_poke : List zI := [(10, 0, 1, 0), (113, 0, 83, 49), (999, 0, 0, 0), (999, 0, 0, 0), (61, 11, 15, 0), (999, 0, 0, 0), (999, 0, 0, 0), (134, 89, 87, 3), (999, 0, 0, 0), (999, 0, 0, 0), (999, 0, 0, 0), (999, 0, 0, 0), (999, 0, 0, 0), (999, 0, 0, 0), (999, 0, 0, 0), (14, 0, 0, 0), (80, 0, 21, 1), (999, 0, 0, 0), (999, 0, 0, 0), (80, 2, 90, 1), (999, 0, 0, 0), (999, 0, 0, 0), (10, 0, 1, 0), (90, 0, 0, 0), (16, 0, 3, 0), (14, 0, 0, 0), (80, 0, 21, 1), (999, 0, 0, 0), (999, 0, 0, 0), (80, 2, 90, 1), (999, 0, 0, 0), (999, 0, 0, 0), (10, 0, 1, 0), (10, 0, 2, 0), (95, 0, 0, 0), (10, 0, 3, 0), (130, 0, 0, 0)]
def X_poke {ρ : Type} (a0 a1 a2 : Int) (h : zH) (kt : Nat → zH → Option ρ) (kr : Int → zH → Option ρ) : Option ρ :=
X_isCell a1 h  fun v1 h2 =>
if v1 = 0 then zlet (zthrown h2) fun h12 => kt 3 h12
else zob h2 0 a0 fun p3 =>
zob h2 2 (zhd h2 p3 1) fun p4 =>
zob h2 20 (zhd h2 p4 1) fun p6 =>
zix (zhl h2 p6) a1 fun j5 =>
zob h2 0 a0 fun p7 =>
zob h2 2 (zhd h2 p7 1) fun p8 =>
zob h2 20 (zhd h2 p8 1) fun p10 =>
zix (zhl h2 p10) a1 fun j9 =>
zlet (zset h2 p10 j9 a2) fun h11 =>
kr (zhd h2 p6 j5) h11
set_option maxRecDepth 100000 in
theorem qe_X_poke {ρ : Type} (kr : Int → zH → Option ρ) (kt : Nat → zH → Option ρ) (a0 a1 a2 : Int) (h : zH) : X_poke a0 a1 a2 h kt kr = zseg zPP true (fun _ _ => none) (zcal [(49, [none], fun xs h kr kt => match xs with
  | [x0] => X_isCell x0 h kr
  | _ => none)]) (zget (999, 0, 0, 0) zc_X_poke) (zcut []) (zorc []) kr kt 400 0 [some (2, a0), some (0, a1), some (0, a2), none] [] h := by rfl
def zc_X_peek : List zI := [(10, 0, 1, 0), (113, 0, 83, 49), (999, 0, 0, 0), (999, 0, 0, 0), (61, 11, 15, 0), (999, 0, 0, 0), (999, 0, 0, 0), (134, 89, 87, 3), (999, 0, 0, 0), (999, 0, 0, 0), (999, 0, 0, 0), (999, 0, 0, 0), (999, 0, 0, 0), (999, 0, 0, 0), (999, 0, 0, 0), (14, 0, 0, 0), (80, 0, 21, 1), (999, 0, 0, 0), (999, 0, 0, 0), (80, 2, 90, 1), (999, 0, 0, 0), (999, 0, 0, 0), (10, 0, 1, 0), (90, 0, 0, 0), (130, 0, 0, 0)]
def X_peek {ρ : Type} (a0 a1 : Int) (h : zH) (kt : Nat → zH → Option ρ) (kr : Int → zH → Option ρ) : Option ρ :=
X_isCell a1 h  fun v1 h2 =>
if v1 = 0 then zlet (zthrown h2) fun h7 => kt 3 h7
else zob h2 0 a0 fun p3 =>
zob h2 2 (zhd h2 p3 1) fun p4 =>
zob h2 20 (zhd h2 p4 1) fun p6 =>
zix (zhl h2 p6) a1 fun j5 =>
kr (zhd h2 p6 j5) h2
set_option maxRecDepth 100000 in
theorem qe_X_peek {ρ : Type} (kr : Int → zH → Option ρ) (kt : Nat → zH → Option ρ) (a0 a1 : Int) (h : zH) : X_peek a0 a1 h kt kr = zseg zPP true (fun _ _ => none) (zcal [(49, [none], fun xs h kr kt => match xs with
  | [x0] => X_isCell x0 h kr
  | _ => none)]) (zget (999, 0, 0, 0) zc_X_peek) (zcut []) (zorc []) kr kt 400 0 [some (2, a0), some (0, a1)] [] h := by rfl
def zc_Le_launchOf : List zI := [(10, 0, 1, 0), (0, 0, 0, 0), (14, 0, 0, 0), (80, 1, 31, 3), (999, 0, 0, 0), (999, 0, 0, 0), (0, 1, 0, 0), (31, 0, 0, 0), (114, 0, 27, 48), (999, 0, 0, 0), (999, 0, 0, 0), (60, 12, 23, 0), (999, 0, 0, 0), (999, 0, 0, 0), (14, 0, 0, 0), (80, 1, 19, 1), (999, 0, 0, 0), (999, 0, 0, 0), (10, 0, 1, 0), (94, 0, 0, 9), (72, 4, 24, 0), (999, 0, 0, 0), (999, 0, 0, 0), (7, 0, 0, 0), (132, 0, 0, 0)]
def Le_launchOf_24 {ρ : Type} (kr : Int → zH → Option ρ) (t0 : Int) (h : zH) : Option ρ :=
kr t0 h
def Le_launchOf {ρ : Type} (a0 a1 : Int) (h : zH) (kr : Int → zH → Option ρ) : Option ρ :=
zob h 1 a0 fun p1 =>
X_isWithin a1 0 (wr ((zhd h p1 3) - 1)) h  fun v2 h3 =>
if v2 = 0 then Le_launchOf_24 kr (-1) h3
else zob h3 1 a0 fun p4 =>
zob h3 39 (zhd h3 p4 1) fun p6 =>
zix (zhl h3 p6) a1 fun j5 =>
Le_launchOf_24 kr (zhd h3 p6 j5) h3
set_option maxRecDepth 100000 in
theorem qe_Le_launchOf_24 {ρ : Type} (kr : Int → zH → Option ρ) (t0 : Int) (h : zH) : Le_launchOf_24 kr t0 h = zseg zPP true (fun _ _ => none) (zcal []) (zget (999, 0, 0, 0) zc_Le_launchOf) (zcut [(24, [false, false])]) (zorc []) kr (fun _ _ => none) 400 24 [none, none] [(2, t0)] h := by rfl
set_option maxRecDepth 100000 in
theorem qe_Le_launchOf {ρ : Type} (kr : Int → zH → Option ρ) (a0 a1 : Int) (h : zH) : Le_launchOf a0 a1 h kr = zseg zPP true (fun _ _ => none) (zcal [(48, [none, none, none], fun xs h kr kt => match xs with
  | [x0, x1, x2] => X_isWithin x0 x1 x2 h kr
  | _ => none)]) (zget (999, 0, 0, 0) zc_Le_launchOf) (zcut [(24, [false, false])]) (zorc [(24, [none, none], [(2, none)], fun xs h => match xs with
  | [t0] => Le_launchOf_24 kr t0 h
  | _ => none)]) kr (fun _ _ => none) 400 0 [some (2, a0), some (0, a1)] [] h := by rfl
def zc_X_launchAt : List zI := [(14, 0, 0, 0), (80, 0, 10, 0), (999, 0, 0, 0), (999, 0, 0, 0), (10, 0, 1, 0), (110, 0, 297, 232), (999, 0, 0, 0), (999, 0, 0, 0), (20, 0, 2, 0), (14, 0, 2, 0), (74, 11, 21, 0), (999, 0, 0, 0), (999, 0, 0, 0), (134, 89, 87, 3), (999, 0, 0, 0), (999, 0, 0, 0), (999, 0, 0, 0), (999, 0, 0, 0), (999, 0, 0, 0), (999, 0, 0, 0), (999, 0, 0, 0), (14, 0, 2, 0), (132, 0, 0, 0)]
def X_launchAt {ρ : Type} (a0 a1 : Int) (h : zH) (kt : Nat → zH → Option ρ) (kr : Int → zH → Option ρ) : Option ρ :=
zob h 0 a0 fun p1 =>
zob h 1 (zhd h p1 0) fun _ =>
Le_launchOf (zhd h p1 0) a1 h  fun v2 h3 =>
if v2 < 0 then zlet (zthrown h3) fun h4 => kt 3 h4
else kr v2 h3
set_option maxRecDepth 100000 in
theorem qe_X_launchAt {ρ : Type} (kr : Int → zH → Option ρ) (kt : Nat → zH → Option ρ) (a0 a1 : Int) (h : zH) : X_launchAt a0 a1 h kt kr = zseg zPP true (fun _ _ => none) (zcal [(232, [none, none], fun xs h kr kt => match xs with
  | [x0, x1] => Le_launchOf x0 x1 h kr
  | _ => none)]) (zget (999, 0, 0, 0) zc_X_launchAt) (zcut []) (zorc []) kr kt 400 0 [some (2, a0), some (0, a1), none] [] h := by rfl
def zc_X_checkQueueAndAfter : List zI := [(10, 0, 1, 0), (0, 0, 0, 0), (0, 1, 0, 0), (113, 0, 32, 48), (999, 0, 0, 0), (999, 0, 0, 0), (61, 11, 17, 0), (999, 0, 0, 0), (999, 0, 0, 0), (134, 89, 87, 3), (999, 0, 0, 0), (999, 0, 0, 0), (999, 0, 0, 0), (999, 0, 0, 0), (999, 0, 0, 0), (999, 0, 0, 0), (999, 0, 0, 0), (10, 0, 2, 0), (0, (-1), 0, 0), (66, 9, 28, 0), (999, 0, 0, 0), (999, 0, 0, 0), (14, 0, 0, 0), (10, 0, 2, 0), (110, 0, 123, 42), (999, 0, 0, 0), (999, 0, 0, 0), (52, 0, 0, 0), (133, 0, 0, 0)]
def X_checkQueueAndAfter_28 {ρ : Type} (kr : Int → zH → Option ρ) (kt : Nat → zH → Option ρ) (h : zH) : Option ρ :=
kr 0 h
def X_checkQueueAndAfter {ρ : Type} (a0 a1 a2 : Int) (h : zH) (kt : Nat → zH → Option ρ) (kr : Int → zH → Option ρ) : Option ρ :=
X_isWithin a1 0 1 h  fun v1 h2 =>
if v1 = 0 then zlet (zthrown h2) fun h5 => kt 3 h5
else if a2 = (-1) then X_checkQueueAndAfter_28 kr kt h2
else zob h2 0 a0 fun _ =>
X_launchAt a0 a2 h2 (kt := kt) fun v3 h4 =>
X_checkQueueAndAfter_28 kr kt h4
set_option maxRecDepth 100000 in
theorem qe_X_checkQueueAndAfter_28 {ρ : Type} (kr : Int → zH → Option ρ) (kt : Nat → zH → Option ρ) (h : zH) : X_checkQueueAndAfter_28 kr kt h = zseg zPP true (fun _ _ => none) (zcal []) (zget (999, 0, 0, 0) zc_X_checkQueueAndAfter) (zcut [(28, [false, false, false])]) (zorc []) kr kt 400 28 [none, none, none] [] h := by rfl
set_option maxRecDepth 100000 in
theorem qe_X_checkQueueAndAfter {ρ : Type} (kr : Int → zH → Option ρ) (kt : Nat → zH → Option ρ) (a0 a1 a2 : Int) (h : zH) : X_checkQueueAndAfter a0 a1 a2 h kt kr = zseg zPP true (fun _ _ => none) (zcal [(42, [none, none], fun xs h kr kt => match xs with
  | [x0, x1] => X_launchAt x0 x1 h kt kr
  | _ => none), (48, [none, none, none], fun xs h kr kt => match xs with
  | [x0, x1, x2] => X_isWithin x0 x1 x2 h kr
  | _ => none)]) (zget (999, 0, 0, 0) zc_X_checkQueueAndAfter) (zcut [(28, [false, false, false])]) (zorc [(28, [none, none, none], [], fun xs h => match xs with
  | [] => X_checkQueueAndAfter_28 kr kt  h
  | _ => none)]) kr kt 400 0 [some (2, a0), some (0, a1), some (0, a2)] [] h := by rfl
def zc_X_checkRoomForLaunch : List zI := [(14, 0, 0, 0), (80, 0, 10, 0), (999, 0, 0, 0), (999, 0, 0, 0), (80, 1, 120, 3), (999, 0, 0, 0), (999, 0, 0, 0), (1, 12, 0, 0), (999, 0, 0, 0), (68, 11, 20, 0), (999, 0, 0, 0), (999, 0, 0, 0), (134, 45, 43, 2), (999, 0, 0, 0), (999, 0, 0, 0), (999, 0, 0, 0), (999, 0, 0, 0), (999, 0, 0, 0), (999, 0, 0, 0), (999, 0, 0, 0), (133, 0, 0, 0)]
def X_checkRoomForLaunch {ρ : Type} (a0 : Int) (h : zH) (kt : Nat → zH → Option ρ) (kr : Int → zH → Option ρ) : Option ρ :=
zob h 0 a0 fun p1 =>
zob h 1 (zhd h p1 0) fun p2 =>
if (zhd h p2 3) < 12 then kr 0 h
else zlet (zthrown h) fun h3 => kt 2 h3
set_option maxRecDepth 100000 in
theorem qe_X_checkRoomForLaunch {ρ : Type} (kr : Int → zH → Option ρ) (kt : Nat → zH → Option ρ) (a0 : Int) (h : zH) : X_checkRoomForLaunch a0 h kt kr = zseg zPP true (fun _ _ => none) (zcal []) (zget (999, 0, 0, 0) zc_X_checkRoomForLaunch) (zcut []) (zorc []) kr kt 400 0 [some (2, a0)] [] h := by rfl
def zc_La_useKernel : List zI := [(14, 0, 0, 0), (14, 0, 1, 0), (82, 9, 40, 5), (999, 0, 0, 0), (999, 0, 0, 0), (14, 0, 0, 0), (80, 9, 40, 5), (999, 0, 0, 0), (999, 0, 0, 0), (0, 1, 0, 0), (82, 7, 44, 4), (999, 0, 0, 0), (999, 0, 0, 0), (14, 0, 0, 0), (10, 0, 2, 0), (82, 9, 50, 6), (999, 0, 0, 0), (999, 0, 0, 0), (14, 0, 0, 0), (10, 0, 3, 0), (82, 9, 53, 7), (999, 0, 0, 0), (999, 0, 0, 0), (133, 0, 0, 0)]
def La_useKernel {ρ : Type} (a0 a1 a2 a3 : Int) (h : zH) (kr : Int → zH → Option ρ) : Option ρ :=
zob h 9 a0 fun p1 =>
zlet (zset h p1 5 a1) fun h2 =>
zob h2 9 a0 fun p3 =>
zob h2 7 (zhd h2 p3 5) fun p4 =>
zlet (zset h2 p4 4 1) fun h5 =>
zob h5 9 a0 fun p6 =>
zlet (zset h5 p6 6 a2) fun h7 =>
zob h7 9 a0 fun p8 =>
zlet (zset h7 p8 7 a3) fun h9 =>
kr 0 h9
set_option maxRecDepth 100000 in
theorem qe_La_useKernel {ρ : Type} (kr : Int → zH → Option ρ) (a0 a1 a2 a3 : Int) (h : zH) : La_useKernel a0 a1 a2 a3 h kr = zseg zPP true (fun _ _ => none) (zcal []) (zget (999, 0, 0, 0) zc_La_useKernel) (zcut []) (zorc []) kr (fun _ _ => none) 400 0 [some (2, a0), some (2, a1), some (0, a2), some (0, a3)] [] h := by rfl
def zc_La_init : List zI := [(14, 0, 0, 0), (117, 0, 3, 0), (999, 0, 0, 0), (999, 0, 0, 0), (14, 0, 0, 0), (1, 113, 0, 0), (999, 0, 0, 0), (82, 9, 11, 10), (999, 0, 0, 0), (999, 0, 0, 0), (14, 0, 0, 0), (1, 64, 0, 0), (999, 0, 0, 0), (101, 0, 0, 20), (999, 0, 0, 0), (84, 9, 15, 16), (999, 0, 0, 0), (999, 0, 0, 0), (14, 0, 0, 0), (1, 64, 0, 0), (999, 0, 0, 0), (101, 0, 0, 21), (999, 0, 0, 0), (84, 9, 19, 17), (999, 0, 0, 0), (999, 0, 0, 0), (14, 0, 0, 0), (10, 0, 1, 0), (84, 9, 23, 0), (999, 0, 0, 0), (999, 0, 0, 0), (14, 0, 0, 0), (10, 0, 2, 0), (84, 9, 27, 1), (999, 0, 0, 0), (999, 0, 0, 0), (14, 0, 0, 0), (14, 0, 3, 0), (84, 9, 30, 2), (999, 0, 0, 0), (999, 0, 0, 0), (14, 0, 0, 0), (15, 0, 4, 0), (999, 0, 0, 0), (84, 9, 34, 3), (999, 0, 0, 0), (999, 0, 0, 0), (14, 0, 0, 0), (15, 0, 5, 0), (999, 0, 0, 0), (84, 9, 37, 4), (999, 0, 0, 0), (999, 0, 0, 0), (133, 0, 0, 0)]
def La_init {ρ : Type} (a0 a1 a2 a3 a4 a5 : Int) (h : zH) (kr : Int → zH → Option ρ) : Option ρ :=
zob h 9 a0 fun p1 =>
zlet (zset h p1 10 113) fun h2 =>
zix 100000 64 fun n3 =>
zlet (znew h2 20 n3 n3 (fun _ => 0)) fun h4 =>
zob h4 9 a0 fun p5 =>
zlet (zset h4 p5 16 (zhn h2 : Int)) fun h6 =>
zix 100000 64 fun n7 =>
zlet (znew h6 21 n7 n7 (fun _ => 0)) fun h8 =>
zob h8 9 a0 fun p9 =>
zlet (zset h8 p9 17 (zhn h6 : Int)) fun h10 =>
zob h10 9 a0 fun p11 =>
zlet (zset h10 p11 0 a1) fun h12 =>
zob h12 9 a0 fun p13 =>
zlet (zset h12 p13 1 a2) fun h14 =>
zob h14 9 a0 fun p15 =>
zlet (zset h14 p15 2 a3) fun h16 =>
zob h16 9 a0 fun p17 =>
zlet (zset h16 p17 3 a4) fun h18 =>
zob h18 9 a0 fun p19 =>
zlet (zset h18 p19 4 a5) fun h20 =>
kr 0 h20
set_option maxRecDepth 100000 in
theorem qe_La_init {ρ : Type} (kr : Int → zH → Option ρ) (a0 a1 a2 a3 a4 a5 : Int) (h : zH) : La_init a0 a1 a2 a3 a4 a5 h kr = zseg zPP true (fun _ _ => none) (zcal []) (zget (999, 0, 0, 0) zc_La_init) (zcut []) (zorc []) kr (fun _ _ => none) 400 0 [some (2, a0), some (0, a1), some (0, a2), some (2, a3), some (2, a4), some (2, a5)] [] h := by rfl
def zc_La_isOver : List zI := [(14, 0, 0, 0), (80, 9, 11, 10), (999, 0, 0, 0), (999, 0, 0, 0), (1, 100, 0, 0), (999, 0, 0, 0), (66, 21, 27, 0), (999, 0, 0, 0), (999, 0, 0, 0), (14, 0, 0, 0), (80, 9, 11, 10), (999, 0, 0, 0), (999, 0, 0, 0), (1, 102, 0, 0), (999, 0, 0, 0), (66, 12, 27, 0), (999, 0, 0, 0), (999, 0, 0, 0), (14, 0, 0, 0), (80, 9, 11, 10), (999, 0, 0, 0), (999, 0, 0, 0), (1, 120, 0, 0), (999, 0, 0, 0), (67, 7, 31, 0), (999, 0, 0, 0), (999, 0, 0, 0), (0, 1, 0, 0), (72, 4, 32, 0), (999, 0, 0, 0), (999, 0, 0, 0), (0, 0, 0, 0), (130, 0, 1, 0)]
def La_isOver_32 {ρ : Type} (kr : Int → zH → Option ρ) (t0 : Int) (h : zH) : Option ρ :=
znar 1 t0 fun x1 => kr x1 h
def La_isOver_27 {ρ : Type} (kr : Int → zH → Option ρ) (h : zH) : Option ρ :=
La_isOver_32 kr 1 h
def La_isOver {ρ : Type} (a0 : Int) (h : zH) (kr : Int → zH → Option ρ) : Option ρ :=
zob h 9 a0 fun p1 =>
if (zhd h p1 10) = 100 then La_isOver_27 kr h
else zob h 9 a0 fun p2 =>
if (zhd h p2 10) = 102 then La_isOver_27 kr h
else zob h 9 a0 fun p3 =>
if (zhd h p3 10) = 120 then La_isOver_27 kr h
else La_isOver_32 kr 0 h
set_option maxRecDepth 100000 in
theorem qe_La_isOver_32 {ρ : Type} (kr : Int → zH → Option ρ) (t0 : Int) (h : zH) : La_isOver_32 kr t0 h = zseg zPP true (fun _ _ => none) (zcal []) (zget (999, 0, 0, 0) zc_La_isOver) (zcut [(27, [false]), (32, [false])]) (zorc []) kr (fun _ _ => none) 400 32 [none] [(0, t0)] h := by rfl
set_option maxRecDepth 100000 in
theorem qe_La_isOver_27 {ρ : Type} (kr : Int → zH → Option ρ) (h : zH) : La_isOver_27 kr h = zseg zPP true (fun _ _ => none) (zcal []) (zget (999, 0, 0, 0) zc_La_isOver) (zcut [(27, [false]), (32, [false])]) (zorc [(32, [none], [(0, none)], fun xs h => match xs with
  | [t0] => La_isOver_32 kr t0 h
  | _ => none)]) kr (fun _ _ => none) 400 27 [none] [] h := by rfl
set_option maxRecDepth 100000 in
theorem qe_La_isOver {ρ : Type} (kr : Int → zH → Option ρ) (a0 : Int) (h : zH) : La_isOver a0 h kr = zseg zPP true (fun _ _ => none) (zcal []) (zget (999, 0, 0, 0) zc_La_isOver) (zcut [(27, [false]), (32, [false])]) (zorc [(27, [none], [], fun xs h => match xs with
  | [] => La_isOver_27 kr  h
  | _ => none), (32, [none], [(0, none)], fun xs h => match xs with
  | [t0] => La_isOver_32 kr t0 h
  | _ => none)]) kr (fun _ _ => none) 400 0 [some (2, a0)] [] h := by rfl
def zc_Le_enter : List zI := [(14, 0, 0, 0), (80, 1, 31, 3), (999, 0, 0, 0), (999, 0, 0, 0), (14, 0, 0, 0), (80, 1, 19, 1), (999, 0, 0, 0), (999, 0, 0, 0), (100, 0, 0, 39), (69, 23, 32, 0), (999, 0, 0, 0), (999, 0, 0, 0), (14, 0, 0, 0), (80, 1, 19, 1), (999, 0, 0, 0), (999, 0, 0, 0), (14, 0, 0, 0), (80, 1, 31, 3), (999, 0, 0, 0), (999, 0, 0, 0), (14, 0, 1, 0), (99, 0, 0, 9), (14, 0, 0, 0), (50, 0, 0, 0), (80, 1, 31, 3), (999, 0, 0, 0), (999, 0, 0, 0), (0, 1, 0, 0), (30, 0, 0, 0), (82, 1, 31, 3), (999, 0, 0, 0), (999, 0, 0, 0), (14, 0, 1, 0), (132, 0, 0, 0)]
def Le_enter_32 {ρ : Type} (kr : Int → zH → Option ρ) (a1 : Int) (h : zH) : Option ρ :=
kr a1 h
def Le_enter {ρ : Type} (a0 a1 : Int) (h : zH) (kr : Int → zH → Option ρ) : Option ρ :=
zob h 1 a0 fun p1 =>
zob h 1 a0 fun p2 =>
zob h 39 (zhd h p2 1) fun p3 =>
if (zhd h p1 3) < (zhl h p3 : Int) then (zob h 1 a0 fun p4 =>
zob h 1 a0 fun p5 =>
zob h 39 (zhd h p4 1) fun p7 =>
zix (zhl h p7) (zhd h p5 3) fun j6 =>
if a1 < 0 then (zlet (zset h p7 j6 (-1)) fun h8 =>
zob h8 1 a0 fun p10 =>
zob h8 1 a0 fun p11 =>
zlet (zset h8 p11 3 (wr ((zhd h8 p10 3) + 1))) fun h12 =>
Le_enter_32 kr a1 h12)
else zob h 9 a1 fun _ =>
zlet (zset h p7 j6 a1) fun h9 =>
zob h9 1 a0 fun p13 =>
zob h9 1 a0 fun p14 =>
zlet (zset h9 p14 3 (wr ((zhd h9 p13 3) + 1))) fun h15 =>
Le_enter_32 kr a1 h15)
else Le_enter_32 kr a1 h
set_option maxRecDepth 100000 in
theorem qe_Le_enter_32 {ρ : Type} (kr : Int → zH → Option ρ) (a1 : Int) (h : zH) : Le_enter_32 kr a1 h = zseg zPP true (fun _ _ => none) (zcal []) (zget (999, 0, 0, 0) zc_Le_enter) (zcut [(32, [false, true])]) (zorc []) kr (fun _ _ => none) 400 32 [none, some (2, a1)] [] h := by rfl
set_option maxRecDepth 100000 in
theorem qe_Le_enter {ρ : Type} (kr : Int → zH → Option ρ) (a0 a1 : Int) (h : zH) : Le_enter a0 a1 h kr = zseg zPP true (fun _ _ => none) (zcal []) (zget (999, 0, 0, 0) zc_Le_enter) (zcut [(32, [false, true])]) (zorc [(32, [none, some (2, none)], [], fun xs h => match xs with
  | [a1] => Le_enter_32 kr a1 h
  | _ => none)]) kr (fun _ _ => none) 400 0 [some (2, a0), some (2, a1)] [] h := by rfl
def zc_Le_lastIn : List zI := [(14, 0, 0, 0), (80, 1, 31, 3), (999, 0, 0, 0), (999, 0, 0, 0), (0, 1, 0, 0), (31, 0, 0, 0), (16, 0, 2, 0), (10, 0, 2, 0), (62, 29, 37, 0), (999, 0, 0, 0), (999, 0, 0, 0), (14, 0, 0, 0), (80, 1, 19, 1), (999, 0, 0, 0), (999, 0, 0, 0), (10, 0, 2, 0), (94, 0, 0, 9), (80, 9, 52, 1), (999, 0, 0, 0), (999, 0, 0, 0), (10, 0, 1, 0), (67, 10, 31, 0), (999, 0, 0, 0), (999, 0, 0, 0), (14, 0, 0, 0), (80, 1, 19, 1), (999, 0, 0, 0), (999, 0, 0, 0), (10, 0, 2, 0), (94, 0, 0, 9), (132, 0, 0, 0), (22, (-1), 2, 0), (999, 0, 0, 0), (999, 0, 0, 0), (72, (-27), 7, 0), (999, 0, 0, 0), (999, 0, 0, 0), (7, 0, 0, 0), (132, 0, 0, 0)]
def Le_lastIn_7b {ρ : Type} (kr : Int → zH → Option ρ) (r7 : Int → Int → Int → zH → Option ρ) (a0 a1 a2 : Int) (h : zH) : Option ρ :=
if a2 < 0 then kr (-1) h
else zob h 1 a0 fun p1 =>
zob h 39 (zhd h p1 1) fun p3 =>
zix (zhl h p3) a2 fun j2 =>
zob h 9 (zhd h p3 j2) fun p4 =>
if (zhd h p4 1) = a1 then (zob h 1 a0 fun p5 =>
zob h 39 (zhd h p5 1) fun p7 =>
zix (zhl h p7) a2 fun j6 =>
kr (zhd h p7 j6) h)
else r7 a0 a1 (wr (a2 + (-1))) h
def Le_lastIn_7 {ρ : Type} (kr : Int → zH → Option ρ) : Int → Int → Int → zH → Option ρ := zit (fun _ _ _ _ => none) (Le_lastIn_7b kr) zN
def Le_lastIn {ρ : Type} (a0 a1 : Int) (h : zH) (kr : Int → zH → Option ρ) : Option ρ :=
zob h 1 a0 fun p1 =>
Le_lastIn_7 kr a0 a1 (wr ((zhd h p1 3) - 1)) h
set_option maxRecDepth 100000 in
theorem qe_Le_lastIn_7b {ρ : Type} (kr : Int → zH → Option ρ) (r7 : Int → Int → Int → zH → Option ρ) (a0 a1 a2 : Int) (h : zH) : Le_lastIn_7b kr r7 a0 a1 a2 h = zseg zPP true (fun _ _ => none) (zcal []) (zget (999, 0, 0, 0) zc_Le_lastIn) (zcut [(7, [true, true, true])]) (zorc [(7, [some (2, none), some (0, none), some (0, none)], [], fun xs h => match xs with
  | [a0, a1, a2] => r7 a0 a1 a2 h
  | _ => none)]) kr (fun _ _ => none) 400 7 [some (2, a0), some (0, a1), some (0, a2)] [] h := by rfl
set_option maxRecDepth 100000 in
theorem qe_Le_lastIn {ρ : Type} (kr : Int → zH → Option ρ) (a0 a1 : Int) (h : zH) : Le_lastIn a0 a1 h kr = zseg zPP true (fun _ _ => none) (zcal []) (zget (999, 0, 0, 0) zc_Le_lastIn) (zcut [(7, [true, true, true])]) (zorc [(7, [some (2, none), some (0, none), some (0, none)], [], fun xs h => match xs with
  | [a0, a1, a2] => Le_lastIn_7 kr a0 a1 a2 h
  | _ => none)]) kr (fun _ _ => none) 400 0 [some (2, a0), some (0, a1), none] [] h := by rfl
