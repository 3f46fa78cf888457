def zc_M_comeOne : List zI := [(14, 0, 0, 112), (80, 12, 370, 55), (999, 0, 0, 0), (999, 0, 0, 0), (16, 0, 1, 0), (14, 0, 0, 112), (0, 0, 0, 0), (110, 0, 421, 127), (999, 0, 0, 0), (999, 0, 0, 0), (14, 0, 0, 112), (0, 1, 0, 0), (110, 0, 421, 127), (999, 0, 0, 0), (999, 0, 0, 0), (0, 0, 0, 0), (16, 0, 2, 0), (10, 0, 2, 0), (14, 0, 0, 112), (80, 12, 196, 13), (999, 0, 0, 0), (999, 0, 0, 0), (69, 35, 57, 0), (999, 0, 0, 0), (999, 0, 0, 0), (14, 0, 0, 112), (80, 12, 43, 14), (999, 0, 0, 0), (999, 0, 0, 0), (10, 0, 2, 0), (92, 0, 0, 69), (1, 113, 0, 0), (999, 0, 0, 0), (67, 18, 51, 0), (999, 0, 0, 0), (999, 0, 0, 0), (14, 0, 0, 112), (80, 12, 64, 21), (999, 0, 0, 0), (999, 0, 0, 0), (10, 0, 2, 0), (90, 0, 0, 76), (0, (-1), 0, 0), (66, 8, 51, 0), (999, 0, 0, 0), (999, 0, 0, 0), (14, 0, 0, 112), (10, 0, 2, 0), (110, 0, 402, 124), (999, 0, 0, 0), (999, 0, 0, 0), (22, 1, 2, 0), (999, 0, 0, 0), (999, 0, 0, 0), (72, (-37), 17, 0), (999, 0, 0, 0), (999, 0, 0, 0), (0, 0, 0, 0), (16, 0, 2, 0), (10, 0, 2, 0), (14, 0, 0, 112), (80, 12, 196, 13), (999, 0, 0, 0), (999, 0, 0, 0), (69, 35, 99, 0), (999, 0, 0, 0), (999, 0, 0, 0), (14, 0, 0, 112), (80, 12, 43, 14), (999, 0, 0, 0), (999, 0, 0, 0), (10, 0, 2, 0), (92, 0, 0, 69), (1, 114, 0, 0), (999, 0, 0, 0), (67, 18, 93, 0), (999, 0, 0, 0), (999, 0, 0, 0), (14, 0, 0, 112), (80, 12, 46, 15), (999, 0, 0, 0), (999, 0, 0, 0), (10, 0, 2, 0), (90, 0, 0, 70), (0, (-1), 0, 0), (67, 8, 93, 0), (999, 0, 0, 0), (999, 0, 0, 0), (14, 0, 0, 112), (10, 0, 2, 0), (110, 0, 424, 128), (999, 0, 0, 0), (999, 0, 0, 0), (22, 1, 2, 0), (999, 0, 0, 0), (999, 0, 0, 0), (72, (-37), 59, 0), (999, 0, 0, 0), (999, 0, 0, 0), (0, 0, 0, 0), (16, 0, 2, 0), (10, 0, 2, 0), (14, 0, 0, 112), (80, 12, 196, 13), (999, 0, 0, 0), (999, 0, 0, 0), (69, 67, 173, 0), (999, 0, 0, 0), (999, 0, 0, 0), (14, 0, 0, 112), (80, 12, 43, 14), (999, 0, 0, 0), (999, 0, 0, 0), (10, 0, 2, 0), (92, 0, 0, 69), (1, 114, 0, 0), (999, 0, 0, 0), (67, 50, 167, 0), (999, 0, 0, 0), (999, 0, 0, 0), (14, 0, 0, 112), (80, 12, 46, 15), (999, 0, 0, 0), (999, 0, 0, 0), (10, 0, 2, 0), (90, 0, 0, 70), (0, (-1), 0, 0), (66, 40, 167, 0), (999, 0, 0, 0), (999, 0, 0, 0), (14, 0, 0, 112), (80, 12, 70, 23), (999, 0, 0, 0), (999, 0, 0, 0), (10, 0, 2, 0), (90, 0, 0, 78), (14, 0, 0, 112), (80, 12, 52, 17), (999, 0, 0, 0), (999, 0, 0, 0), (10, 0, 2, 0), (90, 0, 0, 72), (69, 25, 167, 0), (999, 0, 0, 0), (999, 0, 0, 0), (14, 0, 0, 112), (10, 0, 2, 0), (110, 0, 427, 132), (999, 0, 0, 0), (999, 0, 0, 0), (0, (-1), 0, 0), (66, 16, 167, 0), (999, 0, 0, 0), (999, 0, 0, 0), (14, 0, 0, 112), (10, 0, 2, 0), (14, 0, 0, 112), (10, 0, 2, 0), (110, 0, 427, 132), (999, 0, 0, 0), (999, 0, 0, 0), (110, 0, 430, 133), (999, 0, 0, 0), (999, 0, 0, 0), (72, (-55), 109, 0), (999, 0, 0, 0), (999, 0, 0, 0), (22, 1, 2, 0), (999, 0, 0, 0), (999, 0, 0, 0), (72, (-69), 101, 0), (999, 0, 0, 0), (999, 0, 0, 0), (14, 0, 0, 112), (110, 0, 433, 87), (999, 0, 0, 0), (999, 0, 0, 0), (0, 0, 0, 0), (16, 0, 2, 0), (10, 0, 2, 0), (0, 2, 0, 0), (69, 30, 211, 0), (999, 0, 0, 0), (999, 0, 0, 0), (14, 0, 0, 112), (10, 0, 2, 0), (110, 0, 436, 135), (999, 0, 0, 0), (999, 0, 0, 0), (16, 0, 3, 0), (10, 0, 3, 0), (0, (-1), 0, 0), (66, 13, 205, 0), (999, 0, 0, 0), (999, 0, 0, 0), (14, 0, 0, 112), (10, 0, 2, 0), (10, 0, 3, 0), (110, 0, 439, 123), (999, 0, 0, 0), (999, 0, 0, 0), (14, 0, 0, 112), (110, 0, 433, 87), (999, 0, 0, 0), (999, 0, 0, 0), (22, 1, 2, 0), (999, 0, 0, 0), (999, 0, 0, 0), (72, (-29), 179, 0), (999, 0, 0, 0), (999, 0, 0, 0), (0, 0, 0, 0), (16, 0, 2, 0), (10, 0, 2, 0), (0, 2, 0, 0), (69, 59, 274, 0), (999, 0, 0, 0), (999, 0, 0, 0), (14, 0, 0, 112), (80, 12, 390, 1), (999, 0, 0, 0), (999, 0, 0, 0), (0, 3, 0, 0), (34, 0, 0, 0), (0, 2, 0, 0), (67, 49, 274, 0), (999, 0, 0, 0), (999, 0, 0, 0), (0, 0, 0, 0), (16, 0, 3, 0), (10, 0, 3, 0), (14, 0, 0, 112), (80, 12, 115, 38), (999, 0, 0, 0), (999, 0, 0, 0), (10, 0, 2, 0), (90, 0, 0, 93), (69, 31, 268, 0), (999, 0, 0, 0), (999, 0, 0, 0), (14, 0, 0, 112), (80, 12, 127, 42), (999, 0, 0, 0), (999, 0, 0, 0), (0, 4, 0, 0), (10, 0, 2, 0), (32, 0, 0, 0), (10, 0, 3, 0), (30, 0, 0, 0), (90, 0, 0, 97), (65, 12, 262, 0), (999, 0, 0, 0), (999, 0, 0, 0), (14, 0, 0, 112), (0, 4, 0, 0), (10, 0, 2, 0), (32, 0, 0, 0), (10, 0, 3, 0), (30, 0, 0, 0), (110, 0, 263, 97), (999, 0, 0, 0), (999, 0, 0, 0), (22, 1, 3, 0), (999, 0, 0, 0), (999, 0, 0, 0), (72, (-35), 230, 0), (999, 0, 0, 0), (999, 0, 0, 0), (22, 1, 2, 0), (999, 0, 0, 0), (999, 0, 0, 0), (72, (-58), 213, 0), (999, 0, 0, 0), (999, 0, 0, 0), (14, 0, 0, 112), (50, 0, 0, 0), (80, 12, 390, 1), (999, 0, 0, 0), (999, 0, 0, 0), (0, 1, 0, 0), (30, 0, 0, 0), (82, 12, 390, 1), (999, 0, 0, 0), (999, 0, 0, 0), (14, 0, 0, 112), (80, 12, 370, 55), (999, 0, 0, 0), (999, 0, 0, 0), (10, 0, 1, 0), (31, 0, 0, 0), (130, 0, 0, 0)]
def zu_M_comeOne : List (Nat × List Bool) := [(17, [true, true, true, false]), (51, [true, true, true, false]), (59, [true, true, true, false]), (93, [true, true, true, false]), (101, [true, true, true, false]), (109, [true, true, true, false]), (167, [true, true, true, false]), (179, [true, true, true, false]), (205, [true, true, true, false]), (213, [true, true, true, false]), (230, [true, true, true, true]), (262, [true, true, true, true]), (274, [true, true, false, false])]
set_option maxRecDepth 100000 in
theorem qg_M_comeOne_51 {ρ : Type} (kr : Int → zH → Option ρ) (r17 : Int → Int → zH → Option ρ) (a1 a2 : Int) (h : zH) : (r17 a1 (wr (a2 + 1)) h) = zseg zPP false (zcal []) (zget (999, 0, 0, 0) zc_M_comeOne) (zcut zu_M_comeOne) (zorc [(17, [some (112, some 0), some (0, none), some (0, none), none], [], fun xs h => match xs with
  | [a1, a2] => r17 a1 a2 h
  | _ => none)]) kr (fun _ _ => none) 400 51 [some (112, 0), some (0, a1), some (0, a2), none] [] h := by rfl
set_option maxRecDepth 100000 in
theorem qe_M_comeOne_51 {ρ : Type} (kr : Int → zH → Option ρ) (r17 : Int → Int → zH → Option ρ) (a1 a2 : Int) (h : zH) : M_comeOne_51 kr r17 a1 a2 h = zseg zPP false (zcal []) (zget (999, 0, 0, 0) zc_M_comeOne) (zcut zu_M_comeOne) (zorc [(17, [some (112, some 0), some (0, none), some (0, none), none], [], fun xs h => match xs with
  | [a1, a2] => r17 a1 a2 h
  | _ => none)]) kr (fun _ _ => none) 400 51 [some (112, 0), some (0, a1), some (0, a2), none] [] h := qg_M_comeOne_51 kr r17 a1 a2 h
set_option maxRecDepth 100000 in
theorem qg_M_comeOne_93 {ρ : Type} (kr : Int → zH → Option ρ) (r59 : Int → Int → zH → Option ρ) (a1 a2 : Int) (h : zH) : (r59 a1 (wr (a2 + 1)) h) = zseg zPP false (zcal []) (zget (999, 0, 0, 0) zc_M_comeOne) (zcut zu_M_comeOne) (zorc [(59, [some (112, some 0), some (0, none), some (0, none), none], [], fun xs h => match xs with
  | [a1, a2] => r59 a1 a2 h
  | _ => none)]) kr (fun _ _ => none) 400 93 [some (112, 0), some (0, a1), some (0, a2), none] [] h := by rfl
set_option maxRecDepth 100000 in
theorem qe_M_comeOne_93 {ρ : Type} (kr : Int → zH → Option ρ) (r59 : Int → Int → zH → Option ρ) (a1 a2 : Int) (h : zH) : M_comeOne_93 kr r59 a1 a2 h = zseg zPP false (zcal []) (zget (999, 0, 0, 0) zc_M_comeOne) (zcut zu_M_comeOne) (zorc [(59, [some (112, some 0), some (0, none), some (0, none), none], [], fun xs h => match xs with
  | [a1, a2] => r59 a1 a2 h
  | _ => none)]) kr (fun _ _ => none) 400 93 [some (112, 0), some (0, a1), some (0, a2), none] [] h := qg_M_comeOne_93 kr r59 a1 a2 h
set_option maxRecDepth 100000 in
theorem qg_M_comeOne_167 {ρ : Type} (kr : Int → zH → Option ρ) (r101 : Int → Int → zH → Option ρ) (a1 a2 : Int) (h : zH) : (r101 a1 (wr (a2 + 1)) h) = zseg zPP false (zcal []) (zget (999, 0, 0, 0) zc_M_comeOne) (zcut zu_M_comeOne) (zorc [(101, [some (112, some 0), some (0, none), some (0, none), none], [], fun xs h => match xs with
  | [a1, a2] => r101 a1 a2 h
  | _ => none)]) kr (fun _ _ => none) 400 167 [some (112, 0), some (0, a1), some (0, a2), none] [] h := by rfl
set_option maxRecDepth 100000 in
theorem qe_M_comeOne_167 {ρ : Type} (kr : Int → zH → Option ρ) (r101 : Int → Int → zH → Option ρ) (a1 a2 : Int) (h : zH) : M_comeOne_167 kr r101 a1 a2 h = zseg zPP false (zcal []) (zget (999, 0, 0, 0) zc_M_comeOne) (zcut zu_M_comeOne) (zorc [(101, [some (112, some 0), some (0, none), some (0, none), none], [], fun xs h => match xs with
  | [a1, a2] => r101 a1 a2 h
  | _ => none)]) kr (fun _ _ => none) 400 167 [some (112, 0), some (0, a1), some (0, a2), none] [] h := qg_M_comeOne_167 kr r101 a1 a2 h
set_option maxRecDepth 100000 in
theorem qg_M_comeOne_109b {ρ : Type} (kr : Int → zH → Option ρ) (r101 : Int → Int → zH → Option ρ) (r109 : Int → Int → zH → Option ρ) (F_M_unitFor : Int → zH → (Int → zH → Option ρ) → Option ρ) (F_M_give : Int → Int → zH → (Int → zH → Option ρ) → Option ρ) (c167 : Int → Int → zH → Option ρ) (a1 a2 : Int) (h : zH) : (zix 12 a2 fun j1 =>
if (zhD h 69 0 j1) = 114 then (zix 12 a2 fun j2 =>
if (zhD h 70 0 j2) = (-1) then c167 a1 a2 h
else zix 12 a2 fun j3 =>
zix 12 a2 fun j4 =>
if (zhD h 78 0 j3) < (zhD h 72 0 j4) then (F_M_unitFor a2 h  fun v5 h6 =>
if v5 = (-1) then c167 a1 a2 h6
else F_M_unitFor a2 h6  fun v7 h8 =>
F_M_give a2 v7 h8  fun _ h10 =>
r109 a1 a2 h10)
else c167 a1 a2 h)
else c167 a1 a2 h) = zseg zPP false (zcal [(132, [some 0, none], fun xs h kr kt => match xs with
  | [x1] => F_M_unitFor x1 h kr
  | _ => none), (133, [some 0, none, none], fun xs h kr kt => match xs with
  | [x1, x2] => F_M_give x1 x2 h kr
  | _ => none)]) (zget (999, 0, 0, 0) zc_M_comeOne) (zcut zu_M_comeOne) (zorc [(109, [some (112, some 0), some (0, none), some (0, none), none], [], fun xs h => match xs with
  | [a1, a2] => r109 a1 a2 h
  | _ => none), (167, [some (112, some 0), some (0, none), some (0, none), none], [], fun xs h => match xs with
  | [a1, a2] => c167 a1 a2 h
  | _ => none)]) kr (fun _ _ => none) 400 109 [some (112, 0), some (0, a1), some (0, a2), none] [] h := by rfl
set_option maxRecDepth 100000 in
theorem qe_M_comeOne_109b {ρ : Type} (kr : Int → zH → Option ρ) (r101 : Int → Int → zH → Option ρ) (r109 : Int → Int → zH → Option ρ) (a1 a2 : Int) (h : zH) : M_comeOne_109b kr r101 r109 a1 a2 h = zseg zPP false (zcal [(132, [some 0, none], fun xs h kr kt => match xs with
  | [x1] => M_unitFor x1 h kr
  | _ => none), (133, [some 0, none, none], fun xs h kr kt => match xs with
  | [x1, x2] => M_give x1 x2 h kr
  | _ => none)]) (zget (999, 0, 0, 0) zc_M_comeOne) (zcut zu_M_comeOne) (zorc [(109, [some (112, some 0), some (0, none), some (0, none), none], [], fun xs h => match xs with
  | [a1, a2] => r109 a1 a2 h
  | _ => none), (167, [some (112, some 0), some (0, none), some (0, none), none], [], fun xs h => match xs with
  | [a1, a2] => M_comeOne_167 kr r101 a1 a2 h
  | _ => none)]) kr (fun _ _ => none) 400 109 [some (112, 0), some (0, a1), some (0, a2), none] [] h := qg_M_comeOne_109b kr r101 r109 M_unitFor M_give (M_comeOne_167 kr r101) a1 a2 h
set_option maxRecDepth 100000 in
theorem qg_M_comeOne_205 {ρ : Type} (kr : Int → zH → Option ρ) (r179 : Int → Int → zH → Option ρ) (a1 a2 : Int) (h : zH) : (r179 a1 (wr (a2 + 1)) h) = zseg zPP false (zcal []) (zget (999, 0, 0, 0) zc_M_comeOne) (zcut zu_M_comeOne) (zorc [(179, [some (112, some 0), some (0, none), some (0, none), none], [], fun xs h => match xs with
  | [a1, a2] => r179 a1 a2 h
  | _ => none)]) kr (fun _ _ => none) 400 205 [some (112, 0), some (0, a1), some (0, a2), none] [] h := by rfl
set_option maxRecDepth 100000 in
theorem qe_M_comeOne_205 {ρ : Type} (kr : Int → zH → Option ρ) (r179 : Int → Int → zH → Option ρ) (a1 a2 : Int) (h : zH) : M_comeOne_205 kr r179 a1 a2 h = zseg zPP false (zcal []) (zget (999, 0, 0, 0) zc_M_comeOne) (zcut zu_M_comeOne) (zorc [(179, [some (112, some 0), some (0, none), some (0, none), none], [], fun xs h => match xs with
  | [a1, a2] => r179 a1 a2 h
  | _ => none)]) kr (fun _ _ => none) 400 205 [some (112, 0), some (0, a1), some (0, a2), none] [] h := qg_M_comeOne_205 kr r179 a1 a2 h
set_option maxRecDepth 100000 in
theorem qg_M_comeOne_262 {ρ : Type} (kr : Int → zH → Option ρ) (r213 : Int → Int → zH → Option ρ) (r230 : Int → Int → Int → zH → Option ρ) (a1 a2 a3 : Int) (h : zH) : (r230 a1 a2 (wr (a3 + 1)) h) = zseg zPP false (zcal []) (zget (999, 0, 0, 0) zc_M_comeOne) (zcut zu_M_comeOne) (zorc [(230, [some (112, some 0), some (0, none), some (0, none), some (0, none)], [], fun xs h => match xs with
  | [a1, a2, a3] => r230 a1 a2 a3 h
  | _ => none)]) kr (fun _ _ => none) 400 262 [some (112, 0), some (0, a1), some (0, a2), some (0, a3)] [] h := by rfl
set_option maxRecDepth 100000 in
theorem qe_M_comeOne_262 {ρ : Type} (kr : Int → zH → Option ρ) (r213 : Int → Int → zH → Option ρ) (r230 : Int → Int → Int → zH → Option ρ) (a1 a2 a3 : Int) (h : zH) : M_comeOne_262 kr r213 r230 a1 a2 a3 h = zseg zPP false (zcal []) (zget (999, 0, 0, 0) zc_M_comeOne) (zcut zu_M_comeOne) (zorc [(230, [some (112, some 0), some (0, none), some (0, none), some (0, none)], [], fun xs h => match xs with
  | [a1, a2, a3] => r230 a1 a2 a3 h
  | _ => none)]) kr (fun _ _ => none) 400 262 [some (112, 0), some (0, a1), some (0, a2), some (0, a3)] [] h := qg_M_comeOne_262 kr r213 r230 a1 a2 a3 h
set_option maxRecDepth 100000 in
theorem qg_M_comeOne_230b {ρ : Type} (kr : Int → zH → Option ρ) (r213 : Int → Int → zH → Option ρ) (r230 : Int → Int → Int → zH → Option ρ) (F_M_writeFirst : Int → zH → (Int → zH → Option ρ) → Option ρ) (c262 : Int → Int → Int → zH → Option ρ) (a1 a2 a3 : Int) (h : zH) : (zix 2 a2 fun j1 =>
if a3 < (zhD h 93 0 j1) then (zix 8 (wr ((wr (4 * a2)) + a3)) fun j2 =>
if 0 < (zhD h 97 0 j2) then (F_M_writeFirst (wr ((wr (4 * a2)) + a3)) h  fun _ h4 =>
c262 a1 a2 a3 h4)
else c262 a1 a2 a3 h)
else r213 a1 (wr (a2 + 1)) h) = zseg zPP false (zcal [(97, [some 0, none], fun xs h kr kt => match xs with
  | [x1] => F_M_writeFirst x1 h kr
  | _ => none)]) (zget (999, 0, 0, 0) zc_M_comeOne) (zcut zu_M_comeOne) (zorc [(213, [some (112, some 0), some (0, none), some (0, none), none], [], fun xs h => match xs with
  | [a1, a2] => r213 a1 a2 h
  | _ => none), (262, [some (112, some 0), some (0, none), some (0, none), some (0, none)], [], fun xs h => match xs with
  | [a1, a2, a3] => c262 a1 a2 a3 h
  | _ => none)]) kr (fun _ _ => none) 400 230 [some (112, 0), some (0, a1), some (0, a2), some (0, a3)] [] h := by rfl
set_option maxRecDepth 100000 in
theorem qe_M_comeOne_230b {ρ : Type} (kr : Int → zH → Option ρ) (r213 : Int → Int → zH → Option ρ) (r230 : Int → Int → Int → zH → Option ρ) (a1 a2 a3 : Int) (h : zH) : M_comeOne_230b kr r213 r230 a1 a2 a3 h = zseg zPP false (zcal [(97, [some 0, none], fun xs h kr kt => match xs with
  | [x1] => M_writeFirst x1 h kr
  | _ => none)]) (zget (999, 0, 0, 0) zc_M_comeOne) (zcut zu_M_comeOne) (zorc [(213, [some (112, some 0), some (0, none), some (0, none), none], [], fun xs h => match xs with
  | [a1, a2] => r213 a1 a2 h
  | _ => none), (262, [some (112, some 0), some (0, none), some (0, none), some (0, none)], [], fun xs h => match xs with
  | [a1, a2, a3] => M_comeOne_262 kr r213 r230 a1 a2 a3 h
  | _ => none)]) kr (fun _ _ => none) 400 230 [some (112, 0), some (0, a1), some (0, a2), some (0, a3)] [] h := qg_M_comeOne_230b kr r213 r230 M_writeFirst (M_comeOne_262 kr r213 r230) a1 a2 a3 h
set_option maxRecDepth 100000 in
theorem qg_M_comeOne_274 {ρ : Type} (kr : Int → zH → Option ρ) (a1 : Int) (h : zH) : (zlet (zset h 12 0 1 (wr ((zhD h 12 0 1) + 1))) fun h1 =>
kr (wr ((zhD h1 12 0 55) - a1)) h1) = zseg zPP false (zcal []) (zget (999, 0, 0, 0) zc_M_comeOne) (zcut zu_M_comeOne) (zorc []) kr (fun _ _ => none) 400 274 [some (112, 0), some (0, a1), none, none] [] h := by rfl
set_option maxRecDepth 100000 in
theorem qe_M_comeOne_274 {ρ : Type} (kr : Int → zH → Option ρ) (a1 : Int) (h : zH) : M_comeOne_274 kr a1 h = zseg zPP false (zcal []) (zget (999, 0, 0, 0) zc_M_comeOne) (zcut zu_M_comeOne) (zorc []) kr (fun _ _ => none) 400 274 [some (112, 0), some (0, a1), none, none] [] h := qg_M_comeOne_274 kr a1 h
set_option maxRecDepth 100000 in
theorem qg_M_comeOne_213b {ρ : Type} (kr : Int → zH → Option ρ) (r213 : Int → Int → zH → Option ρ) (c230 : Int → Int → Int → zH → Option ρ) (c274 : Int → zH → Option ρ) (a1 a2 : Int) (h : zH) : (if a2 < 2 then (if (Int.tmod (zhD h 12 0 1) 3) = 2 then c230 a1 a2 0 h
else c274 a1 h)
else c274 a1 h) = zseg zPP false (zcal []) (zget (999, 0, 0, 0) zc_M_comeOne) (zcut zu_M_comeOne) (zorc [(230, [some (112, some 0), some (0, none), some (0, none), some (0, none)], [], fun xs h => match xs with
  | [a1, a2, a3] => c230 a1 a2 a3 h
  | _ => none), (274, [some (112, some 0), some (0, none), none, none], [], fun xs h => match xs with
  | [a1] => c274 a1 h
  | _ => none)]) kr (fun _ _ => none) 400 213 [some (112, 0), some (0, a1), some (0, a2), none] [] h := by rfl
set_option maxRecDepth 100000 in
theorem qe_M_comeOne_213b {ρ : Type} (kr : Int → zH → Option ρ) (r213 : Int → Int → zH → Option ρ) (a1 a2 : Int) (h : zH) : M_comeOne_213b kr r213 a1 a2 h = zseg zPP false (zcal []) (zget (999, 0, 0, 0) zc_M_comeOne) (zcut zu_M_comeOne) (zorc [(230, [some (112, some 0), some (0, none), some (0, none), some (0, none)], [], fun xs h => match xs with
  | [a1, a2, a3] => M_comeOne_230 kr r213 a1 a2 a3 h
  | _ => none), (274, [some (112, some 0), some (0, none), none, none], [], fun xs h => match xs with
  | [a1] => M_comeOne_274 kr a1 h
  | _ => none)]) kr (fun _ _ => none) 400 213 [some (112, 0), some (0, a1), some (0, a2), none] [] h := qg_M_comeOne_213b kr r213 (M_comeOne_230 kr r213) (M_comeOne_274 kr) a1 a2 h
set_option maxRecDepth 100000 in
theorem qg_M_comeOne_179b {ρ : Type} (kr : Int → zH → Option ρ) (r179 : Int → Int → zH → Option ρ) (F_M_finish : zH → (Int → zH → Option ρ) → Option ρ) (F_M_carryOut : Int → Int → zH → (Int → zH → Option ρ) → Option ρ) (F_M_choose : Int → zH → (Int → zH → Option ρ) → Option ρ) (c205 : Int → Int → zH → Option ρ) (c213 : Int → Int → zH → Option ρ) (a1 a2 : Int) (h : zH) : (if a2 < 2 then (F_M_choose a2 h  fun v1 h2 =>
if v1 = (-1) then c205 a1 a2 h2
else F_M_carryOut a2 v1 h2  fun _ h4 =>
F_M_finish h4  fun _ h6 =>
c205 a1 a2 h6)
else c213 a1 0 h) = zseg zPP false (zcal [(87, [some 0], fun xs h kr kt => match xs with
  | [] => F_M_finish h kr
  | _ => none), (123, [some 0, none, none], fun xs h kr kt => match xs with
  | [x1, x2] => F_M_carryOut x1 x2 h kr
  | _ => none), (135, [some 0, none], fun xs h kr kt => match xs with
  | [x1] => F_M_choose x1 h kr
  | _ => none)]) (zget (999, 0, 0, 0) zc_M_comeOne) (zcut zu_M_comeOne) (zorc [(205, [some (112, some 0), some (0, none), some (0, none), none], [], fun xs h => match xs with
  | [a1, a2] => c205 a1 a2 h
  | _ => none), (213, [some (112, some 0), some (0, none), some (0, none), none], [], fun xs h => match xs with
  | [a1, a2] => c213 a1 a2 h
  | _ => none)]) kr (fun _ _ => none) 400 179 [some (112, 0), some (0, a1), some (0, a2), none] [] h := by rfl
set_option maxRecDepth 100000 in
theorem qe_M_comeOne_179b {ρ : Type} (kr : Int → zH → Option ρ) (r179 : Int → Int → zH → Option ρ) (a1 a2 : Int) (h : zH) : M_comeOne_179b kr r179 a1 a2 h = zseg zPP false (zcal [(87, [some 0], fun xs h kr kt => match xs with
  | [] => M_finish h kr
  | _ => none), (123, [some 0, none, none], fun xs h kr kt => match xs with
  | [x1, x2] => M_carryOut x1 x2 h kr
  | _ => none), (135, [some 0, none], fun xs h kr kt => match xs with
  | [x1] => M_choose x1 h kr
  | _ => none)]) (zget (999, 0, 0, 0) zc_M_comeOne) (zcut zu_M_comeOne) (zorc [(205, [some (112, some 0), some (0, none), some (0, none), none], [], fun xs h => match xs with
  | [a1, a2] => M_comeOne_205 kr r179 a1 a2 h
  | _ => none), (213, [some (112, some 0), some (0, none), some (0, none), none], [], fun xs h => match xs with
  | [a1, a2] => M_comeOne_213 kr a1 a2 h
  | _ => none)]) kr (fun _ _ => none) 400 179 [some (112, 0), some (0, a1), some (0, a2), none] [] h := qg_M_comeOne_179b kr r179 M_finish M_carryOut M_choose (M_comeOne_205 kr r179) (M_comeOne_213 kr) a1 a2 h
set_option maxRecDepth 100000 in
theorem qg_M_comeOne_101b {ρ : Type} (kr : Int → zH → Option ρ) (r101 : Int → Int → zH → Option ρ) (F_M_finish : zH → (Int → zH → Option ρ) → Option ρ) (c109 : Int → Int → zH → Option ρ) (c179 : Int → Int → zH → Option ρ) (a1 a2 : Int) (h : zH) : (if a2 < (zhD h 12 0 13) then c109 a1 a2 h
else F_M_finish h  fun _ h2 =>
c179 a1 0 h2) = zseg zPP false (zcal [(87, [some 0], fun xs h kr kt => match xs with
  | [] => F_M_finish h kr
  | _ => none)]) (zget (999, 0, 0, 0) zc_M_comeOne) (zcut zu_M_comeOne) (zorc [(109, [some (112, some 0), some (0, none), some (0, none), none], [], fun xs h => match xs with
  | [a1, a2] => c109 a1 a2 h
  | _ => none), (179, [some (112, some 0), some (0, none), some (0, none), none], [], fun xs h => match xs with
  | [a1, a2] => c179 a1 a2 h
  | _ => none)]) kr (fun _ _ => none) 400 101 [some (112, 0), some (0, a1), some (0, a2), none] [] h := by rfl
set_option maxRecDepth 100000 in
theorem qe_M_comeOne_101b {ρ : Type} (kr : Int → zH → Option ρ) (r101 : Int → Int → zH → Option ρ) (a1 a2 : Int) (h : zH) : M_comeOne_101b kr r101 a1 a2 h = zseg zPP false (zcal [(87, [some 0], fun xs h kr kt => match xs with
  | [] => M_finish h kr
  | _ => none)]) (zget (999, 0, 0, 0) zc_M_comeOne) (zcut zu_M_comeOne) (zorc [(109, [some (112, some 0), some (0, none), some (0, none), none], [], fun xs h => match xs with
  | [a1, a2] => M_comeOne_109 kr r101 a1 a2 h
  | _ => none), (179, [some (112, some 0), some (0, none), some (0, none), none], [], fun xs h => match xs with
  | [a1, a2] => M_comeOne_179 kr a1 a2 h
  | _ => none)]) kr (fun _ _ => none) 400 101 [some (112, 0), some (0, a1), some (0, a2), none] [] h := qg_M_comeOne_101b kr r101 M_finish (M_comeOne_109 kr r101) (M_comeOne_179 kr) a1 a2 h
set_option maxRecDepth 100000 in
theorem qg_M_comeOne_59b {ρ : Type} (kr : Int → zH → Option ρ) (r59 : Int → Int → zH → Option ρ) (F_M_copyOne : Int → zH → (Int → zH → Option ρ) → Option ρ) (c93 : Int → Int → zH → Option ρ) (c101 : Int → Int → zH → Option ρ) (a1 a2 : Int) (h : zH) : (if a2 < (zhD h 12 0 13) then (zix 12 a2 fun j1 =>
if (zhD h 69 0 j1) = 114 then (zix 12 a2 fun j2 =>
if (zhD h 70 0 j2) = (-1) then (F_M_copyOne a2 h  fun _ h4 =>
c93 a1 a2 h4)
else c93 a1 a2 h)
else c93 a1 a2 h)
else c101 a1 0 h) = zseg zPP false (zcal [(128, [some 0, none], fun xs h kr kt => match xs with
  | [x1] => F_M_copyOne x1 h kr
  | _ => none)]) (zget (999, 0, 0, 0) zc_M_comeOne) (zcut zu_M_comeOne) (zorc [(93, [some (112, some 0), some (0, none), some (0, none), none], [], fun xs h => match xs with
  | [a1, a2] => c93 a1 a2 h
  | _ => none), (101, [some (112, some 0), some (0, none), some (0, none), none], [], fun xs h => match xs with
  | [a1, a2] => c101 a1 a2 h
  | _ => none)]) kr (fun _ _ => none) 400 59 [some (112, 0), some (0, a1), some (0, a2), none] [] h := by rfl
set_option maxRecDepth 100000 in
theorem qe_M_comeOne_59b {ρ : Type} (kr : Int → zH → Option ρ) (r59 : Int → Int → zH → Option ρ) (a1 a2 : Int) (h : zH) : M_comeOne_59b kr r59 a1 a2 h = zseg zPP false (zcal [(128, [some 0, none], fun xs h kr kt => match xs with
  | [x1] => M_copyOne x1 h kr
  | _ => none)]) (zget (999, 0, 0, 0) zc_M_comeOne) (zcut zu_M_comeOne) (zorc [(93, [some (112, some 0), some (0, none), some (0, none), none], [], fun xs h => match xs with
  | [a1, a2] => M_comeOne_93 kr r59 a1 a2 h
  | _ => none), (101, [some (112, some 0), some (0, none), some (0, none), none], [], fun xs h => match xs with
  | [a1, a2] => M_comeOne_101 kr a1 a2 h
  | _ => none)]) kr (fun _ _ => none) 400 59 [some (112, 0), some (0, a1), some (0, a2), none] [] h := qg_M_comeOne_59b kr r59 M_copyOne (M_comeOne_93 kr r59) (M_comeOne_101 kr) a1 a2 h
set_option maxRecDepth 100000 in
theorem qg_M_comeOne_17b {ρ : Type} (kr : Int → zH → Option ρ) (r17 : Int → Int → zH → Option ρ) (F_M_beginLaunch : Int → zH → (Int → zH → Option ρ) → Option ρ) (c51 : Int → Int → zH → Option ρ) (c59 : Int → Int → zH → Option ρ) (a1 a2 : Int) (h : zH) : (if a2 < (zhD h 12 0 13) then (zix 12 a2 fun j1 =>
if (zhD h 69 0 j1) = 113 then (zix 12 a2 fun j2 =>
if (zhD h 76 0 j2) = (-1) then c51 a1 a2 h
else F_M_beginLaunch a2 h  fun _ h4 =>
c51 a1 a2 h4)
else c51 a1 a2 h)
else c59 a1 0 h) = zseg zPP false (zcal [(124, [some 0, none], fun xs h kr kt => match xs with
  | [x1] => F_M_beginLaunch x1 h kr
  | _ => none)]) (zget (999, 0, 0, 0) zc_M_comeOne) (zcut zu_M_comeOne) (zorc [(51, [some (112, some 0), some (0, none), some (0, none), none], [], fun xs h => match xs with
  | [a1, a2] => c51 a1 a2 h
  | _ => none), (59, [some (112, some 0), some (0, none), some (0, none), none], [], fun xs h => match xs with
  | [a1, a2] => c59 a1 a2 h
  | _ => none)]) kr (fun _ _ => none) 400 17 [some (112, 0), some (0, a1), some (0, a2), none] [] h := by rfl
set_option maxRecDepth 100000 in
theorem qe_M_comeOne_17b {ρ : Type} (kr : Int → zH → Option ρ) (r17 : Int → Int → zH → Option ρ) (a1 a2 : Int) (h : zH) : M_comeOne_17b kr r17 a1 a2 h = zseg zPP false (zcal [(124, [some 0, none], fun xs h kr kt => match xs with
  | [x1] => M_beginLaunch x1 h kr
  | _ => none)]) (zget (999, 0, 0, 0) zc_M_comeOne) (zcut zu_M_comeOne) (zorc [(51, [some (112, some 0), some (0, none), some (0, none), none], [], fun xs h => match xs with
  | [a1, a2] => M_comeOne_51 kr r17 a1 a2 h
  | _ => none), (59, [some (112, some 0), some (0, none), some (0, none), none], [], fun xs h => match xs with
  | [a1, a2] => M_comeOne_59 kr a1 a2 h
  | _ => none)]) kr (fun _ _ => none) 400 17 [some (112, 0), some (0, a1), some (0, a2), none] [] h := qg_M_comeOne_17b kr r17 M_beginLaunch (M_comeOne_51 kr r17) (M_comeOne_59 kr) a1 a2 h
set_option maxRecDepth 100000 in
theorem qg_M_comeOne {ρ : Type} (kr : Int → zH → Option ρ) (F_M_goThrough : Int → zH → (Int → zH → Option ρ) → Option ρ) (c17 : Int → Int → zH → Option ρ) (h : zH) : (F_M_goThrough 0 h  fun _ h2 =>
F_M_goThrough 1 h2  fun _ h4 =>
c17 (zhD h 12 0 55) 0 h4) = zseg zPP false (zcal [(127, [some 0, none], fun xs h kr kt => match xs with
  | [x1] => F_M_goThrough x1 h kr
  | _ => none)]) (zget (999, 0, 0, 0) zc_M_comeOne) (zcut zu_M_comeOne) (zorc [(17, [some (112, some 0), some (0, none), some (0, none), none], [], fun xs h => match xs with
  | [a1, a2] => c17 a1 a2 h
  | _ => none)]) kr (fun _ _ => none) 400 0 [some (112, 0), none, none, none] [] h := by rfl
set_option maxRecDepth 100000 in
theorem qe_M_comeOne {ρ : Type} (kr : Int → zH → Option ρ) (h : zH) : M_comeOne h kr = zseg zPP false (zcal [(127, [some 0, none], fun xs h kr kt => match xs with
  | [x1] => M_goThrough x1 h kr
  | _ => none)]) (zget (999, 0, 0, 0) zc_M_comeOne) (zcut zu_M_comeOne) (zorc [(17, [some (112, some 0), some (0, none), some (0, none), none], [], fun xs h => match xs with
  | [a1, a2] => M_comeOne_17 kr a1 a2 h
  | _ => none)]) kr (fun _ _ => none) 400 0 [some (112, 0), none, none, none] [] h := qg_M_comeOne kr M_goThrough (M_comeOne_17 kr) h
def zc_M_step : List zI := [(14, 0, 0, 112), (0, 0, 0, 0), (82, 12, 185, 0), (999, 0, 0, 0), (999, 0, 0, 0), (14, 0, 0, 112), (10, 0, 1, 0), (0, 1, 0, 0), (1, 100, 0, 0), (999, 0, 0, 0), (113, 0, 192, 64), (999, 0, 0, 0), (999, 0, 0, 0), (61, 7, 20, 0), (999, 0, 0, 0), (999, 0, 0, 0), (0, 1, 0, 0), (72, 4, 21, 0), (999, 0, 0, 0), (999, 0, 0, 0), (0, 0, 0, 0), (0, 1, 0, 0), (110, 0, 199, 65), (999, 0, 0, 0), (999, 0, 0, 0), (60, 5, 30, 0), (999, 0, 0, 0), (999, 0, 0, 0), (0, 0, 0, 0), (130, 0, 0, 0), (0, 0, 0, 0), (16, 0, 2, 0), (0, 0, 0, 0), (16, 0, 3, 0), (10, 0, 3, 0), (10, 0, 1, 0), (69, 16, 52, 0), (999, 0, 0, 0), (999, 0, 0, 0), (10, 0, 2, 0), (14, 0, 0, 112), (110, 0, 442, 136), (999, 0, 0, 0), (999, 0, 0, 0), (30, 0, 0, 0), (16, 0, 2, 0), (22, 1, 3, 0), (999, 0, 0, 0), (999, 0, 0, 0), (72, (-15), 34, 0), (999, 0, 0, 0), (999, 0, 0, 0), (10, 0, 2, 0), (130, 0, 0, 0)]
def zu_M_step : List (Nat × List Bool) := [(21, [true, true, false, false]), (34, [true, true, true, true])]
set_option maxRecDepth 100000 in
theorem qg_M_step_34b {ρ : Type} (kr : Int → zH → Option ρ) (r34 : Int → Int → Int → zH → Option ρ) (F_M_comeOne : zH → (Int → zH → Option ρ) → Option ρ) (a1 a2 a3 : Int) (h : zH) : (if a3 < a1 then (F_M_comeOne h  fun v1 h2 =>
r34 a1 (wr (a2 + v1)) (wr (a3 + 1)) h2)
else kr a2 h) = zseg zPP false (zcal [(136, [some 0], fun xs h kr kt => match xs with
  | [] => F_M_comeOne h kr
  | _ => none)]) (zget (999, 0, 0, 0) zc_M_step) (zcut zu_M_step) (zorc [(34, [some (112, some 0), some (0, none), some (0, none), some (0, none)], [], fun xs h => match xs with
  | [a1, a2, a3] => r34 a1 a2 a3 h
  | _ => none)]) kr (fun _ _ => none) 400 34 [some (112, 0), some (0, a1), some (0, a2), some (0, a3)] [] h := by rfl
set_option maxRecDepth 100000 in
theorem qe_M_step_34b {ρ : Type} (kr : Int → zH → Option ρ) (r34 : Int → Int → Int → zH → Option ρ) (a1 a2 a3 : Int) (h : zH) : M_step_34b kr r34 a1 a2 a3 h = zseg zPP false (zcal [(136, [some 0], fun xs h kr kt => match xs with
  | [] => M_comeOne h kr
  | _ => none)]) (zget (999, 0, 0, 0) zc_M_step) (zcut zu_M_step) (zorc [(34, [some (112, some 0), some (0, none), some (0, none), some (0, none)], [], fun xs h => match xs with
  | [a1, a2, a3] => r34 a1 a2 a3 h
  | _ => none)]) kr (fun _ _ => none) 400 34 [some (112, 0), some (0, a1), some (0, a2), some (0, a3)] [] h := qg_M_step_34b kr r34 M_comeOne a1 a2 a3 h
set_option maxRecDepth 100000 in
theorem qg_M_step_21 {ρ : Type} (kr : Int → zH → Option ρ) (F_M_fails : Int → Int → zH → (Int → zH → Option ρ) → Option ρ) (c34 : Int → Int → Int → zH → Option ρ) (a1 t0 : Int) (h : zH) : (F_M_fails t0 1 h  fun v1 h2 =>
if v1 = 0 then c34 a1 0 0 h2
else kr 0 h2) = zseg zPP false (zcal [(65, [some 0, none, none], fun xs h kr kt => match xs with
  | [x1, x2] => F_M_fails x1 x2 h kr
  | _ => none)]) (zget (999, 0, 0, 0) zc_M_step) (zcut zu_M_step) (zorc [(34, [some (112, some 0), some (0, none), some (0, none), some (0, none)], [], fun xs h => match xs with
  | [a1, a2, a3] => c34 a1 a2 a3 h
  | _ => none)]) kr (fun _ _ => none) 400 21 [some (112, 0), some (0, a1), none, none] [(0, t0), (112, 0)] h := by rfl
set_option maxRecDepth 100000 in
theorem qe_M_step_21 {ρ : Type} (kr : Int → zH → Option ρ) (a1 t0 : Int) (h : zH) : M_step_21 kr a1 t0 h = zseg zPP false (zcal [(65, [some 0, none, none], fun xs h kr kt => match xs with
  | [x1, x2] => M_fails x1 x2 h kr
  | _ => none)]) (zget (999, 0, 0, 0) zc_M_step) (zcut zu_M_step) (zorc [(34, [some (112, some 0), some (0, none), some (0, none), some (0, none)], [], fun xs h => match xs with
  | [a1, a2, a3] => M_step_34 kr a1 a2 a3 h
  | _ => none)]) kr (fun _ _ => none) 400 21 [some (112, 0), some (0, a1), none, none] [(0, t0), (112, 0)] h := qg_M_step_21 kr M_fails (M_step_34 kr) a1 t0 h
set_option maxRecDepth 100000 in
theorem qg_M_step {ρ : Type} (kr : Int → zH → Option ρ) (F_M_in : Int → Int → Int → zH → (Int → zH → Option ρ) → Option ρ) (c21 : Int → Int → zH → Option ρ) (a1 : Int) (h : zH) : (zlet (zset h 12 0 0 0) fun h1 =>
F_M_in a1 1 100 h1  fun v2 h3 =>
if v2 = 0 then c21 a1 1 h3
else c21 a1 0 h3) = zseg zPP false (zcal [(64, [none, none, none], fun xs h kr kt => match xs with
  | [x0, x1, x2] => F_M_in x0 x1 x2 h kr
  | _ => none)]) (zget (999, 0, 0, 0) zc_M_step) (zcut zu_M_step) (zorc [(21, [some (112, some 0), some (0, none), none, none], [(0, none), (112, some 0)], fun xs h => match xs with
  | [a1, t0] => c21 a1 t0 h
  | _ => none)]) kr (fun _ _ => none) 400 0 [some (112, 0), some (0, a1), none, none] [] h := by rfl
set_option maxRecDepth 100000 in
theorem qe_M_step {ρ : Type} (kr : Int → zH → Option ρ) (a1 : Int) (h : zH) : M_step a1 h kr = zseg zPP false (zcal [(64, [none, none, none], fun xs h kr kt => match xs with
  | [x0, x1, x2] => M_in x0 x1 x2 h kr
  | _ => none)]) (zget (999, 0, 0, 0) zc_M_step) (zcut zu_M_step) (zorc [(21, [some (112, some 0), some (0, none), none, none], [(0, none), (112, some 0)], fun xs h => match xs with
  | [a1, t0] => M_step_21 kr a1 t0 h
  | _ => none)]) kr (fun _ _ => none) 400 0 [some (112, 0), some (0, a1), none, none] [] h := qg_M_step kr M_in (M_step_21 kr) a1 h
def zc_M_areOver : List zI := [(0, 1, 0, 0), (16, 0, 1, 0), (0, 0, 0, 0), (16, 0, 2, 0), (10, 0, 2, 0), (14, 0, 0, 112), (80, 12, 196, 13), (999, 0, 0, 0), (999, 0, 0, 0), (69, 27, 36, 0), (999, 0, 0, 0), (999, 0, 0, 0), (10, 0, 1, 0), (60, 15, 28, 0), (999, 0, 0, 0), (999, 0, 0, 0), (14, 0, 0, 112), (10, 0, 2, 0), (110, 0, 225, 78), (999, 0, 0, 0), (999, 0, 0, 0), (60, 7, 28, 0), (999, 0, 0, 0), (999, 0, 0, 0), (0, 1, 0, 0), (72, 4, 29, 0), (999, 0, 0, 0), (999, 0, 0, 0), (0, 0, 0, 0), (16, 0, 1, 0), (22, 1, 2, 0), (999, 0, 0, 0), (999, 0, 0, 0), (72, (-29), 4, 0), (999, 0, 0, 0), (999, 0, 0, 0), (10, 0, 1, 0), (130, 0, 1, 0)]
def zu_M_areOver : List (Nat × List Bool) := [(4, [true, true, true]), (28, [true, false, true]), (29, [true, false, true])]
set_option maxRecDepth 100000 in
theorem qg_M_areOver_29 {ρ : Type} (kr : Int → zH → Option ρ) (r4 : Int → Int → zH → Option ρ) (a2 t0 : Int) (h : zH) : (r4 t0 (wr (a2 + 1)) h) = zseg zPP false (zcal []) (zget (999, 0, 0, 0) zc_M_areOver) (zcut zu_M_areOver) (zorc [(4, [some (112, some 0), some (0, none), some (0, none)], [], fun xs h => match xs with
  | [a1, a2] => r4 a1 a2 h
  | _ => none)]) kr (fun _ _ => none) 400 29 [some (112, 0), none, some (0, a2)] [(0, t0)] h := by rfl
set_option maxRecDepth 100000 in
theorem qe_M_areOver_29 {ρ : Type} (kr : Int → zH → Option ρ) (r4 : Int → Int → zH → Option ρ) (a2 t0 : Int) (h : zH) : M_areOver_29 kr r4 a2 t0 h = zseg zPP false (zcal []) (zget (999, 0, 0, 0) zc_M_areOver) (zcut zu_M_areOver) (zorc [(4, [some (112, some 0), some (0, none), some (0, none)], [], fun xs h => match xs with
  | [a1, a2] => r4 a1 a2 h
  | _ => none)]) kr (fun _ _ => none) 400 29 [some (112, 0), none, some (0, a2)] [(0, t0)] h := qg_M_areOver_29 kr r4 a2 t0 h
set_option maxRecDepth 100000 in
theorem qg_M_areOver_28 {ρ : Type} (kr : Int → zH → Option ρ) (r4 : Int → Int → zH → Option ρ) (c29 : Int → Int → zH → Option ρ) (a2 : Int) (h : zH) : (c29 a2 0 h) = zseg zPP false (zcal []) (zget (999, 0, 0, 0) zc_M_areOver) (zcut zu_M_areOver) (zorc [(29, [some (112, some 0), none, some (0, none)], [(0, none)], fun xs h => match xs with
  | [a2, t0] => c29 a2 t0 h
  | _ => none)]) kr (fun _ _ => none) 400 28 [some (112, 0), none, some (0, a2)] [] h := by rfl
set_option maxRecDepth 100000 in
theorem qe_M_areOver_28 {ρ : Type} (kr : Int → zH → Option ρ) (r4 : Int → Int → zH → Option ρ) (a2 : Int) (h : zH) : M_areOver_28 kr r4 a2 h = zseg zPP false (zcal []) (zget (999, 0, 0, 0) zc_M_areOver) (zcut zu_M_areOver) (zorc [(29, [some (112, some 0), none, some (0, none)], [(0, none)], fun xs h => match xs with
  | [a2, t0] => M_areOver_29 kr r4 a2 t0 h
  | _ => none)]) kr (fun _ _ => none) 400 28 [some (112, 0), none, some (0, a2)] [] h := qg_M_areOver_28 kr r4 (M_areOver_29 kr r4) a2 h
set_option maxRecDepth 100000 in
theorem qg_M_areOver_4b {ρ : Type} (kr : Int → zH → Option ρ) (r4 : Int → Int → zH → Option ρ) (F_M_isOver : Int → zH → (Int → zH → Option ρ) → Option ρ) (c28 : Int → zH → Option ρ) (c29 : Int → Int → zH → Option ρ) (a1 a2 : Int) (h : zH) : (if a2 < (zhD h 12 0 13) then (if a1 = 0 then c28 a2 h
else F_M_isOver a2 h  fun v2 h3 =>
if v2 = 0 then c28 a2 h3
else c29 a2 1 h3)
else znar 1 a1 fun x1 => kr x1 h) = zseg zPP false (zcal [(78, [some 0, none], fun xs h kr kt => match xs with
  | [x1] => F_M_isOver x1 h kr
  | _ => none)]) (zget (999, 0, 0, 0) zc_M_areOver) (zcut zu_M_areOver) (zorc [(28, [some (112, some 0), none, some (0, none)], [], fun xs h => match xs with
  | [a2] => c28 a2 h
  | _ => none), (29, [some (112, some 0), none, some (0, none)], [(0, none)], fun xs h => match xs with
  | [a2, t0] => c29 a2 t0 h
  | _ => none)]) kr (fun _ _ => none) 400 4 [some (112, 0), some (0, a1), some (0, a2)] [] h := by rfl
set_option maxRecDepth 100000 in
theorem qe_M_areOver_4b {ρ : Type} (kr : Int → zH → Option ρ) (r4 : Int → Int → zH → Option ρ) (a1 a2 : Int) (h : zH) : M_areOver_4b kr r4 a1 a2 h = zseg zPP false (zcal [(78, [some 0, none], fun xs h kr kt => match xs with
  | [x1] => M_isOver x1 h kr
  | _ => none)]) (zget (999, 0, 0, 0) zc_M_areOver) (zcut zu_M_areOver) (zorc [(28, [some (112, some 0), none, some (0, none)], [], fun xs h => match xs with
  | [a2] => M_areOver_28 kr r4 a2 h
  | _ => none), (29, [some (112, some 0), none, some (0, none)], [(0, none)], fun xs h => match xs with
  | [a2, t0] => M_areOver_29 kr r4 a2 t0 h
  | _ => none)]) kr (fun _ _ => none) 400 4 [some (112, 0), some (0, a1), some (0, a2)] [] h := qg_M_areOver_4b kr r4 M_isOver (M_areOver_28 kr r4) (M_areOver_29 kr r4) a1 a2 h
set_option maxRecDepth 100000 in
theorem qg_M_areOver {ρ : Type} (kr : Int → zH → Option ρ) (c4 : Int → Int → zH → Option ρ) (h : zH) : (c4 1 0 h) = zseg zPP false (zcal []) (zget (999, 0, 0, 0) zc_M_areOver) (zcut zu_M_areOver) (zorc [(4, [some (112, some 0), some (0, none), some (0, none)], [], fun xs h => match xs with
  | [a1, a2] => c4 a1 a2 h
  | _ => none)]) kr (fun _ _ => none) 400 0 [some (112, 0), none, none] [] h := by rfl
set_option maxRecDepth 100000 in
theorem qe_M_areOver {ρ : Type} (kr : Int → zH → Option ρ) (h : zH) : M_areOver h kr = zseg zPP false (zcal []) (zget (999, 0, 0, 0) zc_M_areOver) (zcut zu_M_areOver) (zorc [(4, [some (112, some 0), some (0, none), some (0, none)], [], fun xs h => match xs with
  | [a1, a2] => M_areOver_4 kr a1 a2 h
  | _ => none)]) kr (fun _ _ => none) 400 0 [some (112, 0), none, none] [] h := qg_M_areOver kr (M_areOver_4 kr) h
def zc_M_run : List zI := [(14, 0, 0, 112), (0, 0, 0, 0), (82, 12, 185, 0), (999, 0, 0, 0), (999, 0, 0, 0), (14, 0, 0, 112), (10, 0, 1, 0), (0, 1, 0, 0), (2, 500, 0, 0), (999, 0, 0, 0), (999, 0, 0, 0), (113, 0, 192, 64), (999, 0, 0, 0), (999, 0, 0, 0), (61, 7, 21, 0), (999, 0, 0, 0), (999, 0, 0, 0), (0, 1, 0, 0), (72, 4, 22, 0), (999, 0, 0, 0), (999, 0, 0, 0), (0, 0, 0, 0), (0, 1, 0, 0), (110, 0, 199, 65), (999, 0, 0, 0), (999, 0, 0, 0), (60, 5, 31, 0), (999, 0, 0, 0), (999, 0, 0, 0), (0, 0, 0, 0), (130, 0, 0, 0), (0, 0, 0, 0), (16, 0, 2, 0), (10, 0, 2, 0), (10, 0, 1, 0), (69, 21, 56, 0), (999, 0, 0, 0), (999, 0, 0, 0), (14, 0, 0, 112), (110, 0, 446, 138), (999, 0, 0, 0), (999, 0, 0, 0), (61, 14, 56, 0), (999, 0, 0, 0), (999, 0, 0, 0), (14, 0, 0, 112), (110, 0, 442, 136), (999, 0, 0, 0), (999, 0, 0, 0), (52, 0, 0, 0), (22, 1, 2, 0), (999, 0, 0, 0), (999, 0, 0, 0), (72, (-20), 33, 0), (999, 0, 0, 0), (999, 0, 0, 0), (10, 0, 2, 0), (130, 0, 0, 0)]
def zu_M_run : List (Nat × List Bool) := [(22, [true, true, false]), (33, [true, true, true]), (56, [false, false, true])]
set_option maxRecDepth 100000 in
theorem qg_M_run_56 {ρ : Type} (kr : Int → zH → Option ρ) (a2 : Int) (h : zH) : (kr a2 h) = zseg zPP false (zcal []) (zget (999, 0, 0, 0) zc_M_run) (zcut zu_M_run) (zorc []) kr (fun _ _ => none) 400 56 [none, none, some (0, a2)] [] h := by rfl
set_option maxRecDepth 100000 in
theorem qe_M_run_56 {ρ : Type} (kr : Int → zH → Option ρ) (a2 : Int) (h : zH) : M_run_56 kr a2 h = zseg zPP false (zcal []) (zget (999, 0, 0, 0) zc_M_run) (zcut zu_M_run) (zorc []) kr (fun _ _ => none) 400 56 [none, none, some (0, a2)] [] h := qg_M_run_56 kr a2 h
set_option maxRecDepth 100000 in
theorem qg_M_run_33b {ρ : Type} (kr : Int → zH → Option ρ) (r33 : Int → Int → zH → Option ρ) (F_M_comeOne : zH → (Int → zH → Option ρ) → Option ρ) (F_M_areOver : zH → (Int → zH → Option ρ) → Option ρ) (c56 : Int → zH → Option ρ) (a1 a2 : Int) (h : zH) : (if a2 < a1 then (F_M_areOver h  fun v1 h2 =>
if v1 = 0 then (F_M_comeOne h2  fun v3 h4 =>
r33 a1 (wr (a2 + 1)) h4)
else c56 a2 h2)
else c56 a2 h) = zseg zPP false (zcal [(136, [some 0], fun xs h kr kt => match xs with
  | [] => F_M_comeOne h kr
  | _ => none), (138, [some 0], fun xs h kr kt => match xs with
  | [] => F_M_areOver h kr
  | _ => none)]) (zget (999, 0, 0, 0) zc_M_run) (zcut zu_M_run) (zorc [(33, [some (112, some 0), some (0, none), some (0, none)], [], fun xs h => match xs with
  | [a1, a2] => r33 a1 a2 h
  | _ => none), (56, [none, none, some (0, none)], [], fun xs h => match xs with
  | [a2] => c56 a2 h
  | _ => none)]) kr (fun _ _ => none) 400 33 [some (112, 0), some (0, a1), some (0, a2)] [] h := by rfl
set_option maxRecDepth 100000 in
theorem qe_M_run_33b {ρ : Type} (kr : Int → zH → Option ρ) (r33 : Int → Int → zH → Option ρ) (a1 a2 : Int) (h : zH) : M_run_33b kr r33 a1 a2 h = zseg zPP false (zcal [(136, [some 0], fun xs h kr kt => match xs with
  | [] => M_comeOne h kr
  | _ => none), (138, [some 0], fun xs h kr kt => match xs with
  | [] => M_areOver h kr
  | _ => none)]) (zget (999, 0, 0, 0) zc_M_run) (zcut zu_M_run) (zorc [(33, [some (112, some 0), some (0, none), some (0, none)], [], fun xs h => match xs with
  | [a1, a2] => r33 a1 a2 h
  | _ => none), (56, [none, none, some (0, none)], [], fun xs h => match xs with
  | [a2] => M_run_56 kr a2 h
  | _ => none)]) kr (fun _ _ => none) 400 33 [some (112, 0), some (0, a1), some (0, a2)] [] h := qg_M_run_33b kr r33 M_comeOne M_areOver (M_run_56 kr) a1 a2 h
set_option maxRecDepth 100000 in
theorem qg_M_run_22 {ρ : Type} (kr : Int → zH → Option ρ) (F_M_fails : Int → Int → zH → (Int → zH → Option ρ) → Option ρ) (c33 : Int → Int → zH → Option ρ) (a1 t0 : Int) (h : zH) : (F_M_fails t0 1 h  fun v1 h2 =>
if v1 = 0 then c33 a1 0 h2
else kr 0 h2) = zseg zPP false (zcal [(65, [some 0, none, none], fun xs h kr kt => match xs with
  | [x1, x2] => F_M_fails x1 x2 h kr
  | _ => none)]) (zget (999, 0, 0, 0) zc_M_run) (zcut zu_M_run) (zorc [(33, [some (112, some 0), some (0, none), some (0, none)], [], fun xs h => match xs with
  | [a1, a2] => c33 a1 a2 h
  | _ => none)]) kr (fun _ _ => none) 400 22 [some (112, 0), some (0, a1), none] [(0, t0), (112, 0)] h := by rfl
set_option maxRecDepth 100000 in
theorem qe_M_run_22 {ρ : Type} (kr : Int → zH → Option ρ) (a1 t0 : Int) (h : zH) : M_run_22 kr a1 t0 h = zseg zPP false (zcal [(65, [some 0, none, none], fun xs h kr kt => match xs with
  | [x1, x2] => M_fails x1 x2 h kr
  | _ => none)]) (zget (999, 0, 0, 0) zc_M_run) (zcut zu_M_run) (zorc [(33, [some (112, some 0), some (0, none), some (0, none)], [], fun xs h => match xs with
  | [a1, a2] => M_run_33 kr a1 a2 h
  | _ => none)]) kr (fun _ _ => none) 400 22 [some (112, 0), some (0, a1), none] [(0, t0), (112, 0)] h := qg_M_run_22 kr M_fails (M_run_33 kr) a1 t0 h
set_option maxRecDepth 100000 in
theorem qg_M_run {ρ : Type} (kr : Int → zH → Option ρ) (F_M_in : Int → Int → Int → zH → (Int → zH → Option ρ) → Option ρ) (c22 : Int → Int → zH → Option ρ) (a1 : Int) (h : zH) : (zlet (zset h 12 0 0 0) fun h1 =>
F_M_in a1 1 500 h1  fun v2 h3 =>
if v2 = 0 then c22 a1 1 h3
else c22 a1 0 h3) = zseg zPP false (zcal [(64, [none, none, none], fun xs h kr kt => match xs with
  | [x0, x1, x2] => F_M_in x0 x1 x2 h kr
  | _ => none)]) (zget (999, 0, 0, 0) zc_M_run) (zcut zu_M_run) (zorc [(22, [some (112, some 0), some (0, none), none], [(0, none), (112, some 0)], fun xs h => match xs with
  | [a1, t0] => c22 a1 t0 h
  | _ => none)]) kr (fun _ _ => none) 400 0 [some (112, 0), some (0, a1), none] [] h := by rfl
set_option maxRecDepth 100000 in
theorem qe_M_run {ρ : Type} (kr : Int → zH → Option ρ) (a1 : Int) (h : zH) : M_run a1 h kr = zseg zPP false (zcal [(64, [none, none, none], fun xs h kr kt => match xs with
  | [x0, x1, x2] => M_in x0 x1 x2 h kr
  | _ => none)]) (zget (999, 0, 0, 0) zc_M_run) (zcut zu_M_run) (zorc [(22, [some (112, some 0), some (0, none), none], [(0, none), (112, some 0)], fun xs h => match xs with
  | [a1, t0] => M_run_22 kr a1 t0 h
  | _ => none)]) kr (fun _ _ => none) 400 0 [some (112, 0), some (0, a1), none] [] h := qg_M_run kr M_in (M_run_22 kr) a1 h
def zc_M_setOrder : List zI := [(14, 0, 0, 112), (0, 0, 0, 0), (82, 12, 185, 0), (999, 0, 0, 0), (999, 0, 0, 0), (14, 0, 0, 112), (10, 0, 1, 0), (1, 111, 0, 0), (999, 0, 0, 0), (66, 19, 28, 0), (999, 0, 0, 0), (999, 0, 0, 0), (10, 0, 1, 0), (1, 121, 0, 0), (999, 0, 0, 0), (66, 13, 28, 0), (999, 0, 0, 0), (999, 0, 0, 0), (10, 0, 1, 0), (1, 97, 0, 0), (999, 0, 0, 0), (66, 7, 28, 0), (999, 0, 0, 0), (999, 0, 0, 0), (0, 1, 0, 0), (72, 4, 29, 0), (999, 0, 0, 0), (999, 0, 0, 0), (0, 0, 0, 0), (0, 1, 0, 0), (110, 0, 199, 65), (999, 0, 0, 0), (999, 0, 0, 0), (60, 5, 38, 0), (999, 0, 0, 0), (999, 0, 0, 0), (0, 0, 0, 0), (130, 0, 2, 0), (14, 0, 0, 112), (80, 12, 7, 2), (999, 0, 0, 0), (999, 0, 0, 0), (16, 0, 2, 0), (14, 0, 0, 112), (10, 0, 1, 0), (82, 12, 7, 2), (999, 0, 0, 0), (999, 0, 0, 0), (10, 0, 2, 0), (130, 0, 2, 0)]
def zu_M_setOrder : List (Nat × List Bool) := [(28, [true, true, false]), (29, [true, true, false])]
set_option maxRecDepth 100000 in
theorem qg_M_setOrder_29 {ρ : Type} (kr : Int → zH → Option ρ) (F_M_fails : Int → Int → zH → (Int → zH → Option ρ) → Option ρ) (a1 t0 : Int) (h : zH) : (F_M_fails t0 1 h  fun v1 h2 =>
if v1 = 0 then (znar 2 a1 fun x3 =>
zlet (zset h2 12 0 2 x3) fun h4 =>
znar 2 (zhD h2 12 0 2) fun x5 => kr x5 h4)
else kr 0 h2) = zseg zPP false (zcal [(65, [some 0, none, none], fun xs h kr kt => match xs with
  | [x1, x2] => F_M_fails x1 x2 h kr
  | _ => none)]) (zget (999, 0, 0, 0) zc_M_setOrder) (zcut zu_M_setOrder) (zorc []) kr (fun _ _ => none) 400 29 [some (112, 0), some (0, a1), none] [(0, t0), (112, 0)] h := by rfl
set_option maxRecDepth 100000 in
theorem qe_M_setOrder_29 {ρ : Type} (kr : Int → zH → Option ρ) (a1 t0 : Int) (h : zH) : M_setOrder_29 kr a1 t0 h = zseg zPP false (zcal [(65, [some 0, none, none], fun xs h kr kt => match xs with
  | [x1, x2] => M_fails x1 x2 h kr
  | _ => none)]) (zget (999, 0, 0, 0) zc_M_setOrder) (zcut zu_M_setOrder) (zorc []) kr (fun _ _ => none) 400 29 [some (112, 0), some (0, a1), none] [(0, t0), (112, 0)] h := qg_M_setOrder_29 kr M_fails a1 t0 h
set_option maxRecDepth 100000 in
theorem qg_M_setOrder_28 {ρ : Type} (kr : Int → zH → Option ρ) (c29 : Int → Int → zH → Option ρ) (a1 : Int) (h : zH) : (c29 a1 0 h) = zseg zPP false (zcal []) (zget (999, 0, 0, 0) zc_M_setOrder) (zcut zu_M_setOrder) (zorc [(29, [some (112, some 0), some (0, none), none], [(0, none), (112, some 0)], fun xs h => match xs with
  | [a1, t0] => c29 a1 t0 h
  | _ => none)]) kr (fun _ _ => none) 400 28 [some (112, 0), some (0, a1), none] [(112, 0)] h := by rfl
set_option maxRecDepth 100000 in
theorem qe_M_setOrder_28 {ρ : Type} (kr : Int → zH → Option ρ) (a1 : Int) (h : zH) : M_setOrder_28 kr a1 h = zseg zPP false (zcal []) (zget (999, 0, 0, 0) zc_M_setOrder) (zcut zu_M_setOrder) (zorc [(29, [some (112, some 0), some (0, none), none], [(0, none), (112, some 0)], fun xs h => match xs with
  | [a1, t0] => M_setOrder_29 kr a1 t0 h
  | _ => none)]) kr (fun _ _ => none) 400 28 [some (112, 0), some (0, a1), none] [(112, 0)] h := qg_M_setOrder_28 kr (M_setOrder_29 kr) a1 h
set_option maxRecDepth 100000 in
theorem qg_M_setOrder {ρ : Type} (kr : Int → zH → Option ρ) (c28 : Int → zH → Option ρ) (c29 : Int → Int → zH → Option ρ) (a1 : Int) (h : zH) : (zlet (zset h 12 0 0 0) fun h1 =>
if a1 = 111 then c28 a1 h1
else if a1 = 121 then c28 a1 h1
else if a1 = 97 then c28 a1 h1
else c29 a1 1 h1) = zseg zPP false (zcal []) (zget (999, 0, 0, 0) zc_M_setOrder) (zcut zu_M_setOrder) (zorc [(28, [some (112, some 0), some (0, none), none], [(112, some 0)], fun xs h => match xs with
  | [a1] => c28 a1 h
  | _ => none), (29, [some (112, some 0), some (0, none), none], [(0, none), (112, some 0)], fun xs h => match xs with
  | [a1, t0] => c29 a1 t0 h
  | _ => none)]) kr (fun _ _ => none) 400 0 [some (112, 0), some (0, a1), none] [] h := by rfl
set_option maxRecDepth 100000 in
theorem qe_M_setOrder {ρ : Type} (kr : Int → zH → Option ρ) (a1 : Int) (h : zH) : M_setOrder a1 h kr = zseg zPP false (zcal []) (zget (999, 0, 0, 0) zc_M_setOrder) (zcut zu_M_setOrder) (zorc [(28, [some (112, some 0), some (0, none), none], [(112, some 0)], fun xs h => match xs with
  | [a1] => M_setOrder_28 kr a1 h
  | _ => none), (29, [some (112, some 0), some (0, none), none], [(0, none), (112, some 0)], fun xs h => match xs with
  | [a1, t0] => M_setOrder_29 kr a1 t0 h
  | _ => none)]) kr (fun _ _ => none) 400 0 [some (112, 0), some (0, a1), none] [] h := qg_M_setOrder kr (M_setOrder_28 kr) (M_setOrder_29 kr) a1 h
def zc_M_cycle : List zI := [(14, 0, 0, 112), (0, 0, 0, 0), (82, 12, 185, 0), (999, 0, 0, 0), (999, 0, 0, 0), (14, 0, 0, 112), (80, 12, 390, 1), (999, 0, 0, 0), (999, 0, 0, 0), (130, 0, 0, 0)]
def zu_M_cycle : List (Nat × List Bool) := []
set_option maxRecDepth 100000 in
theorem qg_M_cycle {ρ : Type} (kr : Int → zH → Option ρ) (h : zH) : (zlet (zset h 12 0 0 0) fun h1 =>
kr (zhD h1 12 0 1) h1) = zseg zPP false (zcal []) (zget (999, 0, 0, 0) zc_M_cycle) (zcut zu_M_cycle) (zorc []) kr (fun _ _ => none) 400 0 [some (112, 0)] [] h := by rfl
set_option maxRecDepth 100000 in
theorem qe_M_cycle {ρ : Type} (kr : Int → zH → Option ρ) (h : zH) : M_cycle h kr = zseg zPP false (zcal []) (zget (999, 0, 0, 0) zc_M_cycle) (zcut zu_M_cycle) (zorc []) kr (fun _ _ => none) 400 0 [some (112, 0)] [] h := qg_M_cycle kr h
def zc_M_noUnit : List zI := [(10, 0, 0, 0), (0, 0, 0, 0), (0, 1, 0, 0), (113, 0, 192, 64), (999, 0, 0, 0), (999, 0, 0, 0), (61, 7, 13, 0), (999, 0, 0, 0), (999, 0, 0, 0), (0, 1, 0, 0), (72, 4, 14, 0), (999, 0, 0, 0), (999, 0, 0, 0), (0, 0, 0, 0), (130, 0, 1, 0)]
def zu_M_noUnit : List (Nat × List Bool) := [(14, [false])]
set_option maxRecDepth 100000 in
theorem qg_M_noUnit_14 {ρ : Type} (kr : Int → zH → Option ρ) (t0 : Int) (h : zH) : (znar 1 t0 fun x1 => kr x1 h) = zseg zPP false (zcal []) (zget (999, 0, 0, 0) zc_M_noUnit) (zcut zu_M_noUnit) (zorc []) kr (fun _ _ => none) 400 14 [none] [(0, t0)] h := by rfl
set_option maxRecDepth 100000 in
theorem qe_M_noUnit_14 {ρ : Type} (kr : Int → zH → Option ρ) (t0 : Int) (h : zH) : M_noUnit_14 kr t0 h = zseg zPP false (zcal []) (zget (999, 0, 0, 0) zc_M_noUnit) (zcut zu_M_noUnit) (zorc []) kr (fun _ _ => none) 400 14 [none] [(0, t0)] h := qg_M_noUnit_14 kr t0 h
set_option maxRecDepth 100000 in
theorem qg_M_noUnit {ρ : Type} (kr : Int → zH → Option ρ) (F_M_in : Int → Int → Int → zH → (Int → zH → Option ρ) → Option ρ) (c14 : Int → zH → Option ρ) (a0 : Int) (h : zH) : (F_M_in a0 0 1 h  fun v1 h2 =>
if v1 = 0 then c14 1 h2
else c14 0 h2) = zseg zPP false (zcal [(64, [none, none, none], fun xs h kr kt => match xs with
  | [x0, x1, x2] => F_M_in x0 x1 x2 h kr
  | _ => none)]) (zget (999, 0, 0, 0) zc_M_noUnit) (zcut zu_M_noUnit) (zorc [(14, [none], [(0, none)], fun xs h => match xs with
  | [t0] => c14 t0 h
  | _ => none)]) kr (fun _ _ => none) 400 0 [some (0, a0)] [] h := by rfl
set_option maxRecDepth 100000 in
theorem qe_M_noUnit {ρ : Type} (kr : Int → zH → Option ρ) (a0 : Int) (h : zH) : M_noUnit a0 h kr = zseg zPP false (zcal [(64, [none, none, none], fun xs h kr kt => match xs with
  | [x0, x1, x2] => M_in x0 x1 x2 h kr
  | _ => none)]) (zget (999, 0, 0, 0) zc_M_noUnit) (zcut zu_M_noUnit) (zorc [(14, [none], [(0, none)], fun xs h => match xs with
  | [t0] => M_noUnit_14 kr t0 h
  | _ => none)]) kr (fun _ _ => none) 400 0 [some (0, a0)] [] h := qg_M_noUnit kr M_in (M_noUnit_14 kr) a0 h
def zc_M_noGroup : List zI := [(10, 0, 1, 0), (113, 0, 450, 142), (999, 0, 0, 0), (999, 0, 0, 0), (61, 19, 23, 0), (999, 0, 0, 0), (999, 0, 0, 0), (10, 0, 2, 0), (0, 0, 0, 0), (14, 0, 0, 112), (80, 12, 115, 38), (999, 0, 0, 0), (999, 0, 0, 0), (10, 0, 1, 0), (90, 0, 0, 93), (0, 1, 0, 0), (31, 0, 0, 0), (113, 0, 192, 64), (999, 0, 0, 0), (999, 0, 0, 0), (61, 7, 27, 0), (999, 0, 0, 0), (999, 0, 0, 0), (0, 1, 0, 0), (72, 4, 28, 0), (999, 0, 0, 0), (999, 0, 0, 0), (0, 0, 0, 0), (130, 0, 1, 0)]
def zu_M_noGroup : List (Nat × List Bool) := [(23, [false, false, false]), (28, [false, false, false])]
set_option maxRecDepth 100000 in
theorem qg_M_noGroup_28 {ρ : Type} (kr : Int → zH → Option ρ) (t0 : Int) (h : zH) : (znar 1 t0 fun x1 => kr x1 h) = zseg zPP false (zcal []) (zget (999, 0, 0, 0) zc_M_noGroup) (zcut zu_M_noGroup) (zorc []) kr (fun _ _ => none) 400 28 [none, none, none] [(0, t0)] h := by rfl
set_option maxRecDepth 100000 in
theorem qe_M_noGroup_28 {ρ : Type} (kr : Int → zH → Option ρ) (t0 : Int) (h : zH) : M_noGroup_28 kr t0 h = zseg zPP false (zcal []) (zget (999, 0, 0, 0) zc_M_noGroup) (zcut zu_M_noGroup) (zorc []) kr (fun _ _ => none) 400 28 [none, none, none] [(0, t0)] h := qg_M_noGroup_28 kr t0 h
set_option maxRecDepth 100000 in
theorem qg_M_noGroup_23 {ρ : Type} (kr : Int → zH → Option ρ) (c28 : Int → zH → Option ρ) (h : zH) : (c28 1 h) = zseg zPP false (zcal []) (zget (999, 0, 0, 0) zc_M_noGroup) (zcut zu_M_noGroup) (zorc [(28, [none, none, none], [(0, none)], fun xs h => match xs with
  | [t0] => c28 t0 h
  | _ => none)]) kr (fun _ _ => none) 400 23 [none, none, none] [] h := by rfl
set_option maxRecDepth 100000 in
theorem qe_M_noGroup_23 {ρ : Type} (kr : Int → zH → Option ρ) (h : zH) : M_noGroup_23 kr h = zseg zPP false (zcal []) (zget (999, 0, 0, 0) zc_M_noGroup) (zcut zu_M_noGroup) (zorc [(28, [none, none, none], [(0, none)], fun xs h => match xs with
  | [t0] => M_noGroup_28 kr t0 h
  | _ => none)]) kr (fun _ _ => none) 400 23 [none, none, none] [] h := qg_M_noGroup_23 kr (M_noGroup_28 kr) h
set_option maxRecDepth 100000 in
theorem qg_M_noGroup {ρ : Type} (kr : Int → zH → Option ρ) (F_M_in : Int → Int → Int → zH → (Int → zH → Option ρ) → Option ρ) (F_M_noUnit : Int → zH → (Int → zH → Option ρ) → Option ρ) (c23 : zH → Option ρ) (c28 : Int → zH → Option ρ) (a1 a2 : Int) (h : zH) : (F_M_noUnit a1 h  fun v1 h2 =>
if v1 = 0 then (zix 2 a1 fun j3 =>
F_M_in a2 0 (wr ((zhD h2 93 0 j3) - 1)) h2  fun v4 h5 =>
if v4 = 0 then c23 h5
else c28 0 h5)
else c23 h2) = zseg zPP false (zcal [(64, [none, none, none], fun xs h kr kt => match xs with
  | [x0, x1, x2] => F_M_in x0 x1 x2 h kr
  | _ => none), (142, [none], fun xs h kr kt => match xs with
  | [x0] => F_M_noUnit x0 h kr
  | _ => none)]) (zget (999, 0, 0, 0) zc_M_noGroup) (zcut zu_M_noGroup) (zorc [(23, [none, none, none], [], fun xs h => match xs with
  | [] => c23 h
  | _ => none), (28, [none, none, none], [(0, none)], fun xs h => match xs with
  | [t0] => c28 t0 h
  | _ => none)]) kr (fun _ _ => none) 400 0 [some (112, 0), some (0, a1), some (0, a2)] [] h := by rfl
set_option maxRecDepth 100000 in
theorem qe_M_noGroup {ρ : Type} (kr : Int → zH → Option ρ) (a1 a2 : Int) (h : zH) : M_noGroup a1 a2 h kr = zseg zPP false (zcal [(64, [none, none, none], fun xs h kr kt => match xs with
  | [x0, x1, x2] => M_in x0 x1 x2 h kr
  | _ => none), (142, [none], fun xs h kr kt => match xs with
  | [x0] => M_noUnit x0 h kr
  | _ => none)]) (zget (999, 0, 0, 0) zc_M_noGroup) (zcut zu_M_noGroup) (zorc [(23, [none, none, none], [], fun xs h => match xs with
  | [] => M_noGroup_23 kr h
  | _ => none), (28, [none, none, none], [(0, none)], fun xs h => match xs with
  | [t0] => M_noGroup_28 kr t0 h
  | _ => none)]) kr (fun _ _ => none) 400 0 [some (112, 0), some (0, a1), some (0, a2)] [] h := qg_M_noGroup kr M_in M_noUnit (M_noGroup_23 kr) (M_noGroup_28 kr) a1 a2 h
def zc_M_groups : List zI := [(14, 0, 0, 112), (0, 0, 0, 0), (82, 12, 185, 0), (999, 0, 0, 0), (999, 0, 0, 0), (14, 0, 0, 112), (10, 0, 1, 0), (113, 0, 450, 142), (999, 0, 0, 0), (999, 0, 0, 0), (0, 1, 0, 0), (110, 0, 199, 65), (999, 0, 0, 0), (999, 0, 0, 0), (60, 7, 21, 0), (999, 0, 0, 0), (999, 0, 0, 0), (0, 0, 0, 0), (72, 9, 27, 0), (999, 0, 0, 0), (999, 0, 0, 0), (14, 0, 0, 112), (80, 12, 115, 38), (999, 0, 0, 0), (999, 0, 0, 0), (10, 0, 1, 0), (90, 0, 0, 93), (130, 0, 0, 0)]
def zu_M_groups : List (Nat × List Bool) := [(27, [false, false])]
set_option maxRecDepth 100000 in
theorem qg_M_groups_27 {ρ : Type} (kr : Int → zH → Option ρ) (t0 : Int) (h : zH) : (kr t0 h) = zseg zPP false (zcal []) (zget (999, 0, 0, 0) zc_M_groups) (zcut zu_M_groups) (zorc []) kr (fun _ _ => none) 400 27 [none, none] [(0, t0)] h := by rfl
set_option maxRecDepth 100000 in
theorem qe_M_groups_27 {ρ : Type} (kr : Int → zH → Option ρ) (t0 : Int) (h : zH) : M_groups_27 kr t0 h = zseg zPP false (zcal []) (zget (999, 0, 0, 0) zc_M_groups) (zcut zu_M_groups) (zorc []) kr (fun _ _ => none) 400 27 [none, none] [(0, t0)] h := qg_M_groups_27 kr t0 h
set_option maxRecDepth 100000 in
theorem qg_M_groups {ρ : Type} (kr : Int → zH → Option ρ) (F_M_fails : Int → Int → zH → (Int → zH → Option ρ) → Option ρ) (F_M_noUnit : Int → zH → (Int → zH → Option ρ) → Option ρ) (c27 : Int → zH → Option ρ) (a1 : Int) (h : zH) : (zlet (zset h 12 0 0 0) fun h1 =>
F_M_noUnit a1 h1  fun v2 h3 =>
F_M_fails v2 1 h3  fun v4 h5 =>
if v4 = 0 then (zix 2 a1 fun j6 =>
c27 (zhD h5 93 0 j6) h5)
else c27 0 h5) = zseg zPP false (zcal [(65, [some 0, none, none], fun xs h kr kt => match xs with
  | [x1, x2] => F_M_fails x1 x2 h kr
  | _ => none), (142, [none], fun xs h kr kt => match xs with
  | [x0] => F_M_noUnit x0 h kr
  | _ => none)]) (zget (999, 0, 0, 0) zc_M_groups) (zcut zu_M_groups) (zorc [(27, [none, none], [(0, none)], fun xs h => match xs with
  | [t0] => c27 t0 h
  | _ => none)]) kr (fun _ _ => none) 400 0 [some (112, 0), some (0, a1)] [] h := by rfl
set_option maxRecDepth 100000 in
theorem qe_M_groups {ρ : Type} (kr : Int → zH → Option ρ) (a1 : Int) (h : zH) : M_groups a1 h kr = zseg zPP false (zcal [(65, [some 0, none, none], fun xs h kr kt => match xs with
  | [x1, x2] => M_fails x1 x2 h kr
  | _ => none), (142, [none], fun xs h kr kt => match xs with
  | [x0] => M_noUnit x0 h kr
  | _ => none)]) (zget (999, 0, 0, 0) zc_M_groups) (zcut zu_M_groups) (zorc [(27, [none, none], [(0, none)], fun xs h => match xs with
  | [t0] => M_groups_27 kr t0 h
  | _ => none)]) kr (fun _ _ => none) 400 0 [some (112, 0), some (0, a1)] [] h := qg_M_groups kr M_fails M_noUnit (M_groups_27 kr) a1 h
def zc_M_threadAt : List zI := [(14, 0, 0, 112), (0, 0, 0, 0), (82, 12, 185, 0), (999, 0, 0, 0), (999, 0, 0, 0), (14, 0, 0, 112), (14, 0, 0, 112), (10, 0, 1, 0), (10, 0, 2, 0), (110, 0, 453, 143), (999, 0, 0, 0), (999, 0, 0, 0), (0, 1, 0, 0), (110, 0, 199, 65), (999, 0, 0, 0), (999, 0, 0, 0), (60, 5, 21, 0), (999, 0, 0, 0), (999, 0, 0, 0), (0, 0, 0, 0), (130, 0, 0, 0), (0, 4, 0, 0), (10, 0, 1, 0), (32, 0, 0, 0), (10, 0, 2, 0), (30, 0, 0, 0), (16, 0, 3, 0), (2, 1000, 0, 0), (999, 0, 0, 0), (999, 0, 0, 0), (14, 0, 0, 112), (80, 12, 118, 39), (999, 0, 0, 0), (999, 0, 0, 0), (10, 0, 3, 0), (90, 0, 0, 94), (1, 6, 0, 0), (999, 0, 0, 0), (33, 0, 0, 0), (32, 0, 0, 0), (1, 100, 0, 0), (999, 0, 0, 0), (14, 0, 0, 112), (80, 12, 118, 39), (999, 0, 0, 0), (999, 0, 0, 0), (10, 0, 3, 0), (90, 0, 0, 94), (1, 6, 0, 0), (999, 0, 0, 0), (34, 0, 0, 0), (32, 0, 0, 0), (30, 0, 0, 0), (0, 4, 0, 0), (14, 0, 0, 112), (80, 12, 121, 40), (999, 0, 0, 0), (999, 0, 0, 0), (10, 0, 3, 0), (90, 0, 0, 95), (32, 0, 0, 0), (30, 0, 0, 0), (130, 0, 0, 0)]
def zu_M_threadAt : List (Nat × List Bool) := []
set_option maxRecDepth 100000 in
theorem qg_M_threadAt {ρ : Type} (kr : Int → zH → Option ρ) (F_M_fails : Int → Int → zH → (Int → zH → Option ρ) → Option ρ) (F_M_noGroup : Int → Int → zH → (Int → zH → Option ρ) → Option ρ) (a1 a2 : Int) (h : zH) : (zlet (zset h 12 0 0 0) fun h1 =>
F_M_noGroup a1 a2 h1  fun v2 h3 =>
F_M_fails v2 1 h3  fun v4 h5 =>
if v4 = 0 then (zix 8 (wr ((wr (4 * a1)) + a2)) fun j6 =>
zix 8 (wr ((wr (4 * a1)) + a2)) fun j7 =>
zix 8 (wr ((wr (4 * a1)) + a2)) fun j8 =>
kr (wr ((wr ((wr (1000 * (wr (Int.tdiv (zhD h5 94 0 j6) 6)))) + (wr (100 * (Int.tmod (zhD h5 94 0 j7) 6))))) + (wr (4 * (zhD h5 95 0 j8))))) h5)
else kr 0 h5) = zseg zPP false (zcal [(65, [some 0, none, none], fun xs h kr kt => match xs with
  | [x1, x2] => F_M_fails x1 x2 h kr
  | _ => none), (143, [some 0, none, none], fun xs h kr kt => match xs with
  | [x1, x2] => F_M_noGroup x1 x2 h kr
  | _ => none)]) (zget (999, 0, 0, 0) zc_M_threadAt) (zcut zu_M_threadAt) (zorc []) kr (fun _ _ => none) 400 0 [some (112, 0), some (0, a1), some (0, a2), none] [] h := by rfl
set_option maxRecDepth 100000 in
theorem qe_M_threadAt {ρ : Type} (kr : Int → zH → Option ρ) (a1 a2 : Int) (h : zH) : M_threadAt a1 a2 h kr = zseg zPP false (zcal [(65, [some 0, none, none], fun xs h kr kt => match xs with
  | [x1, x2] => M_fails x1 x2 h kr
  | _ => none), (143, [some 0, none, none], fun xs h kr kt => match xs with
  | [x1, x2] => M_noGroup x1 x2 h kr
  | _ => none)]) (zget (999, 0, 0, 0) zc_M_threadAt) (zcut zu_M_threadAt) (zorc []) kr (fun _ _ => none) 400 0 [some (112, 0), some (0, a1), some (0, a2), none] [] h := qg_M_threadAt kr M_fails M_noGroup a1 a2 h
def zc_M_place : List zI := [(14, 0, 0, 112), (0, 0, 0, 0), (82, 12, 185, 0), (999, 0, 0, 0), (999, 0, 0, 0), (14, 0, 0, 112), (14, 0, 0, 112), (10, 0, 1, 0), (10, 0, 2, 0), (110, 0, 453, 143), (999, 0, 0, 0), (999, 0, 0, 0), (0, 1, 0, 0), (110, 0, 199, 65), (999, 0, 0, 0), (999, 0, 0, 0), (60, 5, 21, 0), (999, 0, 0, 0), (999, 0, 0, 0), (0, 0, 0, 0), (130, 0, 0, 0), (14, 0, 0, 112), (0, 4, 0, 0), (10, 0, 1, 0), (32, 0, 0, 0), (10, 0, 2, 0), (30, 0, 0, 0), (110, 0, 278, 103), (999, 0, 0, 0), (999, 0, 0, 0), (16, 0, 3, 0), (14, 0, 0, 112), (10, 0, 3, 0), (0, (-1), 0, 0), (67, 7, 41, 0), (999, 0, 0, 0), (999, 0, 0, 0), (0, 1, 0, 0), (72, 4, 42, 0), (999, 0, 0, 0), (999, 0, 0, 0), (0, 0, 0, 0), (0, 2, 0, 0), (110, 0, 199, 65), (999, 0, 0, 0), (999, 0, 0, 0), (60, 7, 53, 0), (999, 0, 0, 0), (999, 0, 0, 0), (0, 0, 0, 0), (72, 4, 54, 0), (999, 0, 0, 0), (999, 0, 0, 0), (10, 0, 3, 0), (130, 0, 0, 0)]
def zu_M_place : List (Nat × List Bool) := [(42, [false, false, false, true]), (54, [false, false, false, false])]
set_option maxRecDepth 100000 in
theorem qg_M_place_54 {ρ : Type} (kr : Int → zH → Option ρ) (t0 : Int) (h : zH) : (kr t0 h) = zseg zPP false (zcal []) (zget (999, 0, 0, 0) zc_M_place) (zcut zu_M_place) (zorc []) kr (fun _ _ => none) 400 54 [none, none, none, none] [(0, t0)] h := by rfl
set_option maxRecDepth 100000 in
theorem qe_M_place_54 {ρ : Type} (kr : Int → zH → Option ρ) (t0 : Int) (h : zH) : M_place_54 kr t0 h = zseg zPP false (zcal []) (zget (999, 0, 0, 0) zc_M_place) (zcut zu_M_place) (zorc []) kr (fun _ _ => none) 400 54 [none, none, none, none] [(0, t0)] h := qg_M_place_54 kr t0 h
set_option maxRecDepth 100000 in
theorem qg_M_place_42 {ρ : Type} (kr : Int → zH → Option ρ) (F_M_fails : Int → Int → zH → (Int → zH → Option ρ) → Option ρ) (c54 : Int → zH → Option ρ) (a3 t0 : Int) (h : zH) : (F_M_fails t0 2 h  fun v1 h2 =>
if v1 = 0 then c54 a3 h2
else c54 0 h2) = zseg zPP false (zcal [(65, [some 0, none, none], fun xs h kr kt => match xs with
  | [x1, x2] => F_M_fails x1 x2 h kr
  | _ => none)]) (zget (999, 0, 0, 0) zc_M_place) (zcut zu_M_place) (zorc [(54, [none, none, none, none], [(0, none)], fun xs h => match xs with
  | [t0] => c54 t0 h
  | _ => none)]) kr (fun _ _ => none) 400 42 [none, none, none, some (0, a3)] [(0, t0), (112, 0)] h := by rfl
set_option maxRecDepth 100000 in
theorem qe_M_place_42 {ρ : Type} (kr : Int → zH → Option ρ) (a3 t0 : Int) (h : zH) : M_place_42 kr a3 t0 h = zseg zPP false (zcal [(65, [some 0, none, none], fun xs h kr kt => match xs with
  | [x1, x2] => M_fails x1 x2 h kr
  | _ => none)]) (zget (999, 0, 0, 0) zc_M_place) (zcut zu_M_place) (zorc [(54, [none, none, none, none], [(0, none)], fun xs h => match xs with
  | [t0] => M_place_54 kr t0 h
  | _ => none)]) kr (fun _ _ => none) 400 42 [none, none, none, some (0, a3)] [(0, t0), (112, 0)] h := qg_M_place_42 kr M_fails (M_place_54 kr) a3 t0 h
set_option maxRecDepth 100000 in
theorem qg_M_place {ρ : Type} (kr : Int → zH → Option ρ) (F_M_fails : Int → Int → zH → (Int → zH → Option ρ) → Option ρ) (F_M_placeOf : Int → zH → (Int → zH → Option ρ) → Option ρ) (F_M_noGroup : Int → Int → zH → (Int → zH → Option ρ) → Option ρ) (c42 : Int → Int → zH → Option ρ) (a1 a2 : Int) (h : zH) : (zlet (zset h 12 0 0 0) fun h1 =>
F_M_noGroup a1 a2 h1  fun v2 h3 =>
F_M_fails v2 1 h3  fun v4 h5 =>
if v4 = 0 then (F_M_placeOf (wr ((wr (4 * a1)) + a2)) h5  fun v6 h7 =>
if v6 = (-1) then c42 v6 1 h7
else c42 v6 0 h7)
else kr 0 h5) = zseg zPP false (zcal [(65, [some 0, none, none], fun xs h kr kt => match xs with
  | [x1, x2] => F_M_fails x1 x2 h kr
  | _ => none), (103, [some 0, none], fun xs h kr kt => match xs with
  | [x1] => F_M_placeOf x1 h kr
  | _ => none), (143, [some 0, none, none], fun xs h kr kt => match xs with
  | [x1, x2] => F_M_noGroup x1 x2 h kr
  | _ => none)]) (zget (999, 0, 0, 0) zc_M_place) (zcut zu_M_place) (zorc [(42, [none, none, none, some (0, none)], [(0, none), (112, some 0)], fun xs h => match xs with
  | [a3, t0] => c42 a3 t0 h
  | _ => none)]) kr (fun _ _ => none) 400 0 [some (112, 0), some (0, a1), some (0, a2), none] [] h := by rfl
set_option maxRecDepth 100000 in
theorem qe_M_place {ρ : Type} (kr : Int → zH → Option ρ) (a1 a2 : Int) (h : zH) : M_place a1 a2 h kr = zseg zPP false (zcal [(65, [some 0, none, none], fun xs h kr kt => match xs with
  | [x1, x2] => M_fails x1 x2 h kr
  | _ => none), (103, [some 0, none], fun xs h kr kt => match xs with
  | [x1] => M_placeOf x1 h kr
  | _ => none), (143, [some 0, none, none], fun xs h kr kt => match xs with
  | [x1, x2] => M_noGroup x1 x2 h kr
  | _ => none)]) (zget (999, 0, 0, 0) zc_M_place) (zcut zu_M_place) (zorc [(42, [none, none, none, some (0, none)], [(0, none), (112, some 0)], fun xs h => match xs with
  | [a3, t0] => M_place_42 kr a3 t0 h
  | _ => none)]) kr (fun _ _ => none) 400 0 [some (112, 0), some (0, a1), some (0, a2), none] [] h := qg_M_place kr M_fails M_placeOf M_noGroup (M_place_42 kr) a1 a2 h
def zc_M_mask : List zI := [(14, 0, 0, 112), (0, 0, 0, 0), (82, 12, 185, 0), (999, 0, 0, 0), (999, 0, 0, 0), (14, 0, 0, 112), (14, 0, 0, 112), (10, 0, 1, 0), (10, 0, 2, 0), (110, 0, 453, 143), (999, 0, 0, 0), (999, 0, 0, 0), (0, 1, 0, 0), (110, 0, 199, 65), (999, 0, 0, 0), (999, 0, 0, 0), (60, 7, 23, 0), (999, 0, 0, 0), (999, 0, 0, 0), (0, 0, 0, 0), (72, 12, 32, 0), (999, 0, 0, 0), (999, 0, 0, 0), (14, 0, 0, 112), (0, 4, 0, 0), (10, 0, 1, 0), (32, 0, 0, 0), (10, 0, 2, 0), (30, 0, 0, 0), (110, 0, 363, 104), (999, 0, 0, 0), (999, 0, 0, 0), (130, 0, 0, 0)]
def zu_M_mask : List (Nat × List Bool) := [(32, [false, false, false])]
set_option maxRecDepth 100000 in
theorem qg_M_mask_32 {ρ : Type} (kr : Int → zH → Option ρ) (t0 : Int) (h : zH) : (kr t0 h) = zseg zPP false (zcal []) (zget (999, 0, 0, 0) zc_M_mask) (zcut zu_M_mask) (zorc []) kr (fun _ _ => none) 400 32 [none, none, none] [(0, t0)] h := by rfl
set_option maxRecDepth 100000 in
theorem qe_M_mask_32 {ρ : Type} (kr : Int → zH → Option ρ) (t0 : Int) (h : zH) : M_mask_32 kr t0 h = zseg zPP false (zcal []) (zget (999, 0, 0, 0) zc_M_mask) (zcut zu_M_mask) (zorc []) kr (fun _ _ => none) 400 32 [none, none, none] [(0, t0)] h := qg_M_mask_32 kr t0 h
set_option maxRecDepth 100000 in
theorem qg_M_mask {ρ : Type} (kr : Int → zH → Option ρ) (F_M_fails : Int → Int → zH → (Int → zH → Option ρ) → Option ρ) (F_M_maskOf : Int → zH → (Int → zH → Option ρ) → Option ρ) (F_M_noGroup : Int → Int → zH → (Int → zH → Option ρ) → Option ρ) (c32 : Int → zH → Option ρ) (a1 a2 : Int) (h : zH) : (zlet (zset h 12 0 0 0) fun h1 =>
F_M_noGroup a1 a2 h1  fun v2 h3 =>
F_M_fails v2 1 h3  fun v4 h5 =>
if v4 = 0 then (F_M_maskOf (wr ((wr (4 * a1)) + a2)) h5  fun v6 h7 =>
c32 v6 h7)
else c32 0 h5) = zseg zPP false (zcal [(65, [some 0, none, none], fun xs h kr kt => match xs with
  | [x1, x2] => F_M_fails x1 x2 h kr
  | _ => none), (104, [some 0, none], fun xs h kr kt => match xs with
  | [x1] => F_M_maskOf x1 h kr
  | _ => none), (143, [some 0, none, none], fun xs h kr kt => match xs with
  | [x1, x2] => F_M_noGroup x1 x2 h kr
  | _ => none)]) (zget (999, 0, 0, 0) zc_M_mask) (zcut zu_M_mask) (zorc [(32, [none, none, none], [(0, none)], fun xs h => match xs with
  | [t0] => c32 t0 h
  | _ => none)]) kr (fun _ _ => none) 400 0 [some (112, 0), some (0, a1), some (0, a2)] [] h := by rfl
set_option maxRecDepth 100000 in
theorem qe_M_mask {ρ : Type} (kr : Int → zH → Option ρ) (a1 a2 : Int) (h : zH) : M_mask a1 a2 h kr = zseg zPP false (zcal [(65, [some 0, none, none], fun xs h kr kt => match xs with
  | [x1, x2] => M_fails x1 x2 h kr
  | _ => none), (104, [some 0, none], fun xs h kr kt => match xs with
  | [x1] => M_maskOf x1 h kr
  | _ => none), (143, [some 0, none, none], fun xs h kr kt => match xs with
  | [x1, x2] => M_noGroup x1 x2 h kr
  | _ => none)]) (zget (999, 0, 0, 0) zc_M_mask) (zcut zu_M_mask) (zorc [(32, [none, none, none], [(0, none)], fun xs h => match xs with
  | [t0] => M_mask_32 kr t0 h
  | _ => none)]) kr (fun _ _ => none) 400 0 [some (112, 0), some (0, a1), some (0, a2)] [] h := qg_M_mask kr M_fails M_maskOf M_noGroup (M_mask_32 kr) a1 a2 h
def zc_M_places : List zI := [(14, 0, 0, 112), (0, 0, 0, 0), (82, 12, 185, 0), (999, 0, 0, 0), (999, 0, 0, 0), (14, 0, 0, 112), (14, 0, 0, 112), (10, 0, 1, 0), (10, 0, 2, 0), (110, 0, 453, 143), (999, 0, 0, 0), (999, 0, 0, 0), (0, 1, 0, 0), (110, 0, 199, 65), (999, 0, 0, 0), (999, 0, 0, 0), (60, 5, 21, 0), (999, 0, 0, 0), (999, 0, 0, 0), (0, 0, 0, 0), (130, 0, 0, 0), (0, 4, 0, 0), (10, 0, 1, 0), (32, 0, 0, 0), (10, 0, 2, 0), (30, 0, 0, 0), (16, 0, 3, 0), (0, 0, 0, 0), (17, 0, 4, 0), (999, 0, 0, 0), (0, 0, 0, 0), (17, 0, 5, 0), (999, 0, 0, 0), (11, 0, 5, 0), (999, 0, 0, 0), (1, 40, 0, 0), (999, 0, 0, 0), (69, 133, 170, 0), (999, 0, 0, 0), (999, 0, 0, 0), (0, 0, 0, 0), (17, 0, 6, 0), (999, 0, 0, 0), (0, 4, 0, 0), (14, 0, 0, 112), (80, 12, 121, 40), (999, 0, 0, 0), (999, 0, 0, 0), (10, 0, 3, 0), (90, 0, 0, 95), (32, 0, 0, 0), (17, 0, 7, 0), (999, 0, 0, 0), (11, 0, 7, 0), (999, 0, 0, 0), (0, 4, 0, 0), (14, 0, 0, 112), (80, 12, 121, 40), (999, 0, 0, 0), (999, 0, 0, 0), (10, 0, 3, 0), (90, 0, 0, 95), (32, 0, 0, 0), (0, 4, 0, 0), (30, 0, 0, 0), (69, 84, 149, 0), (999, 0, 0, 0), (999, 0, 0, 0), (11, 0, 7, 0), (999, 0, 0, 0), (14, 0, 0, 112), (80, 12, 55, 18), (999, 0, 0, 0), (999, 0, 0, 0), (14, 0, 0, 112), (80, 12, 118, 39), (999, 0, 0, 0), (999, 0, 0, 0), (10, 0, 3, 0), (90, 0, 0, 94), (1, 6, 0, 0), (999, 0, 0, 0), (33, 0, 0, 0), (90, 0, 0, 73), (69, 65, 149, 0), (999, 0, 0, 0), (999, 0, 0, 0), (11, 0, 6, 0), (999, 0, 0, 0), (61, 47, 136, 0), (999, 0, 0, 0), (999, 0, 0, 0), (14, 0, 0, 112), (80, 12, 103, 34), (999, 0, 0, 0), (999, 0, 0, 0), (14, 0, 0, 112), (14, 0, 0, 112), (80, 12, 118, 39), (999, 0, 0, 0), (999, 0, 0, 0), (10, 0, 3, 0), (90, 0, 0, 94), (11, 0, 7, 0), (999, 0, 0, 0), (110, 0, 249, 93), (999, 0, 0, 0), (999, 0, 0, 0), (92, 0, 0, 89), (1, 114, 0, 0), (999, 0, 0, 0), (67, 29, 140, 0), (999, 0, 0, 0), (999, 0, 0, 0), (14, 0, 0, 112), (80, 12, 106, 35), (999, 0, 0, 0), (999, 0, 0, 0), (14, 0, 0, 112), (14, 0, 0, 112), (80, 12, 118, 39), (999, 0, 0, 0), (999, 0, 0, 0), (10, 0, 3, 0), (90, 0, 0, 94), (11, 0, 7, 0), (999, 0, 0, 0), (110, 0, 249, 93), (999, 0, 0, 0), (999, 0, 0, 0), (90, 0, 0, 90), (11, 0, 5, 0), (999, 0, 0, 0), (67, 7, 140, 0), (999, 0, 0, 0), (999, 0, 0, 0), (0, 1, 0, 0), (72, 4, 141, 0), (999, 0, 0, 0), (999, 0, 0, 0), (0, 0, 0, 0), (17, 0, 6, 0), (999, 0, 0, 0), (22, 1, 7, 0), (999, 0, 0, 0), (999, 0, 0, 0), (72, (-93), 53, 0), (999, 0, 0, 0), (999, 0, 0, 0), (11, 0, 4, 0), (999, 0, 0, 0), (11, 0, 6, 0), (999, 0, 0, 0), (60, 7, 160, 0), (999, 0, 0, 0), (999, 0, 0, 0), (0, 1, 0, 0), (72, 4, 161, 0), (999, 0, 0, 0), (999, 0, 0, 0), (0, 0, 0, 0), (30, 0, 0, 0), (17, 0, 4, 0), (999, 0, 0, 0), (22, 1, 5, 0), (999, 0, 0, 0), (999, 0, 0, 0), (72, (-134), 33, 0), (999, 0, 0, 0), (999, 0, 0, 0), (11, 0, 4, 0), (999, 0, 0, 0), (130, 0, 0, 0)]
def zu_M_places : List (Nat × List Bool) := [(33, [true, false, false, true, true, true, false, false]), (53, [true, false, false, true, true, true, true, true]), (136, [true, false, false, true, true, true, false, true]), (140, [true, false, false, true, true, true, false, true]), (141, [true, false, false, true, true, true, false, true]), (149, [true, false, false, true, true, true, true, false]), (161, [true, false, false, true, false, true, false, false])]
set_option maxRecDepth 100000 in
theorem qg_M_places_141 {ρ : Type} (kr : Int → zH → Option ρ) (r33 : Int → Int → Int → zH → Option ρ) (r53 : Int → Int → Int → Int → Int → zH → Option ρ) (a3 a4 a5 a7 t0 : Int) (h : zH) : (r53 a3 a4 a5 t0 (wr (a7 + 1)) h) = zseg zPP false (zcal []) (zget (999, 0, 0, 0) zc_M_places) (zcut zu_M_places) (zorc [(53, [some (112, some 0), none, none, some (0, none), some (0, none), some (0, none), some (0, none), some (0, none)], [], fun xs h => match xs with
  | [a3, a4, a5, a6, a7] => r53 a3 a4 a5 a6 a7 h
  | _ => none)]) kr (fun _ _ => none) 400 141 [some (112, 0), none, none, some (0, a3), some (0, a4), some (0, a5), none, some (0, a7)] [(0, t0)] h := by rfl
set_option maxRecDepth 100000 in
theorem qe_M_places_141 {ρ : Type} (kr : Int → zH → Option ρ) (r33 : Int → Int → Int → zH → Option ρ) (r53 : Int → Int → Int → Int → Int → zH → Option ρ) (a3 a4 a5 a7 t0 : Int) (h : zH) : M_places_141 kr r33 r53 a3 a4 a5 a7 t0 h = zseg zPP false (zcal []) (zget (999, 0, 0, 0) zc_M_places) (zcut zu_M_places) (zorc [(53, [some (112, some 0), none, none, some (0, none), some (0, none), some (0, none), some (0, none), some (0, none)], [], fun xs h => match xs with
  | [a3, a4, a5, a6, a7] => r53 a3 a4 a5 a6 a7 h
  | _ => none)]) kr (fun _ _ => none) 400 141 [some (112, 0), none, none, some (0, a3), some (0, a4), some (0, a5), none, some (0, a7)] [(0, t0)] h := qg_M_places_141 kr r33 r53 a3 a4 a5 a7 t0 h
set_option maxRecDepth 100000 in
theorem qg_M_places_136 {ρ : Type} (kr : Int → zH → Option ρ) (r33 : Int → Int → Int → zH → Option ρ) (r53 : Int → Int → Int → Int → Int → zH → Option ρ) (c141 : Int → Int → Int → Int → Int → zH → Option ρ) (a3 a4 a5 a7 : Int) (h : zH) : (c141 a3 a4 a5 a7 1 h) = zseg zPP false (zcal []) (zget (999, 0, 0, 0) zc_M_places) (zcut zu_M_places) (zorc [(141, [some (112, some 0), none, none, some (0, none), some (0, none), some (0, none), none, some (0, none)], [(0, none)], fun xs h => match xs with
  | [a3, a4, a5, a7, t0] => c141 a3 a4 a5 a7 t0 h
  | _ => none)]) kr (fun _ _ => none) 400 136 [some (112, 0), none, none, some (0, a3), some (0, a4), some (0, a5), none, some (0, a7)] [] h := by rfl
set_option maxRecDepth 100000 in
theorem qe_M_places_136 {ρ : Type} (kr : Int → zH → Option ρ) (r33 : Int → Int → Int → zH → Option ρ) (r53 : Int → Int → Int → Int → Int → zH → Option ρ) (a3 a4 a5 a7 : Int) (h : zH) : M_places_136 kr r33 r53 a3 a4 a5 a7 h = zseg zPP false (zcal []) (zget (999, 0, 0, 0) zc_M_places) (zcut zu_M_places) (zorc [(141, [some (112, some 0), none, none, some (0, none), some (0, none), some (0, none), none, some (0, none)], [(0, none)], fun xs h => match xs with
  | [a3, a4, a5, a7, t0] => M_places_141 kr r33 r53 a3 a4 a5 a7 t0 h
  | _ => none)]) kr (fun _ _ => none) 400 136 [some (112, 0), none, none, some (0, a3), some (0, a4), some (0, a5), none, some (0, a7)] [] h := qg_M_places_136 kr r33 r53 (M_places_141 kr r33 r53) a3 a4 a5 a7 h
set_option maxRecDepth 100000 in
theorem qg_M_places_140 {ρ : Type} (kr : Int → zH → Option ρ) (r33 : Int → Int → Int → zH → Option ρ) (r53 : Int → Int → Int → Int → Int → zH → Option ρ) (c141 : Int → Int → Int → Int → Int → zH → Option ρ) (a3 a4 a5 a7 : Int) (h : zH) : (c141 a3 a4 a5 a7 0 h) = zseg zPP false (zcal []) (zget (999, 0, 0, 0) zc_M_places) (zcut zu_M_places) (zorc [(141, [some (112, some 0), none, none, some (0, none), some (0, none), some (0, none), none, some (0, none)], [(0, none)], fun xs h => match xs with
  | [a3, a4, a5, a7, t0] => c141 a3 a4 a5 a7 t0 h
  | _ => none)]) kr (fun _ _ => none) 400 140 [some (112, 0), none, none, some (0, a3), some (0, a4), some (0, a5), none, some (0, a7)] [] h := by rfl
set_option maxRecDepth 100000 in
theorem qe_M_places_140 {ρ : Type} (kr : Int → zH → Option ρ) (r33 : Int → Int → Int → zH → Option ρ) (r53 : Int → Int → Int → Int → Int → zH → Option ρ) (a3 a4 a5 a7 : Int) (h : zH) : M_places_140 kr r33 r53 a3 a4 a5 a7 h = zseg zPP false (zcal []) (zget (999, 0, 0, 0) zc_M_places) (zcut zu_M_places) (zorc [(141, [some (112, some 0), none, none, some (0, none), some (0, none), some (0, none), none, some (0, none)], [(0, none)], fun xs h => match xs with
  | [a3, a4, a5, a7, t0] => M_places_141 kr r33 r53 a3 a4 a5 a7 t0 h
  | _ => none)]) kr (fun _ _ => none) 400 140 [some (112, 0), none, none, some (0, a3), some (0, a4), some (0, a5), none, some (0, a7)] [] h := qg_M_places_140 kr r33 r53 (M_places_141 kr r33 r53) a3 a4 a5 a7 h
set_option maxRecDepth 100000 in
theorem qg_M_places_161 {ρ : Type} (kr : Int → zH → Option ρ) (r33 : Int → Int → Int → zH → Option ρ) (a3 a5 t0 t1 : Int) (h : zH) : (r33 a3 (wr (t1 + t0)) (wr (a5 + 1)) h) = zseg zPP false (zcal []) (zget (999, 0, 0, 0) zc_M_places) (zcut zu_M_places) (zorc [(33, [some (112, some 0), none, none, some (0, none), some (0, none), some (0, none), none, none], [], fun xs h => match xs with
  | [a3, a4, a5] => r33 a3 a4 a5 h
  | _ => none)]) kr (fun _ _ => none) 400 161 [some (112, 0), none, none, some (0, a3), none, some (0, a5), none, none] [(0, t0), (0, t1)] h := by rfl
set_option maxRecDepth 100000 in
theorem qe_M_places_161 {ρ : Type} (kr : Int → zH → Option ρ) (r33 : Int → Int → Int → zH → Option ρ) (a3 a5 t0 t1 : Int) (h : zH) : M_places_161 kr r33 a3 a5 t0 t1 h = zseg zPP false (zcal []) (zget (999, 0, 0, 0) zc_M_places) (zcut zu_M_places) (zorc [(33, [some (112, some 0), none, none, some (0, none), some (0, none), some (0, none), none, none], [], fun xs h => match xs with
  | [a3, a4, a5] => r33 a3 a4 a5 h
  | _ => none)]) kr (fun _ _ => none) 400 161 [some (112, 0), none, none, some (0, a3), none, some (0, a5), none, none] [(0, t0), (0, t1)] h := qg_M_places_161 kr r33 a3 a5 t0 t1 h
set_option maxRecDepth 100000 in
theorem qg_M_places_149 {ρ : Type} (kr : Int → zH → Option ρ) (r33 : Int → Int → Int → zH → Option ρ) (c161 : Int → Int → Int → Int → zH → Option ρ) (a3 a4 a5 a6 : Int) (h : zH) : (if a6 = 0 then c161 a3 a5 0 a4 h
else c161 a3 a5 1 a4 h) = zseg zPP false (zcal []) (zget (999, 0, 0, 0) zc_M_places) (zcut zu_M_places) (zorc [(161, [some (112, some 0), none, none, some (0, none), none, some (0, none), none, none], [(0, none), (0, none)], fun xs h => match xs with
  | [a3, a5, t0, t1] => c161 a3 a5 t0 t1 h
  | _ => none)]) kr (fun _ _ => none) 400 149 [some (112, 0), none, none, some (0, a3), some (0, a4), some (0, a5), some (0, a6), none] [] h := by rfl
set_option maxRecDepth 100000 in
theorem qe_M_places_149 {ρ : Type} (kr : Int → zH → Option ρ) (r33 : Int → Int → Int → zH → Option ρ) (a3 a4 a5 a6 : Int) (h : zH) : M_places_149 kr r33 a3 a4 a5 a6 h = zseg zPP false (zcal []) (zget (999, 0, 0, 0) zc_M_places) (zcut zu_M_places) (zorc [(161, [some (112, some 0), none, none, some (0, none), none, some (0, none), none, none], [(0, none), (0, none)], fun xs h => match xs with
  | [a3, a5, t0, t1] => M_places_161 kr r33 a3 a5 t0 t1 h
  | _ => none)]) kr (fun _ _ => none) 400 149 [some (112, 0), none, none, some (0, a3), some (0, a4), some (0, a5), some (0, a6), none] [] h := qg_M_places_149 kr r33 (M_places_161 kr r33) a3 a4 a5 a6 h
set_option maxRecDepth 100000 in
theorem qg_M_places_53b {ρ : Type} (kr : Int → zH → Option ρ) (r33 : Int → Int → Int → zH → Option ρ) (r53 : Int → Int → Int → Int → Int → zH → Option ρ) (F_M_threadCell : Int → Int → zH → (Int → zH → Option ρ) → Option ρ) (c136 : Int → Int → Int → Int → zH → Option ρ) (c140 : Int → Int → Int → Int → zH → Option ρ) (c149 : Int → Int → Int → Int → zH → Option ρ) (a3 a4 a5 a6 a7 : Int) (h : zH) : (zix 8 a3 fun j1 =>
if a7 < (wr ((wr (4 * (zhD h 95 0 j1))) + 4)) then (zix 8 a3 fun j2 =>
zix 12 (wr (Int.tdiv (zhD h 94 0 j2) 6)) fun j3 =>
if a7 < (zhD h 73 0 j3) then (if a6 = 0 then (zix 8 a3 fun j4 =>
F_M_threadCell (zhD h 94 0 j4) a7 h  fun v5 h6 =>
zix 1152 v5 fun j7 =>
if (zhD h6 89 0 j7) = 114 then (zix 8 a3 fun j8 =>
F_M_threadCell (zhD h6 94 0 j8) a7 h6  fun v9 h10 =>
zix 1152 v9 fun j11 =>
if (zhD h10 90 0 j11) = a5 then c136 a3 a4 a5 a7 h10
else c140 a3 a4 a5 a7 h10)
else c140 a3 a4 a5 a7 h6)
else c136 a3 a4 a5 a7 h)
else c149 a3 a4 a5 a6 h)
else c149 a3 a4 a5 a6 h) = zseg zPP false (zcal [(93, [some 0, none, none], fun xs h kr kt => match xs with
  | [x1, x2] => F_M_threadCell x1 x2 h kr
  | _ => none)]) (zget (999, 0, 0, 0) zc_M_places) (zcut zu_M_places) (zorc [(136, [some (112, some 0), none, none, some (0, none), some (0, none), some (0, none), none, some (0, none)], [], fun xs h => match xs with
  | [a3, a4, a5, a7] => c136 a3 a4 a5 a7 h
  | _ => none), (140, [some (112, some 0), none, none, some (0, none), some (0, none), some (0, none), none, some (0, none)], [], fun xs h => match xs with
  | [a3, a4, a5, a7] => c140 a3 a4 a5 a7 h
  | _ => none), (149, [some (112, some 0), none, none, some (0, none), some (0, none), some (0, none), some (0, none), none], [], fun xs h => match xs with
  | [a3, a4, a5, a6] => c149 a3 a4 a5 a6 h
  | _ => none)]) kr (fun _ _ => none) 400 53 [some (112, 0), none, none, some (0, a3), some (0, a4), some (0, a5), some (0, a6), some (0, a7)] [] h := by rfl
set_option maxRecDepth 100000 in
theorem qe_M_places_53b {ρ : Type} (kr : Int → zH → Option ρ) (r33 : Int → Int → Int → zH → Option ρ) (r53 : Int → Int → Int → Int → Int → zH → Option ρ) (a3 a4 a5 a6 a7 : Int) (h : zH) : M_places_53b kr r33 r53 a3 a4 a5 a6 a7 h = zseg zPP false (zcal [(93, [some 0, none, none], fun xs h kr kt => match xs with
  | [x1, x2] => M_threadCell x1 x2 h kr
  | _ => none)]) (zget (999, 0, 0, 0) zc_M_places) (zcut zu_M_places) (zorc [(136, [some (112, some 0), none, none, some (0, none), some (0, none), some (0, none), none, some (0, none)], [], fun xs h => match xs with
  | [a3, a4, a5, a7] => M_places_136 kr r33 r53 a3 a4 a5 a7 h
  | _ => none), (140, [some (112, some 0), none, none, some (0, none), some (0, none), some (0, none), none, some (0, none)], [], fun xs h => match xs with
  | [a3, a4, a5, a7] => M_places_140 kr r33 r53 a3 a4 a5 a7 h
  | _ => none), (149, [some (112, some 0), none, none, some (0, none), some (0, none), some (0, none), some (0, none), none], [], fun xs h => match xs with
  | [a3, a4, a5, a6] => M_places_149 kr r33 a3 a4 a5 a6 h
  | _ => none)]) kr (fun _ _ => none) 400 53 [some (112, 0), none, none, some (0, a3), some (0, a4), some (0, a5), some (0, a6), some (0, a7)] [] h := qg_M_places_53b kr r33 r53 M_threadCell (M_places_136 kr r33 r53) (M_places_140 kr r33 r53) (M_places_149 kr r33) a3 a4 a5 a6 a7 h
set_option maxRecDepth 100000 in
theorem qg_M_places_33b {ρ : Type} (kr : Int → zH → Option ρ) (r33 : Int → Int → Int → zH → Option ρ) (c53 : Int → Int → Int → Int → Int → zH → Option ρ) (a3 a4 a5 : Int) (h : zH) : (if a5 < 40 then (zix 8 a3 fun j1 =>
c53 a3 a4 a5 0 (wr (4 * (zhD h 95 0 j1))) h)
else kr a4 h) = zseg zPP false (zcal []) (zget (999, 0, 0, 0) zc_M_places) (zcut zu_M_places) (zorc [(53, [some (112, some 0), none, none, some (0, none), some (0, none), some (0, none), some (0, none), some (0, none)], [], fun xs h => match xs with
  | [a3, a4, a5, a6, a7] => c53 a3 a4 a5 a6 a7 h
  | _ => none)]) kr (fun _ _ => none) 400 33 [some (112, 0), none, none, some (0, a3), some (0, a4), some (0, a5), none, none] [] h := by rfl
set_option maxRecDepth 100000 in
theorem qe_M_places_33b {ρ : Type} (kr : Int → zH → Option ρ) (r33 : Int → Int → Int → zH → Option ρ) (a3 a4 a5 : Int) (h : zH) : M_places_33b kr r33 a3 a4 a5 h = zseg zPP false (zcal []) (zget (999, 0, 0, 0) zc_M_places) (zcut zu_M_places) (zorc [(53, [some (112, some 0), none, none, some (0, none), some (0, none), some (0, none), some (0, none), some (0, none)], [], fun xs h => match xs with
  | [a3, a4, a5, a6, a7] => M_places_53 kr r33 a3 a4 a5 a6 a7 h
  | _ => none)]) kr (fun _ _ => none) 400 33 [some (112, 0), none, none, some (0, a3), some (0, a4), some (0, a5), none, none] [] h := qg_M_places_33b kr r33 (M_places_53 kr r33) a3 a4 a5 h
set_option maxRecDepth 100000 in
theorem qg_M_places {ρ : Type} (kr : Int → zH → Option ρ) (F_M_fails : Int → Int → zH → (Int → zH → Option ρ) → Option ρ) (F_M_noGroup : Int → Int → zH → (Int → zH → Option ρ) → Option ρ) (c33 : Int → Int → Int → zH → Option ρ) (a1 a2 : Int) (h : zH) : (zlet (zset h 12 0 0 0) fun h1 =>
F_M_noGroup a1 a2 h1  fun v2 h3 =>
F_M_fails v2 1 h3  fun v4 h5 =>
if v4 = 0 then c33 (wr ((wr (4 * a1)) + a2)) 0 0 h5
else kr 0 h5) = zseg zPP false (zcal [(65, [some 0, none, none], fun xs h kr kt => match xs with
  | [x1, x2] => F_M_fails x1 x2 h kr
  | _ => none), (143, [some 0, none, none], fun xs h kr kt => match xs with
  | [x1, x2] => F_M_noGroup x1 x2 h kr
  | _ => none)]) (zget (999, 0, 0, 0) zc_M_places) (zcut zu_M_places) (zorc [(33, [some (112, some 0), none, none, some (0, none), some (0, none), some (0, none), none, none], [], fun xs h => match xs with
  | [a3, a4, a5] => c33 a3 a4 a5 h
  | _ => none)]) kr (fun _ _ => none) 400 0 [some (112, 0), some (0, a1), some (0, a2), none, none, none, none, none] [] h := by rfl
set_option maxRecDepth 100000 in
theorem qe_M_places {ρ : Type} (kr : Int → zH → Option ρ) (a1 a2 : Int) (h : zH) : M_places a1 a2 h kr = zseg zPP false (zcal [(65, [some 0, none, none], fun xs h kr kt => match xs with
  | [x1, x2] => M_fails x1 x2 h kr
  | _ => none), (143, [some 0, none, none], fun xs h kr kt => match xs with
  | [x1, x2] => M_noGroup x1 x2 h kr
  | _ => none)]) (zget (999, 0, 0, 0) zc_M_places) (zcut zu_M_places) (zorc [(33, [some (112, some 0), none, none, some (0, none), some (0, none), some (0, none), none, none], [], fun xs h => match xs with
  | [a3, a4, a5] => M_places_33 kr a3 a4 a5 h
  | _ => none)]) kr (fun _ _ => none) 400 0 [some (112, 0), some (0, a1), some (0, a2), none, none, none, none, none] [] h := qg_M_places kr M_fails M_noGroup (M_places_33 kr) a1 a2 h
def zc_M_reason : List zI := [(14, 0, 0, 112), (0, 0, 0, 0), (82, 12, 185, 0), (999, 0, 0, 0), (999, 0, 0, 0), (14, 0, 0, 112), (14, 0, 0, 112), (10, 0, 1, 0), (10, 0, 2, 0), (110, 0, 453, 143), (999, 0, 0, 0), (999, 0, 0, 0), (0, 1, 0, 0), (110, 0, 199, 65), (999, 0, 0, 0), (999, 0, 0, 0), (60, 5, 21, 0), (999, 0, 0, 0), (999, 0, 0, 0), (0, 0, 0, 0), (130, 0, 2, 0), (0, 4, 0, 0), (10, 0, 1, 0), (32, 0, 0, 0), (10, 0, 2, 0), (30, 0, 0, 0), (16, 0, 3, 0), (14, 0, 0, 112), (10, 0, 3, 0), (110, 0, 278, 103), (999, 0, 0, 0), (999, 0, 0, 0), (0, (-1), 0, 0), (67, 19, 52, 0), (999, 0, 0, 0), (999, 0, 0, 0), (14, 0, 0, 112), (10, 0, 3, 0), (110, 0, 266, 96), (999, 0, 0, 0), (999, 0, 0, 0), (60, 8, 49, 0), (999, 0, 0, 0), (999, 0, 0, 0), (1, 101, 0, 0), (999, 0, 0, 0), (72, 5, 51, 0), (999, 0, 0, 0), (999, 0, 0, 0), (1, 98, 0, 0), (999, 0, 0, 0), (130, 0, 2, 0), (14, 0, 0, 112), (80, 12, 124, 41), (999, 0, 0, 0), (999, 0, 0, 0), (10, 0, 3, 0), (90, 0, 0, 96), (14, 0, 0, 112), (80, 12, 390, 1), (999, 0, 0, 0), (999, 0, 0, 0), (71, 8, 70, 0), (999, 0, 0, 0), (999, 0, 0, 0), (1, 100, 0, 0), (999, 0, 0, 0), (72, 5, 72, 0), (999, 0, 0, 0), (999, 0, 0, 0), (1, 45, 0, 0), (999, 0, 0, 0), (130, 0, 2, 0)]
def zu_M_reason : List (Nat × List Bool) := [(51, [false, false, false, false]), (72, [false, false, false, false])]
set_option maxRecDepth 100000 in
theorem qg_M_reason_51 {ρ : Type} (kr : Int → zH → Option ρ) (t0 : Int) (h : zH) : (znar 2 t0 fun x1 => kr x1 h) = zseg zPP false (zcal []) (zget (999, 0, 0, 0) zc_M_reason) (zcut zu_M_reason) (zorc []) kr (fun _ _ => none) 400 51 [none, none, none, none] [(0, t0)] h := by rfl
set_option maxRecDepth 100000 in
theorem qe_M_reason_51 {ρ : Type} (kr : Int → zH → Option ρ) (t0 : Int) (h : zH) : M_reason_51 kr t0 h = zseg zPP false (zcal []) (zget (999, 0, 0, 0) zc_M_reason) (zcut zu_M_reason) (zorc []) kr (fun _ _ => none) 400 51 [none, none, none, none] [(0, t0)] h := qg_M_reason_51 kr t0 h
set_option maxRecDepth 100000 in
theorem qg_M_reason_72 {ρ : Type} (kr : Int → zH → Option ρ) (t0 : Int) (h : zH) : (znar 2 t0 fun x1 => kr x1 h) = zseg zPP false (zcal []) (zget (999, 0, 0, 0) zc_M_reason) (zcut zu_M_reason) (zorc []) kr (fun _ _ => none) 400 72 [none, none, none, none] [(0, t0)] h := by rfl
set_option maxRecDepth 100000 in
theorem qe_M_reason_72 {ρ : Type} (kr : Int → zH → Option ρ) (t0 : Int) (h : zH) : M_reason_72 kr t0 h = zseg zPP false (zcal []) (zget (999, 0, 0, 0) zc_M_reason) (zcut zu_M_reason) (zorc []) kr (fun _ _ => none) 400 72 [none, none, none, none] [(0, t0)] h := qg_M_reason_72 kr t0 h
set_option maxRecDepth 100000 in
theorem qg_M_reason {ρ : Type} (kr : Int → zH → Option ρ) (F_M_fails : Int → Int → zH → (Int → zH → Option ρ) → Option ρ) (F_M_hasEnded : Int → zH → (Int → zH → Option ρ) → Option ρ) (F_M_placeOf : Int → zH → (Int → zH → Option ρ) → Option ρ) (F_M_noGroup : Int → Int → zH → (Int → zH → Option ρ) → Option ρ) (c51 : Int → zH → Option ρ) (c72 : Int → zH → Option ρ) (a1 a2 : Int) (h : zH) : (zlet (zset h 12 0 0 0) fun h1 =>
F_M_noGroup a1 a2 h1  fun v2 h3 =>
F_M_fails v2 1 h3  fun v4 h5 =>
if v4 = 0 then (F_M_placeOf (wr ((wr (4 * a1)) + a2)) h5  fun v6 h7 =>
if v6 = (-1) then (F_M_hasEnded (wr ((wr (4 * a1)) + a2)) h7  fun v9 h10 =>
if v9 = 0 then c51 98 h10
else c51 101 h10)
else zix 8 (wr ((wr (4 * a1)) + a2)) fun j8 =>
if (zhD h7 12 0 1) < (zhD h7 96 0 j8) then c72 100 h7
else c72 45 h7)
else kr 0 h5) = zseg zPP false (zcal [(65, [some 0, none, none], fun xs h kr kt => match xs with
  | [x1, x2] => F_M_fails x1 x2 h kr
  | _ => none), (96, [some 0, none], fun xs h kr kt => match xs with
  | [x1] => F_M_hasEnded x1 h kr
  | _ => none), (103, [some 0, none], fun xs h kr kt => match xs with
  | [x1] => F_M_placeOf x1 h kr
  | _ => none), (143, [some 0, none, none], fun xs h kr kt => match xs with
  | [x1, x2] => F_M_noGroup x1 x2 h kr
  | _ => none)]) (zget (999, 0, 0, 0) zc_M_reason) (zcut zu_M_reason) (zorc [(51, [none, none, none, none], [(0, none)], fun xs h => match xs with
  | [t0] => c51 t0 h
  | _ => none), (72, [none, none, none, none], [(0, none)], fun xs h => match xs with
  | [t0] => c72 t0 h
  | _ => none)]) kr (fun _ _ => none) 400 0 [some (112, 0), some (0, a1), some (0, a2), none] [] h := by rfl
set_option maxRecDepth 100000 in
theorem qe_M_reason {ρ : Type} (kr : Int → zH → Option ρ) (a1 a2 : Int) (h : zH) : M_reason a1 a2 h kr = zseg zPP false (zcal [(65, [some 0, none, none], fun xs h kr kt => match xs with
  | [x1, x2] => M_fails x1 x2 h kr
  | _ => none), (96, [some 0, none], fun xs h kr kt => match xs with
  | [x1] => M_hasEnded x1 h kr
  | _ => none), (103, [some 0, none], fun xs h kr kt => match xs with
  | [x1] => M_placeOf x1 h kr
  | _ => none), (143, [some 0, none, none], fun xs h kr kt => match xs with
  | [x1, x2] => M_noGroup x1 x2 h kr
  | _ => none)]) (zget (999, 0, 0, 0) zc_M_reason) (zcut zu_M_reason) (zorc [(51, [none, none, none, none], [(0, none)], fun xs h => match xs with
  | [t0] => M_reason_51 kr t0 h
  | _ => none), (72, [none, none, none, none], [(0, none)], fun xs h => match xs with
  | [t0] => M_reason_72 kr t0 h
  | _ => none)]) kr (fun _ _ => none) 400 0 [some (112, 0), some (0, a1), some (0, a2), none] [] h := qg_M_reason kr M_fails M_hasEnded M_placeOf M_noGroup (M_reason_51 kr) (M_reason_72 kr) a1 a2 h
def zc_M_register : List zI := [(14, 0, 0, 112), (0, 0, 0, 0), (82, 12, 185, 0), (999, 0, 0, 0), (999, 0, 0, 0), (14, 0, 0, 112), (14, 0, 0, 112), (10, 0, 1, 0), (10, 0, 2, 0), (110, 0, 453, 143), (999, 0, 0, 0), (999, 0, 0, 0), (0, 1, 0, 0), (110, 0, 199, 65), (999, 0, 0, 0), (999, 0, 0, 0), (60, 5, 21, 0), (999, 0, 0, 0), (999, 0, 0, 0), (0, 0, 0, 0), (130, 0, 0, 0), (0, 4, 0, 0), (10, 0, 1, 0), (32, 0, 0, 0), (10, 0, 2, 0), (30, 0, 0, 0), (17, 0, 5, 0), (999, 0, 0, 0), (14, 0, 0, 112), (80, 12, 118, 39), (999, 0, 0, 0), (999, 0, 0, 0), (11, 0, 5, 0), (999, 0, 0, 0), (90, 0, 0, 94), (1, 6, 0, 0), (999, 0, 0, 0), (33, 0, 0, 0), (17, 0, 6, 0), (999, 0, 0, 0), (10, 0, 3, 0), (0, 0, 0, 0), (0, 3, 0, 0), (113, 0, 192, 64), (999, 0, 0, 0), (999, 0, 0, 0), (60, 47, 93, 0), (999, 0, 0, 0), (999, 0, 0, 0), (0, 4, 0, 0), (14, 0, 0, 112), (80, 12, 121, 40), (999, 0, 0, 0), (999, 0, 0, 0), (11, 0, 5, 0), (999, 0, 0, 0), (90, 0, 0, 95), (32, 0, 0, 0), (10, 0, 3, 0), (30, 0, 0, 0), (14, 0, 0, 112), (80, 12, 55, 18), (999, 0, 0, 0), (999, 0, 0, 0), (11, 0, 6, 0), (999, 0, 0, 0), (90, 0, 0, 73), (69, 26, 93, 0), (999, 0, 0, 0), (999, 0, 0, 0), (11, 0, 4, 0), (999, 0, 0, 0), (0, 0, 0, 0), (14, 0, 0, 112), (80, 12, 17, 5), (999, 0, 0, 0), (999, 0, 0, 0), (14, 0, 0, 112), (80, 12, 46, 15), (999, 0, 0, 0), (999, 0, 0, 0), (11, 0, 6, 0), (999, 0, 0, 0), (90, 0, 0, 70), (90, 0, 0, 61), (0, 1, 0, 0), (31, 0, 0, 0), (113, 0, 192, 64), (999, 0, 0, 0), (999, 0, 0, 0), (61, 7, 97, 0), (999, 0, 0, 0), (999, 0, 0, 0), (0, 1, 0, 0), (72, 4, 98, 0), (999, 0, 0, 0), (999, 0, 0, 0), (0, 0, 0, 0), (17, 0, 7, 0), (999, 0, 0, 0), (14, 0, 0, 112), (11, 0, 7, 0), (999, 0, 0, 0), (0, 1, 0, 0), (110, 0, 199, 65), (999, 0, 0, 0), (999, 0, 0, 0), (60, 7, 114, 0), (999, 0, 0, 0), (999, 0, 0, 0), (0, 0, 0, 0), (72, 17, 128, 0), (999, 0, 0, 0), (999, 0, 0, 0), (14, 0, 0, 112), (80, 12, 109, 36), (999, 0, 0, 0), (999, 0, 0, 0), (14, 0, 0, 112), (11, 0, 5, 0), (999, 0, 0, 0), (10, 0, 3, 0), (11, 0, 4, 0), (999, 0, 0, 0), (110, 0, 281, 105), (999, 0, 0, 0), (999, 0, 0, 0), (90, 0, 0, 91), (130, 0, 0, 0)]
def zu_M_register : List (Nat × List Bool) := [(93, [true, false, false, true, true, true, false, false]), (98, [true, false, false, true, true, true, false, false]), (128, [false, false, false, false, false, false, false, false])]
set_option maxRecDepth 100000 in
theorem qg_M_register_128 {ρ : Type} (kr : Int → zH → Option ρ) (t0 : Int) (h : zH) : (kr t0 h) = zseg zPP false (zcal []) (zget (999, 0, 0, 0) zc_M_register) (zcut zu_M_register) (zorc []) kr (fun _ _ => none) 400 128 [none, none, none, none, none, none, none, none] [(0, t0)] h := by rfl
set_option maxRecDepth 100000 in
theorem qe_M_register_128 {ρ : Type} (kr : Int → zH → Option ρ) (t0 : Int) (h : zH) : M_register_128 kr t0 h = zseg zPP false (zcal []) (zget (999, 0, 0, 0) zc_M_register) (zcut zu_M_register) (zorc []) kr (fun _ _ => none) 400 128 [none, none, none, none, none, none, none, none] [(0, t0)] h := qg_M_register_128 kr t0 h
set_option maxRecDepth 100000 in
theorem qg_M_register_98 {ρ : Type} (kr : Int → zH → Option ρ) (F_M_fails : Int → Int → zH → (Int → zH → Option ρ) → Option ρ) (F_M_registerCell : Int → Int → Int → zH → (Int → zH → Option ρ) → Option ρ) (c128 : Int → zH → Option ρ) (a3 a4 a5 t0 : Int) (h : zH) : (F_M_fails t0 1 h  fun v1 h2 =>
if v1 = 0 then (F_M_registerCell a5 a3 a4 h2  fun v3 h4 =>
zix 9216 v3 fun j5 =>
c128 (zhD h4 91 0 j5) h4)
else c128 0 h2) = zseg zPP false (zcal [(65, [some 0, none, none], fun xs h kr kt => match xs with
  | [x1, x2] => F_M_fails x1 x2 h kr
  | _ => none), (105, [some 0, none, none, none], fun xs h kr kt => match xs with
  | [x1, x2, x3] => F_M_registerCell x1 x2 x3 h kr
  | _ => none)]) (zget (999, 0, 0, 0) zc_M_register) (zcut zu_M_register) (zorc [(128, [none, none, none, none, none, none, none, none], [(0, none)], fun xs h => match xs with
  | [t0] => c128 t0 h
  | _ => none)]) kr (fun _ _ => none) 400 98 [some (112, 0), none, none, some (0, a3), some (0, a4), some (0, a5), none, none] [(0, t0)] h := by rfl
set_option maxRecDepth 100000 in
theorem qe_M_register_98 {ρ : Type} (kr : Int → zH → Option ρ) (a3 a4 a5 t0 : Int) (h : zH) : M_register_98 kr a3 a4 a5 t0 h = zseg zPP false (zcal [(65, [some 0, none, none], fun xs h kr kt => match xs with
  | [x1, x2] => M_fails x1 x2 h kr
  | _ => none), (105, [some 0, none, none, none], fun xs h kr kt => match xs with
  | [x1, x2, x3] => M_registerCell x1 x2 x3 h kr
  | _ => none)]) (zget (999, 0, 0, 0) zc_M_register) (zcut zu_M_register) (zorc [(128, [none, none, none, none, none, none, none, none], [(0, none)], fun xs h => match xs with
  | [t0] => M_register_128 kr t0 h
  | _ => none)]) kr (fun _ _ => none) 400 98 [some (112, 0), none, none, some (0, a3), some (0, a4), some (0, a5), none, none] [(0, t0)] h := qg_M_register_98 kr M_fails M_registerCell (M_register_128 kr) a3 a4 a5 t0 h
set_option maxRecDepth 100000 in
theorem qg_M_register_93 {ρ : Type} (kr : Int → zH → Option ρ) (c98 : Int → Int → Int → Int → zH → Option ρ) (a3 a4 a5 : Int) (h : zH) : (c98 a3 a4 a5 1 h) = zseg zPP false (zcal []) (zget (999, 0, 0, 0) zc_M_register) (zcut zu_M_register) (zorc [(98, [some (112, some 0), none, none, some (0, none), some (0, none), some (0, none), none, none], [(0, none)], fun xs h => match xs with
  | [a3, a4, a5, t0] => c98 a3 a4 a5 t0 h
  | _ => none)]) kr (fun _ _ => none) 400 93 [some (112, 0), none, none, some (0, a3), some (0, a4), some (0, a5), none, none] [] h := by rfl
set_option maxRecDepth 100000 in
theorem qe_M_register_93 {ρ : Type} (kr : Int → zH → Option ρ) (a3 a4 a5 : Int) (h : zH) : M_register_93 kr a3 a4 a5 h = zseg zPP false (zcal []) (zget (999, 0, 0, 0) zc_M_register) (zcut zu_M_register) (zorc [(98, [some (112, some 0), none, none, some (0, none), some (0, none), some (0, none), none, none], [(0, none)], fun xs h => match xs with
  | [a3, a4, a5, t0] => M_register_98 kr a3 a4 a5 t0 h
  | _ => none)]) kr (fun _ _ => none) 400 93 [some (112, 0), none, none, some (0, a3), some (0, a4), some (0, a5), none, none] [] h := qg_M_register_93 kr (M_register_98 kr) a3 a4 a5 h
set_option maxRecDepth 100000 in
theorem qg_M_register {ρ : Type} (kr : Int → zH → Option ρ) (F_M_in : Int → Int → Int → zH → (Int → zH → Option ρ) → Option ρ) (F_M_fails : Int → Int → zH → (Int → zH → Option ρ) → Option ρ) (F_M_noGroup : Int → Int → zH → (Int → zH → Option ρ) → Option ρ) (c93 : Int → Int → Int → zH → Option ρ) (c98 : Int → Int → Int → Int → zH → Option ρ) (a1 a2 a3 a4 : Int) (h : zH) : (zlet (zset h 12 0 0 0) fun h1 =>
F_M_noGroup a1 a2 h1  fun v2 h3 =>
F_M_fails v2 1 h3  fun v4 h5 =>
if v4 = 0 then (zix 8 (wr ((wr (4 * a1)) + a2)) fun j6 =>
F_M_in a3 0 3 h5  fun v7 h8 =>
if v7 = 0 then c93 a3 a4 (wr ((wr (4 * a1)) + a2)) h8
else zix 8 (wr ((wr (4 * a1)) + a2)) fun j9 =>
zix 12 (wr (Int.tdiv (zhD h5 94 0 j6) 6)) fun j10 =>
if (wr ((wr (4 * (zhD h8 95 0 j9))) + a3)) < (zhD h8 73 0 j10) then (zix 12 (wr (Int.tdiv (zhD h5 94 0 j6) 6)) fun j11 =>
zix 4 (zhD h8 70 0 j11) fun j12 =>
F_M_in a4 0 (wr ((zhD h8 61 0 j12) - 1)) h8  fun v13 h14 =>
if v13 = 0 then c93 a3 a4 (wr ((wr (4 * a1)) + a2)) h14
else c98 a3 a4 (wr ((wr (4 * a1)) + a2)) 0 h14)
else c93 a3 a4 (wr ((wr (4 * a1)) + a2)) h8)
else kr 0 h5) = zseg zPP false (zcal [(64, [none, none, none], fun xs h kr kt => match xs with
  | [x0, x1, x2] => F_M_in x0 x1 x2 h kr
  | _ => none), (65, [some 0, none, none], fun xs h kr kt => match xs with
  | [x1, x2] => F_M_fails x1 x2 h kr
  | _ => none), (143, [some 0, none, none], fun xs h kr kt => match xs with
  | [x1, x2] => F_M_noGroup x1 x2 h kr
  | _ => none)]) (zget (999, 0, 0, 0) zc_M_register) (zcut zu_M_register) (zorc [(93, [some (112, some 0), none, none, some (0, none), some (0, none), some (0, none), none, none], [], fun xs h => match xs with
  | [a3, a4, a5] => c93 a3 a4 a5 h
  | _ => none), (98, [some (112, some 0), none, none, some (0, none), some (0, none), some (0, none), none, none], [(0, none)], fun xs h => match xs with
  | [a3, a4, a5, t0] => c98 a3 a4 a5 t0 h
  | _ => none)]) kr (fun _ _ => none) 400 0 [some (112, 0), some (0, a1), some (0, a2), some (0, a3), some (0, a4), none, none, none] [] h := by rfl
set_option maxRecDepth 100000 in
theorem qe_M_register {ρ : Type} (kr : Int → zH → Option ρ) (a1 a2 a3 a4 : Int) (h : zH) : M_register a1 a2 a3 a4 h kr = zseg zPP false (zcal [(64, [none, none, none], fun xs h kr kt => match xs with
  | [x0, x1, x2] => M_in x0 x1 x2 h kr
  | _ => none), (65, [some 0, none, none], fun xs h kr kt => match xs with
  | [x1, x2] => M_fails x1 x2 h kr
  | _ => none), (143, [some 0, none, none], fun xs h kr kt => match xs with
  | [x1, x2] => M_noGroup x1 x2 h kr
  | _ => none)]) (zget (999, 0, 0, 0) zc_M_register) (zcut zu_M_register) (zorc [(93, [some (112, some 0), none, none, some (0, none), some (0, none), some (0, none), none, none], [], fun xs h => match xs with
  | [a3, a4, a5] => M_register_93 kr a3 a4 a5 h
  | _ => none), (98, [some (112, some 0), none, none, some (0, none), some (0, none), some (0, none), none, none], [(0, none)], fun xs h => match xs with
  | [a3, a4, a5, t0] => M_register_98 kr a3 a4 a5 t0 h
  | _ => none)]) kr (fun _ _ => none) 400 0 [some (112, 0), some (0, a1), some (0, a2), some (0, a3), some (0, a4), none, none, none] [] h := qg_M_register kr M_in M_fails M_noGroup (M_register_93 kr) (M_register_98 kr) a1 a2 a3 a4 h
def zc_M_shared : List zI := [(14, 0, 0, 112), (0, 0, 0, 0), (82, 12, 185, 0), (999, 0, 0, 0), (999, 0, 0, 0), (14, 0, 0, 112), (14, 0, 0, 112), (10, 0, 1, 0), (10, 0, 2, 0), (110, 0, 453, 143), (999, 0, 0, 0), (999, 0, 0, 0), (0, 1, 0, 0), (110, 0, 199, 65), (999, 0, 0, 0), (999, 0, 0, 0), (60, 5, 21, 0), (999, 0, 0, 0), (999, 0, 0, 0), (0, 0, 0, 0), (130, 0, 0, 0), (14, 0, 0, 112), (80, 12, 118, 39), (999, 0, 0, 0), (999, 0, 0, 0), (0, 4, 0, 0), (10, 0, 1, 0), (32, 0, 0, 0), (10, 0, 2, 0), (30, 0, 0, 0), (90, 0, 0, 94), (17, 0, 4, 0), (999, 0, 0, 0), (14, 0, 0, 112), (10, 0, 3, 0), (0, 0, 0, 0), (14, 0, 0, 112), (80, 12, 20, 6), (999, 0, 0, 0), (999, 0, 0, 0), (14, 0, 0, 112), (80, 12, 46, 15), (999, 0, 0, 0), (999, 0, 0, 0), (11, 0, 4, 0), (999, 0, 0, 0), (1, 6, 0, 0), (999, 0, 0, 0), (33, 0, 0, 0), (90, 0, 0, 70), (90, 0, 0, 62), (0, 1, 0, 0), (31, 0, 0, 0), (113, 0, 192, 64), (999, 0, 0, 0), (999, 0, 0, 0), (61, 7, 63, 0), (999, 0, 0, 0), (999, 0, 0, 0), (0, 1, 0, 0), (72, 4, 64, 0), (999, 0, 0, 0), (999, 0, 0, 0), (0, 0, 0, 0), (0, 1, 0, 0), (110, 0, 199, 65), (999, 0, 0, 0), (999, 0, 0, 0), (60, 7, 75, 0), (999, 0, 0, 0), (999, 0, 0, 0), (0, 0, 0, 0), (72, 15, 87, 0), (999, 0, 0, 0), (999, 0, 0, 0), (14, 0, 0, 112), (80, 12, 112, 37), (999, 0, 0, 0), (999, 0, 0, 0), (1, 16, 0, 0), (999, 0, 0, 0), (11, 0, 4, 0), (999, 0, 0, 0), (32, 0, 0, 0), (10, 0, 3, 0), (30, 0, 0, 0), (90, 0, 0, 92), (130, 0, 0, 0)]
def zu_M_shared : List (Nat × List Bool) := [(64, [true, false, false, true, true]), (87, [false, false, false, false, false])]
set_option maxRecDepth 100000 in
theorem qg_M_shared_87 {ρ : Type} (kr : Int → zH → Option ρ) (t0 : Int) (h : zH) : (kr t0 h) = zseg zPP false (zcal []) (zget (999, 0, 0, 0) zc_M_shared) (zcut zu_M_shared) (zorc []) kr (fun _ _ => none) 400 87 [none, none, none, none, none] [(0, t0)] h := by rfl
set_option maxRecDepth 100000 in
theorem qe_M_shared_87 {ρ : Type} (kr : Int → zH → Option ρ) (t0 : Int) (h : zH) : M_shared_87 kr t0 h = zseg zPP false (zcal []) (zget (999, 0, 0, 0) zc_M_shared) (zcut zu_M_shared) (zorc []) kr (fun _ _ => none) 400 87 [none, none, none, none, none] [(0, t0)] h := qg_M_shared_87 kr t0 h
set_option maxRecDepth 100000 in
theorem qg_M_shared_64 {ρ : Type} (kr : Int → zH → Option ρ) (F_M_fails : Int → Int → zH → (Int → zH → Option ρ) → Option ρ) (c87 : Int → zH → Option ρ) (a3 a4 t0 : Int) (h : zH) : (F_M_fails t0 1 h  fun v1 h2 =>
if v1 = 0 then (zix 1152 (wr ((wr (16 * a4)) + a3)) fun j3 =>
c87 (zhD h2 92 0 j3) h2)
else c87 0 h2) = zseg zPP false (zcal [(65, [some 0, none, none], fun xs h kr kt => match xs with
  | [x1, x2] => F_M_fails x1 x2 h kr
  | _ => none)]) (zget (999, 0, 0, 0) zc_M_shared) (zcut zu_M_shared) (zorc [(87, [none, none, none, none, none], [(0, none)], fun xs h => match xs with
  | [t0] => c87 t0 h
  | _ => none)]) kr (fun _ _ => none) 400 64 [some (112, 0), none, none, some (0, a3), some (0, a4)] [(0, t0), (112, 0)] h := by rfl
set_option maxRecDepth 100000 in
theorem qe_M_shared_64 {ρ : Type} (kr : Int → zH → Option ρ) (a3 a4 t0 : Int) (h : zH) : M_shared_64 kr a3 a4 t0 h = zseg zPP false (zcal [(65, [some 0, none, none], fun xs h kr kt => match xs with
  | [x1, x2] => M_fails x1 x2 h kr
  | _ => none)]) (zget (999, 0, 0, 0) zc_M_shared) (zcut zu_M_shared) (zorc [(87, [none, none, none, none, none], [(0, none)], fun xs h => match xs with
  | [t0] => M_shared_87 kr t0 h
  | _ => none)]) kr (fun _ _ => none) 400 64 [some (112, 0), none, none, some (0, a3), some (0, a4)] [(0, t0), (112, 0)] h := qg_M_shared_64 kr M_fails (M_shared_87 kr) a3 a4 t0 h
set_option maxRecDepth 100000 in
theorem qg_M_shared {ρ : Type} (kr : Int → zH → Option ρ) (F_M_in : Int → Int → Int → zH → (Int → zH → Option ρ) → Option ρ) (F_M_fails : Int → Int → zH → (Int → zH → Option ρ) → Option ρ) (F_M_noGroup : Int → Int → zH → (Int → zH → Option ρ) → Option ρ) (c64 : Int → Int → Int → zH → Option ρ) (a1 a2 a3 : Int) (h : zH) : (zlet (zset h 12 0 0 0) fun h1 =>
F_M_noGroup a1 a2 h1  fun v2 h3 =>
F_M_fails v2 1 h3  fun v4 h5 =>
if v4 = 0 then (zix 8 (wr ((wr (4 * a1)) + a2)) fun j6 =>
zix 12 (wr (Int.tdiv (zhD h5 94 0 j6) 6)) fun j7 =>
zix 4 (zhD h5 70 0 j7) fun j8 =>
F_M_in a3 0 (wr ((zhD h5 62 0 j8) - 1)) h5  fun v9 h10 =>
if v9 = 0 then c64 a3 (zhD h5 94 0 j6) 1 h10
else c64 a3 (zhD h5 94 0 j6) 0 h10)
else kr 0 h5) = zseg zPP false (zcal [(64, [none, none, none], fun xs h kr kt => match xs with
  | [x0, x1, x2] => F_M_in x0 x1 x2 h kr
  | _ => none), (65, [some 0, none, none], fun xs h kr kt => match xs with
  | [x1, x2] => F_M_fails x1 x2 h kr
  | _ => none), (143, [some 0, none, none], fun xs h kr kt => match xs with
  | [x1, x2] => F_M_noGroup x1 x2 h kr
  | _ => none)]) (zget (999, 0, 0, 0) zc_M_shared) (zcut zu_M_shared) (zorc [(64, [some (112, some 0), none, none, some (0, none), some (0, none)], [(0, none), (112, some 0)], fun xs h => match xs with
  | [a3, a4, t0] => c64 a3 a4 t0 h
  | _ => none)]) kr (fun _ _ => none) 400 0 [some (112, 0), some (0, a1), some (0, a2), some (0, a3), none] [] h := by rfl
set_option maxRecDepth 100000 in
theorem qe_M_shared {ρ : Type} (kr : Int → zH → Option ρ) (a1 a2 a3 : Int) (h : zH) : M_shared a1 a2 a3 h kr = zseg zPP false (zcal [(64, [none, none, none], fun xs h kr kt => match xs with
  | [x0, x1, x2] => M_in x0 x1 x2 h kr
  | _ => none), (65, [some 0, none, none], fun xs h kr kt => match xs with
  | [x1, x2] => M_fails x1 x2 h kr
  | _ => none), (143, [some 0, none, none], fun xs h kr kt => match xs with
  | [x1, x2] => M_noGroup x1 x2 h kr
  | _ => none)]) (zget (999, 0, 0, 0) zc_M_shared) (zcut zu_M_shared) (zorc [(64, [some (112, some 0), none, none, some (0, none), some (0, none)], [(0, none), (112, some 0)], fun xs h => match xs with
  | [a3, a4, t0] => M_shared_64 kr a3 a4 t0 h
  | _ => none)]) kr (fun _ _ => none) 400 0 [some (112, 0), some (0, a1), some (0, a2), some (0, a3), none] [] h := qg_M_shared kr M_in M_fails M_noGroup (M_shared_64 kr) a1 a2 a3 h
def zc_M_buffered : List zI := [(14, 0, 0, 112), (0, 0, 0, 0), (82, 12, 185, 0), (999, 0, 0, 0), (999, 0, 0, 0), (14, 0, 0, 112), (14, 0, 0, 112), (10, 0, 1, 0), (10, 0, 2, 0), (110, 0, 453, 143), (999, 0, 0, 0), (999, 0, 0, 0), (0, 1, 0, 0), (110, 0, 199, 65), (999, 0, 0, 0), (999, 0, 0, 0), (60, 7, 23, 0), (999, 0, 0, 0), (999, 0, 0, 0), (0, 0, 0, 0), (72, 13, 33, 0), (999, 0, 0, 0), (999, 0, 0, 0), (14, 0, 0, 112), (80, 12, 127, 42), (999, 0, 0, 0), (999, 0, 0, 0), (0, 4, 0, 0), (10, 0, 1, 0), (32, 0, 0, 0), (10, 0, 2, 0), (30, 0, 0, 0), (90, 0, 0, 97), (130, 0, 0, 0)]
def zu_M_buffered : List (Nat × List Bool) := [(33, [false, false, false])]
set_option maxRecDepth 100000 in
theorem qg_M_buffered_33 {ρ : Type} (kr : Int → zH → Option ρ) (t0 : Int) (h : zH) : (kr t0 h) = zseg zPP false (zcal []) (zget (999, 0, 0, 0) zc_M_buffered) (zcut zu_M_buffered) (zorc []) kr (fun _ _ => none) 400 33 [none, none, none] [(0, t0)] h := by rfl
set_option maxRecDepth 100000 in
theorem qe_M_buffered_33 {ρ : Type} (kr : Int → zH → Option ρ) (t0 : Int) (h : zH) : M_buffered_33 kr t0 h = zseg zPP false (zcal []) (zget (999, 0, 0, 0) zc_M_buffered) (zcut zu_M_buffered) (zorc []) kr (fun _ _ => none) 400 33 [none, none, none] [(0, t0)] h := qg_M_buffered_33 kr t0 h
set_option maxRecDepth 100000 in
theorem qg_M_buffered {ρ : Type} (kr : Int → zH → Option ρ) (F_M_fails : Int → Int → zH → (Int → zH → Option ρ) → Option ρ) (F_M_noGroup : Int → Int → zH → (Int → zH → Option ρ) → Option ρ) (c33 : Int → zH → Option ρ) (a1 a2 : Int) (h : zH) : (zlet (zset h 12 0 0 0) fun h1 =>
F_M_noGroup a1 a2 h1  fun v2 h3 =>
F_M_fails v2 1 h3  fun v4 h5 =>
if v4 = 0 then (zix 8 (wr ((wr (4 * a1)) + a2)) fun j6 =>
c33 (zhD h5 97 0 j6) h5)
else c33 0 h5) = zseg zPP false (zcal [(65, [some 0, none, none], fun xs h kr kt => match xs with
  | [x1, x2] => F_M_fails x1 x2 h kr
  | _ => none), (143, [some 0, none, none], fun xs h kr kt => match xs with
  | [x1, x2] => F_M_noGroup x1 x2 h kr
  | _ => none)]) (zget (999, 0, 0, 0) zc_M_buffered) (zcut zu_M_buffered) (zorc [(33, [none, none, none], [(0, none)], fun xs h => match xs with
  | [t0] => c33 t0 h
  | _ => none)]) kr (fun _ _ => none) 400 0 [some (112, 0), some (0, a1), some (0, a2)] [] h := by rfl
set_option maxRecDepth 100000 in
theorem qe_M_buffered {ρ : Type} (kr : Int → zH → Option ρ) (a1 a2 : Int) (h : zH) : M_buffered a1 a2 h kr = zseg zPP false (zcal [(65, [some 0, none, none], fun xs h kr kt => match xs with
  | [x1, x2] => M_fails x1 x2 h kr
  | _ => none), (143, [some 0, none, none], fun xs h kr kt => match xs with
  | [x1, x2] => M_noGroup x1 x2 h kr
  | _ => none)]) (zget (999, 0, 0, 0) zc_M_buffered) (zcut zu_M_buffered) (zorc [(33, [none, none, none], [(0, none)], fun xs h => match xs with
  | [t0] => M_buffered_33 kr t0 h
  | _ => none)]) kr (fun _ _ => none) 400 0 [some (112, 0), some (0, a1), some (0, a2)] [] h := qg_M_buffered kr M_fails M_noGroup (M_buffered_33 kr) a1 a2 h
def zc_M_fault : List zI := [(14, 0, 0, 112), (0, 0, 0, 0), (82, 12, 185, 0), (999, 0, 0, 0), (999, 0, 0, 0), (14, 0, 0, 112), (14, 0, 0, 112), (10, 0, 1, 0), (110, 0, 228, 67), (999, 0, 0, 0), (999, 0, 0, 0), (0, 1, 0, 0), (110, 0, 199, 65), (999, 0, 0, 0), (999, 0, 0, 0), (61, 27, 42, 0), (999, 0, 0, 0), (999, 0, 0, 0), (14, 0, 0, 112), (14, 0, 0, 112), (80, 12, 43, 14), (999, 0, 0, 0), (999, 0, 0, 0), (10, 0, 1, 0), (92, 0, 0, 69), (1, 102, 0, 0), (999, 0, 0, 0), (66, 7, 34, 0), (999, 0, 0, 0), (999, 0, 0, 0), (0, 1, 0, 0), (72, 4, 35, 0), (999, 0, 0, 0), (999, 0, 0, 0), (0, 0, 0, 0), (0, 2, 0, 0), (110, 0, 199, 65), (999, 0, 0, 0), (999, 0, 0, 0), (60, 7, 46, 0), (999, 0, 0, 0), (999, 0, 0, 0), (0, 0, 0, 0), (72, 9, 52, 0), (999, 0, 0, 0), (999, 0, 0, 0), (14, 0, 0, 112), (80, 12, 88, 29), (999, 0, 0, 0), (999, 0, 0, 0), (10, 0, 1, 0), (92, 0, 0, 84), (130, 0, 2, 0)]
def zu_M_fault : List (Nat × List Bool) := [(35, [true, true]), (42, [false, false]), (52, [false, false])]
set_option maxRecDepth 100000 in
theorem qg_M_fault_52 {ρ : Type} (kr : Int → zH → Option ρ) (t0 : Int) (h : zH) : (znar 2 t0 fun x1 => kr x1 h) = zseg zPP false (zcal []) (zget (999, 0, 0, 0) zc_M_fault) (zcut zu_M_fault) (zorc []) kr (fun _ _ => none) 400 52 [none, none] [(0, t0)] h := by rfl
set_option maxRecDepth 100000 in
theorem qe_M_fault_52 {ρ : Type} (kr : Int → zH → Option ρ) (t0 : Int) (h : zH) : M_fault_52 kr t0 h = zseg zPP false (zcal []) (zget (999, 0, 0, 0) zc_M_fault) (zcut zu_M_fault) (zorc []) kr (fun _ _ => none) 400 52 [none, none] [(0, t0)] h := qg_M_fault_52 kr t0 h
set_option maxRecDepth 100000 in
theorem qg_M_fault_42 {ρ : Type} (kr : Int → zH → Option ρ) (c52 : Int → zH → Option ρ) (h : zH) : (c52 0 h) = zseg zPP false (zcal []) (zget (999, 0, 0, 0) zc_M_fault) (zcut zu_M_fault) (zorc [(52, [none, none], [(0, none)], fun xs h => match xs with
  | [t0] => c52 t0 h
  | _ => none)]) kr (fun _ _ => none) 400 42 [none, none] [] h := by rfl
set_option maxRecDepth 100000 in
theorem qe_M_fault_42 {ρ : Type} (kr : Int → zH → Option ρ) (h : zH) : M_fault_42 kr h = zseg zPP false (zcal []) (zget (999, 0, 0, 0) zc_M_fault) (zcut zu_M_fault) (zorc [(52, [none, none], [(0, none)], fun xs h => match xs with
  | [t0] => M_fault_52 kr t0 h
  | _ => none)]) kr (fun _ _ => none) 400 42 [none, none] [] h := qg_M_fault_42 kr (M_fault_52 kr) h
set_option maxRecDepth 100000 in
theorem qg_M_fault_35 {ρ : Type} (kr : Int → zH → Option ρ) (F_M_fails : Int → Int → zH → (Int → zH → Option ρ) → Option ρ) (c42 : zH → Option ρ) (c52 : Int → zH → Option ρ) (a1 t0 : Int) (h : zH) : (F_M_fails t0 2 h  fun v1 h2 =>
if v1 = 0 then (zix 12 a1 fun j3 =>
c52 (zhD h2 84 0 j3) h2)
else c42 h2) = zseg zPP false (zcal [(65, [some 0, none, none], fun xs h kr kt => match xs with
  | [x1, x2] => F_M_fails x1 x2 h kr
  | _ => none)]) (zget (999, 0, 0, 0) zc_M_fault) (zcut zu_M_fault) (zorc [(42, [none, none], [], fun xs h => match xs with
  | [] => c42 h
  | _ => none), (52, [none, none], [(0, none)], fun xs h => match xs with
  | [t0] => c52 t0 h
  | _ => none)]) kr (fun _ _ => none) 400 35 [some (112, 0), some (0, a1)] [(0, t0), (112, 0)] h := by rfl
set_option maxRecDepth 100000 in
theorem qe_M_fault_35 {ρ : Type} (kr : Int → zH → Option ρ) (a1 t0 : Int) (h : zH) : M_fault_35 kr a1 t0 h = zseg zPP false (zcal [(65, [some 0, none, none], fun xs h kr kt => match xs with
  | [x1, x2] => M_fails x1 x2 h kr
  | _ => none)]) (zget (999, 0, 0, 0) zc_M_fault) (zcut zu_M_fault) (zorc [(42, [none, none], [], fun xs h => match xs with
  | [] => M_fault_42 kr h
  | _ => none), (52, [none, none], [(0, none)], fun xs h => match xs with
  | [t0] => M_fault_52 kr t0 h
  | _ => none)]) kr (fun _ _ => none) 400 35 [some (112, 0), some (0, a1)] [(0, t0), (112, 0)] h := qg_M_fault_35 kr M_fails (M_fault_42 kr) (M_fault_52 kr) a1 t0 h
set_option maxRecDepth 100000 in
theorem qg_M_fault {ρ : Type} (kr : Int → zH → Option ρ) (F_M_fails : Int → Int → zH → (Int → zH → Option ρ) → Option ρ) (F_M_noLaunch : Int → zH → (Int → zH → Option ρ) → Option ρ) (c35 : Int → Int → zH → Option ρ) (c42 : zH → Option ρ) (a1 : Int) (h : zH) : (zlet (zset h 12 0 0 0) fun h1 =>
F_M_noLaunch a1 h1  fun v2 h3 =>
F_M_fails v2 1 h3  fun v4 h5 =>
if v4 = 0 then (zix 12 a1 fun j6 =>
if (zhD h5 69 0 j6) = 102 then c35 a1 0 h5
else c35 a1 1 h5)
else c42 h5) = zseg zPP false (zcal [(65, [some 0, none, none], fun xs h kr kt => match xs with
  | [x1, x2] => F_M_fails x1 x2 h kr
  | _ => none), (67, [some 0, none], fun xs h kr kt => match xs with
  | [x1] => F_M_noLaunch x1 h kr
  | _ => none)]) (zget (999, 0, 0, 0) zc_M_fault) (zcut zu_M_fault) (zorc [(35, [some (112, some 0), some (0, none)], [(0, none), (112, some 0)], fun xs h => match xs with
  | [a1, t0] => c35 a1 t0 h
  | _ => none), (42, [none, none], [], fun xs h => match xs with
  | [] => c42 h
  | _ => none)]) kr (fun _ _ => none) 400 0 [some (112, 0), some (0, a1)] [] h := by rfl
set_option maxRecDepth 100000 in
theorem qe_M_fault {ρ : Type} (kr : Int → zH → Option ρ) (a1 : Int) (h : zH) : M_fault a1 h kr = zseg zPP false (zcal [(65, [some 0, none, none], fun xs h kr kt => match xs with
  | [x1, x2] => M_fails x1 x2 h kr
  | _ => none), (67, [some 0, none], fun xs h kr kt => match xs with
  | [x1] => M_noLaunch x1 h kr
  | _ => none)]) (zget (999, 0, 0, 0) zc_M_fault) (zcut zu_M_fault) (zorc [(35, [some (112, some 0), some (0, none)], [(0, none), (112, some 0)], fun xs h => match xs with
  | [a1, t0] => M_fault_35 kr a1 t0 h
  | _ => none), (42, [none, none], [], fun xs h => match xs with
  | [] => M_fault_42 kr h
  | _ => none)]) kr (fun _ _ => none) 400 0 [some (112, 0), some (0, a1)] [] h := qg_M_fault kr M_fails M_noLaunch (M_fault_35 kr) (M_fault_42 kr) a1 h
def zc_M_faultAt : List zI := [(14, 0, 0, 112), (0, 0, 0, 0), (82, 12, 185, 0), (999, 0, 0, 0), (999, 0, 0, 0), (14, 0, 0, 112), (14, 0, 0, 112), (10, 0, 1, 0), (110, 0, 228, 67), (999, 0, 0, 0), (999, 0, 0, 0), (0, 1, 0, 0), (110, 0, 199, 65), (999, 0, 0, 0), (999, 0, 0, 0), (61, 27, 42, 0), (999, 0, 0, 0), (999, 0, 0, 0), (14, 0, 0, 112), (14, 0, 0, 112), (80, 12, 43, 14), (999, 0, 0, 0), (999, 0, 0, 0), (10, 0, 1, 0), (92, 0, 0, 69), (1, 102, 0, 0), (999, 0, 0, 0), (66, 7, 34, 0), (999, 0, 0, 0), (999, 0, 0, 0), (0, 1, 0, 0), (72, 4, 35, 0), (999, 0, 0, 0), (999, 0, 0, 0), (0, 0, 0, 0), (0, 2, 0, 0), (110, 0, 199, 65), (999, 0, 0, 0), (999, 0, 0, 0), (60, 7, 46, 0), (999, 0, 0, 0), (999, 0, 0, 0), (0, 0, 0, 0), (72, 9, 52, 0), (999, 0, 0, 0), (999, 0, 0, 0), (14, 0, 0, 112), (80, 12, 91, 30), (999, 0, 0, 0), (999, 0, 0, 0), (10, 0, 1, 0), (90, 0, 0, 85), (130, 0, 0, 0)]
def zu_M_faultAt : List (Nat × List Bool) := [(35, [true, true]), (42, [false, false]), (52, [false, false])]
set_option maxRecDepth 100000 in
theorem qg_M_faultAt_52 {ρ : Type} (kr : Int → zH → Option ρ) (t0 : Int) (h : zH) : (kr t0 h) = zseg zPP false (zcal []) (zget (999, 0, 0, 0) zc_M_faultAt) (zcut zu_M_faultAt) (zorc []) kr (fun _ _ => none) 400 52 [none, none] [(0, t0)] h := by rfl
set_option maxRecDepth 100000 in
theorem qe_M_faultAt_52 {ρ : Type} (kr : Int → zH → Option ρ) (t0 : Int) (h : zH) : M_faultAt_52 kr t0 h = zseg zPP false (zcal []) (zget (999, 0, 0, 0) zc_M_faultAt) (zcut zu_M_faultAt) (zorc []) kr (fun _ _ => none) 400 52 [none, none] [(0, t0)] h := qg_M_faultAt_52 kr t0 h
set_option maxRecDepth 100000 in
theorem qg_M_faultAt_42 {ρ : Type} (kr : Int → zH → Option ρ) (c52 : Int → zH → Option ρ) (h : zH) : (c52 0 h) = zseg zPP false (zcal []) (zget (999, 0, 0, 0) zc_M_faultAt) (zcut zu_M_faultAt) (zorc [(52, [none, none], [(0, none)], fun xs h => match xs with
  | [t0] => c52 t0 h
  | _ => none)]) kr (fun _ _ => none) 400 42 [none, none] [] h := by rfl
set_option maxRecDepth 100000 in
theorem qe_M_faultAt_42 {ρ : Type} (kr : Int → zH → Option ρ) (h : zH) : M_faultAt_42 kr h = zseg zPP false (zcal []) (zget (999, 0, 0, 0) zc_M_faultAt) (zcut zu_M_faultAt) (zorc [(52, [none, none], [(0, none)], fun xs h => match xs with
  | [t0] => M_faultAt_52 kr t0 h
  | _ => none)]) kr (fun _ _ => none) 400 42 [none, none] [] h := qg_M_faultAt_42 kr (M_faultAt_52 kr) h
set_option maxRecDepth 100000 in
theorem qg_M_faultAt_35 {ρ : Type} (kr : Int → zH → Option ρ) (F_M_fails : Int → Int → zH → (Int → zH → Option ρ) → Option ρ) (c42 : zH → Option ρ) (c52 : Int → zH → Option ρ) (a1 t0 : Int) (h : zH) : (F_M_fails t0 2 h  fun v1 h2 =>
if v1 = 0 then (zix 12 a1 fun j3 =>
c52 (zhD h2 85 0 j3) h2)
else c42 h2) = zseg zPP false (zcal [(65, [some 0, none, none], fun xs h kr kt => match xs with
  | [x1, x2] => F_M_fails x1 x2 h kr
  | _ => none)]) (zget (999, 0, 0, 0) zc_M_faultAt) (zcut zu_M_faultAt) (zorc [(42, [none, none], [], fun xs h => match xs with
  | [] => c42 h
  | _ => none), (52, [none, none], [(0, none)], fun xs h => match xs with
  | [t0] => c52 t0 h
  | _ => none)]) kr (fun _ _ => none) 400 35 [some (112, 0), some (0, a1)] [(0, t0), (112, 0)] h := by rfl
set_option maxRecDepth 100000 in
theorem qe_M_faultAt_35 {ρ : Type} (kr : Int → zH → Option ρ) (a1 t0 : Int) (h : zH) : M_faultAt_35 kr a1 t0 h = zseg zPP false (zcal [(65, [some 0, none, none], fun xs h kr kt => match xs with
  | [x1, x2] => M_fails x1 x2 h kr
  | _ => none)]) (zget (999, 0, 0, 0) zc_M_faultAt) (zcut zu_M_faultAt) (zorc [(42, [none, none], [], fun xs h => match xs with
  | [] => M_faultAt_42 kr h
  | _ => none), (52, [none, none], [(0, none)], fun xs h => match xs with
  | [t0] => M_faultAt_52 kr t0 h
  | _ => none)]) kr (fun _ _ => none) 400 35 [some (112, 0), some (0, a1)] [(0, t0), (112, 0)] h := qg_M_faultAt_35 kr M_fails (M_faultAt_42 kr) (M_faultAt_52 kr) a1 t0 h
set_option maxRecDepth 100000 in
theorem qg_M_faultAt {ρ : Type} (kr : Int → zH → Option ρ) (F_M_fails : Int → Int → zH → (Int → zH → Option ρ) → Option ρ) (F_M_noLaunch : Int → zH → (Int → zH → Option ρ) → Option ρ) (c35 : Int → Int → zH → Option ρ) (c42 : zH → Option ρ) (a1 : Int) (h : zH) : (zlet (zset h 12 0 0 0) fun h1 =>
F_M_noLaunch a1 h1  fun v2 h3 =>
F_M_fails v2 1 h3  fun v4 h5 =>
if v4 = 0 then (zix 12 a1 fun j6 =>
if (zhD h5 69 0 j6) = 102 then c35 a1 0 h5
else c35 a1 1 h5)
else c42 h5) = zseg zPP false (zcal [(65, [some 0, none, none], fun xs h kr kt => match xs with
  | [x1, x2] => F_M_fails x1 x2 h kr
  | _ => none), (67, [some 0, none], fun xs h kr kt => match xs with
  | [x1] => F_M_noLaunch x1 h kr
  | _ => none)]) (zget (999, 0, 0, 0) zc_M_faultAt) (zcut zu_M_faultAt) (zorc [(35, [some (112, some 0), some (0, none)], [(0, none), (112, some 0)], fun xs h => match xs with
  | [a1, t0] => c35 a1 t0 h
  | _ => none), (42, [none, none], [], fun xs h => match xs with
  | [] => c42 h
  | _ => none)]) kr (fun _ _ => none) 400 0 [some (112, 0), some (0, a1)] [] h := by rfl
set_option maxRecDepth 100000 in
theorem qe_M_faultAt {ρ : Type} (kr : Int → zH → Option ρ) (a1 : Int) (h : zH) : M_faultAt a1 h kr = zseg zPP false (zcal [(65, [some 0, none, none], fun xs h kr kt => match xs with
  | [x1, x2] => M_fails x1 x2 h kr
  | _ => none), (67, [some 0, none], fun xs h kr kt => match xs with
  | [x1] => M_noLaunch x1 h kr
  | _ => none)]) (zget (999, 0, 0, 0) zc_M_faultAt) (zcut zu_M_faultAt) (zorc [(35, [some (112, some 0), some (0, none)], [(0, none), (112, some 0)], fun xs h => match xs with
  | [a1, t0] => M_faultAt_35 kr a1 t0 h
  | _ => none), (42, [none, none], [], fun xs h => match xs with
  | [] => M_faultAt_42 kr h
  | _ => none)]) kr (fun _ _ => none) 400 0 [some (112, 0), some (0, a1)] [] h := qg_M_faultAt kr M_fails M_noLaunch (M_faultAt_35 kr) (M_faultAt_42 kr) a1 h
def zc_M_isRacing : List zI := [(14, 0, 0, 112), (0, 0, 0, 0), (82, 12, 185, 0), (999, 0, 0, 0), (999, 0, 0, 0), (14, 0, 0, 112), (14, 0, 0, 112), (10, 0, 1, 0), (110, 0, 228, 67), (999, 0, 0, 0), (999, 0, 0, 0), (61, 10, 21, 0), (999, 0, 0, 0), (999, 0, 0, 0), (10, 0, 2, 0), (113, 0, 222, 68), (999, 0, 0, 0), (999, 0, 0, 0), (60, 7, 25, 0), (999, 0, 0, 0), (999, 0, 0, 0), (0, 1, 0, 0), (72, 4, 26, 0), (999, 0, 0, 0), (999, 0, 0, 0), (0, 0, 0, 0), (0, 1, 0, 0), (110, 0, 199, 65), (999, 0, 0, 0), (999, 0, 0, 0), (61, 21, 51, 0), (999, 0, 0, 0), (999, 0, 0, 0), (14, 0, 0, 112), (80, 12, 152, 50), (999, 0, 0, 0), (999, 0, 0, 0), (1, 64, 0, 0), (999, 0, 0, 0), (10, 0, 1, 0), (32, 0, 0, 0), (10, 0, 2, 0), (30, 0, 0, 0), (91, 0, 0, 105), (60, 7, 51, 0), (999, 0, 0, 0), (999, 0, 0, 0), (0, 1, 0, 0), (72, 4, 52, 0), (999, 0, 0, 0), (999, 0, 0, 0), (0, 0, 0, 0), (130, 0, 1, 0)]
def zu_M_isRacing : List (Nat × List Bool) := [(21, [true, true, true]), (26, [true, true, true]), (51, [false, false, false]), (52, [false, false, false])]
set_option maxRecDepth 100000 in
theorem qg_M_isRacing_52 {ρ : Type} (kr : Int → zH → Option ρ) (t0 : Int) (h : zH) : (znar 1 t0 fun x1 => kr x1 h) = zseg zPP false (zcal []) (zget (999, 0, 0, 0) zc_M_isRacing) (zcut zu_M_isRacing) (zorc []) kr (fun _ _ => none) 400 52 [none, none, none] [(0, t0)] h := by rfl
set_option maxRecDepth 100000 in
theorem qe_M_isRacing_52 {ρ : Type} (kr : Int → zH → Option ρ) (t0 : Int) (h : zH) : M_isRacing_52 kr t0 h = zseg zPP false (zcal []) (zget (999, 0, 0, 0) zc_M_isRacing) (zcut zu_M_isRacing) (zorc []) kr (fun _ _ => none) 400 52 [none, none, none] [(0, t0)] h := qg_M_isRacing_52 kr t0 h
set_option maxRecDepth 100000 in
theorem qg_M_isRacing_51 {ρ : Type} (kr : Int → zH → Option ρ) (c52 : Int → zH → Option ρ) (h : zH) : (c52 0 h) = zseg zPP false (zcal []) (zget (999, 0, 0, 0) zc_M_isRacing) (zcut zu_M_isRacing) (zorc [(52, [none, none, none], [(0, none)], fun xs h => match xs with
  | [t0] => c52 t0 h
  | _ => none)]) kr (fun _ _ => none) 400 51 [none, none, none] [] h := by rfl
set_option maxRecDepth 100000 in
theorem qe_M_isRacing_51 {ρ : Type} (kr : Int → zH → Option ρ) (h : zH) : M_isRacing_51 kr h = zseg zPP false (zcal []) (zget (999, 0, 0, 0) zc_M_isRacing) (zcut zu_M_isRacing) (zorc [(52, [none, none, none], [(0, none)], fun xs h => match xs with
  | [t0] => M_isRacing_52 kr t0 h
  | _ => none)]) kr (fun _ _ => none) 400 51 [none, none, none] [] h := qg_M_isRacing_51 kr (M_isRacing_52 kr) h
set_option maxRecDepth 100000 in
theorem qg_M_isRacing_26 {ρ : Type} (kr : Int → zH → Option ρ) (F_M_fails : Int → Int → zH → (Int → zH → Option ρ) → Option ρ) (c51 : zH → Option ρ) (c52 : Int → zH → Option ρ) (a1 a2 t0 : Int) (h : zH) : (F_M_fails t0 1 h  fun v1 h2 =>
if v1 = 0 then (zix 768 (wr ((wr (64 * a1)) + a2)) fun j3 =>
if (zhD h2 105 0 j3) = 0 then c51 h2
else c52 1 h2)
else c51 h2) = zseg zPP false (zcal [(65, [some 0, none, none], fun xs h kr kt => match xs with
  | [x1, x2] => F_M_fails x1 x2 h kr
  | _ => none)]) (zget (999, 0, 0, 0) zc_M_isRacing) (zcut zu_M_isRacing) (zorc [(51, [none, none, none], [], fun xs h => match xs with
  | [] => c51 h
  | _ => none), (52, [none, none, none], [(0, none)], fun xs h => match xs with
  | [t0] => c52 t0 h
  | _ => none)]) kr (fun _ _ => none) 400 26 [some (112, 0), some (0, a1), some (0, a2)] [(0, t0), (112, 0)] h := by rfl
set_option maxRecDepth 100000 in
theorem qe_M_isRacing_26 {ρ : Type} (kr : Int → zH → Option ρ) (a1 a2 t0 : Int) (h : zH) : M_isRacing_26 kr a1 a2 t0 h = zseg zPP false (zcal [(65, [some 0, none, none], fun xs h kr kt => match xs with
  | [x1, x2] => M_fails x1 x2 h kr
  | _ => none)]) (zget (999, 0, 0, 0) zc_M_isRacing) (zcut zu_M_isRacing) (zorc [(51, [none, none, none], [], fun xs h => match xs with
  | [] => M_isRacing_51 kr h
  | _ => none), (52, [none, none, none], [(0, none)], fun xs h => match xs with
  | [t0] => M_isRacing_52 kr t0 h
  | _ => none)]) kr (fun _ _ => none) 400 26 [some (112, 0), some (0, a1), some (0, a2)] [(0, t0), (112, 0)] h := qg_M_isRacing_26 kr M_fails (M_isRacing_51 kr) (M_isRacing_52 kr) a1 a2 t0 h
set_option maxRecDepth 100000 in
theorem qg_M_isRacing_21 {ρ : Type} (kr : Int → zH → Option ρ) (c26 : Int → Int → Int → zH → Option ρ) (a1 a2 : Int) (h : zH) : (c26 a1 a2 1 h) = zseg zPP false (zcal []) (zget (999, 0, 0, 0) zc_M_isRacing) (zcut zu_M_isRacing) (zorc [(26, [some (112, some 0), some (0, none), some (0, none)], [(0, none), (112, some 0)], fun xs h => match xs with
  | [a1, a2, t0] => c26 a1 a2 t0 h
  | _ => none)]) kr (fun _ _ => none) 400 21 [some (112, 0), some (0, a1), some (0, a2)] [(112, 0)] h := by rfl
set_option maxRecDepth 100000 in
theorem qe_M_isRacing_21 {ρ : Type} (kr : Int → zH → Option ρ) (a1 a2 : Int) (h : zH) : M_isRacing_21 kr a1 a2 h = zseg zPP false (zcal []) (zget (999, 0, 0, 0) zc_M_isRacing) (zcut zu_M_isRacing) (zorc [(26, [some (112, some 0), some (0, none), some (0, none)], [(0, none), (112, some 0)], fun xs h => match xs with
  | [a1, a2, t0] => M_isRacing_26 kr a1 a2 t0 h
  | _ => none)]) kr (fun _ _ => none) 400 21 [some (112, 0), some (0, a1), some (0, a2)] [(112, 0)] h := qg_M_isRacing_21 kr (M_isRacing_26 kr) a1 a2 h
set_option maxRecDepth 100000 in
theorem qg_M_isRacing {ρ : Type} (kr : Int → zH → Option ρ) (F_M_noLaunch : Int → zH → (Int → zH → Option ρ) → Option ρ) (F_M_noCell : Int → zH → (Int → zH → Option ρ) → Option ρ) (c21 : Int → Int → zH → Option ρ) (c26 : Int → Int → Int → zH → Option ρ) (a1 a2 : Int) (h : zH) : (zlet (zset h 12 0 0 0) fun h1 =>
F_M_noLaunch a1 h1  fun v2 h3 =>
if v2 = 0 then (F_M_noCell a2 h3  fun v4 h5 =>
if v4 = 0 then c26 a1 a2 0 h5
else c21 a1 a2 h5)
else c21 a1 a2 h3) = zseg zPP false (zcal [(67, [some 0, none], fun xs h kr kt => match xs with
  | [x1] => F_M_noLaunch x1 h kr
  | _ => none), (68, [none], fun xs h kr kt => match xs with
  | [x0] => F_M_noCell x0 h kr
  | _ => none)]) (zget (999, 0, 0, 0) zc_M_isRacing) (zcut zu_M_isRacing) (zorc [(21, [some (112, some 0), some (0, none), some (0, none)], [(112, some 0)], fun xs h => match xs with
  | [a1, a2] => c21 a1 a2 h
  | _ => none), (26, [some (112, some 0), some (0, none), some (0, none)], [(0, none), (112, some 0)], fun xs h => match xs with
  | [a1, a2, t0] => c26 a1 a2 t0 h
  | _ => none)]) kr (fun _ _ => none) 400 0 [some (112, 0), some (0, a1), some (0, a2)] [] h := by rfl
set_option maxRecDepth 100000 in
theorem qe_M_isRacing {ρ : Type} (kr : Int → zH → Option ρ) (a1 a2 : Int) (h : zH) : M_isRacing a1 a2 h kr = zseg zPP false (zcal [(67, [some 0, none], fun xs h kr kt => match xs with
  | [x1] => M_noLaunch x1 h kr
  | _ => none), (68, [none], fun xs h kr kt => match xs with
  | [x0] => M_noCell x0 h kr
  | _ => none)]) (zget (999, 0, 0, 0) zc_M_isRacing) (zcut zu_M_isRacing) (zorc [(21, [some (112, some 0), some (0, none), some (0, none)], [(112, some 0)], fun xs h => match xs with
  | [a1, a2] => M_isRacing_21 kr a1 a2 h
  | _ => none), (26, [some (112, some 0), some (0, none), some (0, none)], [(0, none), (112, some 0)], fun xs h => match xs with
  | [a1, a2, t0] => M_isRacing_26 kr a1 a2 t0 h
  | _ => none)]) kr (fun _ _ => none) 400 0 [some (112, 0), some (0, a1), some (0, a2)] [] h := qg_M_isRacing kr M_noLaunch M_noCell (M_isRacing_21 kr) (M_isRacing_26 kr) a1 a2 h
def zc_M_races : List zI := [(14, 0, 0, 112), (0, 0, 0, 0), (82, 12, 185, 0), (999, 0, 0, 0), (999, 0, 0, 0), (14, 0, 0, 112), (14, 0, 0, 112), (10, 0, 1, 0), (110, 0, 228, 67), (999, 0, 0, 0), (999, 0, 0, 0), (0, 1, 0, 0), (110, 0, 199, 65), (999, 0, 0, 0), (999, 0, 0, 0), (60, 5, 20, 0), (999, 0, 0, 0), (999, 0, 0, 0), (0, 0, 0, 0), (130, 0, 0, 0), (0, 0, 0, 0), (16, 0, 2, 0), (0, 0, 0, 0), (16, 0, 3, 0), (10, 0, 3, 0), (1, 64, 0, 0), (999, 0, 0, 0), (69, 31, 58, 0), (999, 0, 0, 0), (999, 0, 0, 0), (10, 0, 2, 0), (14, 0, 0, 112), (80, 12, 152, 50), (999, 0, 0, 0), (999, 0, 0, 0), (1, 64, 0, 0), (999, 0, 0, 0), (10, 0, 1, 0), (32, 0, 0, 0), (10, 0, 3, 0), (30, 0, 0, 0), (91, 0, 0, 105), (60, 7, 49, 0), (999, 0, 0, 0), (999, 0, 0, 0), (0, 1, 0, 0), (72, 4, 50, 0), (999, 0, 0, 0), (999, 0, 0, 0), (0, 0, 0, 0), (30, 0, 0, 0), (16, 0, 2, 0), (22, 1, 3, 0), (999, 0, 0, 0), (999, 0, 0, 0), (72, (-31), 24, 0), (999, 0, 0, 0), (999, 0, 0, 0), (1, 96, 0, 0), (999, 0, 0, 0), (10, 0, 1, 0), (32, 0, 0, 0), (16, 0, 3, 0), (10, 0, 3, 0), (1, 96, 0, 0), (999, 0, 0, 0), (10, 0, 1, 0), (32, 0, 0, 0), (1, 96, 0, 0), (999, 0, 0, 0), (30, 0, 0, 0), (69, 26, 97, 0), (999, 0, 0, 0), (999, 0, 0, 0), (10, 0, 2, 0), (14, 0, 0, 112), (80, 12, 161, 53), (999, 0, 0, 0), (999, 0, 0, 0), (10, 0, 3, 0), (91, 0, 0, 108), (60, 7, 88, 0), (999, 0, 0, 0), (999, 0, 0, 0), (0, 1, 0, 0), (72, 4, 89, 0), (999, 0, 0, 0), (999, 0, 0, 0), (0, 0, 0, 0), (30, 0, 0, 0), (16, 0, 2, 0), (22, 1, 3, 0), (999, 0, 0, 0), (999, 0, 0, 0), (72, (-31), 63, 0), (999, 0, 0, 0), (999, 0, 0, 0), (10, 0, 2, 0), (130, 0, 0, 0)]
def zu_M_races : List (Nat × List Bool) := [(24, [true, true, true, true]), (50, [true, true, false, true]), (63, [true, true, true, true]), (89, [true, true, false, true])]
set_option maxRecDepth 100000 in
theorem qg_M_races_50 {ρ : Type} (kr : Int → zH → Option ρ) (r24 : Int → Int → Int → zH → Option ρ) (a1 a3 t0 t1 : Int) (h : zH) : (r24 a1 (wr (t1 + t0)) (wr (a3 + 1)) h) = zseg zPP false (zcal []) (zget (999, 0, 0, 0) zc_M_races) (zcut zu_M_races) (zorc [(24, [some (112, some 0), some (0, none), some (0, none), some (0, none)], [], fun xs h => match xs with
  | [a1, a2, a3] => r24 a1 a2 a3 h
  | _ => none)]) kr (fun _ _ => none) 400 50 [some (112, 0), some (0, a1), none, some (0, a3)] [(0, t0), (0, t1)] h := by rfl
set_option maxRecDepth 100000 in
theorem qe_M_races_50 {ρ : Type} (kr : Int → zH → Option ρ) (r24 : Int → Int → Int → zH → Option ρ) (a1 a3 t0 t1 : Int) (h : zH) : M_races_50 kr r24 a1 a3 t0 t1 h = zseg zPP false (zcal []) (zget (999, 0, 0, 0) zc_M_races) (zcut zu_M_races) (zorc [(24, [some (112, some 0), some (0, none), some (0, none), some (0, none)], [], fun xs h => match xs with
  | [a1, a2, a3] => r24 a1 a2 a3 h
  | _ => none)]) kr (fun _ _ => none) 400 50 [some (112, 0), some (0, a1), none, some (0, a3)] [(0, t0), (0, t1)] h := qg_M_races_50 kr r24 a1 a3 t0 t1 h
set_option maxRecDepth 100000 in
theorem qg_M_races_89 {ρ : Type} (kr : Int → zH → Option ρ) (r63 : Int → Int → Int → zH → Option ρ) (a1 a3 t0 t1 : Int) (h : zH) : (r63 a1 (wr (t1 + t0)) (wr (a3 + 1)) h) = zseg zPP false (zcal []) (zget (999, 0, 0, 0) zc_M_races) (zcut zu_M_races) (zorc [(63, [some (112, some 0), some (0, none), some (0, none), some (0, none)], [], fun xs h => match xs with
  | [a1, a2, a3] => r63 a1 a2 a3 h
  | _ => none)]) kr (fun _ _ => none) 400 89 [some (112, 0), some (0, a1), none, some (0, a3)] [(0, t0), (0, t1)] h := by rfl
set_option maxRecDepth 100000 in
theorem qe_M_races_89 {ρ : Type} (kr : Int → zH → Option ρ) (r63 : Int → Int → Int → zH → Option ρ) (a1 a3 t0 t1 : Int) (h : zH) : M_races_89 kr r63 a1 a3 t0 t1 h = zseg zPP false (zcal []) (zget (999, 0, 0, 0) zc_M_races) (zcut zu_M_races) (zorc [(63, [some (112, some 0), some (0, none), some (0, none), some (0, none)], [], fun xs h => match xs with
  | [a1, a2, a3] => r63 a1 a2 a3 h
  | _ => none)]) kr (fun _ _ => none) 400 89 [some (112, 0), some (0, a1), none, some (0, a3)] [(0, t0), (0, t1)] h := qg_M_races_89 kr r63 a1 a3 t0 t1 h
set_option maxRecDepth 100000 in
theorem qg_M_races_63b {ρ : Type} (kr : Int → zH → Option ρ) (r63 : Int → Int → Int → zH → Option ρ) (c89 : Int → Int → Int → Int → zH → Option ρ) (a1 a2 a3 : Int) (h : zH) : (if a3 < (wr ((wr (96 * a1)) + 96)) then (zix 1152 a3 fun j1 =>
if (zhD h 108 0 j1) = 0 then c89 a1 a3 0 a2 h
else c89 a1 a3 1 a2 h)
else kr a2 h) = zseg zPP false (zcal []) (zget (999, 0, 0, 0) zc_M_races) (zcut zu_M_races) (zorc [(89, [some (112, some 0), some (0, none), none, some (0, none)], [(0, none), (0, none)], fun xs h => match xs with
  | [a1, a3, t0, t1] => c89 a1 a3 t0 t1 h
  | _ => none)]) kr (fun _ _ => none) 400 63 [some (112, 0), some (0, a1), some (0, a2), some (0, a3)] [] h := by rfl
set_option maxRecDepth 100000 in
theorem qe_M_races_63b {ρ : Type} (kr : Int → zH → Option ρ) (r63 : Int → Int → Int → zH → Option ρ) (a1 a2 a3 : Int) (h : zH) : M_races_63b kr r63 a1 a2 a3 h = zseg zPP false (zcal []) (zget (999, 0, 0, 0) zc_M_races) (zcut zu_M_races) (zorc [(89, [some (112, some 0), some (0, none), none, some (0, none)], [(0, none), (0, none)], fun xs h => match xs with
  | [a1, a3, t0, t1] => M_races_89 kr r63 a1 a3 t0 t1 h
  | _ => none)]) kr (fun _ _ => none) 400 63 [some (112, 0), some (0, a1), some (0, a2), some (0, a3)] [] h := qg_M_races_63b kr r63 (M_races_89 kr r63) a1 a2 a3 h
set_option maxRecDepth 100000 in
theorem qg_M_races_24b {ρ : Type} (kr : Int → zH → Option ρ) (r24 : Int → Int → Int → zH → Option ρ) (c50 : Int → Int → Int → Int → zH → Option ρ) (c63 : Int → Int → Int → zH → Option ρ) (a1 a2 a3 : Int) (h : zH) : (if a3 < 64 then (zix 768 (wr ((wr (64 * a1)) + a3)) fun j1 =>
if (zhD h 105 0 j1) = 0 then c50 a1 a3 0 a2 h
else c50 a1 a3 1 a2 h)
else c63 a1 a2 (wr (96 * a1)) h) = zseg zPP false (zcal []) (zget (999, 0, 0, 0) zc_M_races) (zcut zu_M_races) (zorc [(50, [some (112, some 0), some (0, none), none, some (0, none)], [(0, none), (0, none)], fun xs h => match xs with
  | [a1, a3, t0, t1] => c50 a1 a3 t0 t1 h
  | _ => none), (63, [some (112, some 0), some (0, none), some (0, none), some (0, none)], [], fun xs h => match xs with
  | [a1, a2, a3] => c63 a1 a2 a3 h
  | _ => none)]) kr (fun _ _ => none) 400 24 [some (112, 0), some (0, a1), some (0, a2), some (0, a3)] [] h := by rfl
set_option maxRecDepth 100000 in
theorem qe_M_races_24b {ρ : Type} (kr : Int → zH → Option ρ) (r24 : Int → Int → Int → zH → Option ρ) (a1 a2 a3 : Int) (h : zH) : M_races_24b kr r24 a1 a2 a3 h = zseg zPP false (zcal []) (zget (999, 0, 0, 0) zc_M_races) (zcut zu_M_races) (zorc [(50, [some (112, some 0), some (0, none), none, some (0, none)], [(0, none), (0, none)], fun xs h => match xs with
  | [a1, a3, t0, t1] => M_races_50 kr r24 a1 a3 t0 t1 h
  | _ => none), (63, [some (112, some 0), some (0, none), some (0, none), some (0, none)], [], fun xs h => match xs with
  | [a1, a2, a3] => M_races_63 kr a1 a2 a3 h
  | _ => none)]) kr (fun _ _ => none) 400 24 [some (112, 0), some (0, a1), some (0, a2), some (0, a3)] [] h := qg_M_races_24b kr r24 (M_races_50 kr r24) (M_races_63 kr) a1 a2 a3 h
set_option maxRecDepth 100000 in
theorem qg_M_races {ρ : Type} (kr : Int → zH → Option ρ) (F_M_fails : Int → Int → zH → (Int → zH → Option ρ) → Option ρ) (F_M_noLaunch : Int → zH → (Int → zH → Option ρ) → Option ρ) (c24 : Int → Int → Int → zH → Option ρ) (a1 : Int) (h : zH) : (zlet (zset h 12 0 0 0) fun h1 =>
F_M_noLaunch a1 h1  fun v2 h3 =>
F_M_fails v2 1 h3  fun v4 h5 =>
if v4 = 0 then c24 a1 0 0 h5
else kr 0 h5) = zseg zPP false (zcal [(65, [some 0, none, none], fun xs h kr kt => match xs with
  | [x1, x2] => F_M_fails x1 x2 h kr
  | _ => none), (67, [some 0, none], fun xs h kr kt => match xs with
  | [x1] => F_M_noLaunch x1 h kr
  | _ => none)]) (zget (999, 0, 0, 0) zc_M_races) (zcut zu_M_races) (zorc [(24, [some (112, some 0), some (0, none), some (0, none), some (0, none)], [], fun xs h => match xs with
  | [a1, a2, a3] => c24 a1 a2 a3 h
  | _ => none)]) kr (fun _ _ => none) 400 0 [some (112, 0), some (0, a1), none, none] [] h := by rfl
set_option maxRecDepth 100000 in
theorem qe_M_races {ρ : Type} (kr : Int → zH → Option ρ) (a1 : Int) (h : zH) : M_races a1 h kr = zseg zPP false (zcal [(65, [some 0, none, none], fun xs h kr kt => match xs with
  | [x1, x2] => M_fails x1 x2 h kr
  | _ => none), (67, [some 0, none], fun xs h kr kt => match xs with
  | [x1] => M_noLaunch x1 h kr
  | _ => none)]) (zget (999, 0, 0, 0) zc_M_races) (zcut zu_M_races) (zorc [(24, [some (112, some 0), some (0, none), some (0, none), some (0, none)], [], fun xs h => match xs with
  | [a1, a2, a3] => M_races_24 kr a1 a2 a3 h
  | _ => none)]) kr (fun _ _ => none) 400 0 [some (112, 0), some (0, a1), none, none] [] h := qg_M_races kr M_fails M_noLaunch (M_races_24 kr) a1 h
def zc_M_runThread : List zI := [(14, 0, 0, 112), (80, 12, 179, 72), (999, 0, 0, 0), (999, 0, 0, 0), (10, 0, 3, 0), (92, 0, 0, 114), (1, 114, 0, 0), (999, 0, 0, 0), (67, 657, 665, 0), (999, 0, 0, 0), (999, 0, 0, 0), (14, 0, 0, 112), (80, 12, 176, 71), (999, 0, 0, 0), (999, 0, 0, 0), (10, 0, 3, 0), (90, 0, 0, 113), (14, 0, 0, 112), (80, 12, 23, 7), (999, 0, 0, 0), (999, 0, 0, 0), (10, 0, 1, 0), (90, 0, 0, 63), (68, 14, 37, 0), (999, 0, 0, 0), (999, 0, 0, 0), (14, 0, 0, 112), (80, 12, 179, 72), (999, 0, 0, 0), (999, 0, 0, 0), (10, 0, 3, 0), (1, 101, 0, 0), (999, 0, 0, 0), (97, 0, 0, 114), (72, (-34), 0, 0), (999, 0, 0, 0), (999, 0, 0, 0), (1, 40, 0, 0), (999, 0, 0, 0), (10, 0, 1, 0), (32, 0, 0, 0), (14, 0, 0, 112), (80, 12, 176, 71), (999, 0, 0, 0), (999, 0, 0, 0), (10, 0, 3, 0), (90, 0, 0, 113), (30, 0, 0, 0), (17, 0, 4, 0), (999, 0, 0, 0), (14, 0, 0, 112), (80, 12, 30, 9), (999, 0, 0, 0), (999, 0, 0, 0), (11, 0, 4, 0), (999, 0, 0, 0), (92, 0, 0, 65), (17, 0, 5, 0), (999, 0, 0, 0), (14, 0, 0, 112), (80, 12, 182, 73), (999, 0, 0, 0), (999, 0, 0, 0), (10, 0, 3, 0), (51, 0, 0, 0), (90, 0, 0, 115), (0, 1, 0, 0), (30, 0, 0, 0), (95, 0, 0, 115), (1, 8, 0, 0), (999, 0, 0, 0), (10, 0, 3, 0), (32, 0, 0, 0), (17, 0, 6, 0), (999, 0, 0, 0), (14, 0, 0, 112), (80, 12, 37, 11), (999, 0, 0, 0), (999, 0, 0, 0), (11, 0, 4, 0), (999, 0, 0, 0), (90, 0, 0, 67), (0, 0, 0, 0), (1, 7, 0, 0), (999, 0, 0, 0), (113, 0, 192, 64), (999, 0, 0, 0), (999, 0, 0, 0), (60, 21, 109, 0), (999, 0, 0, 0), (999, 0, 0, 0), (14, 0, 0, 112), (80, 12, 173, 70), (999, 0, 0, 0), (999, 0, 0, 0), (11, 0, 6, 0), (999, 0, 0, 0), (14, 0, 0, 112), (80, 12, 37, 11), (999, 0, 0, 0), (999, 0, 0, 0), (11, 0, 4, 0), (999, 0, 0, 0), (90, 0, 0, 67), (30, 0, 0, 0), (90, 0, 0, 112), (72, 4, 110, 0), (999, 0, 0, 0), (999, 0, 0, 0), (0, 0, 0, 0), (17, 0, 7, 0), (999, 0, 0, 0), (14, 0, 0, 112), (80, 12, 40, 12), (999, 0, 0, 0), (999, 0, 0, 0), (11, 0, 4, 0), (999, 0, 0, 0), (90, 0, 0, 68), (0, 0, 0, 0), (1, 7, 0, 0), (999, 0, 0, 0), (113, 0, 192, 64), (999, 0, 0, 0), (999, 0, 0, 0), (60, 21, 146, 0), (999, 0, 0, 0), (999, 0, 0, 0), (14, 0, 0, 112), (80, 12, 173, 70), (999, 0, 0, 0), (999, 0, 0, 0), (11, 0, 6, 0), (999, 0, 0, 0), (14, 0, 0, 112), (80, 12, 40, 12), (999, 0, 0, 0), (999, 0, 0, 0), (11, 0, 4, 0), (999, 0, 0, 0), (90, 0, 0, 68), (30, 0, 0, 0), (90, 0, 0, 112), (72, 4, 147, 0), (999, 0, 0, 0), (999, 0, 0, 0), (0, 0, 0, 0), (17, 0, 8, 0), (999, 0, 0, 0), (14, 0, 0, 112), (80, 12, 34, 10), (999, 0, 0, 0), (999, 0, 0, 0), (11, 0, 4, 0), (999, 0, 0, 0), (90, 0, 0, 66), (0, 0, 0, 0), (1, 7, 0, 0), (999, 0, 0, 0), (113, 0, 192, 64), (999, 0, 0, 0), (999, 0, 0, 0), (60, 21, 183, 0), (999, 0, 0, 0), (999, 0, 0, 0), (14, 0, 0, 112), (80, 12, 173, 70), (999, 0, 0, 0), (999, 0, 0, 0), (11, 0, 6, 0), (999, 0, 0, 0), (14, 0, 0, 112), (80, 12, 34, 10), (999, 0, 0, 0), (999, 0, 0, 0), (11, 0, 4, 0), (999, 0, 0, 0), (90, 0, 0, 66), (30, 0, 0, 0), (90, 0, 0, 112), (72, 4, 184, 0), (999, 0, 0, 0), (999, 0, 0, 0), (0, 0, 0, 0), (17, 0, 9, 0), (999, 0, 0, 0), (11, 0, 5, 0), (999, 0, 0, 0), (1, 119, 0, 0), (999, 0, 0, 0), (66, 10, 200, 0), (999, 0, 0, 0), (999, 0, 0, 0), (11, 0, 5, 0), (999, 0, 0, 0), (1, 87, 0, 0), (999, 0, 0, 0), (67, 8, 205, 0), (999, 0, 0, 0), (999, 0, 0, 0), (11, 0, 9, 0), (999, 0, 0, 0), (72, 5, 207, 0), (999, 0, 0, 0), (999, 0, 0, 0), (11, 0, 7, 0), (999, 0, 0, 0), (17, 0, 10, 0), (999, 0, 0, 0), (14, 0, 0, 112), (80, 12, 182, 73), (999, 0, 0, 0), (999, 0, 0, 0), (10, 0, 3, 0), (90, 0, 0, 115), (2, 200, 0, 0), (999, 0, 0, 0), (999, 0, 0, 0), (70, 44, 262, 0), (999, 0, 0, 0), (999, 0, 0, 0), (11, 0, 5, 0), (999, 0, 0, 0), (113, 0, 347, 113), (999, 0, 0, 0), (999, 0, 0, 0), (60, 11, 237, 0), (999, 0, 0, 0), (999, 0, 0, 0), (11, 0, 10, 0), (999, 0, 0, 0), (113, 0, 222, 68), (999, 0, 0, 0), (999, 0, 0, 0), (61, 28, 262, 0), (999, 0, 0, 0), (999, 0, 0, 0), (11, 0, 5, 0), (999, 0, 0, 0), (113, 0, 297, 114), (999, 0, 0, 0), (999, 0, 0, 0), (60, 22, 264, 0), (999, 0, 0, 0), (999, 0, 0, 0), (11, 0, 10, 0), (999, 0, 0, 0), (0, 0, 0, 0), (14, 0, 0, 112), (80, 12, 20, 6), (999, 0, 0, 0), (999, 0, 0, 0), (10, 0, 1, 0), (90, 0, 0, 62), (0, 1, 0, 0), (31, 0, 0, 0), (113, 0, 192, 64), (999, 0, 0, 0), (999, 0, 0, 0), (61, 5, 264, 0), (999, 0, 0, 0), (999, 0, 0, 0), (0, 0, 0, 0), (130, 0, 1, 0), (14, 0, 0, 112), (80, 12, 176, 71), (999, 0, 0, 0), (999, 0, 0, 0), (10, 0, 3, 0), (90, 0, 0, 113), (0, 1, 0, 0), (30, 0, 0, 0), (17, 0, 11, 0), (999, 0, 0, 0), (11, 0, 5, 0), (999, 0, 0, 0), (1, 119, 0, 0), (999, 0, 0, 0), (67, 15, 293, 0), (999, 0, 0, 0), (999, 0, 0, 0), (14, 0, 0, 112), (80, 12, 167, 68), (999, 0, 0, 0), (999, 0, 0, 0), (11, 0, 10, 0), (999, 0, 0, 0), (11, 0, 7, 0), (999, 0, 0, 0), (95, 0, 0, 110), (72, 364, 654, 0), (999, 0, 0, 0), (999, 0, 0, 0), (11, 0, 5, 0), (999, 0, 0, 0), (1, 87, 0, 0), (999, 0, 0, 0), (67, 15, 312, 0), (999, 0, 0, 0), (999, 0, 0, 0), (14, 0, 0, 112), (80, 12, 170, 69), (999, 0, 0, 0), (999, 0, 0, 0), (11, 0, 10, 0), (999, 0, 0, 0), (11, 0, 7, 0), (999, 0, 0, 0), (95, 0, 0, 111), (72, 345, 654, 0), (999, 0, 0, 0), (999, 0, 0, 0), (11, 0, 5, 0), (999, 0, 0, 0), (1, 114, 0, 0), (999, 0, 0, 0), (66, 10, 326, 0), (999, 0, 0, 0), (999, 0, 0, 0), (11, 0, 5, 0), (999, 0, 0, 0), (1, 82, 0, 0), (999, 0, 0, 0), (67, 45, 368, 0), (999, 0, 0, 0), (999, 0, 0, 0), (14, 0, 0, 112), (80, 12, 173, 70), (999, 0, 0, 0), (999, 0, 0, 0), (11, 0, 6, 0), (999, 0, 0, 0), (14, 0, 0, 112), (80, 12, 34, 10), (999, 0, 0, 0), (999, 0, 0, 0), (11, 0, 4, 0), (999, 0, 0, 0), (90, 0, 0, 66), (30, 0, 0, 0), (11, 0, 5, 0), (999, 0, 0, 0), (1, 114, 0, 0), (999, 0, 0, 0), (67, 13, 357, 0), (999, 0, 0, 0), (999, 0, 0, 0), (14, 0, 0, 112), (80, 12, 167, 68), (999, 0, 0, 0), (999, 0, 0, 0), (11, 0, 10, 0), (999, 0, 0, 0), (90, 0, 0, 110), (72, 10, 364, 0), (999, 0, 0, 0), (999, 0, 0, 0), (14, 0, 0, 112), (80, 12, 170, 69), (999, 0, 0, 0), (999, 0, 0, 0), (11, 0, 10, 0), (999, 0, 0, 0), (90, 0, 0, 111), (95, 0, 0, 112), (72, 289, 654, 0), (999, 0, 0, 0), (999, 0, 0, 0), (11, 0, 5, 0), (999, 0, 0, 0), (1, 97, 0, 0), (999, 0, 0, 0), (66, 10, 382, 0), (999, 0, 0, 0), (999, 0, 0, 0), (11, 0, 5, 0), (999, 0, 0, 0), (1, 120, 0, 0), (999, 0, 0, 0), (67, 56, 435, 0), (999, 0, 0, 0), (999, 0, 0, 0), (14, 0, 0, 112), (80, 12, 167, 68), (999, 0, 0, 0), (999, 0, 0, 0), (11, 0, 10, 0), (999, 0, 0, 0), (90, 0, 0, 110), (17, 0, 12, 0), (999, 0, 0, 0), (14, 0, 0, 112), (80, 12, 167, 68), (999, 0, 0, 0), (999, 0, 0, 0), (11, 0, 10, 0), (999, 0, 0, 0), (11, 0, 5, 0), (999, 0, 0, 0), (1, 97, 0, 0), (999, 0, 0, 0), (67, 11, 412, 0), (999, 0, 0, 0), (999, 0, 0, 0), (11, 0, 12, 0), (999, 0, 0, 0), (11, 0, 8, 0), (999, 0, 0, 0), (30, 0, 0, 0), (72, 5, 414, 0), (999, 0, 0, 0), (999, 0, 0, 0), (11, 0, 8, 0), (999, 0, 0, 0), (95, 0, 0, 110), (14, 0, 0, 112), (80, 12, 173, 70), (999, 0, 0, 0), (999, 0, 0, 0), (11, 0, 6, 0), (999, 0, 0, 0), (14, 0, 0, 112), (80, 12, 34, 10), (999, 0, 0, 0), (999, 0, 0, 0), (11, 0, 4, 0), (999, 0, 0, 0), (90, 0, 0, 66), (30, 0, 0, 0), (11, 0, 12, 0), (999, 0, 0, 0), (95, 0, 0, 112), (72, 222, 654, 0), (999, 0, 0, 0), (999, 0, 0, 0), (11, 0, 5, 0), (999, 0, 0, 0), (1, 107, 0, 0), (999, 0, 0, 0), (67, 28, 467, 0), (999, 0, 0, 0), (999, 0, 0, 0), (14, 0, 0, 112), (80, 12, 173, 70), (999, 0, 0, 0), (999, 0, 0, 0), (11, 0, 6, 0), (999, 0, 0, 0), (14, 0, 0, 112), (80, 12, 34, 10), (999, 0, 0, 0), (999, 0, 0, 0), (11, 0, 4, 0), (999, 0, 0, 0), (90, 0, 0, 66), (30, 0, 0, 0), (14, 0, 0, 112), (80, 12, 37, 11), (999, 0, 0, 0), (999, 0, 0, 0), (11, 0, 4, 0), (999, 0, 0, 0), (90, 0, 0, 67), (95, 0, 0, 112), (72, 190, 654, 0), (999, 0, 0, 0), (999, 0, 0, 0), (11, 0, 5, 0), (999, 0, 0, 0), (1, 116, 0, 0), (999, 0, 0, 0), (66, 17, 488, 0), (999, 0, 0, 0), (999, 0, 0, 0), (11, 0, 5, 0), (999, 0, 0, 0), (1, 110, 0, 0), (999, 0, 0, 0), (66, 10, 488, 0), (999, 0, 0, 0), (999, 0, 0, 0), (11, 0, 5, 0), (999, 0, 0, 0), (1, 108, 0, 0), (999, 0, 0, 0), (67, 46, 531, 0), (999, 0, 0, 0), (999, 0, 0, 0), (14, 0, 0, 112), (80, 12, 173, 70), (999, 0, 0, 0), (999, 0, 0, 0), (11, 0, 6, 0), (999, 0, 0, 0), (14, 0, 0, 112), (80, 12, 34, 10), (999, 0, 0, 0), (999, 0, 0, 0), (11, 0, 4, 0), (999, 0, 0, 0), (90, 0, 0, 66), (30, 0, 0, 0), (11, 0, 5, 0), (999, 0, 0, 0), (1, 116, 0, 0), (999, 0, 0, 0), (67, 7, 513, 0), (999, 0, 0, 0), (999, 0, 0, 0), (10, 0, 3, 0), (72, 17, 527, 0), (999, 0, 0, 0), (999, 0, 0, 0), (11, 0, 5, 0), (999, 0, 0, 0), (1, 110, 0, 0), (999, 0, 0, 0), (67, 7, 524, 0), (999, 0, 0, 0), (999, 0, 0, 0), (10, 0, 2, 0), (72, 6, 527, 0), (999, 0, 0, 0), (999, 0, 0, 0), (10, 0, 3, 0), (0, 4, 0, 0), (34, 0, 0, 0), (95, 0, 0, 112), (72, 126, 654, 0), (999, 0, 0, 0), (999, 0, 0, 0), (11, 0, 5, 0), (999, 0, 0, 0), (1, 122, 0, 0), (999, 0, 0, 0), (67, 25, 560, 0), (999, 0, 0, 0), (999, 0, 0, 0), (11, 0, 9, 0), (999, 0, 0, 0), (61, 13, 553, 0), (999, 0, 0, 0), (999, 0, 0, 0), (14, 0, 0, 112), (80, 12, 37, 11), (999, 0, 0, 0), (999, 0, 0, 0), (11, 0, 4, 0), (999, 0, 0, 0), (90, 0, 0, 67), (72, 5, 555, 0), (999, 0, 0, 0), (999, 0, 0, 0), (11, 0, 11, 0), (999, 0, 0, 0), (17, 0, 11, 0), (999, 0, 0, 0), (72, 97, 654, 0), (999, 0, 0, 0), (999, 0, 0, 0), (11, 0, 5, 0), (999, 0, 0, 0), (1, 106, 0, 0), (999, 0, 0, 0), (67, 15, 579, 0), (999, 0, 0, 0), (999, 0, 0, 0), (14, 0, 0, 112), (80, 12, 37, 11), (999, 0, 0, 0), (999, 0, 0, 0), (11, 0, 4, 0), (999, 0, 0, 0), (90, 0, 0, 67), (17, 0, 11, 0), (999, 0, 0, 0), (72, 78, 654, 0), (999, 0, 0, 0), (999, 0, 0, 0), (11, 0, 5, 0), (999, 0, 0, 0), (1, 101, 0, 0), (999, 0, 0, 0), (67, 14, 597, 0), (999, 0, 0, 0), (999, 0, 0, 0), (14, 0, 0, 112), (80, 12, 179, 72), (999, 0, 0, 0), (999, 0, 0, 0), (10, 0, 3, 0), (1, 101, 0, 0), (999, 0, 0, 0), (97, 0, 0, 114), (72, 60, 654, 0), (999, 0, 0, 0), (999, 0, 0, 0), (11, 0, 5, 0), (999, 0, 0, 0), (1, 98, 0, 0), (999, 0, 0, 0), (67, 22, 623, 0), (999, 0, 0, 0), (999, 0, 0, 0), (14, 0, 0, 112), (80, 12, 179, 72), (999, 0, 0, 0), (999, 0, 0, 0), (10, 0, 3, 0), (1, 119, 0, 0), (999, 0, 0, 0), (97, 0, 0, 114), (14, 0, 0, 112), (80, 12, 176, 71), (999, 0, 0, 0), (999, 0, 0, 0), (10, 0, 3, 0), (90, 0, 0, 113), (17, 0, 11, 0), (999, 0, 0, 0), (72, 34, 654, 0), (999, 0, 0, 0), (999, 0, 0, 0), (11, 0, 5, 0), (999, 0, 0, 0), (1, 102, 0, 0), (999, 0, 0, 0), (66, 27, 654, 0), (999, 0, 0, 0), (999, 0, 0, 0), (14, 0, 0, 112), (80, 12, 173, 70), (999, 0, 0, 0), (999, 0, 0, 0), (11, 0, 6, 0), (999, 0, 0, 0), (14, 0, 0, 112), (80, 12, 34, 10), (999, 0, 0, 0), (999, 0, 0, 0), (11, 0, 4, 0), (999, 0, 0, 0), (90, 0, 0, 66), (30, 0, 0, 0), (11, 0, 5, 0), (999, 0, 0, 0), (11, 0, 7, 0), (999, 0, 0, 0), (11, 0, 8, 0), (999, 0, 0, 0), (113, 0, 327, 115), (999, 0, 0, 0), (999, 0, 0, 0), (95, 0, 0, 112), (14, 0, 0, 112), (80, 12, 176, 71), (999, 0, 0, 0), (999, 0, 0, 0), (10, 0, 3, 0), (11, 0, 11, 0), (999, 0, 0, 0), (95, 0, 0, 113), (72, (-662), 0, 0), (999, 0, 0, 0), (999, 0, 0, 0), (0, 1, 0, 0), (130, 0, 1, 0)]
def zu_M_runThread : List (Nat × List Bool) := [(0, [true, true, true, true, false, false, false, false, false, false, false, false, false]), (110, [true, true, true, true, true, true, true, false, false, false, false, false, false]), (147, [true, true, true, true, true, true, true, true, false, false, false, false, false]), (184, [true, true, true, true, true, true, true, true, true, false, false, false, false]), (200, [true, true, true, true, true, true, true, true, true, true, false, false, false]), (207, [true, true, true, true, true, true, true, true, true, true, false, false, false]), (237, [true, true, true, true, true, true, true, true, true, true, true, false, false]), (262, [false, false, false, false, false, false, false, false, false, false, false, false, false]), (264, [true, true, true, true, true, true, true, true, true, true, true, false, false]), (326, [true, true, true, true, true, true, true, false, false, false, true, true, false]), (364, [true, true, true, true, false, false, false, false, false, false, false, true, false]), (382, [true, true, true, true, true, true, true, false, true, false, true, true, false]), (414, [true, true, true, true, true, false, true, false, false, false, false, true, true]), (488, [true, true, true, true, true, true, true, false, false, false, false, true, false]), (527, [true, true, true, true, false, false, false, false, false, false, false, true, false]), (555, [true, true, true, true, false, false, false, false, false, false, false, false, false]), (654, [true, true, true, true, false, false, false, false, false, false, false, true, false])]
set_option maxRecDepth 100000 in
theorem qg_M_runThread_262 {ρ : Type} (kr : Int → zH → Option ρ) (h : zH) : (kr 0 h) = zseg zPP false (zcal []) (zget (999, 0, 0, 0) zc_M_runThread) (zcut zu_M_runThread) (zorc []) kr (fun _ _ => none) 400 262 [none, none, none, none, none, none, none, none, none, none, none, none, none] [] h := by rfl
set_option maxRecDepth 100000 in
theorem qe_M_runThread_262 {ρ : Type} (kr : Int → zH → Option ρ) (h : zH) : M_runThread_262 kr h = zseg zPP false (zcal []) (zget (999, 0, 0, 0) zc_M_runThread) (zcut zu_M_runThread) (zorc []) kr (fun _ _ => none) 400 262 [none, none, none, none, none, none, none, none, none, none, none, none, none] [] h := qg_M_runThread_262 kr h
set_option maxRecDepth 100000 in
theorem qg_M_runThread_654 {ρ : Type} (kr : Int → zH → Option ρ) (r0 : Int → Int → Int → zH → Option ρ) (a1 a2 a3 a11 : Int) (h : zH) : (zix 16 a3 fun j1 =>
zlet (zset h 113 0 j1 a11) fun h2 =>
r0 a1 a2 a3 h2) = zseg zPP false (zcal []) (zget (999, 0, 0, 0) zc_M_runThread) (zcut zu_M_runThread) (zorc [(0, [some (112, some 0), some (0, none), some (0, none), some (0, none), none, none, none, none, none, none, none, none, none], [], fun xs h => match xs with
  | [a1, a2, a3] => r0 a1 a2 a3 h
  | _ => none)]) kr (fun _ _ => none) 400 654 [some (112, 0), some (0, a1), some (0, a2), some (0, a3), none, none, none, none, none, none, none, some (0, a11), none] [] h := by rfl
set_option maxRecDepth 100000 in
theorem qe_M_runThread_654 {ρ : Type} (kr : Int → zH → Option ρ) (r0 : Int → Int → Int → zH → Option ρ) (a1 a2 a3 a11 : Int) (h : zH) : M_runThread_654 kr r0 a1 a2 a3 a11 h = zseg zPP false (zcal []) (zget (999, 0, 0, 0) zc_M_runThread) (zcut zu_M_runThread) (zorc [(0, [some (112, some 0), some (0, none), some (0, none), some (0, none), none, none, none, none, none, none, none, none, none], [], fun xs h => match xs with
  | [a1, a2, a3] => r0 a1 a2 a3 h
  | _ => none)]) kr (fun _ _ => none) 400 654 [some (112, 0), some (0, a1), some (0, a2), some (0, a3), none, none, none, none, none, none, none, some (0, a11), none] [] h := qg_M_runThread_654 kr r0 a1 a2 a3 a11 h
set_option maxRecDepth 100000 in
theorem qg_M_runThread_364 {ρ : Type} (kr : Int → zH → Option ρ) (r0 : Int → Int → Int → zH → Option ρ) (c654 : Int → Int → Int → Int → zH → Option ρ) (a1 a2 a3 a11 t0 t1 : Int) (h : zH) : (zix 128 t1 fun j1 =>
zlet (zset h 112 0 j1 t0) fun h2 =>
c654 a1 a2 a3 a11 h2) = zseg zPP false (zcal []) (zget (999, 0, 0, 0) zc_M_runThread) (zcut zu_M_runThread) (zorc [(654, [some (112, some 0), some (0, none), some (0, none), some (0, none), none, none, none, none, none, none, none, some (0, none), none], [], fun xs h => match xs with
  | [a1, a2, a3, a11] => c654 a1 a2 a3 a11 h
  | _ => none)]) kr (fun _ _ => none) 400 364 [some (112, 0), some (0, a1), some (0, a2), some (0, a3), none, none, none, none, none, none, none, some (0, a11), none] [(0, t0), (0, t1), (212, 0)] h := by rfl
set_option maxRecDepth 100000 in
theorem qe_M_runThread_364 {ρ : Type} (kr : Int → zH → Option ρ) (r0 : Int → Int → Int → zH → Option ρ) (a1 a2 a3 a11 t0 t1 : Int) (h : zH) : M_runThread_364 kr r0 a1 a2 a3 a11 t0 t1 h = zseg zPP false (zcal []) (zget (999, 0, 0, 0) zc_M_runThread) (zcut zu_M_runThread) (zorc [(654, [some (112, some 0), some (0, none), some (0, none), some (0, none), none, none, none, none, none, none, none, some (0, none), none], [], fun xs h => match xs with
  | [a1, a2, a3, a11] => M_runThread_654 kr r0 a1 a2 a3 a11 h
  | _ => none)]) kr (fun _ _ => none) 400 364 [some (112, 0), some (0, a1), some (0, a2), some (0, a3), none, none, none, none, none, none, none, some (0, a11), none] [(0, t0), (0, t1), (212, 0)] h := qg_M_runThread_364 kr r0 (M_runThread_654 kr r0) a1 a2 a3 a11 t0 t1 h
set_option maxRecDepth 100000 in
theorem qg_M_runThread_326 {ρ : Type} (kr : Int → zH → Option ρ) (r0 : Int → Int → Int → zH → Option ρ) (c364 : Int → Int → Int → Int → Int → Int → zH → Option ρ) (a1 a2 a3 a4 a5 a6 a10 a11 : Int) (h : zH) : (zix 160 a4 fun j1 =>
if a5 = 114 then (zix 64 a10 fun j3 =>
c364 a1 a2 a3 a11 (zhD h 110 0 j3) (wr (a6 + (zhD h 66 0 j1))) h)
else zix 16 a10 fun j2 =>
c364 a1 a2 a3 a11 (zhD h 111 0 j2) (wr (a6 + (zhD h 66 0 j1))) h) = zseg zPP false (zcal []) (zget (999, 0, 0, 0) zc_M_runThread) (zcut zu_M_runThread) (zorc [(364, [some (112, some 0), some (0, none), some (0, none), some (0, none), none, none, none, none, none, none, none, some (0, none), none], [(0, none), (0, none), (212, some 0)], fun xs h => match xs with
  | [a1, a2, a3, a11, t0, t1] => c364 a1 a2 a3 a11 t0 t1 h
  | _ => none)]) kr (fun _ _ => none) 400 326 [some (112, 0), some (0, a1), some (0, a2), some (0, a3), some (0, a4), some (0, a5), some (0, a6), none, none, none, some (0, a10), some (0, a11), none] [] h := by rfl
set_option maxRecDepth 100000 in
theorem qe_M_runThread_326 {ρ : Type} (kr : Int → zH → Option ρ) (r0 : Int → Int → Int → zH → Option ρ) (a1 a2 a3 a4 a5 a6 a10 a11 : Int) (h : zH) : M_runThread_326 kr r0 a1 a2 a3 a4 a5 a6 a10 a11 h = zseg zPP false (zcal []) (zget (999, 0, 0, 0) zc_M_runThread) (zcut zu_M_runThread) (zorc [(364, [some (112, some 0), some (0, none), some (0, none), some (0, none), none, none, none, none, none, none, none, some (0, none), none], [(0, none), (0, none), (212, some 0)], fun xs h => match xs with
  | [a1, a2, a3, a11, t0, t1] => M_runThread_364 kr r0 a1 a2 a3 a11 t0 t1 h
  | _ => none)]) kr (fun _ _ => none) 400 326 [some (112, 0), some (0, a1), some (0, a2), some (0, a3), some (0, a4), some (0, a5), some (0, a6), none, none, none, some (0, a10), some (0, a11), none] [] h := qg_M_runThread_326 kr r0 (M_runThread_364 kr r0) a1 a2 a3 a4 a5 a6 a10 a11 h
set_option maxRecDepth 100000 in
theorem qg_M_runThread_414 {ρ : Type} (kr : Int → zH → Option ρ) (r0 : Int → Int → Int → zH → Option ρ) (c654 : Int → Int → Int → Int → zH → Option ρ) (a1 a2 a3 a4 a6 a11 a12 t0 t1 : Int) (h : zH) : (zix 64 t1 fun j1 =>
zlet (zset h 110 0 j1 t0) fun h2 =>
zix 160 a4 fun j3 =>
zix 128 (wr (a6 + (zhD h2 66 0 j3))) fun j4 =>
zlet (zset h2 112 0 j4 a12) fun h5 =>
c654 a1 a2 a3 a11 h5) = zseg zPP false (zcal []) (zget (999, 0, 0, 0) zc_M_runThread) (zcut zu_M_runThread) (zorc [(654, [some (112, some 0), some (0, none), some (0, none), some (0, none), none, none, none, none, none, none, none, some (0, none), none], [], fun xs h => match xs with
  | [a1, a2, a3, a11] => c654 a1 a2 a3 a11 h
  | _ => none)]) kr (fun _ _ => none) 400 414 [some (112, 0), some (0, a1), some (0, a2), some (0, a3), some (0, a4), none, some (0, a6), none, none, none, none, some (0, a11), some (0, a12)] [(0, t0), (0, t1), (210, 0)] h := by rfl
set_option maxRecDepth 100000 in
theorem qe_M_runThread_414 {ρ : Type} (kr : Int → zH → Option ρ) (r0 : Int → Int → Int → zH → Option ρ) (a1 a2 a3 a4 a6 a11 a12 t0 t1 : Int) (h : zH) : M_runThread_414 kr r0 a1 a2 a3 a4 a6 a11 a12 t0 t1 h = zseg zPP false (zcal []) (zget (999, 0, 0, 0) zc_M_runThread) (zcut zu_M_runThread) (zorc [(654, [some (112, some 0), some (0, none), some (0, none), some (0, none), none, none, none, none, none, none, none, some (0, none), none], [], fun xs h => match xs with
  | [a1, a2, a3, a11] => M_runThread_654 kr r0 a1 a2 a3 a11 h
  | _ => none)]) kr (fun _ _ => none) 400 414 [some (112, 0), some (0, a1), some (0, a2), some (0, a3), some (0, a4), none, some (0, a6), none, none, none, none, some (0, a11), some (0, a12)] [(0, t0), (0, t1), (210, 0)] h := qg_M_runThread_414 kr r0 (M_runThread_654 kr r0) a1 a2 a3 a4 a6 a11 a12 t0 t1 h
set_option maxRecDepth 100000 in
theorem qg_M_runThread_382 {ρ : Type} (kr : Int → zH → Option ρ) (r0 : Int → Int → Int → zH → Option ρ) (c414 : Int → Int → Int → Int → Int → Int → Int → Int → Int → zH → Option ρ) (a1 a2 a3 a4 a5 a6 a8 a10 a11 : Int) (h : zH) : (zix 64 a10 fun j1 =>
if a5 = 97 then c414 a1 a2 a3 a4 a6 a11 (zhD h 110 0 j1) (wr ((zhD h 110 0 j1) + a8)) a10 h
else c414 a1 a2 a3 a4 a6 a11 (zhD h 110 0 j1) a8 a10 h) = zseg zPP false (zcal []) (zget (999, 0, 0, 0) zc_M_runThread) (zcut zu_M_runThread) (zorc [(414, [some (112, some 0), some (0, none), some (0, none), some (0, none), some (0, none), none, some (0, none), none, none, none, none, some (0, none), some (0, none)], [(0, none), (0, none), (210, some 0)], fun xs h => match xs with
  | [a1, a2, a3, a4, a6, a11, a12, t0, t1] => c414 a1 a2 a3 a4 a6 a11 a12 t0 t1 h
  | _ => none)]) kr (fun _ _ => none) 400 382 [some (112, 0), some (0, a1), some (0, a2), some (0, a3), some (0, a4), some (0, a5), some (0, a6), none, some (0, a8), none, some (0, a10), some (0, a11), none] [] h := by rfl
set_option maxRecDepth 100000 in
theorem qe_M_runThread_382 {ρ : Type} (kr : Int → zH → Option ρ) (r0 : Int → Int → Int → zH → Option ρ) (a1 a2 a3 a4 a5 a6 a8 a10 a11 : Int) (h : zH) : M_runThread_382 kr r0 a1 a2 a3 a4 a5 a6 a8 a10 a11 h = zseg zPP false (zcal []) (zget (999, 0, 0, 0) zc_M_runThread) (zcut zu_M_runThread) (zorc [(414, [some (112, some 0), some (0, none), some (0, none), some (0, none), some (0, none), none, some (0, none), none, none, none, none, some (0, none), some (0, none)], [(0, none), (0, none), (210, some 0)], fun xs h => match xs with
  | [a1, a2, a3, a4, a6, a11, a12, t0, t1] => M_runThread_414 kr r0 a1 a2 a3 a4 a6 a11 a12 t0 t1 h
  | _ => none)]) kr (fun _ _ => none) 400 382 [some (112, 0), some (0, a1), some (0, a2), some (0, a3), some (0, a4), some (0, a5), some (0, a6), none, some (0, a8), none, some (0, a10), some (0, a11), none] [] h := qg_M_runThread_382 kr r0 (M_runThread_414 kr r0) a1 a2 a3 a4 a5 a6 a8 a10 a11 h
set_option maxRecDepth 100000 in
theorem qg_M_runThread_527 {ρ : Type} (kr : Int → zH → Option ρ) (r0 : Int → Int → Int → zH → Option ρ) (c654 : Int → Int → Int → Int → zH → Option ρ) (a1 a2 a3 a11 t0 t1 : Int) (h : zH) : (zix 128 t1 fun j1 =>
zlet (zset h 112 0 j1 t0) fun h2 =>
c654 a1 a2 a3 a11 h2) = zseg zPP false (zcal []) (zget (999, 0, 0, 0) zc_M_runThread) (zcut zu_M_runThread) (zorc [(654, [some (112, some 0), some (0, none), some (0, none), some (0, none), none, none, none, none, none, none, none, some (0, none), none], [], fun xs h => match xs with
  | [a1, a2, a3, a11] => c654 a1 a2 a3 a11 h
  | _ => none)]) kr (fun _ _ => none) 400 527 [some (112, 0), some (0, a1), some (0, a2), some (0, a3), none, none, none, none, none, none, none, some (0, a11), none] [(0, t0), (0, t1), (212, 0)] h := by rfl
set_option maxRecDepth 100000 in
theorem qe_M_runThread_527 {ρ : Type} (kr : Int → zH → Option ρ) (r0 : Int → Int → Int → zH → Option ρ) (a1 a2 a3 a11 t0 t1 : Int) (h : zH) : M_runThread_527 kr r0 a1 a2 a3 a11 t0 t1 h = zseg zPP false (zcal []) (zget (999, 0, 0, 0) zc_M_runThread) (zcut zu_M_runThread) (zorc [(654, [some (112, some 0), some (0, none), some (0, none), some (0, none), none, none, none, none, none, none, none, some (0, none), none], [], fun xs h => match xs with
  | [a1, a2, a3, a11] => M_runThread_654 kr r0 a1 a2 a3 a11 h
  | _ => none)]) kr (fun _ _ => none) 400 527 [some (112, 0), some (0, a1), some (0, a2), some (0, a3), none, none, none, none, none, none, none, some (0, a11), none] [(0, t0), (0, t1), (212, 0)] h := qg_M_runThread_527 kr r0 (M_runThread_654 kr r0) a1 a2 a3 a11 t0 t1 h
set_option maxRecDepth 100000 in
theorem qg_M_runThread_488 {ρ : Type} (kr : Int → zH → Option ρ) (r0 : Int → Int → Int → zH → Option ρ) (c527 : Int → Int → Int → Int → Int → Int → zH → Option ρ) (a1 a2 a3 a4 a5 a6 a11 : Int) (h : zH) : (zix 160 a4 fun j1 =>
if a5 = 116 then c527 a1 a2 a3 a11 a3 (wr (a6 + (zhD h 66 0 j1))) h
else if a5 = 110 then c527 a1 a2 a3 a11 a2 (wr (a6 + (zhD h 66 0 j1))) h
else c527 a1 a2 a3 a11 (Int.tmod a3 4) (wr (a6 + (zhD h 66 0 j1))) h) = zseg zPP false (zcal []) (zget (999, 0, 0, 0) zc_M_runThread) (zcut zu_M_runThread) (zorc [(527, [some (112, some 0), some (0, none), some (0, none), some (0, none), none, none, none, none, none, none, none, some (0, none), none], [(0, none), (0, none), (212, some 0)], fun xs h => match xs with
  | [a1, a2, a3, a11, t0, t1] => c527 a1 a2 a3 a11 t0 t1 h
  | _ => none)]) kr (fun _ _ => none) 400 488 [some (112, 0), some (0, a1), some (0, a2), some (0, a3), some (0, a4), some (0, a5), some (0, a6), none, none, none, none, some (0, a11), none] [] h := by rfl
set_option maxRecDepth 100000 in
theorem qe_M_runThread_488 {ρ : Type} (kr : Int → zH → Option ρ) (r0 : Int → Int → Int → zH → Option ρ) (a1 a2 a3 a4 a5 a6 a11 : Int) (h : zH) : M_runThread_488 kr r0 a1 a2 a3 a4 a5 a6 a11 h = zseg zPP false (zcal []) (zget (999, 0, 0, 0) zc_M_runThread) (zcut zu_M_runThread) (zorc [(527, [some (112, some 0), some (0, none), some (0, none), some (0, none), none, none, none, none, none, none, none, some (0, none), none], [(0, none), (0, none), (212, some 0)], fun xs h => match xs with
  | [a1, a2, a3, a11, t0, t1] => M_runThread_527 kr r0 a1 a2 a3 a11 t0 t1 h
  | _ => none)]) kr (fun _ _ => none) 400 488 [some (112, 0), some (0, a1), some (0, a2), some (0, a3), some (0, a4), some (0, a5), some (0, a6), none, none, none, none, some (0, a11), none] [] h := qg_M_runThread_488 kr r0 (M_runThread_527 kr r0) a1 a2 a3 a4 a5 a6 a11 h
set_option maxRecDepth 100000 in
theorem qg_M_runThread_555 {ρ : Type} (kr : Int → zH → Option ρ) (r0 : Int → Int → Int → zH → Option ρ) (c654 : Int → Int → Int → Int → zH → Option ρ) (a1 a2 a3 t0 : Int) (h : zH) : (c654 a1 a2 a3 t0 h) = zseg zPP false (zcal []) (zget (999, 0, 0, 0) zc_M_runThread) (zcut zu_M_runThread) (zorc [(654, [some (112, some 0), some (0, none), some (0, none), some (0, none), none, none, none, none, none, none, none, some (0, none), none], [], fun xs h => match xs with
  | [a1, a2, a3, a11] => c654 a1 a2 a3 a11 h
  | _ => none)]) kr (fun _ _ => none) 400 555 [some (112, 0), some (0, a1), some (0, a2), some (0, a3), none, none, none, none, none, none, none, none, none] [(0, t0)] h := by rfl
set_option maxRecDepth 100000 in
theorem qe_M_runThread_555 {ρ : Type} (kr : Int → zH → Option ρ) (r0 : Int → Int → Int → zH → Option ρ) (a1 a2 a3 t0 : Int) (h : zH) : M_runThread_555 kr r0 a1 a2 a3 t0 h = zseg zPP false (zcal []) (zget (999, 0, 0, 0) zc_M_runThread) (zcut zu_M_runThread) (zorc [(654, [some (112, some 0), some (0, none), some (0, none), some (0, none), none, none, none, none, none, none, none, some (0, none), none], [], fun xs h => match xs with
  | [a1, a2, a3, a11] => M_runThread_654 kr r0 a1 a2 a3 a11 h
  | _ => none)]) kr (fun _ _ => none) 400 555 [some (112, 0), some (0, a1), some (0, a2), some (0, a3), none, none, none, none, none, none, none, none, none] [(0, t0)] h := qg_M_runThread_555 kr r0 (M_runThread_654 kr r0) a1 a2 a3 t0 h
set_option maxRecDepth 100000 in
theorem qg_M_runThread_264 {ρ : Type} (kr : Int → zH → Option ρ) (r0 : Int → Int → Int → zH → Option ρ) (F_M_compute : Int → Int → Int → zH → (Int → zH → Option ρ) → Option ρ) (c326 : Int → Int → Int → Int → Int → Int → Int → Int → zH → Option ρ) (c382 : Int → Int → Int → Int → Int → Int → Int → Int → Int → zH → Option ρ) (c488 : Int → Int → Int → Int → Int → Int → Int → zH → Option ρ) (c555 : Int → Int → Int → Int → zH → Option ρ) (c654 : Int → Int → Int → Int → zH → Option ρ) (a1 a2 a3 a4 a5 a6 a7 a8 a9 a10 : Int) (h : zH) : (zix 16 a3 fun j1 =>
if a5 = 119 then (zix 64 a10 fun j20 =>
zlet (zset h 110 0 j20 a7) fun h21 =>
c654 a1 a2 a3 (wr ((zhD h 113 0 j1) + 1)) h21)
else if a5 = 87 then (zix 16 a10 fun j18 =>
zlet (zset h 111 0 j18 a7) fun h19 =>
c654 a1 a2 a3 (wr ((zhD h 113 0 j1) + 1)) h19)
else if a5 = 114 then c326 a1 a2 a3 a4 a5 a6 a10 (wr ((zhD h 113 0 j1) + 1)) h
else if a5 = 82 then c326 a1 a2 a3 a4 a5 a6 a10 (wr ((zhD h 113 0 j1) + 1)) h
else if a5 = 97 then c382 a1 a2 a3 a4 a5 a6 a8 a10 (wr ((zhD h 113 0 j1) + 1)) h
else if a5 = 120 then c382 a1 a2 a3 a4 a5 a6 a8 a10 (wr ((zhD h 113 0 j1) + 1)) h
else if a5 = 107 then (zix 160 a4 fun j14 =>
zix 160 a4 fun j15 =>
zix 128 (wr (a6 + (zhD h 66 0 j14))) fun j16 =>
zlet (zset h 112 0 j16 (zhD h 67 0 j15)) fun h17 =>
c654 a1 a2 a3 (wr ((zhD h 113 0 j1) + 1)) h17)
else if a5 = 116 then c488 a1 a2 a3 a4 a5 a6 (wr ((zhD h 113 0 j1) + 1)) h
else if a5 = 110 then c488 a1 a2 a3 a4 a5 a6 (wr ((zhD h 113 0 j1) + 1)) h
else if a5 = 108 then c488 a1 a2 a3 a4 a5 a6 (wr ((zhD h 113 0 j1) + 1)) h
else if a5 = 122 then (if a9 = 0 then (zix 160 a4 fun j13 =>
c555 a1 a2 a3 (zhD h 67 0 j13) h)
else c555 a1 a2 a3 (wr ((zhD h 113 0 j1) + 1)) h)
else if a5 = 106 then (zix 160 a4 fun j12 =>
c654 a1 a2 a3 (zhD h 67 0 j12) h)
else if a5 = 101 then (zix 16 a3 fun j10 =>
zlet (zset h 114 0 j10 101) fun h11 =>
c654 a1 a2 a3 (wr ((zhD h 113 0 j1) + 1)) h11)
else if a5 = 98 then (zix 16 a3 fun j7 =>
zlet (zset h 114 0 j7 119) fun h8 =>
zix 16 a3 fun j9 =>
c654 a1 a2 a3 (zhD h8 113 0 j9) h8)
else if a5 = 102 then c654 a1 a2 a3 (wr ((zhD h 113 0 j1) + 1)) h
else zix 160 a4 fun j2 =>
F_M_compute a5 a7 a8 h  fun v3 h4 =>
zix 128 (wr (a6 + (zhD h 66 0 j2))) fun j5 =>
zlet (zset h4 112 0 j5 v3) fun h6 =>
c654 a1 a2 a3 (wr ((zhD h 113 0 j1) + 1)) h6) = zseg zPP false (zcal [(115, [none, none, none], fun xs h kr kt => match xs with
  | [x0, x1, x2] => F_M_compute x0 x1 x2 h kr
  | _ => none)]) (zget (999, 0, 0, 0) zc_M_runThread) (zcut zu_M_runThread) (zorc [(326, [some (112, some 0), some (0, none), some (0, none), some (0, none), some (0, none), some (0, none), some (0, none), none, none, none, some (0, none), some (0, none), none], [], fun xs h => match xs with
  | [a1, a2, a3, a4, a5, a6, a10, a11] => c326 a1 a2 a3 a4 a5 a6 a10 a11 h
  | _ => none), (382, [some (112, some 0), some (0, none), some (0, none), some (0, none), some (0, none), some (0, none), some (0, none), none, some (0, none), none, some (0, none), some (0, none), none], [], fun xs h => match xs with
  | [a1, a2, a3, a4, a5, a6, a8, a10, a11] => c382 a1 a2 a3 a4 a5 a6 a8 a10 a11 h
  | _ => none), (488, [some (112, some 0), some (0, none), some (0, none), some (0, none), some (0, none), some (0, none), some (0, none), none, none, none, none, some (0, none), none], [], fun xs h => match xs with
  | [a1, a2, a3, a4, a5, a6, a11] => c488 a1 a2 a3 a4 a5 a6 a11 h
  | _ => none), (555, [some (112, some 0), some (0, none), some (0, none), some (0, none), none, none, none, none, none, none, none, none, none], [(0, none)], fun xs h => match xs with
  | [a1, a2, a3, t0] => c555 a1 a2 a3 t0 h
  | _ => none), (654, [some (112, some 0), some (0, none), some (0, none), some (0, none), none, none, none, none, none, none, none, some (0, none), none], [], fun xs h => match xs with
  | [a1, a2, a3, a11] => c654 a1 a2 a3 a11 h
  | _ => none)]) kr (fun _ _ => none) 400 264 [some (112, 0), some (0, a1), some (0, a2), some (0, a3), some (0, a4), some (0, a5), some (0, a6), some (0, a7), some (0, a8), some (0, a9), some (0, a10), none, none] [] h := by rfl
set_option maxRecDepth 100000 in
theorem qe_M_runThread_264 {ρ : Type} (kr : Int → zH → Option ρ) (r0 : Int → Int → Int → zH → Option ρ) (a1 a2 a3 a4 a5 a6 a7 a8 a9 a10 : Int) (h : zH) : M_runThread_264 kr r0 a1 a2 a3 a4 a5 a6 a7 a8 a9 a10 h = zseg zPP false (zcal [(115, [none, none, none], fun xs h kr kt => match xs with
  | [x0, x1, x2] => M_compute x0 x1 x2 h kr
  | _ => none)]) (zget (999, 0, 0, 0) zc_M_runThread) (zcut zu_M_runThread) (zorc [(326, [some (112, some 0), some (0, none), some (0, none), some (0, none), some (0, none), some (0, none), some (0, none), none, none, none, some (0, none), some (0, none), none], [], fun xs h => match xs with
  | [a1, a2, a3, a4, a5, a6, a10, a11] => M_runThread_326 kr r0 a1 a2 a3 a4 a5 a6 a10 a11 h
  | _ => none), (382, [some (112, some 0), some (0, none), some (0, none), some (0, none), some (0, none), some (0, none), some (0, none), none, some (0, none), none, some (0, none), some (0, none), none], [], fun xs h => match xs with
  | [a1, a2, a3, a4, a5, a6, a8, a10, a11] => M_runThread_382 kr r0 a1 a2 a3 a4 a5 a6 a8 a10 a11 h
  | _ => none), (488, [some (112, some 0), some (0, none), some (0, none), some (0, none), some (0, none), some (0, none), some (0, none), none, none, none, none, some (0, none), none], [], fun xs h => match xs with
  | [a1, a2, a3, a4, a5, a6, a11] => M_runThread_488 kr r0 a1 a2 a3 a4 a5 a6 a11 h
  | _ => none), (555, [some (112, some 0), some (0, none), some (0, none), some (0, none), none, none, none, none, none, none, none, none, none], [(0, none)], fun xs h => match xs with
  | [a1, a2, a3, t0] => M_runThread_555 kr r0 a1 a2 a3 t0 h
  | _ => none), (654, [some (112, some 0), some (0, none), some (0, none), some (0, none), none, none, none, none, none, none, none, some (0, none), none], [], fun xs h => match xs with
  | [a1, a2, a3, a11] => M_runThread_654 kr r0 a1 a2 a3 a11 h
  | _ => none)]) kr (fun _ _ => none) 400 264 [some (112, 0), some (0, a1), some (0, a2), some (0, a3), some (0, a4), some (0, a5), some (0, a6), some (0, a7), some (0, a8), some (0, a9), some (0, a10), none, none] [] h := qg_M_runThread_264 kr r0 M_compute (M_runThread_326 kr r0) (M_runThread_382 kr r0) (M_runThread_488 kr r0) (M_runThread_555 kr r0) (M_runThread_654 kr r0) a1 a2 a3 a4 a5 a6 a7 a8 a9 a10 h
set_option maxRecDepth 100000 in
theorem qg_M_runThread_237 {ρ : Type} (kr : Int → zH → Option ρ) (r0 : Int → Int → Int → zH → Option ρ) (F_M_in : Int → Int → Int → zH → (Int → zH → Option ρ) → Option ρ) (F_M_isShared : Int → zH → (Int → zH → Option ρ) → Option ρ) (c262 : zH → Option ρ) (c264 : Int → Int → Int → Int → Int → Int → Int → Int → Int → Int → zH → Option ρ) (a1 a2 a3 a4 a5 a6 a7 a8 a9 a10 : Int) (h : zH) : (F_M_isShared a5 h  fun v1 h2 =>
if v1 = 0 then c264 a1 a2 a3 a4 a5 a6 a7 a8 a9 a10 h2
else zix 4 a1 fun j3 =>
F_M_in a10 0 (wr ((zhD h2 62 0 j3) - 1)) h2  fun v4 h5 =>
if v4 = 0 then c262 h5
else c264 a1 a2 a3 a4 a5 a6 a7 a8 a9 a10 h5) = zseg zPP false (zcal [(64, [none, none, none], fun xs h kr kt => match xs with
  | [x0, x1, x2] => F_M_in x0 x1 x2 h kr
  | _ => none), (114, [none], fun xs h kr kt => match xs with
  | [x0] => F_M_isShared x0 h kr
  | _ => none)]) (zget (999, 0, 0, 0) zc_M_runThread) (zcut zu_M_runThread) (zorc [(262, [none, none, none, none, none, none, none, none, none, none, none, none, none], [], fun xs h => match xs with
  | [] => c262 h
  | _ => none), (264, [some (112, some 0), some (0, none), some (0, none), some (0, none), some (0, none), some (0, none), some (0, none), some (0, none), some (0, none), some (0, none), some (0, none), none, none], [], fun xs h => match xs with
  | [a1, a2, a3, a4, a5, a6, a7, a8, a9, a10] => c264 a1 a2 a3 a4 a5 a6 a7 a8 a9 a10 h
  | _ => none)]) kr (fun _ _ => none) 400 237 [some (112, 0), some (0, a1), some (0, a2), some (0, a3), some (0, a4), some (0, a5), some (0, a6), some (0, a7), some (0, a8), some (0, a9), some (0, a10), none, none] [] h := by rfl
set_option maxRecDepth 100000 in
theorem qe_M_runThread_237 {ρ : Type} (kr : Int → zH → Option ρ) (r0 : Int → Int → Int → zH → Option ρ) (a1 a2 a3 a4 a5 a6 a7 a8 a9 a10 : Int) (h : zH) : M_runThread_237 kr r0 a1 a2 a3 a4 a5 a6 a7 a8 a9 a10 h = zseg zPP false (zcal [(64, [none, none, none], fun xs h kr kt => match xs with
  | [x0, x1, x2] => M_in x0 x1 x2 h kr
  | _ => none), (114, [none], fun xs h kr kt => match xs with
  | [x0] => M_isShared x0 h kr
  | _ => none)]) (zget (999, 0, 0, 0) zc_M_runThread) (zcut zu_M_runThread) (zorc [(262, [none, none, none, none, none, none, none, none, none, none, none, none, none], [], fun xs h => match xs with
  | [] => M_runThread_262 kr h
  | _ => none), (264, [some (112, some 0), some (0, none), some (0, none), some (0, none), some (0, none), some (0, none), some (0, none), some (0, none), some (0, none), some (0, none), some (0, none), none, none], [], fun xs h => match xs with
  | [a1, a2, a3, a4, a5, a6, a7, a8, a9, a10] => M_runThread_264 kr r0 a1 a2 a3 a4 a5 a6 a7 a8 a9 a10 h
  | _ => none)]) kr (fun _ _ => none) 400 237 [some (112, 0), some (0, a1), some (0, a2), some (0, a3), some (0, a4), some (0, a5), some (0, a6), some (0, a7), some (0, a8), some (0, a9), some (0, a10), none, none] [] h := qg_M_runThread_237 kr r0 M_in M_isShared (M_runThread_262 kr) (M_runThread_264 kr r0) a1 a2 a3 a4 a5 a6 a7 a8 a9 a10 h
set_option maxRecDepth 100000 in
theorem qg_M_runThread_207 {ρ : Type} (kr : Int → zH → Option ρ) (r0 : Int → Int → Int → zH → Option ρ) (F_M_noCell : Int → zH → (Int → zH → Option ρ) → Option ρ) (F_M_isGlobal : Int → zH → (Int → zH → Option ρ) → Option ρ) (c237 : Int → Int → Int → Int → Int → Int → Int → Int → Int → Int → zH → Option ρ) (c262 : zH → Option ρ) (a1 a2 a3 a4 a5 a6 a7 a8 a9 t0 : Int) (h : zH) : (zix 16 a3 fun j1 =>
if 200 < (zhD h 115 0 j1) then c262 h
else F_M_isGlobal a5 h  fun v2 h3 =>
if v2 = 0 then c237 a1 a2 a3 a4 a5 a6 a7 a8 a9 t0 h3
else F_M_noCell t0 h3  fun v4 h5 =>
if v4 = 0 then c237 a1 a2 a3 a4 a5 a6 a7 a8 a9 t0 h5
else c262 h5) = zseg zPP false (zcal [(68, [none], fun xs h kr kt => match xs with
  | [x0] => F_M_noCell x0 h kr
  | _ => none), (113, [none], fun xs h kr kt => match xs with
  | [x0] => F_M_isGlobal x0 h kr
  | _ => none)]) (zget (999, 0, 0, 0) zc_M_runThread) (zcut zu_M_runThread) (zorc [(237, [some (112, some 0), some (0, none), some (0, none), some (0, none), some (0, none), some (0, none), some (0, none), some (0, none), some (0, none), some (0, none), some (0, none), none, none], [], fun xs h => match xs with
  | [a1, a2, a3, a4, a5, a6, a7, a8, a9, a10] => c237 a1 a2 a3 a4 a5 a6 a7 a8 a9 a10 h
  | _ => none), (262, [none, none, none, none, none, none, none, none, none, none, none, none, none], [], fun xs h => match xs with
  | [] => c262 h
  | _ => none)]) kr (fun _ _ => none) 400 207 [some (112, 0), some (0, a1), some (0, a2), some (0, a3), some (0, a4), some (0, a5), some (0, a6), some (0, a7), some (0, a8), some (0, a9), none, none, none] [(0, t0)] h := by rfl
set_option maxRecDepth 100000 in
theorem qe_M_runThread_207 {ρ : Type} (kr : Int → zH → Option ρ) (r0 : Int → Int → Int → zH → Option ρ) (a1 a2 a3 a4 a5 a6 a7 a8 a9 t0 : Int) (h : zH) : M_runThread_207 kr r0 a1 a2 a3 a4 a5 a6 a7 a8 a9 t0 h = zseg zPP false (zcal [(68, [none], fun xs h kr kt => match xs with
  | [x0] => M_noCell x0 h kr
  | _ => none), (113, [none], fun xs h kr kt => match xs with
  | [x0] => M_isGlobal x0 h kr
  | _ => none)]) (zget (999, 0, 0, 0) zc_M_runThread) (zcut zu_M_runThread) (zorc [(237, [some (112, some 0), some (0, none), some (0, none), some (0, none), some (0, none), some (0, none), some (0, none), some (0, none), some (0, none), some (0, none), some (0, none), none, none], [], fun xs h => match xs with
  | [a1, a2, a3, a4, a5, a6, a7, a8, a9, a10] => M_runThread_237 kr r0 a1 a2 a3 a4 a5 a6 a7 a8 a9 a10 h
  | _ => none), (262, [none, none, none, none, none, none, none, none, none, none, none, none, none], [], fun xs h => match xs with
  | [] => M_runThread_262 kr h
  | _ => none)]) kr (fun _ _ => none) 400 207 [some (112, 0), some (0, a1), some (0, a2), some (0, a3), some (0, a4), some (0, a5), some (0, a6), some (0, a7), some (0, a8), some (0, a9), none, none, none] [(0, t0)] h := qg_M_runThread_207 kr r0 M_noCell M_isGlobal (M_runThread_237 kr r0) (M_runThread_262 kr) a1 a2 a3 a4 a5 a6 a7 a8 a9 t0 h
set_option maxRecDepth 100000 in
theorem qg_M_runThread_200 {ρ : Type} (kr : Int → zH → Option ρ) (r0 : Int → Int → Int → zH → Option ρ) (c207 : Int → Int → Int → Int → Int → Int → Int → Int → Int → Int → zH → Option ρ) (a1 a2 a3 a4 a5 a6 a7 a8 a9 : Int) (h : zH) : (c207 a1 a2 a3 a4 a5 a6 a7 a8 a9 a9 h) = zseg zPP false (zcal []) (zget (999, 0, 0, 0) zc_M_runThread) (zcut zu_M_runThread) (zorc [(207, [some (112, some 0), some (0, none), some (0, none), some (0, none), some (0, none), some (0, none), some (0, none), some (0, none), some (0, none), some (0, none), none, none, none], [(0, none)], fun xs h => match xs with
  | [a1, a2, a3, a4, a5, a6, a7, a8, a9, t0] => c207 a1 a2 a3 a4 a5 a6 a7 a8 a9 t0 h
  | _ => none)]) kr (fun _ _ => none) 400 200 [some (112, 0), some (0, a1), some (0, a2), some (0, a3), some (0, a4), some (0, a5), some (0, a6), some (0, a7), some (0, a8), some (0, a9), none, none, none] [] h := by rfl
set_option maxRecDepth 100000 in
theorem qe_M_runThread_200 {ρ : Type} (kr : Int → zH → Option ρ) (r0 : Int → Int → Int → zH → Option ρ) (a1 a2 a3 a4 a5 a6 a7 a8 a9 : Int) (h : zH) : M_runThread_200 kr r0 a1 a2 a3 a4 a5 a6 a7 a8 a9 h = zseg zPP false (zcal []) (zget (999, 0, 0, 0) zc_M_runThread) (zcut zu_M_runThread) (zorc [(207, [some (112, some 0), some (0, none), some (0, none), some (0, none), some (0, none), some (0, none), some (0, none), some (0, none), some (0, none), some (0, none), none, none, none], [(0, none)], fun xs h => match xs with
  | [a1, a2, a3, a4, a5, a6, a7, a8, a9, t0] => M_runThread_207 kr r0 a1 a2 a3 a4 a5 a6 a7 a8 a9 t0 h
  | _ => none)]) kr (fun _ _ => none) 400 200 [some (112, 0), some (0, a1), some (0, a2), some (0, a3), some (0, a4), some (0, a5), some (0, a6), some (0, a7), some (0, a8), some (0, a9), none, none, none] [] h := qg_M_runThread_200 kr r0 (M_runThread_207 kr r0) a1 a2 a3 a4 a5 a6 a7 a8 a9 h
set_option maxRecDepth 100000 in
theorem qg_M_runThread_184 {ρ : Type} (kr : Int → zH → Option ρ) (r0 : Int → Int → Int → zH → Option ρ) (c200 : Int → Int → Int → Int → Int → Int → Int → Int → Int → zH → Option ρ) (c207 : Int → Int → Int → Int → Int → Int → Int → Int → Int → Int → zH → Option ρ) (a1 a2 a3 a4 a5 a6 a7 a8 t0 : Int) (h : zH) : (if a5 = 119 then c200 a1 a2 a3 a4 a5 a6 a7 a8 t0 h
else if a5 = 87 then c200 a1 a2 a3 a4 a5 a6 a7 a8 t0 h
else c207 a1 a2 a3 a4 a5 a6 a7 a8 t0 a7 h) = zseg zPP false (zcal []) (zget (999, 0, 0, 0) zc_M_runThread) (zcut zu_M_runThread) (zorc [(200, [some (112, some 0), some (0, none), some (0, none), some (0, none), some (0, none), some (0, none), some (0, none), some (0, none), some (0, none), some (0, none), none, none, none], [], fun xs h => match xs with
  | [a1, a2, a3, a4, a5, a6, a7, a8, a9] => c200 a1 a2 a3 a4 a5 a6 a7 a8 a9 h
  | _ => none), (207, [some (112, some 0), some (0, none), some (0, none), some (0, none), some (0, none), some (0, none), some (0, none), some (0, none), some (0, none), some (0, none), none, none, none], [(0, none)], fun xs h => match xs with
  | [a1, a2, a3, a4, a5, a6, a7, a8, a9, t0] => c207 a1 a2 a3 a4 a5 a6 a7 a8 a9 t0 h
  | _ => none)]) kr (fun _ _ => none) 400 184 [some (112, 0), some (0, a1), some (0, a2), some (0, a3), some (0, a4), some (0, a5), some (0, a6), some (0, a7), some (0, a8), none, none, none, none] [(0, t0)] h := by rfl
set_option maxRecDepth 100000 in
theorem qe_M_runThread_184 {ρ : Type} (kr : Int → zH → Option ρ) (r0 : Int → Int → Int → zH → Option ρ) (a1 a2 a3 a4 a5 a6 a7 a8 t0 : Int) (h : zH) : M_runThread_184 kr r0 a1 a2 a3 a4 a5 a6 a7 a8 t0 h = zseg zPP false (zcal []) (zget (999, 0, 0, 0) zc_M_runThread) (zcut zu_M_runThread) (zorc [(200, [some (112, some 0), some (0, none), some (0, none), some (0, none), some (0, none), some (0, none), some (0, none), some (0, none), some (0, none), some (0, none), none, none, none], [], fun xs h => match xs with
  | [a1, a2, a3, a4, a5, a6, a7, a8, a9] => M_runThread_200 kr r0 a1 a2 a3 a4 a5 a6 a7 a8 a9 h
  | _ => none), (207, [some (112, some 0), some (0, none), some (0, none), some (0, none), some (0, none), some (0, none), some (0, none), some (0, none), some (0, none), some (0, none), none, none, none], [(0, none)], fun xs h => match xs with
  | [a1, a2, a3, a4, a5, a6, a7, a8, a9, t0] => M_runThread_207 kr r0 a1 a2 a3 a4 a5 a6 a7 a8 a9 t0 h
  | _ => none)]) kr (fun _ _ => none) 400 184 [some (112, 0), some (0, a1), some (0, a2), some (0, a3), some (0, a4), some (0, a5), some (0, a6), some (0, a7), some (0, a8), none, none, none, none] [(0, t0)] h := qg_M_runThread_184 kr r0 (M_runThread_200 kr r0) (M_runThread_207 kr r0) a1 a2 a3 a4 a5 a6 a7 a8 t0 h
set_option maxRecDepth 100000 in
theorem qg_M_runThread_147 {ρ : Type} (kr : Int → zH → Option ρ) (r0 : Int → Int → Int → zH → Option ρ) (F_M_in : Int → Int → Int → zH → (Int → zH → Option ρ) → Option ρ) (c184 : Int → Int → Int → Int → Int → Int → Int → Int → Int → zH → Option ρ) (a1 a2 a3 a4 a5 a6 a7 t0 : Int) (h : zH) : (zix 160 a4 fun j1 =>
F_M_in (zhD h 66 0 j1) 0 7 h  fun v2 h3 =>
if v2 = 0 then c184 a1 a2 a3 a4 a5 a6 a7 t0 0 h3
else zix 160 a4 fun j4 =>
zix 128 (wr (a6 + (zhD h3 66 0 j4))) fun j5 =>
c184 a1 a2 a3 a4 a5 a6 a7 t0 (zhD h3 112 0 j5) h3) = zseg zPP false (zcal [(64, [none, none, none], fun xs h kr kt => match xs with
  | [x0, x1, x2] => F_M_in x0 x1 x2 h kr
  | _ => none)]) (zget (999, 0, 0, 0) zc_M_runThread) (zcut zu_M_runThread) (zorc [(184, [some (112, some 0), some (0, none), some (0, none), some (0, none), some (0, none), some (0, none), some (0, none), some (0, none), some (0, none), none, none, none, none], [(0, none)], fun xs h => match xs with
  | [a1, a2, a3, a4, a5, a6, a7, a8, t0] => c184 a1 a2 a3 a4 a5 a6 a7 a8 t0 h
  | _ => none)]) kr (fun _ _ => none) 400 147 [some (112, 0), some (0, a1), some (0, a2), some (0, a3), some (0, a4), some (0, a5), some (0, a6), some (0, a7), none, none, none, none, none] [(0, t0)] h := by rfl
set_option maxRecDepth 100000 in
theorem qe_M_runThread_147 {ρ : Type} (kr : Int → zH → Option ρ) (r0 : Int → Int → Int → zH → Option ρ) (a1 a2 a3 a4 a5 a6 a7 t0 : Int) (h : zH) : M_runThread_147 kr r0 a1 a2 a3 a4 a5 a6 a7 t0 h = zseg zPP false (zcal [(64, [none, none, none], fun xs h kr kt => match xs with
  | [x0, x1, x2] => M_in x0 x1 x2 h kr
  | _ => none)]) (zget (999, 0, 0, 0) zc_M_runThread) (zcut zu_M_runThread) (zorc [(184, [some (112, some 0), some (0, none), some (0, none), some (0, none), some (0, none), some (0, none), some (0, none), some (0, none), some (0, none), none, none, none, none], [(0, none)], fun xs h => match xs with
  | [a1, a2, a3, a4, a5, a6, a7, a8, t0] => M_runThread_184 kr r0 a1 a2 a3 a4 a5 a6 a7 a8 t0 h
  | _ => none)]) kr (fun _ _ => none) 400 147 [some (112, 0), some (0, a1), some (0, a2), some (0, a3), some (0, a4), some (0, a5), some (0, a6), some (0, a7), none, none, none, none, none] [(0, t0)] h := qg_M_runThread_147 kr r0 M_in (M_runThread_184 kr r0) a1 a2 a3 a4 a5 a6 a7 t0 h
set_option maxRecDepth 100000 in
theorem qg_M_runThread_110 {ρ : Type} (kr : Int → zH → Option ρ) (r0 : Int → Int → Int → zH → Option ρ) (F_M_in : Int → Int → Int → zH → (Int → zH → Option ρ) → Option ρ) (c147 : Int → Int → Int → Int → Int → Int → Int → Int → zH → Option ρ) (a1 a2 a3 a4 a5 a6 t0 : Int) (h : zH) : (zix 160 a4 fun j1 =>
F_M_in (zhD h 68 0 j1) 0 7 h  fun v2 h3 =>
if v2 = 0 then c147 a1 a2 a3 a4 a5 a6 t0 0 h3
else zix 160 a4 fun j4 =>
zix 128 (wr (a6 + (zhD h3 68 0 j4))) fun j5 =>
c147 a1 a2 a3 a4 a5 a6 t0 (zhD h3 112 0 j5) h3) = zseg zPP false (zcal [(64, [none, none, none], fun xs h kr kt => match xs with
  | [x0, x1, x2] => F_M_in x0 x1 x2 h kr
  | _ => none)]) (zget (999, 0, 0, 0) zc_M_runThread) (zcut zu_M_runThread) (zorc [(147, [some (112, some 0), some (0, none), some (0, none), some (0, none), some (0, none), some (0, none), some (0, none), some (0, none), none, none, none, none, none], [(0, none)], fun xs h => match xs with
  | [a1, a2, a3, a4, a5, a6, a7, t0] => c147 a1 a2 a3 a4 a5 a6 a7 t0 h
  | _ => none)]) kr (fun _ _ => none) 400 110 [some (112, 0), some (0, a1), some (0, a2), some (0, a3), some (0, a4), some (0, a5), some (0, a6), none, none, none, none, none, none] [(0, t0)] h := by rfl
set_option maxRecDepth 100000 in
theorem qe_M_runThread_110 {ρ : Type} (kr : Int → zH → Option ρ) (r0 : Int → Int → Int → zH → Option ρ) (a1 a2 a3 a4 a5 a6 t0 : Int) (h : zH) : M_runThread_110 kr r0 a1 a2 a3 a4 a5 a6 t0 h = zseg zPP false (zcal [(64, [none, none, none], fun xs h kr kt => match xs with
  | [x0, x1, x2] => M_in x0 x1 x2 h kr
  | _ => none)]) (zget (999, 0, 0, 0) zc_M_runThread) (zcut zu_M_runThread) (zorc [(147, [some (112, some 0), some (0, none), some (0, none), some (0, none), some (0, none), some (0, none), some (0, none), some (0, none), none, none, none, none, none], [(0, none)], fun xs h => match xs with
  | [a1, a2, a3, a4, a5, a6, a7, t0] => M_runThread_147 kr r0 a1 a2 a3 a4 a5 a6 a7 t0 h
  | _ => none)]) kr (fun _ _ => none) 400 110 [some (112, 0), some (0, a1), some (0, a2), some (0, a3), some (0, a4), some (0, a5), some (0, a6), none, none, none, none, none, none] [(0, t0)] h := qg_M_runThread_110 kr r0 M_in (M_runThread_147 kr r0) a1 a2 a3 a4 a5 a6 t0 h
set_option maxRecDepth 100000 in
theorem qg_M_runThread_0b {ρ : Type} (kr : Int → zH → Option ρ) (r0 : Int → Int → Int → zH → Option ρ) (F_M_in : Int → Int → Int → zH → (Int → zH → Option ρ) → Option ρ) (c110 : Int → Int → Int → Int → Int → Int → Int → zH → Option ρ) (a1 a2 a3 : Int) (h : zH) : (zix 16 a3 fun j1 =>
if (zhD h 114 0 j1) = 114 then (zix 16 a3 fun j2 =>
zix 4 a1 fun j3 =>
if (zhD h 113 0 j2) < (zhD h 63 0 j3) then (zix 16 a3 fun j4 =>
zix 160 (wr ((wr (40 * a1)) + (zhD h 113 0 j4))) fun j5 =>
zix 16 a3 fun j6 =>
zix 16 a3 fun j7 =>
zlet (zset h 115 0 j7 (wr ((zhD h 115 0 j6) + 1))) fun h8 =>
zix 160 (wr ((wr (40 * a1)) + (zhD h 113 0 j4))) fun j9 =>
F_M_in (zhD h8 67 0 j9) 0 7 h8  fun v10 h11 =>
if v10 = 0 then c110 a1 a2 a3 (wr ((wr (40 * a1)) + (zhD h 113 0 j4))) (zhD h 65 0 j5) (wr (8 * a3)) 0 h11
else zix 160 (wr ((wr (40 * a1)) + (zhD h 113 0 j4))) fun j12 =>
zix 128 (wr ((wr (8 * a3)) + (zhD h11 67 0 j12))) fun j13 =>
c110 a1 a2 a3 (wr ((wr (40 * a1)) + (zhD h 113 0 j4))) (zhD h 65 0 j5) (wr (8 * a3)) (zhD h11 112 0 j13) h11)
else zix 16 a3 fun j14 =>
zlet (zset h 114 0 j14 101) fun h15 =>
r0 a1 a2 a3 h15)
else kr 1 h) = zseg zPP false (zcal [(64, [none, none, none], fun xs h kr kt => match xs with
  | [x0, x1, x2] => F_M_in x0 x1 x2 h kr
  | _ => none)]) (zget (999, 0, 0, 0) zc_M_runThread) (zcut zu_M_runThread) (zorc [(0, [some (112, some 0), some (0, none), some (0, none), some (0, none), none, none, none, none, none, none, none, none, none], [], fun xs h => match xs with
  | [a1, a2, a3] => r0 a1 a2 a3 h
  | _ => none), (110, [some (112, some 0), some (0, none), some (0, none), some (0, none), some (0, none), some (0, none), some (0, none), none, none, none, none, none, none], [(0, none)], fun xs h => match xs with
  | [a1, a2, a3, a4, a5, a6, t0] => c110 a1 a2 a3 a4 a5 a6 t0 h
  | _ => none)]) kr (fun _ _ => none) 400 0 [some (112, 0), some (0, a1), some (0, a2), some (0, a3), none, none, none, none, none, none, none, none, none] [] h := by rfl
set_option maxRecDepth 100000 in
theorem qe_M_runThread_0b {ρ : Type} (kr : Int → zH → Option ρ) (r0 : Int → Int → Int → zH → Option ρ) (a1 a2 a3 : Int) (h : zH) : M_runThread_0b kr r0 a1 a2 a3 h = zseg zPP false (zcal [(64, [none, none, none], fun xs h kr kt => match xs with
  | [x0, x1, x2] => M_in x0 x1 x2 h kr
  | _ => none)]) (zget (999, 0, 0, 0) zc_M_runThread) (zcut zu_M_runThread) (zorc [(0, [some (112, some 0), some (0, none), some (0, none), some (0, none), none, none, none, none, none, none, none, none, none], [], fun xs h => match xs with
  | [a1, a2, a3] => r0 a1 a2 a3 h
  | _ => none), (110, [some (112, some 0), some (0, none), some (0, none), some (0, none), some (0, none), some (0, none), some (0, none), none, none, none, none, none, none], [(0, none)], fun xs h => match xs with
  | [a1, a2, a3, a4, a5, a6, t0] => M_runThread_110 kr r0 a1 a2 a3 a4 a5 a6 t0 h
  | _ => none)]) kr (fun _ _ => none) 400 0 [some (112, 0), some (0, a1), some (0, a2), some (0, a3), none, none, none, none, none, none, none, none, none] [] h := qg_M_runThread_0b kr r0 M_in (M_runThread_110 kr r0) a1 a2 a3 h
