def zc_M_comeOne : List zI := [(14, 0, 0, 112), (80, 12, 370, 55), (999, 0, 0, 0), (999, 0, 0, 0), (16, 0, 1, 0), (14, 0, 0, 112), (0, 0, 0, 0), (110, 0, 421, 127), (999, 0, 0, 0), (999, 0, 0, 0), (14, 0, 0, 112), (0, 1, 0, 0), (110, 0, 421, 127), (999, 0, 0, 0), (999, 0, 0, 0), (0, 0, 0, 0), (16, 0, 2, 0), (10, 0, 2, 0), (14, 0, 0, 112), (80, 12, 196, 13), (999, 0, 0, 0), (999, 0, 0, 0), (69, 35, 57, 0), (999, 0, 0, 0), (999, 0, 0, 0), (14, 0, 0, 112), (80, 12, 43, 14), (999, 0, 0, 0), (999, 0, 0, 0), (10, 0, 2, 0), (92, 0, 0, 69), (1, 113, 0, 0), (999, 0, 0, 0), (67, 18, 51, 0), (999, 0, 0, 0), (999, 0, 0, 0), (14, 0, 0, 112), (80, 12, 64, 21), (999, 0, 0, 0), (999, 0, 0, 0), (10, 0, 2, 0), (90, 0, 0, 76), (0, (-1), 0, 0), (66, 8, 51, 0), (999, 0, 0, 0), (999, 0, 0, 0), (14, 0, 0, 112), (10, 0, 2, 0), (110, 0, 402, 124), (999, 0, 0, 0), (999, 0, 0, 0), (22, 1, 2, 0), (999, 0, 0, 0), (999, 0, 0, 0), (72, (-37), 17, 0), (999, 0, 0, 0), (999, 0, 0, 0), (0, 0, 0, 0), (16, 0, 2, 0), (10, 0, 2, 0), (14, 0, 0, 112), (80, 12, 196, 13), (999, 0, 0, 0), (999, 0, 0, 0), (69, 35, 99, 0), (999, 0, 0, 0), (999, 0, 0, 0), (14, 0, 0, 112), (80, 12, 43, 14), (999, 0, 0, 0), (999, 0, 0, 0), (10, 0, 2, 0), (92, 0, 0, 69), (1, 114, 0, 0), (999, 0, 0, 0), (67, 18, 93, 0), (999, 0, 0, 0), (999, 0, 0, 0), (14, 0, 0, 112), (80, 12, 46, 15), (999, 0, 0, 0), (999, 0, 0, 0), (10, 0, 2, 0), (90, 0, 0, 70), (0, (-1), 0, 0), (67, 8, 93, 0), (999, 0, 0, 0), (999, 0, 0, 0), (14, 0, 0, 112), (10, 0, 2, 0), (110, 0, 424, 128), (999, 0, 0, 0), (999, 0, 0, 0), (22, 1, 2, 0), (999, 0, 0, 0), (999, 0, 0, 0), (72, (-37), 59, 0), (999, 0, 0, 0), (999, 0, 0, 0), (0, 0, 0, 0), (16, 0, 2, 0), (10, 0, 2, 0), (14, 0, 0, 112), (80, 12, 196, 13), (999, 0, 0, 0), (999, 0, 0, 0), (69, 67, 173, 0), (999, 0, 0, 0), (999, 0, 0, 0), (14, 0, 0, 112), (80, 12, 43, 14), (999, 0, 0, 0), (999, 0, 0, 0), (10, 0, 2, 0), (92, 0, 0, 69), (1, 114, 0, 0), (999, 0, 0, 0), (67, 50, 167, 0), (999, 0, 0, 0), (999, 0, 0, 0), (14, 0, 0, 112), (80, 12, 46, 15), (999, 0, 0, 0), (999, 0, 0, 0), (10, 0, 2, 0), (90, 0, 0, 70), (0, (-1), 0, 0), (66, 40, 167, 0), (999, 0, 0, 0), (999, 0, 0, 0), (14, 0, 0, 112), (80, 12, 70, 23), (999, 0, 0, 0), (999, 0, 0, 0), (10, 0, 2, 0), (90, 0, 0, 78), (14, 0, 0, 112), (80, 12, 52, 17), (999, 0, 0, 0), (999, 0, 0, 0), (10, 0, 2, 0), (90, 0, 0, 72), (69, 25, 167, 0), (999, 0, 0, 0), (999, 0, 0, 0), (14, 0, 0, 112), (10, 0, 2, 0), (110, 0, 427, 132), (999, 0, 0, 0), (999, 0, 0, 0), (0, (-1), 0, 0), (66, 16, 167, 0), (999, 0, 0, 0), (999, 0, 0, 0), (14, 0, 0, 112), (10, 0, 2, 0), (14, 0, 0, 112), (10, 0, 2, 0), (110, 0, 427, 132), (999, 0, 0, 0), (999, 0, 0, 0), (110, 0, 430, 133), (999, 0, 0, 0), (999, 0, 0, 0), (72, (-55), 109, 0), (999, 0, 0, 0), (999, 0, 0, 0), (22, 1, 2, 0), (999, 0, 0, 0), (999, 0, 0, 0), (72, (-69), 101, 0), (999, 0, 0, 0), (999, 0, 0, 0), (14, 0, 0, 112), (110, 0, 433, 87), (999, 0, 0, 0), (999, 0, 0, 0), (0, 0, 0, 0), (16, 0, 2, 0), (10, 0, 2, 0), (0, 2, 0, 0), (69, 30, 211, 0), (999, 0, 0, 0), (999, 0, 0, 0), (14, 0, 0, 112), (10, 0, 2, 0), (110, 0, 436, 135), (999, 0, 0, 0), (999, 0, 0, 0), (16, 0, 3, 0), (10, 0, 3, 0), (0, (-1), 0, 0), (66, 13, 205, 0), (999, 0, 0, 0), (999, 0, 0, 0), (14, 0, 0, 112), (10, 0, 2, 0), (10, 0, 3, 0), (110, 0, 439, 123), (999, 0, 0, 0), (999, 0, 0, 0), (14, 0, 0, 112), (110, 0, 433, 87), (999, 0, 0, 0), (999, 0, 0, 0), (22, 1, 2, 0), (999, 0, 0, 0), (999, 0, 0, 0), (72, (-29), 179, 0), (999, 0, 0, 0), (999, 0, 0, 0), (0, 0, 0, 0), (16, 0, 2, 0), (10, 0, 2, 0), (0, 2, 0, 0), (69, 59, 274, 0), (999, 0, 0, 0), (999, 0, 0, 0), (14, 0, 0, 112), (80, 12, 390, 1), (999, 0, 0, 0), (999, 0, 0, 0), (0, 3, 0, 0), (34, 0, 0, 0), (0, 2, 0, 0), (67, 49, 274, 0), (999, 0, 0, 0), (999, 0, 0, 0), (0, 0, 0, 0), (16, 0, 3, 0), (10, 0, 3, 0), (14, 0, 0, 112), (80, 12, 115, 38), (999, 0, 0, 0), (999, 0, 0, 0), (10, 0, 2, 0), (90, 0, 0, 93), (69, 31, 268, 0), (999, 0, 0, 0), (999, 0, 0, 0), (14, 0, 0, 112), (80, 12, 127, 42), (999, 0, 0, 0), (999, 0, 0, 0), (0, 4, 0, 0), (10, 0, 2, 0), (32, 0, 0, 0), (10, 0, 3, 0), (30, 0, 0, 0), (90, 0, 0, 97), (65, 12, 262, 0), (999, 0, 0, 0), (999, 0, 0, 0), (14, 0, 0, 112), (0, 4, 0, 0), (10, 0, 2, 0), (32, 0, 0, 0), (10, 0, 3, 0), (30, 0, 0, 0), (110, 0, 263, 97), (999, 0, 0, 0), (999, 0, 0, 0), (22, 1, 3, 0), (999, 0, 0, 0), (999, 0, 0, 0), (72, (-35), 230, 0), (999, 0, 0, 0), (999, 0, 0, 0), (22, 1, 2, 0), (999, 0, 0, 0), (999, 0, 0, 0), (72, (-58), 213, 0), (999, 0, 0, 0), (999, 0, 0, 0), (14, 0, 0, 112), (50, 0, 0, 0), (80, 12, 390, 1), (999, 0, 0, 0), (999, 0, 0, 0), (0, 1, 0, 0), (30, 0, 0, 0), (82, 12, 390, 1), (999, 0, 0, 0), (999, 0, 0, 0), (14, 0, 0, 112), (80, 12, 370, 55), (999, 0, 0, 0), (999, 0, 0, 0), (10, 0, 1, 0), (31, 0, 0, 0), (130, 0, 0, 0)]
def zu_M_comeOne : List (Nat × List Bool) := [(17, [true, true, true, false]), (51, [true, true, true, false]), (59, [true, true, true, false]), (93, [true, true, true, false]), (101, [true, true, true, false]), (109, [true, true, true, false]), (167, [true, true, true, false]), (179, [true, true, true, false]), (205, [true, true, true, false]), (213, [true, true, true, false]), (230, [true, true, true, true]), (262, [true, true, true, true]), (274, [true, true, false, false])]
set_option maxRecDepth 100000 in
theorem qe_M_comeOne_51 {ρ : Type} (kr : Int → zH → Option ρ) (r17 : Int → Int → zH → Option ρ) (a1 a2 : Int) (h : zH) : M_comeOne_51 kr r17 a1 a2 h = zseg zPP false (zcal []) (zget (999, 0, 0, 0) zc_M_comeOne) (zcut zu_M_comeOne) (zorc [(17, [some (112, some 0), some (0, none), some (0, none), none], [], fun xs h => match xs with
  | [a1, a2] => r17 a1 a2 h
  | _ => none)]) kr (fun _ _ => none) 400 51 [some (112, 0), some (0, a1), some (0, a2), none] [] h := by rfl
set_option maxRecDepth 100000 in
theorem qe_M_comeOne_93 {ρ : Type} (kr : Int → zH → Option ρ) (r59 : Int → Int → zH → Option ρ) (a1 a2 : Int) (h : zH) : M_comeOne_93 kr r59 a1 a2 h = zseg zPP false (zcal []) (zget (999, 0, 0, 0) zc_M_comeOne) (zcut zu_M_comeOne) (zorc [(59, [some (112, some 0), some (0, none), some (0, none), none], [], fun xs h => match xs with
  | [a1, a2] => r59 a1 a2 h
  | _ => none)]) kr (fun _ _ => none) 400 93 [some (112, 0), some (0, a1), some (0, a2), none] [] h := by rfl
set_option maxRecDepth 100000 in
theorem qe_M_comeOne_167 {ρ : Type} (kr : Int → zH → Option ρ) (r101 : Int → Int → zH → Option ρ) (a1 a2 : Int) (h : zH) : M_comeOne_167 kr r101 a1 a2 h = zseg zPP false (zcal []) (zget (999, 0, 0, 0) zc_M_comeOne) (zcut zu_M_comeOne) (zorc [(101, [some (112, some 0), some (0, none), some (0, none), none], [], fun xs h => match xs with
  | [a1, a2] => r101 a1 a2 h
  | _ => none)]) kr (fun _ _ => none) 400 167 [some (112, 0), some (0, a1), some (0, a2), none] [] h := by rfl
set_option maxRecDepth 100000 in
theorem qe_M_comeOne_109b {ρ : Type} (kr : Int → zH → Option ρ) (r101 : Int → Int → zH → Option ρ) (r109 : Int → Int → zH → Option ρ) (a1 a2 : Int) (h : zH) : M_comeOne_109b kr r101 r109 a1 a2 h = zseg zPP false (zcal [(132, [some 0, none], fun xs h kr kt => match xs with
  | [x1] => M_unitFor x1 h kr
  | _ => none), (133, [some 0, none, none], fun xs h kr kt => match xs with
  | [x1, x2] => M_give x1 x2 h kr
  | _ => none)]) (zget (999, 0, 0, 0) zc_M_comeOne) (zcut zu_M_comeOne) (zorc [(109, [some (112, some 0), some (0, none), some (0, none), none], [], fun xs h => match xs with
  | [a1, a2] => r109 a1 a2 h
  | _ => none), (167, [some (112, some 0), some (0, none), some (0, none), none], [], fun xs h => match xs with
  | [a1, a2] => M_comeOne_167 kr r101 a1 a2 h
  | _ => none)]) kr (fun _ _ => none) 400 109 [some (112, 0), some (0, a1), some (0, a2), none] [] h := by rfl
set_option maxRecDepth 100000 in
theorem qe_M_comeOne_205 {ρ : Type} (kr : Int → zH → Option ρ) (r179 : Int → Int → zH → Option ρ) (a1 a2 : Int) (h : zH) : M_comeOne_205 kr r179 a1 a2 h = zseg zPP false (zcal []) (zget (999, 0, 0, 0) zc_M_comeOne) (zcut zu_M_comeOne) (zorc [(179, [some (112, some 0), some (0, none), some (0, none), none], [], fun xs h => match xs with
  | [a1, a2] => r179 a1 a2 h
  | _ => none)]) kr (fun _ _ => none) 400 205 [some (112, 0), some (0, a1), some (0, a2), none] [] h := by rfl
set_option maxRecDepth 100000 in
theorem qe_M_comeOne_262 {ρ : Type} (kr : Int → zH → Option ρ) (r213 : Int → Int → zH → Option ρ) (r230 : Int → Int → Int → zH → Option ρ) (a1 a2 a3 : Int) (h : zH) : M_comeOne_262 kr r213 r230 a1 a2 a3 h = zseg zPP false (zcal []) (zget (999, 0, 0, 0) zc_M_comeOne) (zcut zu_M_comeOne) (zorc [(230, [some (112, some 0), some (0, none), some (0, none), some (0, none)], [], fun xs h => match xs with
  | [a1, a2, a3] => r230 a1 a2 a3 h
  | _ => none)]) kr (fun _ _ => none) 400 262 [some (112, 0), some (0, a1), some (0, a2), some (0, a3)] [] h := by rfl
set_option maxRecDepth 100000 in
theorem qe_M_comeOne_230b {ρ : Type} (kr : Int → zH → Option ρ) (r213 : Int → Int → zH → Option ρ) (r230 : Int → Int → Int → zH → Option ρ) (a1 a2 a3 : Int) (h : zH) : M_comeOne_230b kr r213 r230 a1 a2 a3 h = zseg zPP false (zcal [(97, [some 0, none], fun xs h kr kt => match xs with
  | [x1] => M_writeFirst x1 h kr
  | _ => none)]) (zget (999, 0, 0, 0) zc_M_comeOne) (zcut zu_M_comeOne) (zorc [(213, [some (112, some 0), some (0, none), some (0, none), none], [], fun xs h => match xs with
  | [a1, a2] => r213 a1 a2 h
  | _ => none), (262, [some (112, some 0), some (0, none), some (0, none), some (0, none)], [], fun xs h => match xs with
  | [a1, a2, a3] => M_comeOne_262 kr r213 r230 a1 a2 a3 h
  | _ => none)]) kr (fun _ _ => none) 400 230 [some (112, 0), some (0, a1), some (0, a2), some (0, a3)] [] h := by rfl
set_option maxRecDepth 100000 in
theorem qe_M_comeOne_274 {ρ : Type} (kr : Int → zH → Option ρ) (a1 : Int) (h : zH) : M_comeOne_274 kr a1 h = zseg zPP false (zcal []) (zget (999, 0, 0, 0) zc_M_comeOne) (zcut zu_M_comeOne) (zorc []) kr (fun _ _ => none) 400 274 [some (112, 0), some (0, a1), none, none] [] h := by rfl
set_option maxRecDepth 100000 in
theorem qe_M_comeOne_213b {ρ : Type} (kr : Int → zH → Option ρ) (r213 : Int → Int → zH → Option ρ) (a1 a2 : Int) (h : zH) : M_comeOne_213b kr r213 a1 a2 h = zseg zPP false (zcal []) (zget (999, 0, 0, 0) zc_M_comeOne) (zcut zu_M_comeOne) (zorc [(230, [some (112, some 0), some (0, none), some (0, none), some (0, none)], [], fun xs h => match xs with
  | [a1, a2, a3] => M_comeOne_230 kr r213 a1 a2 a3 h
  | _ => none), (274, [some (112, some 0), some (0, none), none, none], [], fun xs h => match xs with
  | [a1] => M_comeOne_274 kr a1 h
  | _ => none)]) kr (fun _ _ => none) 400 213 [some (112, 0), some (0, a1), some (0, a2), none] [] h := by rfl
set_option maxRecDepth 100000 in
theorem qe_M_comeOne_179b {ρ : Type} (kr : Int → zH → Option ρ) (r179 : Int → Int → zH → Option ρ) (a1 a2 : Int) (h : zH) : M_comeOne_179b kr r179 a1 a2 h = zseg zPP false (zcal [(87, [some 0], fun xs h kr kt => match xs with
  | [] => M_finish h kr
  | _ => none), (123, [some 0, none, none], fun xs h kr kt => match xs with
  | [x1, x2] => M_carryOut x1 x2 h kr
  | _ => none), (135, [some 0, none], fun xs h kr kt => match xs with
  | [x1] => M_choose x1 h kr
  | _ => none)]) (zget (999, 0, 0, 0) zc_M_comeOne) (zcut zu_M_comeOne) (zorc [(205, [some (112, some 0), some (0, none), some (0, none), none], [], fun xs h => match xs with
  | [a1, a2] => M_comeOne_205 kr r179 a1 a2 h
  | _ => none), (213, [some (112, some 0), some (0, none), some (0, none), none], [], fun xs h => match xs with
  | [a1, a2] => M_comeOne_213 kr a1 a2 h
  | _ => none)]) kr (fun _ _ => none) 400 179 [some (112, 0), some (0, a1), some (0, a2), none] [] h := by rfl
set_option maxRecDepth 100000 in
theorem qe_M_comeOne_101b {ρ : Type} (kr : Int → zH → Option ρ) (r101 : Int → Int → zH → Option ρ) (a1 a2 : Int) (h : zH) : M_comeOne_101b kr r101 a1 a2 h = zseg zPP false (zcal [(87, [some 0], fun xs h kr kt => match xs with
  | [] => M_finish h kr
  | _ => none)]) (zget (999, 0, 0, 0) zc_M_comeOne) (zcut zu_M_comeOne) (zorc [(109, [some (112, some 0), some (0, none), some (0, none), none], [], fun xs h => match xs with
  | [a1, a2] => M_comeOne_109 kr r101 a1 a2 h
  | _ => none), (179, [some (112, some 0), some (0, none), some (0, none), none], [], fun xs h => match xs with
  | [a1, a2] => M_comeOne_179 kr a1 a2 h
  | _ => none)]) kr (fun _ _ => none) 400 101 [some (112, 0), some (0, a1), some (0, a2), none] [] h := by rfl
set_option maxRecDepth 100000 in
theorem qe_M_comeOne_59b {ρ : Type} (kr : Int → zH → Option ρ) (r59 : Int → Int → zH → Option ρ) (a1 a2 : Int) (h : zH) : M_comeOne_59b kr r59 a1 a2 h = zseg zPP false (zcal [(128, [some 0, none], fun xs h kr kt => match xs with
  | [x1] => M_copyOne x1 h kr
  | _ => none)]) (zget (999, 0, 0, 0) zc_M_comeOne) (zcut zu_M_comeOne) (zorc [(93, [some (112, some 0), some (0, none), some (0, none), none], [], fun xs h => match xs with
  | [a1, a2] => M_comeOne_93 kr r59 a1 a2 h
  | _ => none), (101, [some (112, some 0), some (0, none), some (0, none), none], [], fun xs h => match xs with
  | [a1, a2] => M_comeOne_101 kr a1 a2 h
  | _ => none)]) kr (fun _ _ => none) 400 59 [some (112, 0), some (0, a1), some (0, a2), none] [] h := by rfl
set_option maxRecDepth 100000 in
theorem qe_M_comeOne_17b {ρ : Type} (kr : Int → zH → Option ρ) (r17 : Int → Int → zH → Option ρ) (a1 a2 : Int) (h : zH) : M_comeOne_17b kr r17 a1 a2 h = zseg zPP false (zcal [(124, [some 0, none], fun xs h kr kt => match xs with
  | [x1] => M_beginLaunch x1 h kr
  | _ => none)]) (zget (999, 0, 0, 0) zc_M_comeOne) (zcut zu_M_comeOne) (zorc [(51, [some (112, some 0), some (0, none), some (0, none), none], [], fun xs h => match xs with
  | [a1, a2] => M_comeOne_51 kr r17 a1 a2 h
  | _ => none), (59, [some (112, some 0), some (0, none), some (0, none), none], [], fun xs h => match xs with
  | [a1, a2] => M_comeOne_59 kr a1 a2 h
  | _ => none)]) kr (fun _ _ => none) 400 17 [some (112, 0), some (0, a1), some (0, a2), none] [] h := by rfl
set_option maxRecDepth 100000 in
theorem qe_M_comeOne {ρ : Type} (kr : Int → zH → Option ρ) (h : zH) : M_comeOne h kr = zseg zPP false (zcal [(127, [some 0, none], fun xs h kr kt => match xs with
  | [x1] => M_goThrough x1 h kr
  | _ => none)]) (zget (999, 0, 0, 0) zc_M_comeOne) (zcut zu_M_comeOne) (zorc [(17, [some (112, some 0), some (0, none), some (0, none), none], [], fun xs h => match xs with
  | [a1, a2] => M_comeOne_17 kr a1 a2 h
  | _ => none)]) kr (fun _ _ => none) 400 0 [some (112, 0), none, none, none] [] h := by rfl
def zc_M_step : List zI := [(14, 0, 0, 112), (0, 0, 0, 0), (82, 12, 185, 0), (999, 0, 0, 0), (999, 0, 0, 0), (14, 0, 0, 112), (10, 0, 1, 0), (0, 1, 0, 0), (1, 100, 0, 0), (999, 0, 0, 0), (113, 0, 192, 64), (999, 0, 0, 0), (999, 0, 0, 0), (61, 7, 20, 0), (999, 0, 0, 0), (999, 0, 0, 0), (0, 1, 0, 0), (72, 4, 21, 0), (999, 0, 0, 0), (999, 0, 0, 0), (0, 0, 0, 0), (0, 1, 0, 0), (110, 0, 199, 65), (999, 0, 0, 0), (999, 0, 0, 0), (60, 5, 30, 0), (999, 0, 0, 0), (999, 0, 0, 0), (0, 0, 0, 0), (130, 0, 0, 0), (0, 0, 0, 0), (16, 0, 2, 0), (0, 0, 0, 0), (16, 0, 3, 0), (10, 0, 3, 0), (10, 0, 1, 0), (69, 16, 52, 0), (999, 0, 0, 0), (999, 0, 0, 0), (10, 0, 2, 0), (14, 0, 0, 112), (110, 0, 442, 136), (999, 0, 0, 0), (999, 0, 0, 0), (30, 0, 0, 0), (16, 0, 2, 0), (22, 1, 3, 0), (999, 0, 0, 0), (999, 0, 0, 0), (72, (-15), 34, 0), (999, 0, 0, 0), (999, 0, 0, 0), (10, 0, 2, 0), (130, 0, 0, 0)]
def zu_M_step : List (Nat × List Bool) := [(21, [true, true, false, false]), (34, [true, true, true, true])]
set_option maxRecDepth 100000 in
theorem qe_M_step_34b {ρ : Type} (kr : Int → zH → Option ρ) (r34 : Int → Int → Int → zH → Option ρ) (a1 a2 a3 : Int) (h : zH) : M_step_34b kr r34 a1 a2 a3 h = zseg zPP false (zcal [(136, [some 0], fun xs h kr kt => match xs with
  | [] => M_comeOne h kr
  | _ => none)]) (zget (999, 0, 0, 0) zc_M_step) (zcut zu_M_step) (zorc [(34, [some (112, some 0), some (0, none), some (0, none), some (0, none)], [], fun xs h => match xs with
  | [a1, a2, a3] => r34 a1 a2 a3 h
  | _ => none)]) kr (fun _ _ => none) 400 34 [some (112, 0), some (0, a1), some (0, a2), some (0, a3)] [] h := by rfl
set_option maxRecDepth 100000 in
theorem qe_M_step_21 {ρ : Type} (kr : Int → zH → Option ρ) (a1 t0 : Int) (h : zH) : M_step_21 kr a1 t0 h = zseg zPP false (zcal [(65, [some 0, none, none], fun xs h kr kt => match xs with
  | [x1, x2] => M_fails x1 x2 h kr
  | _ => none)]) (zget (999, 0, 0, 0) zc_M_step) (zcut zu_M_step) (zorc [(34, [some (112, some 0), some (0, none), some (0, none), some (0, none)], [], fun xs h => match xs with
  | [a1, a2, a3] => M_step_34 kr a1 a2 a3 h
  | _ => none)]) kr (fun _ _ => none) 400 21 [some (112, 0), some (0, a1), none, none] [(0, t0), (112, 0)] h := by rfl
set_option maxRecDepth 100000 in
theorem qe_M_step {ρ : Type} (kr : Int → zH → Option ρ) (a1 : Int) (h : zH) : M_step a1 h kr = zseg zPP false (zcal [(64, [none, none, none], fun xs h kr kt => match xs with
  | [x0, x1, x2] => M_in x0 x1 x2 h kr
  | _ => none)]) (zget (999, 0, 0, 0) zc_M_step) (zcut zu_M_step) (zorc [(21, [some (112, some 0), some (0, none), none, none], [(0, none), (112, some 0)], fun xs h => match xs with
  | [a1, t0] => M_step_21 kr a1 t0 h
  | _ => none)]) kr (fun _ _ => none) 400 0 [some (112, 0), some (0, a1), none, none] [] h := by rfl
def zc_M_areOver : List zI := [(0, 1, 0, 0), (16, 0, 1, 0), (0, 0, 0, 0), (16, 0, 2, 0), (10, 0, 2, 0), (14, 0, 0, 112), (80, 12, 196, 13), (999, 0, 0, 0), (999, 0, 0, 0), (69, 27, 36, 0), (999, 0, 0, 0), (999, 0, 0, 0), (10, 0, 1, 0), (60, 15, 28, 0), (999, 0, 0, 0), (999, 0, 0, 0), (14, 0, 0, 112), (10, 0, 2, 0), (110, 0, 225, 78), (999, 0, 0, 0), (999, 0, 0, 0), (60, 7, 28, 0), (999, 0, 0, 0), (999, 0, 0, 0), (0, 1, 0, 0), (72, 4, 29, 0), (999, 0, 0, 0), (999, 0, 0, 0), (0, 0, 0, 0), (16, 0, 1, 0), (22, 1, 2, 0), (999, 0, 0, 0), (999, 0, 0, 0), (72, (-29), 4, 0), (999, 0, 0, 0), (999, 0, 0, 0), (10, 0, 1, 0), (130, 0, 1, 0)]
def zu_M_areOver : List (Nat × List Bool) := [(4, [true, true, true]), (28, [true, false, true]), (29, [true, false, true])]
set_option maxRecDepth 100000 in
theorem qe_M_areOver_29 {ρ : Type} (kr : Int → zH → Option ρ) (r4 : Int → Int → zH → Option ρ) (a2 t0 : Int) (h : zH) : M_areOver_29 kr r4 a2 t0 h = zseg zPP false (zcal []) (zget (999, 0, 0, 0) zc_M_areOver) (zcut zu_M_areOver) (zorc [(4, [some (112, some 0), some (0, none), some (0, none)], [], fun xs h => match xs with
  | [a1, a2] => r4 a1 a2 h
  | _ => none)]) kr (fun _ _ => none) 400 29 [some (112, 0), none, some (0, a2)] [(0, t0)] h := by rfl
set_option maxRecDepth 100000 in
theorem qe_M_areOver_28 {ρ : Type} (kr : Int → zH → Option ρ) (r4 : Int → Int → zH → Option ρ) (a2 : Int) (h : zH) : M_areOver_28 kr r4 a2 h = zseg zPP false (zcal []) (zget (999, 0, 0, 0) zc_M_areOver) (zcut zu_M_areOver) (zorc [(29, [some (112, some 0), none, some (0, none)], [(0, none)], fun xs h => match xs with
  | [a2, t0] => M_areOver_29 kr r4 a2 t0 h
  | _ => none)]) kr (fun _ _ => none) 400 28 [some (112, 0), none, some (0, a2)] [] h := by rfl
set_option maxRecDepth 100000 in
theorem qe_M_areOver_4b {ρ : Type} (kr : Int → zH → Option ρ) (r4 : Int → Int → zH → Option ρ) (a1 a2 : Int) (h : zH) : M_areOver_4b kr r4 a1 a2 h = zseg zPP false (zcal [(78, [some 0, none], fun xs h kr kt => match xs with
  | [x1] => M_isOver x1 h kr
  | _ => none)]) (zget (999, 0, 0, 0) zc_M_areOver) (zcut zu_M_areOver) (zorc [(28, [some (112, some 0), none, some (0, none)], [], fun xs h => match xs with
  | [a2] => M_areOver_28 kr r4 a2 h
  | _ => none), (29, [some (112, some 0), none, some (0, none)], [(0, none)], fun xs h => match xs with
  | [a2, t0] => M_areOver_29 kr r4 a2 t0 h
  | _ => none)]) kr (fun _ _ => none) 400 4 [some (112, 0), some (0, a1), some (0, a2)] [] h := by rfl
set_option maxRecDepth 100000 in
theorem qe_M_areOver {ρ : Type} (kr : Int → zH → Option ρ) (h : zH) : M_areOver h kr = zseg zPP false (zcal []) (zget (999, 0, 0, 0) zc_M_areOver) (zcut zu_M_areOver) (zorc [(4, [some (112, some 0), some (0, none), some (0, none)], [], fun xs h => match xs with
  | [a1, a2] => M_areOver_4 kr a1 a2 h
  | _ => none)]) kr (fun _ _ => none) 400 0 [some (112, 0), none, none] [] h := by rfl
def zc_M_run : List zI := [(14, 0, 0, 112), (0, 0, 0, 0), (82, 12, 185, 0), (999, 0, 0, 0), (999, 0, 0, 0), (14, 0, 0, 112), (10, 0, 1, 0), (0, 1, 0, 0), (2, 500, 0, 0), (999, 0, 0, 0), (999, 0, 0, 0), (113, 0, 192, 64), (999, 0, 0, 0), (999, 0, 0, 0), (61, 7, 21, 0), (999, 0, 0, 0), (999, 0, 0, 0), (0, 1, 0, 0), (72, 4, 22, 0), (999, 0, 0, 0), (999, 0, 0, 0), (0, 0, 0, 0), (0, 1, 0, 0), (110, 0, 199, 65), (999, 0, 0, 0), (999, 0, 0, 0), (60, 5, 31, 0), (999, 0, 0, 0), (999, 0, 0, 0), (0, 0, 0, 0), (130, 0, 0, 0), (0, 0, 0, 0), (16, 0, 2, 0), (10, 0, 2, 0), (10, 0, 1, 0), (69, 21, 56, 0), (999, 0, 0, 0), (999, 0, 0, 0), (14, 0, 0, 112), (110, 0, 446, 138), (999, 0, 0, 0), (999, 0, 0, 0), (61, 14, 56, 0), (999, 0, 0, 0), (999, 0, 0, 0), (14, 0, 0, 112), (110, 0, 442, 136), (999, 0, 0, 0), (999, 0, 0, 0), (52, 0, 0, 0), (22, 1, 2, 0), (999, 0, 0, 0), (999, 0, 0, 0), (72, (-20), 33, 0), (999, 0, 0, 0), (999, 0, 0, 0), (10, 0, 2, 0), (130, 0, 0, 0)]
def zu_M_run : List (Nat × List Bool) := [(22, [true, true, false]), (33, [true, true, true]), (56, [false, false, true])]
set_option maxRecDepth 100000 in
theorem qe_M_run_56 {ρ : Type} (kr : Int → zH → Option ρ) (a2 : Int) (h : zH) : M_run_56 kr a2 h = zseg zPP false (zcal []) (zget (999, 0, 0, 0) zc_M_run) (zcut zu_M_run) (zorc []) kr (fun _ _ => none) 400 56 [none, none, some (0, a2)] [] h := by rfl
set_option maxRecDepth 100000 in
theorem qe_M_run_33b {ρ : Type} (kr : Int → zH → Option ρ) (r33 : Int → Int → zH → Option ρ) (a1 a2 : Int) (h : zH) : M_run_33b kr r33 a1 a2 h = zseg zPP false (zcal [(136, [some 0], fun xs h kr kt => match xs with
  | [] => M_comeOne h kr
  | _ => none), (138, [some 0], fun xs h kr kt => match xs with
  | [] => M_areOver h kr
  | _ => none)]) (zget (999, 0, 0, 0) zc_M_run) (zcut zu_M_run) (zorc [(33, [some (112, some 0), some (0, none), some (0, none)], [], fun xs h => match xs with
  | [a1, a2] => r33 a1 a2 h
  | _ => none), (56, [none, none, some (0, none)], [], fun xs h => match xs with
  | [a2] => M_run_56 kr a2 h
  | _ => none)]) kr (fun _ _ => none) 400 33 [some (112, 0), some (0, a1), some (0, a2)] [] h := by rfl
set_option maxRecDepth 100000 in
theorem qe_M_run_22 {ρ : Type} (kr : Int → zH → Option ρ) (a1 t0 : Int) (h : zH) : M_run_22 kr a1 t0 h = zseg zPP false (zcal [(65, [some 0, none, none], fun xs h kr kt => match xs with
  | [x1, x2] => M_fails x1 x2 h kr
  | _ => none)]) (zget (999, 0, 0, 0) zc_M_run) (zcut zu_M_run) (zorc [(33, [some (112, some 0), some (0, none), some (0, none)], [], fun xs h => match xs with
  | [a1, a2] => M_run_33 kr a1 a2 h
  | _ => none)]) kr (fun _ _ => none) 400 22 [some (112, 0), some (0, a1), none] [(0, t0), (112, 0)] h := by rfl
set_option maxRecDepth 100000 in
theorem qe_M_run {ρ : Type} (kr : Int → zH → Option ρ) (a1 : Int) (h : zH) : M_run a1 h kr = zseg zPP false (zcal [(64, [none, none, none], fun xs h kr kt => match xs with
  | [x0, x1, x2] => M_in x0 x1 x2 h kr
  | _ => none)]) (zget (999, 0, 0, 0) zc_M_run) (zcut zu_M_run) (zorc [(22, [some (112, some 0), some (0, none), none], [(0, none), (112, some 0)], fun xs h => match xs with
  | [a1, t0] => M_run_22 kr a1 t0 h
  | _ => none)]) kr (fun _ _ => none) 400 0 [some (112, 0), some (0, a1), none] [] h := by rfl
def zc_M_setOrder : List zI := [(14, 0, 0, 112), (0, 0, 0, 0), (82, 12, 185, 0), (999, 0, 0, 0), (999, 0, 0, 0), (14, 0, 0, 112), (10, 0, 1, 0), (1, 111, 0, 0), (999, 0, 0, 0), (66, 19, 28, 0), (999, 0, 0, 0), (999, 0, 0, 0), (10, 0, 1, 0), (1, 121, 0, 0), (999, 0, 0, 0), (66, 13, 28, 0), (999, 0, 0, 0), (999, 0, 0, 0), (10, 0, 1, 0), (1, 97, 0, 0), (999, 0, 0, 0), (66, 7, 28, 0), (999, 0, 0, 0), (999, 0, 0, 0), (0, 1, 0, 0), (72, 4, 29, 0), (999, 0, 0, 0), (999, 0, 0, 0), (0, 0, 0, 0), (0, 1, 0, 0), (110, 0, 199, 65), (999, 0, 0, 0), (999, 0, 0, 0), (60, 5, 38, 0), (999, 0, 0, 0), (999, 0, 0, 0), (0, 0, 0, 0), (130, 0, 2, 0), (14, 0, 0, 112), (80, 12, 7, 2), (999, 0, 0, 0), (999, 0, 0, 0), (16, 0, 2, 0), (14, 0, 0, 112), (10, 0, 1, 0), (82, 12, 7, 2), (999, 0, 0, 0), (999, 0, 0, 0), (10, 0, 2, 0), (130, 0, 2, 0)]
def zu_M_setOrder : List (Nat × List Bool) := [(28, [true, true, false]), (29, [true, true, false])]
set_option maxRecDepth 100000 in
theorem qe_M_setOrder_29 {ρ : Type} (kr : Int → zH → Option ρ) (a1 t0 : Int) (h : zH) : M_setOrder_29 kr a1 t0 h = zseg zPP false (zcal [(65, [some 0, none, none], fun xs h kr kt => match xs with
  | [x1, x2] => M_fails x1 x2 h kr
  | _ => none)]) (zget (999, 0, 0, 0) zc_M_setOrder) (zcut zu_M_setOrder) (zorc []) kr (fun _ _ => none) 400 29 [some (112, 0), some (0, a1), none] [(0, t0), (112, 0)] h := by rfl
set_option maxRecDepth 100000 in
theorem qe_M_setOrder_28 {ρ : Type} (kr : Int → zH → Option ρ) (a1 : Int) (h : zH) : M_setOrder_28 kr a1 h = zseg zPP false (zcal []) (zget (999, 0, 0, 0) zc_M_setOrder) (zcut zu_M_setOrder) (zorc [(29, [some (112, some 0), some (0, none), none], [(0, none), (112, some 0)], fun xs h => match xs with
  | [a1, t0] => M_setOrder_29 kr a1 t0 h
  | _ => none)]) kr (fun _ _ => none) 400 28 [some (112, 0), some (0, a1), none] [(112, 0)] h := by rfl
set_option maxRecDepth 100000 in
theorem qe_M_setOrder {ρ : Type} (kr : Int → zH → Option ρ) (a1 : Int) (h : zH) : M_setOrder a1 h kr = zseg zPP false (zcal []) (zget (999, 0, 0, 0) zc_M_setOrder) (zcut zu_M_setOrder) (zorc [(28, [some (112, some 0), some (0, none), none], [(112, some 0)], fun xs h => match xs with
  | [a1] => M_setOrder_28 kr a1 h
  | _ => none), (29, [some (112, some 0), some (0, none), none], [(0, none), (112, some 0)], fun xs h => match xs with
  | [a1, t0] => M_setOrder_29 kr a1 t0 h
  | _ => none)]) kr (fun _ _ => none) 400 0 [some (112, 0), some (0, a1), none] [] h := by rfl
def zc_M_cycle : List zI := [(14, 0, 0, 112), (0, 0, 0, 0), (82, 12, 185, 0), (999, 0, 0, 0), (999, 0, 0, 0), (14, 0, 0, 112), (80, 12, 390, 1), (999, 0, 0, 0), (999, 0, 0, 0), (130, 0, 0, 0)]
def zu_M_cycle : List (Nat × List Bool) := []
set_option maxRecDepth 100000 in
theorem qe_M_cycle {ρ : Type} (kr : Int → zH → Option ρ) (h : zH) : M_cycle h kr = zseg zPP false (zcal []) (zget (999, 0, 0, 0) zc_M_cycle) (zcut zu_M_cycle) (zorc []) kr (fun _ _ => none) 400 0 [some (112, 0)] [] h := by rfl
def zc_M_noUnit : List zI := [(10, 0, 0, 0), (0, 0, 0, 0), (0, 1, 0, 0), (113, 0, 192, 64), (999, 0, 0, 0), (999, 0, 0, 0), (61, 7, 13, 0), (999, 0, 0, 0), (999, 0, 0, 0), (0, 1, 0, 0), (72, 4, 14, 0), (999, 0, 0, 0), (999, 0, 0, 0), (0, 0, 0, 0), (130, 0, 1, 0)]
def zu_M_noUnit : List (Nat × List Bool) := [(14, [false])]
set_option maxRecDepth 100000 in
theorem qe_M_noUnit_14 {ρ : Type} (kr : Int → zH → Option ρ) (t0 : Int) (h : zH) : M_noUnit_14 kr t0 h = zseg zPP false (zcal []) (zget (999, 0, 0, 0) zc_M_noUnit) (zcut zu_M_noUnit) (zorc []) kr (fun _ _ => none) 400 14 [none] [(0, t0)] h := by rfl
set_option maxRecDepth 100000 in
theorem qe_M_noUnit {ρ : Type} (kr : Int → zH → Option ρ) (a0 : Int) (h : zH) : M_noUnit a0 h kr = zseg zPP false (zcal [(64, [none, none, none], fun xs h kr kt => match xs with
  | [x0, x1, x2] => M_in x0 x1 x2 h kr
  | _ => none)]) (zget (999, 0, 0, 0) zc_M_noUnit) (zcut zu_M_noUnit) (zorc [(14, [none], [(0, none)], fun xs h => match xs with
  | [t0] => M_noUnit_14 kr t0 h
  | _ => none)]) kr (fun _ _ => none) 400 0 [some (0, a0)] [] h := by rfl
def zc_M_noGroup : List zI := [(10, 0, 1, 0), (113, 0, 450, 142), (999, 0, 0, 0), (999, 0, 0, 0), (61, 19, 23, 0), (999, 0, 0, 0), (999, 0, 0, 0), (10, 0, 2, 0), (0, 0, 0, 0), (14, 0, 0, 112), (80, 12, 115, 38), (999, 0, 0, 0), (999, 0, 0, 0), (10, 0, 1, 0), (90, 0, 0, 93), (0, 1, 0, 0), (31, 0, 0, 0), (113, 0, 192, 64), (999, 0, 0, 0), (999, 0, 0, 0), (61, 7, 27, 0), (999, 0, 0, 0), (999, 0, 0, 0), (0, 1, 0, 0), (72, 4, 28, 0), (999, 0, 0, 0), (999, 0, 0, 0), (0, 0, 0, 0), (130, 0, 1, 0)]
def zu_M_noGroup : List (Nat × List Bool) := [(23, [false, false, false]), (28, [false, false, false])]
set_option maxRecDepth 100000 in
theorem qe_M_noGroup_28 {ρ : Type} (kr : Int → zH → Option ρ) (t0 : Int) (h : zH) : M_noGroup_28 kr t0 h = zseg zPP false (zcal []) (zget (999, 0, 0, 0) zc_M_noGroup) (zcut zu_M_noGroup) (zorc []) kr (fun _ _ => none) 400 28 [none, none, none] [(0, t0)] h := by rfl
set_option maxRecDepth 100000 in
theorem qe_M_noGroup_23 {ρ : Type} (kr : Int → zH → Option ρ) (h : zH) : M_noGroup_23 kr h = zseg zPP false (zcal []) (zget (999, 0, 0, 0) zc_M_noGroup) (zcut zu_M_noGroup) (zorc [(28, [none, none, none], [(0, none)], fun xs h => match xs with
  | [t0] => M_noGroup_28 kr t0 h
  | _ => none)]) kr (fun _ _ => none) 400 23 [none, none, none] [] h := by rfl
set_option maxRecDepth 100000 in
theorem qe_M_noGroup {ρ : Type} (kr : Int → zH → Option ρ) (a1 a2 : Int) (h : zH) : M_noGroup a1 a2 h kr = zseg zPP false (zcal [(64, [none, none, none], fun xs h kr kt => match xs with
  | [x0, x1, x2] => M_in x0 x1 x2 h kr
  | _ => none), (142, [none], fun xs h kr kt => match xs with
  | [x0] => M_noUnit x0 h kr
  | _ => none)]) (zget (999, 0, 0, 0) zc_M_noGroup) (zcut zu_M_noGroup) (zorc [(23, [none, none, none], [], fun xs h => match xs with
  | [] => M_noGroup_23 kr h
  | _ => none), (28, [none, none, none], [(0, none)], fun xs h => match xs with
  | [t0] => M_noGroup_28 kr t0 h
  | _ => none)]) kr (fun _ _ => none) 400 0 [some (112, 0), some (0, a1), some (0, a2)] [] h := by rfl
def zc_M_groups : List zI := [(14, 0, 0, 112), (0, 0, 0, 0), (82, 12, 185, 0), (999, 0, 0, 0), (999, 0, 0, 0), (14, 0, 0, 112), (10, 0, 1, 0), (113, 0, 450, 142), (999, 0, 0, 0), (999, 0, 0, 0), (0, 1, 0, 0), (110, 0, 199, 65), (999, 0, 0, 0), (999, 0, 0, 0), (60, 7, 21, 0), (999, 0, 0, 0), (999, 0, 0, 0), (0, 0, 0, 0), (72, 9, 27, 0), (999, 0, 0, 0), (999, 0, 0, 0), (14, 0, 0, 112), (80, 12, 115, 38), (999, 0, 0, 0), (999, 0, 0, 0), (10, 0, 1, 0), (90, 0, 0, 93), (130, 0, 0, 0)]
def zu_M_groups : List (Nat × List Bool) := [(27, [false, false])]
set_option maxRecDepth 100000 in
theorem qe_M_groups_27 {ρ : Type} (kr : Int → zH → Option ρ) (t0 : Int) (h : zH) : M_groups_27 kr t0 h = zseg zPP false (zcal []) (zget (999, 0, 0, 0) zc_M_groups) (zcut zu_M_groups) (zorc []) kr (fun _ _ => none) 400 27 [none, none] [(0, t0)] h := by rfl
set_option maxRecDepth 100000 in
theorem qe_M_groups {ρ : Type} (kr : Int → zH → Option ρ) (a1 : Int) (h : zH) : M_groups a1 h kr = zseg zPP false (zcal [(65, [some 0, none, none], fun xs h kr kt => match xs with
  | [x1, x2] => M_fails x1 x2 h kr
  | _ => none), (142, [none], fun xs h kr kt => match xs with
  | [x0] => M_noUnit x0 h kr
  | _ => none)]) (zget (999, 0, 0, 0) zc_M_groups) (zcut zu_M_groups) (zorc [(27, [none, none], [(0, none)], fun xs h => match xs with
  | [t0] => M_groups_27 kr t0 h
  | _ => none)]) kr (fun _ _ => none) 400 0 [some (112, 0), some (0, a1)] [] h := by rfl
def zc_M_threadAt : List zI := [(14, 0, 0, 112), (0, 0, 0, 0), (82, 12, 185, 0), (999, 0, 0, 0), (999, 0, 0, 0), (14, 0, 0, 112), (14, 0, 0, 112), (10, 0, 1, 0), (10, 0, 2, 0), (110, 0, 453, 143), (999, 0, 0, 0), (999, 0, 0, 0), (0, 1, 0, 0), (110, 0, 199, 65), (999, 0, 0, 0), (999, 0, 0, 0), (60, 5, 21, 0), (999, 0, 0, 0), (999, 0, 0, 0), (0, 0, 0, 0), (130, 0, 0, 0), (0, 4, 0, 0), (10, 0, 1, 0), (32, 0, 0, 0), (10, 0, 2, 0), (30, 0, 0, 0), (16, 0, 3, 0), (2, 1000, 0, 0), (999, 0, 0, 0), (999, 0, 0, 0), (14, 0, 0, 112), (80, 12, 118, 39), (999, 0, 0, 0), (999, 0, 0, 0), (10, 0, 3, 0), (90, 0, 0, 94), (1, 6, 0, 0), (999, 0, 0, 0), (33, 0, 0, 0), (32, 0, 0, 0), (1, 100, 0, 0), (999, 0, 0, 0), (14, 0, 0, 112), (80, 12, 118, 39), (999, 0, 0, 0), (999, 0, 0, 0), (10, 0, 3, 0), (90, 0, 0, 94), (1, 6, 0, 0), (999, 0, 0, 0), (34, 0, 0, 0), (32, 0, 0, 0), (30, 0, 0, 0), (0, 4, 0, 0), (14, 0, 0, 112), (80, 12, 121, 40), (999, 0, 0, 0), (999, 0, 0, 0), (10, 0, 3, 0), (90, 0, 0, 95), (32, 0, 0, 0), (30, 0, 0, 0), (130, 0, 0, 0)]
def zu_M_threadAt : List (Nat × List Bool) := []
set_option maxRecDepth 100000 in
theorem qe_M_threadAt {ρ : Type} (kr : Int → zH → Option ρ) (a1 a2 : Int) (h : zH) : M_threadAt a1 a2 h kr = zseg zPP false (zcal [(65, [some 0, none, none], fun xs h kr kt => match xs with
  | [x1, x2] => M_fails x1 x2 h kr
  | _ => none), (143, [some 0, none, none], fun xs h kr kt => match xs with
  | [x1, x2] => M_noGroup x1 x2 h kr
  | _ => none)]) (zget (999, 0, 0, 0) zc_M_threadAt) (zcut zu_M_threadAt) (zorc []) kr (fun _ _ => none) 400 0 [some (112, 0), some (0, a1), some (0, a2), none] [] h := by rfl
def zc_M_place : List zI := [(14, 0, 0, 112), (0, 0, 0, 0), (82, 12, 185, 0), (999, 0, 0, 0), (999, 0, 0, 0), (14, 0, 0, 112), (14, 0, 0, 112), (10, 0, 1, 0), (10, 0, 2, 0), (110, 0, 453, 143), (999, 0, 0, 0), (999, 0, 0, 0), (0, 1, 0, 0), (110, 0, 199, 65), (999, 0, 0, 0), (999, 0, 0, 0), (60, 5, 21, 0), (999, 0, 0, 0), (999, 0, 0, 0), (0, 0, 0, 0), (130, 0, 0, 0), (14, 0, 0, 112), (0, 4, 0, 0), (10, 0, 1, 0), (32, 0, 0, 0), (10, 0, 2, 0), (30, 0, 0, 0), (110, 0, 278, 103), (999, 0, 0, 0), (999, 0, 0, 0), (16, 0, 3, 0), (14, 0, 0, 112), (10, 0, 3, 0), (0, (-1), 0, 0), (67, 7, 41, 0), (999, 0, 0, 0), (999, 0, 0, 0), (0, 1, 0, 0), (72, 4, 42, 0), (999, 0, 0, 0), (999, 0, 0, 0), (0, 0, 0, 0), (0, 2, 0, 0), (110, 0, 199, 65), (999, 0, 0, 0), (999, 0, 0, 0), (60, 7, 53, 0), (999, 0, 0, 0), (999, 0, 0, 0), (0, 0, 0, 0), (72, 4, 54, 0), (999, 0, 0, 0), (999, 0, 0, 0), (10, 0, 3, 0), (130, 0, 0, 0)]
def zu_M_place : List (Nat × List Bool) := [(42, [false, false, false, true]), (54, [false, false, false, false])]
set_option maxRecDepth 100000 in
theorem qe_M_place_54 {ρ : Type} (kr : Int → zH → Option ρ) (t0 : Int) (h : zH) : M_place_54 kr t0 h = zseg zPP false (zcal []) (zget (999, 0, 0, 0) zc_M_place) (zcut zu_M_place) (zorc []) kr (fun _ _ => none) 400 54 [none, none, none, none] [(0, t0)] h := by rfl
set_option maxRecDepth 100000 in
theorem qe_M_place_42 {ρ : Type} (kr : Int → zH → Option ρ) (a3 t0 : Int) (h : zH) : M_place_42 kr a3 t0 h = zseg zPP false (zcal [(65, [some 0, none, none], fun xs h kr kt => match xs with
  | [x1, x2] => M_fails x1 x2 h kr
  | _ => none)]) (zget (999, 0, 0, 0) zc_M_place) (zcut zu_M_place) (zorc [(54, [none, none, none, none], [(0, none)], fun xs h => match xs with
  | [t0] => M_place_54 kr t0 h
  | _ => none)]) kr (fun _ _ => none) 400 42 [none, none, none, some (0, a3)] [(0, t0), (112, 0)] h := by rfl
set_option maxRecDepth 100000 in
theorem qe_M_place {ρ : Type} (kr : Int → zH → Option ρ) (a1 a2 : Int) (h : zH) : M_place a1 a2 h kr = zseg zPP false (zcal [(65, [some 0, none, none], fun xs h kr kt => match xs with
  | [x1, x2] => M_fails x1 x2 h kr
  | _ => none), (103, [some 0, none], fun xs h kr kt => match xs with
  | [x1] => M_placeOf x1 h kr
  | _ => none), (143, [some 0, none, none], fun xs h kr kt => match xs with
  | [x1, x2] => M_noGroup x1 x2 h kr
  | _ => none)]) (zget (999, 0, 0, 0) zc_M_place) (zcut zu_M_place) (zorc [(42, [none, none, none, some (0, none)], [(0, none), (112, some 0)], fun xs h => match xs with
  | [a3, t0] => M_place_42 kr a3 t0 h
  | _ => none)]) kr (fun _ _ => none) 400 0 [some (112, 0), some (0, a1), some (0, a2), none] [] h := by rfl
def zc_M_mask : List zI := [(14, 0, 0, 112), (0, 0, 0, 0), (82, 12, 185, 0), (999, 0, 0, 0), (999, 0, 0, 0), (14, 0, 0, 112), (14, 0, 0, 112), (10, 0, 1, 0), (10, 0, 2, 0), (110, 0, 453, 143), (999, 0, 0, 0), (999, 0, 0, 0), (0, 1, 0, 0), (110, 0, 199, 65), (999, 0, 0, 0), (999, 0, 0, 0), (60, 7, 23, 0), (999, 0, 0, 0), (999, 0, 0, 0), (0, 0, 0, 0), (72, 12, 32, 0), (999, 0, 0, 0), (999, 0, 0, 0), (14, 0, 0, 112), (0, 4, 0, 0), (10, 0, 1, 0), (32, 0, 0, 0), (10, 0, 2, 0), (30, 0, 0, 0), (110, 0, 363, 104), (999, 0, 0, 0), (999, 0, 0, 0), (130, 0, 0, 0)]
def zu_M_mask : List (Nat × List Bool) := [(32, [false, false, false])]
set_option maxRecDepth 100000 in
theorem qe_M_mask_32 {ρ : Type} (kr : Int → zH → Option ρ) (t0 : Int) (h : zH) : M_mask_32 kr t0 h = zseg zPP false (zcal []) (zget (999, 0, 0, 0) zc_M_mask) (zcut zu_M_mask) (zorc []) kr (fun _ _ => none) 400 32 [none, none, none] [(0, t0)] h := by rfl
set_option maxRecDepth 100000 in
theorem qe_M_mask {ρ : Type} (kr : Int → zH → Option ρ) (a1 a2 : Int) (h : zH) : M_mask a1 a2 h kr = zseg zPP false (zcal [(65, [some 0, none, none], fun xs h kr kt => match xs with
  | [x1, x2] => M_fails x1 x2 h kr
  | _ => none), (104, [some 0, none], fun xs h kr kt => match xs with
  | [x1] => M_maskOf x1 h kr
  | _ => none), (143, [some 0, none, none], fun xs h kr kt => match xs with
  | [x1, x2] => M_noGroup x1 x2 h kr
  | _ => none)]) (zget (999, 0, 0, 0) zc_M_mask) (zcut zu_M_mask) (zorc [(32, [none, none, none], [(0, none)], fun xs h => match xs with
  | [t0] => M_mask_32 kr t0 h
  | _ => none)]) kr (fun _ _ => none) 400 0 [some (112, 0), some (0, a1), some (0, a2)] [] h := by rfl
def zc_M_places : List zI := [(14, 0, 0, 112), (0, 0, 0, 0), (82, 12, 185, 0), (999, 0, 0, 0), (999, 0, 0, 0), (14, 0, 0, 112), (14, 0, 0, 112), (10, 0, 1, 0), (10, 0, 2, 0), (110, 0, 453, 143), (999, 0, 0, 0), (999, 0, 0, 0), (0, 1, 0, 0), (110, 0, 199, 65), (999, 0, 0, 0), (999, 0, 0, 0), (60, 5, 21, 0), (999, 0, 0, 0), (999, 0, 0, 0), (0, 0, 0, 0), (130, 0, 0, 0), (0, 4, 0, 0), (10, 0, 1, 0), (32, 0, 0, 0), (10, 0, 2, 0), (30, 0, 0, 0), (16, 0, 3, 0), (0, 0, 0, 0), (17, 0, 4, 0), (999, 0, 0, 0), (0, 0, 0, 0), (17, 0, 5, 0), (999, 0, 0, 0), (11, 0, 5, 0), (999, 0, 0, 0), (1, 40, 0, 0), (999, 0, 0, 0), (69, 133, 170, 0), (999, 0, 0, 0), (999, 0, 0, 0), (0, 0, 0, 0), (17, 0, 6, 0), (999, 0, 0, 0), (0, 4, 0, 0), (14, 0, 0, 112), (80, 12, 121, 40), (999, 0, 0, 0), (999, 0, 0, 0), (10, 0, 3, 0), (90, 0, 0, 95), (32, 0, 0, 0), (17, 0, 7, 0), (999, 0, 0, 0), (11, 0, 7, 0), (999, 0, 0, 0), (0, 4, 0, 0), (14, 0, 0, 112), (80, 12, 121, 40), (999, 0, 0, 0), (999, 0, 0, 0), (10, 0, 3, 0), (90, 0, 0, 95), (32, 0, 0, 0), (0, 4, 0, 0), (30, 0, 0, 0), (69, 84, 149, 0), (999, 0, 0, 0), (999, 0, 0, 0), (11, 0, 7, 0), (999, 0, 0, 0), (14, 0, 0, 112), (80, 12, 55, 18), (999, 0, 0, 0), (999, 0, 0, 0), (14, 0, 0, 112), (80, 12, 118, 39), (999, 0, 0, 0), (999, 0, 0, 0), (10, 0, 3, 0), (90, 0, 0, 94), (1, 6, 0, 0), (999, 0, 0, 0), (33, 0, 0, 0), (90, 0, 0, 73), (69, 65, 149, 0), (999, 0, 0, 0), (999, 0, 0, 0), (11, 0, 6, 0), (999, 0, 0, 0), (61, 47, 136, 0), (999, 0, 0, 0), (999, 0, 0, 0), (14, 0, 0, 112), (80, 12, 103, 34), (999, 0, 0, 0), (999, 0, 0, 0), (14, 0, 0, 112), (14, 0, 0, 112), (80, 12, 118, 39), (999, 0, 0, 0), (999, 0, 0, 0), (10, 0, 3, 0), (90, 0, 0, 94), (11, 0, 7, 0), (999, 0, 0, 0), (110, 0, 249, 93), (999, 0, 0, 0), (999, 0, 0, 0), (92, 0, 0, 89), (1, 114, 0, 0), (999, 0, 0, 0), (67, 29, 140, 0), (999, 0, 0, 0), (999, 0, 0, 0), (14, 0, 0, 112), (80, 12, 106, 35), (999, 0, 0, 0), (999, 0, 0, 0), (14, 0, 0, 112), (14, 0, 0, 112), (80, 12, 118, 39), (999, 0, 0, 0), (999, 0, 0, 0), (10, 0, 3, 0), (90, 0, 0, 94), (11, 0, 7, 0), (999, 0, 0, 0), (110, 0, 249, 93), (999, 0, 0, 0), (999, 0, 0, 0), (90, 0, 0, 90), (11, 0, 5, 0), (999, 0, 0, 0), (67, 7, 140, 0), (999, 0, 0, 0), (999, 0, 0, 0), (0, 1, 0, 0), (72, 4, 141, 0), (999, 0, 0, 0), (999, 0, 0, 0), (0, 0, 0, 0), (17, 0, 6, 0), (999, 0, 0, 0), (22, 1, 7, 0), (999, 0, 0, 0), (999, 0, 0, 0), (72, (-93), 53, 0), (999, 0, 0, 0), (999, 0, 0, 0), (11, 0, 4, 0), (999, 0, 0, 0), (11, 0, 6, 0), (999, 0, 0, 0), (60, 7, 160, 0), (999, 0, 0, 0), (999, 0, 0, 0), (0, 1, 0, 0), (72, 4, 161, 0), (999, 0, 0, 0), (999, 0, 0, 0), (0, 0, 0, 0), (30, 0, 0, 0), (17, 0, 4, 0), (999, 0, 0, 0), (22, 1, 5, 0), (999, 0, 0, 0), (999, 0, 0, 0), (72, (-134), 33, 0), (999, 0, 0, 0), (999, 0, 0, 0), (11, 0, 4, 0), (999, 0, 0, 0), (130, 0, 0, 0)]
def zu_M_places : List (Nat × List Bool) := [(33, [true, false, false, true, true, true, false, false]), (53, [true, false, false, true, true, true, true, true]), (136, [true, false, false, true, true, true, false, true]), (140, [true, false, false, true, true, true, false, true]), (141, [true, false, false, true, true, true, false, true]), (149, [true, false, false, true, true, true, true, false]), (161, [true, false, false, true, false, true, false, false])]
set_option maxRecDepth 100000 in
theorem qe_M_places_141 {ρ : Type} (kr : Int → zH → Option ρ) (r33 : Int → Int → Int → zH → Option ρ) (r53 : Int → Int → Int → Int → Int → zH → Option ρ) (a3 a4 a5 a7 t0 : Int) (h : zH) : M_places_141 kr r33 r53 a3 a4 a5 a7 t0 h = zseg zPP false (zcal []) (zget (999, 0, 0, 0) zc_M_places) (zcut zu_M_places) (zorc [(53, [some (112, some 0), none, none, some (0, none), some (0, none), some (0, none), some (0, none), some (0, none)], [], fun xs h => match xs with
  | [a3, a4, a5, a6, a7] => r53 a3 a4 a5 a6 a7 h
  | _ => none)]) kr (fun _ _ => none) 400 141 [some (112, 0), none, none, some (0, a3), some (0, a4), some (0, a5), none, some (0, a7)] [(0, t0)] h := by rfl
set_option maxRecDepth 100000 in
theorem qe_M_places_136 {ρ : Type} (kr : Int → zH → Option ρ) (r33 : Int → Int → Int → zH → Option ρ) (r53 : Int → Int → Int → Int → Int → zH → Option ρ) (a3 a4 a5 a7 : Int) (h : zH) : M_places_136 kr r33 r53 a3 a4 a5 a7 h = zseg zPP false (zcal []) (zget (999, 0, 0, 0) zc_M_places) (zcut zu_M_places) (zorc [(141, [some (112, some 0), none, none, some (0, none), some (0, none), some (0, none), none, some (0, none)], [(0, none)], fun xs h => match xs with
  | [a3, a4, a5, a7, t0] => M_places_141 kr r33 r53 a3 a4 a5 a7 t0 h
  | _ => none)]) kr (fun _ _ => none) 400 136 [some (112, 0), none, none, some (0, a3), some (0, a4), some (0, a5), none, some (0, a7)] [] h := by rfl
set_option maxRecDepth 100000 in
theorem qe_M_places_140 {ρ : Type} (kr : Int → zH → Option ρ) (r33 : Int → Int → Int → zH → Option ρ) (r53 : Int → Int → Int → Int → Int → zH → Option ρ) (a3 a4 a5 a7 : Int) (h : zH) : M_places_140 kr r33 r53 a3 a4 a5 a7 h = zseg zPP false (zcal []) (zget (999, 0, 0, 0) zc_M_places) (zcut zu_M_places) (zorc [(141, [some (112, some 0), none, none, some (0, none), some (0, none), some (0, none), none, some (0, none)], [(0, none)], fun xs h => match xs with
  | [a3, a4, a5, a7, t0] => M_places_141 kr r33 r53 a3 a4 a5 a7 t0 h
  | _ => none)]) kr (fun _ _ => none) 400 140 [some (112, 0), none, none, some (0, a3), some (0, a4), some (0, a5), none, some (0, a7)] [] h := by rfl
set_option maxRecDepth 100000 in
theorem qe_M_places_161 {ρ : Type} (kr : Int → zH → Option ρ) (r33 : Int → Int → Int → zH → Option ρ) (a3 a5 t0 t1 : Int) (h : zH) : M_places_161 kr r33 a3 a5 t0 t1 h = zseg zPP false (zcal []) (zget (999, 0, 0, 0) zc_M_places) (zcut zu_M_places) (zorc [(33, [some (112, some 0), none, none, some (0, none), some (0, none), some (0, none), none, none], [], fun xs h => match xs with
  | [a3, a4, a5] => r33 a3 a4 a5 h
  | _ => none)]) kr (fun _ _ => none) 400 161 [some (112, 0), none, none, some (0, a3), none, some (0, a5), none, none] [(0, t0), (0, t1)] h := by rfl
set_option maxRecDepth 100000 in
theorem qe_M_places_149 {ρ : Type} (kr : Int → zH → Option ρ) (r33 : Int → Int → Int → zH → Option ρ) (a3 a4 a5 a6 : Int) (h : zH) : M_places_149 kr r33 a3 a4 a5 a6 h = zseg zPP false (zcal []) (zget (999, 0, 0, 0) zc_M_places) (zcut zu_M_places) (zorc [(161, [some (112, some 0), none, none, some (0, none), none, some (0, none), none, none], [(0, none), (0, none)], fun xs h => match xs with
  | [a3, a5, t0, t1] => M_places_161 kr r33 a3 a5 t0 t1 h
  | _ => none)]) kr (fun _ _ => none) 400 149 [some (112, 0), none, none, some (0, a3), some (0, a4), some (0, a5), some (0, a6), none] [] h := by rfl
set_option maxRecDepth 100000 in
theorem qe_M_places_53b {ρ : Type} (kr : Int → zH → Option ρ) (r33 : Int → Int → Int → zH → Option ρ) (r53 : Int → Int → Int → Int → Int → zH → Option ρ) (a3 a4 a5 a6 a7 : Int) (h : zH) : M_places_53b kr r33 r53 a3 a4 a5 a6 a7 h = zseg zPP false (zcal [(93, [some 0, none, none], fun xs h kr kt => match xs with
  | [x1, x2] => M_threadCell x1 x2 h kr
  | _ => none)]) (zget (999, 0, 0, 0) zc_M_places) (zcut zu_M_places) (zorc [(136, [some (112, some 0), none, none, some (0, none), some (0, none), some (0, none), none, some (0, none)], [], fun xs h => match xs with
  | [a3, a4, a5, a7] => M_places_136 kr r33 r53 a3 a4 a5 a7 h
  | _ => none), (140, [some (112, some 0), none, none, some (0, none), some (0, none), some (0, none), none, some (0, none)], [], fun xs h => match xs with
  | [a3, a4, a5, a7] => M_places_140 kr r33 r53 a3 a4 a5 a7 h
  | _ => none), (149, [some (112, some 0), none, none, some (0, none), some (0, none), some (0, none), some (0, none), none], [], fun xs h => match xs with
  | [a3, a4, a5, a6] => M_places_149 kr r33 a3 a4 a5 a6 h
  | _ => none)]) kr (fun _ _ => none) 400 53 [some (112, 0), none, none, some (0, a3), some (0, a4), some (0, a5), some (0, a6), some (0, a7)] [] h := by rfl
set_option maxRecDepth 100000 in
theorem qe_M_places_33b {ρ : Type} (kr : Int → zH → Option ρ) (r33 : Int → Int → Int → zH → Option ρ) (a3 a4 a5 : Int) (h : zH) : M_places_33b kr r33 a3 a4 a5 h = zseg zPP false (zcal []) (zget (999, 0, 0, 0) zc_M_places) (zcut zu_M_places) (zorc [(53, [some (112, some 0), none, none, some (0, none), some (0, none), some (0, none), some (0, none), some (0, none)], [], fun xs h => match xs with
  | [a3, a4, a5, a6, a7] => M_places_53 kr r33 a3 a4 a5 a6 a7 h
  | _ => none)]) kr (fun _ _ => none) 400 33 [some (112, 0), none, none, some (0, a3), some (0, a4), some (0, a5), none, none] [] h := by rfl
set_option maxRecDepth 100000 in
theorem qe_M_places {ρ : Type} (kr : Int → zH → Option ρ) (a1 a2 : Int) (h : zH) : M_places a1 a2 h kr = zseg zPP false (zcal [(65, [some 0, none, none], fun xs h kr kt => match xs with
  | [x1, x2] => M_fails x1 x2 h kr
  | _ => none), (143, [some 0, none, none], fun xs h kr kt => match xs with
  | [x1, x2] => M_noGroup x1 x2 h kr
  | _ => none)]) (zget (999, 0, 0, 0) zc_M_places) (zcut zu_M_places) (zorc [(33, [some (112, some 0), none, none, some (0, none), some (0, none), some (0, none), none, none], [], fun xs h => match xs with
  | [a3, a4, a5] => M_places_33 kr a3 a4 a5 h
  | _ => none)]) kr (fun _ _ => none) 400 0 [some (112, 0), some (0, a1), some (0, a2), none, none, none, none, none] [] h := by rfl
def zc_M_reason : List zI := [(14, 0, 0, 112), (0, 0, 0, 0), (82, 12, 185, 0), (999, 0, 0, 0), (999, 0, 0, 0), (14, 0, 0, 112), (14, 0, 0, 112), (10, 0, 1, 0), (10, 0, 2, 0), (110, 0, 453, 143), (999, 0, 0, 0), (999, 0, 0, 0), (0, 1, 0, 0), (110, 0, 199, 65), (999, 0, 0, 0), (999, 0, 0, 0), (60, 5, 21, 0), (999, 0, 0, 0), (999, 0, 0, 0), (0, 0, 0, 0), (130, 0, 2, 0), (0, 4, 0, 0), (10, 0, 1, 0), (32, 0, 0, 0), (10, 0, 2, 0), (30, 0, 0, 0), (16, 0, 3, 0), (14, 0, 0, 112), (10, 0, 3, 0), (110, 0, 278, 103), (999, 0, 0, 0), (999, 0, 0, 0), (0, (-1), 0, 0), (67, 19, 52, 0), (999, 0, 0, 0), (999, 0, 0, 0), (14, 0, 0, 112), (10, 0, 3, 0), (110, 0, 266, 96), (999, 0, 0, 0), (999, 0, 0, 0), (60, 8, 49, 0), (999, 0, 0, 0), (999, 0, 0, 0), (1, 101, 0, 0), (999, 0, 0, 0), (72, 5, 51, 0), (999, 0, 0, 0), (999, 0, 0, 0), (1, 98, 0, 0), (999, 0, 0, 0), (130, 0, 2, 0), (14, 0, 0, 112), (80, 12, 124, 41), (999, 0, 0, 0), (999, 0, 0, 0), (10, 0, 3, 0), (90, 0, 0, 96), (14, 0, 0, 112), (80, 12, 390, 1), (999, 0, 0, 0), (999, 0, 0, 0), (71, 8, 70, 0), (999, 0, 0, 0), (999, 0, 0, 0), (1, 100, 0, 0), (999, 0, 0, 0), (72, 5, 72, 0), (999, 0, 0, 0), (999, 0, 0, 0), (1, 45, 0, 0), (999, 0, 0, 0), (130, 0, 2, 0)]
def zu_M_reason : List (Nat × List Bool) := [(51, [false, false, false, false]), (72, [false, false, false, false])]
set_option maxRecDepth 100000 in
theorem qe_M_reason_51 {ρ : Type} (kr : Int → zH → Option ρ) (t0 : Int) (h : zH) : M_reason_51 kr t0 h = zseg zPP false (zcal []) (zget (999, 0, 0, 0) zc_M_reason) (zcut zu_M_reason) (zorc []) kr (fun _ _ => none) 400 51 [none, none, none, none] [(0, t0)] h := by rfl
set_option maxRecDepth 100000 in
theorem qe_M_reason_72 {ρ : Type} (kr : Int → zH → Option ρ) (t0 : Int) (h : zH) : M_reason_72 kr t0 h = zseg zPP false (zcal []) (zget (999, 0, 0, 0) zc_M_reason) (zcut zu_M_reason) (zorc []) kr (fun _ _ => none) 400 72 [none, none, none, none] [(0, t0)] h := by rfl
set_option maxRecDepth 100000 in
theorem qe_M_reason {ρ : Type} (kr : Int → zH → Option ρ) (a1 a2 : Int) (h : zH) : M_reason a1 a2 h kr = zseg zPP false (zcal [(65, [some 0, none, none], fun xs h kr kt => match xs with
  | [x1, x2] => M_fails x1 x2 h kr
  | _ => none), (96, [some 0, none], fun xs h kr kt => match xs with
  | [x1] => M_hasEnded x1 h kr
  | _ => none), (103, [some 0, none], fun xs h kr kt => match xs with
  | [x1] => M_placeOf x1 h kr
  | _ => none), (143, [some 0, none, none], fun xs h kr kt => match xs with
  | [x1, x2] => M_noGroup x1 x2 h kr
  | _ => none)]) (zget (999, 0, 0, 0) zc_M_reason) (zcut zu_M_reason) (zorc [(51, [none, none, none, none], [(0, none)], fun xs h => match xs with
  | [t0] => M_reason_51 kr t0 h
  | _ => none), (72, [none, none, none, none], [(0, none)], fun xs h => match xs with
  | [t0] => M_reason_72 kr t0 h
  | _ => none)]) kr (fun _ _ => none) 400 0 [some (112, 0), some (0, a1), some (0, a2), none] [] h := by rfl
def zc_M_register : List zI := [(14, 0, 0, 112), (0, 0, 0, 0), (82, 12, 185, 0), (999, 0, 0, 0), (999, 0, 0, 0), (14, 0, 0, 112), (14, 0, 0, 112), (10, 0, 1, 0), (10, 0, 2, 0), (110, 0, 453, 143), (999, 0, 0, 0), (999, 0, 0, 0), (0, 1, 0, 0), (110, 0, 199, 65), (999, 0, 0, 0), (999, 0, 0, 0), (60, 5, 21, 0), (999, 0, 0, 0), (999, 0, 0, 0), (0, 0, 0, 0), (130, 0, 0, 0), (0, 4, 0, 0), (10, 0, 1, 0), (32, 0, 0, 0), (10, 0, 2, 0), (30, 0, 0, 0), (17, 0, 5, 0), (999, 0, 0, 0), (14, 0, 0, 112), (80, 12, 118, 39), (999, 0, 0, 0), (999, 0, 0, 0), (11, 0, 5, 0), (999, 0, 0, 0), (90, 0, 0, 94), (1, 6, 0, 0), (999, 0, 0, 0), (33, 0, 0, 0), (17, 0, 6, 0), (999, 0, 0, 0), (10, 0, 3, 0), (0, 0, 0, 0), (0, 3, 0, 0), (113, 0, 192, 64), (999, 0, 0, 0), (999, 0, 0, 0), (60, 47, 93, 0), (999, 0, 0, 0), (999, 0, 0, 0), (0, 4, 0, 0), (14, 0, 0, 112), (80, 12, 121, 40), (999, 0, 0, 0), (999, 0, 0, 0), (11, 0, 5, 0), (999, 0, 0, 0), (90, 0, 0, 95), (32, 0, 0, 0), (10, 0, 3, 0), (30, 0, 0, 0), (14, 0, 0, 112), (80, 12, 55, 18), (999, 0, 0, 0), (999, 0, 0, 0), (11, 0, 6, 0), (999, 0, 0, 0), (90, 0, 0, 73), (69, 26, 93, 0), (999, 0, 0, 0), (999, 0, 0, 0), (11, 0, 4, 0), (999, 0, 0, 0), (0, 0, 0, 0), (14, 0, 0, 112), (80, 12, 17, 5), (999, 0, 0, 0), (999, 0, 0, 0), (14, 0, 0, 112), (80, 12, 46, 15), (999, 0, 0, 0), (999, 0, 0, 0), (11, 0, 6, 0), (999, 0, 0, 0), (90, 0, 0, 70), (90, 0, 0, 61), (0, 1, 0, 0), (31, 0, 0, 0), (113, 0, 192, 64), (999, 0, 0, 0), (999, 0, 0, 0), (61, 7, 97, 0), (999, 0, 0, 0), (999, 0, 0, 0), (0, 1, 0, 0), (72, 4, 98, 0), (999, 0, 0, 0), (999, 0, 0, 0), (0, 0, 0, 0), (17, 0, 7, 0), (999, 0, 0, 0), (14, 0, 0, 112), (11, 0, 7, 0), (999, 0, 0, 0), (0, 1, 0, 0), (110, 0, 199, 65), (999, 0, 0, 0), (999, 0, 0, 0), (60, 7, 114, 0), (999, 0, 0, 0), (999, 0, 0, 0), (0, 0, 0, 0), (72, 17, 128, 0), (999, 0, 0, 0), (999, 0, 0, 0), (14, 0, 0, 112), (80, 12, 109, 36), (999, 0, 0, 0), (999, 0, 0, 0), (14, 0, 0, 112), (11, 0, 5, 0), (999, 0, 0, 0), (10, 0, 3, 0), (11, 0, 4, 0), (999, 0, 0, 0), (110, 0, 281, 105), (999, 0, 0, 0), (999, 0, 0, 0), (90, 0, 0, 91), (130, 0, 0, 0)]
def zu_M_register : List (Nat × List Bool) := [(93, [true, false, false, true, true, true, false, false]), (98, [true, false, false, true, true, true, false, false]), (128, [false, false, false, false, false, false, false, false])]
set_option maxRecDepth 100000 in
theorem qe_M_register_128 {ρ : Type} (kr : Int → zH → Option ρ) (t0 : Int) (h : zH) : M_register_128 kr t0 h = zseg zPP false (zcal []) (zget (999, 0, 0, 0) zc_M_register) (zcut zu_M_register) (zorc []) kr (fun _ _ => none) 400 128 [none, none, none, none, none, none, none, none] [(0, t0)] h := by rfl
set_option maxRecDepth 100000 in
theorem qe_M_register_98 {ρ : Type} (kr : Int → zH → Option ρ) (a3 a4 a5 t0 : Int) (h : zH) : M_register_98 kr a3 a4 a5 t0 h = zseg zPP false (zcal [(65, [some 0, none, none], fun xs h kr kt => match xs with
  | [x1, x2] => M_fails x1 x2 h kr
  | _ => none), (105, [some 0, none, none, none], fun xs h kr kt => match xs with
  | [x1, x2, x3] => M_registerCell x1 x2 x3 h kr
  | _ => none)]) (zget (999, 0, 0, 0) zc_M_register) (zcut zu_M_register) (zorc [(128, [none, none, none, none, none, none, none, none], [(0, none)], fun xs h => match xs with
  | [t0] => M_register_128 kr t0 h
  | _ => none)]) kr (fun _ _ => none) 400 98 [some (112, 0), none, none, some (0, a3), some (0, a4), some (0, a5), none, none] [(0, t0)] h := by rfl
set_option maxRecDepth 100000 in
theorem qe_M_register_93 {ρ : Type} (kr : Int → zH → Option ρ) (a3 a4 a5 : Int) (h : zH) : M_register_93 kr a3 a4 a5 h = zseg zPP false (zcal []) (zget (999, 0, 0, 0) zc_M_register) (zcut zu_M_register) (zorc [(98, [some (112, some 0), none, none, some (0, none), some (0, none), some (0, none), none, none], [(0, none)], fun xs h => match xs with
  | [a3, a4, a5, t0] => M_register_98 kr a3 a4 a5 t0 h
  | _ => none)]) kr (fun _ _ => none) 400 93 [some (112, 0), none, none, some (0, a3), some (0, a4), some (0, a5), none, none] [] h := by rfl
set_option maxRecDepth 100000 in
theorem qe_M_register {ρ : Type} (kr : Int → zH → Option ρ) (a1 a2 a3 a4 : Int) (h : zH) : M_register a1 a2 a3 a4 h kr = zseg zPP false (zcal [(64, [none, none, none], fun xs h kr kt => match xs with
  | [x0, x1, x2] => M_in x0 x1 x2 h kr
  | _ => none), (65, [some 0, none, none], fun xs h kr kt => match xs with
  | [x1, x2] => M_fails x1 x2 h kr
  | _ => none), (143, [some 0, none, none], fun xs h kr kt => match xs with
  | [x1, x2] => M_noGroup x1 x2 h kr
  | _ => none)]) (zget (999, 0, 0, 0) zc_M_register) (zcut zu_M_register) (zorc [(93, [some (112, some 0), none, none, some (0, none), some (0, none), some (0, none), none, none], [], fun xs h => match xs with
  | [a3, a4, a5] => M_register_93 kr a3 a4 a5 h
  | _ => none), (98, [some (112, some 0), none, none, some (0, none), some (0, none), some (0, none), none, none], [(0, none)], fun xs h => match xs with
  | [a3, a4, a5, t0] => M_register_98 kr a3 a4 a5 t0 h
  | _ => none)]) kr (fun _ _ => none) 400 0 [some (112, 0), some (0, a1), some (0, a2), some (0, a3), some (0, a4), none, none, none] [] h := by rfl
def zc_M_shared : List zI := [(14, 0, 0, 112), (0, 0, 0, 0), (82, 12, 185, 0), (999, 0, 0, 0), (999, 0, 0, 0), (14, 0, 0, 112), (14, 0, 0, 112), (10, 0, 1, 0), (10, 0, 2, 0), (110, 0, 453, 143), (999, 0, 0, 0), (999, 0, 0, 0), (0, 1, 0, 0), (110, 0, 199, 65), (999, 0, 0, 0), (999, 0, 0, 0), (60, 5, 21, 0), (999, 0, 0, 0), (999, 0, 0, 0), (0, 0, 0, 0), (130, 0, 0, 0), (14, 0, 0, 112), (80, 12, 118, 39), (999, 0, 0, 0), (999, 0, 0, 0), (0, 4, 0, 0), (10, 0, 1, 0), (32, 0, 0, 0), (10, 0, 2, 0), (30, 0, 0, 0), (90, 0, 0, 94), (17, 0, 4, 0), (999, 0, 0, 0), (14, 0, 0, 112), (10, 0, 3, 0), (0, 0, 0, 0), (14, 0, 0, 112), (80, 12, 20, 6), (999, 0, 0, 0), (999, 0, 0, 0), (14, 0, 0, 112), (80, 12, 46, 15), (999, 0, 0, 0), (999, 0, 0, 0), (11, 0, 4, 0), (999, 0, 0, 0), (1, 6, 0, 0), (999, 0, 0, 0), (33, 0, 0, 0), (90, 0, 0, 70), (90, 0, 0, 62), (0, 1, 0, 0), (31, 0, 0, 0), (113, 0, 192, 64), (999, 0, 0, 0), (999, 0, 0, 0), (61, 7, 63, 0), (999, 0, 0, 0), (999, 0, 0, 0), (0, 1, 0, 0), (72, 4, 64, 0), (999, 0, 0, 0), (999, 0, 0, 0), (0, 0, 0, 0), (0, 1, 0, 0), (110, 0, 199, 65), (999, 0, 0, 0), (999, 0, 0, 0), (60, 7, 75, 0), (999, 0, 0, 0), (999, 0, 0, 0), (0, 0, 0, 0), (72, 15, 87, 0), (999, 0, 0, 0), (999, 0, 0, 0), (14, 0, 0, 112), (80, 12, 112, 37), (999, 0, 0, 0), (999, 0, 0, 0), (1, 16, 0, 0), (999, 0, 0, 0), (11, 0, 4, 0), (999, 0, 0, 0), (32, 0, 0, 0), (10, 0, 3, 0), (30, 0, 0, 0), (90, 0, 0, 92), (130, 0, 0, 0)]
def zu_M_shared : List (Nat × List Bool) := [(64, [true, false, false, true, true]), (87, [false, false, false, false, false])]
set_option maxRecDepth 100000 in
theorem qe_M_shared_87 {ρ : Type} (kr : Int → zH → Option ρ) (t0 : Int) (h : zH) : M_shared_87 kr t0 h = zseg zPP false (zcal []) (zget (999, 0, 0, 0) zc_M_shared) (zcut zu_M_shared) (zorc []) kr (fun _ _ => none) 400 87 [none, none, none, none, none] [(0, t0)] h := by rfl
set_option maxRecDepth 100000 in
theorem qe_M_shared_64 {ρ : Type} (kr : Int → zH → Option ρ) (a3 a4 t0 : Int) (h : zH) : M_shared_64 kr a3 a4 t0 h = zseg zPP false (zcal [(65, [some 0, none, none], fun xs h kr kt => match xs with
  | [x1, x2] => M_fails x1 x2 h kr
  | _ => none)]) (zget (999, 0, 0, 0) zc_M_shared) (zcut zu_M_shared) (zorc [(87, [none, none, none, none, none], [(0, none)], fun xs h => match xs with
  | [t0] => M_shared_87 kr t0 h
  | _ => none)]) kr (fun _ _ => none) 400 64 [some (112, 0), none, none, some (0, a3), some (0, a4)] [(0, t0), (112, 0)] h := by rfl
set_option maxRecDepth 100000 in
theorem qe_M_shared {ρ : Type} (kr : Int → zH → Option ρ) (a1 a2 a3 : Int) (h : zH) : M_shared a1 a2 a3 h kr = zseg zPP false (zcal [(64, [none, none, none], fun xs h kr kt => match xs with
  | [x0, x1, x2] => M_in x0 x1 x2 h kr
  | _ => none), (65, [some 0, none, none], fun xs h kr kt => match xs with
  | [x1, x2] => M_fails x1 x2 h kr
  | _ => none), (143, [some 0, none, none], fun xs h kr kt => match xs with
  | [x1, x2] => M_noGroup x1 x2 h kr
  | _ => none)]) (zget (999, 0, 0, 0) zc_M_shared) (zcut zu_M_shared) (zorc [(64, [some (112, some 0), none, none, some (0, none), some (0, none)], [(0, none), (112, some 0)], fun xs h => match xs with
  | [a3, a4, t0] => M_shared_64 kr a3 a4 t0 h
  | _ => none)]) kr (fun _ _ => none) 400 0 [some (112, 0), some (0, a1), some (0, a2), some (0, a3), none] [] h := by rfl
def zc_M_buffered : List zI := [(14, 0, 0, 112), (0, 0, 0, 0), (82, 12, 185, 0), (999, 0, 0, 0), (999, 0, 0, 0), (14, 0, 0, 112), (14, 0, 0, 112), (10, 0, 1, 0), (10, 0, 2, 0), (110, 0, 453, 143), (999, 0, 0, 0), (999, 0, 0, 0), (0, 1, 0, 0), (110, 0, 199, 65), (999, 0, 0, 0), (999, 0, 0, 0), (60, 7, 23, 0), (999, 0, 0, 0), (999, 0, 0, 0), (0, 0, 0, 0), (72, 13, 33, 0), (999, 0, 0, 0), (999, 0, 0, 0), (14, 0, 0, 112), (80, 12, 127, 42), (999, 0, 0, 0), (999, 0, 0, 0), (0, 4, 0, 0), (10, 0, 1, 0), (32, 0, 0, 0), (10, 0, 2, 0), (30, 0, 0, 0), (90, 0, 0, 97), (130, 0, 0, 0)]
def zu_M_buffered : List (Nat × List Bool) := [(33, [false, false, false])]
set_option maxRecDepth 100000 in
theorem qe_M_buffered_33 {ρ : Type} (kr : Int → zH → Option ρ) (t0 : Int) (h : zH) : M_buffered_33 kr t0 h = zseg zPP false (zcal []) (zget (999, 0, 0, 0) zc_M_buffered) (zcut zu_M_buffered) (zorc []) kr (fun _ _ => none) 400 33 [none, none, none] [(0, t0)] h := by rfl
set_option maxRecDepth 100000 in
theorem qe_M_buffered {ρ : Type} (kr : Int → zH → Option ρ) (a1 a2 : Int) (h : zH) : M_buffered a1 a2 h kr = zseg zPP false (zcal [(65, [some 0, none, none], fun xs h kr kt => match xs with
  | [x1, x2] => M_fails x1 x2 h kr
  | _ => none), (143, [some 0, none, none], fun xs h kr kt => match xs with
  | [x1, x2] => M_noGroup x1 x2 h kr
  | _ => none)]) (zget (999, 0, 0, 0) zc_M_buffered) (zcut zu_M_buffered) (zorc [(33, [none, none, none], [(0, none)], fun xs h => match xs with
  | [t0] => M_buffered_33 kr t0 h
  | _ => none)]) kr (fun _ _ => none) 400 0 [some (112, 0), some (0, a1), some (0, a2)] [] h := by rfl
def zc_M_fault : List zI := [(14, 0, 0, 112), (0, 0, 0, 0), (82, 12, 185, 0), (999, 0, 0, 0), (999, 0, 0, 0), (14, 0, 0, 112), (14, 0, 0, 112), (10, 0, 1, 0), (110, 0, 228, 67), (999, 0, 0, 0), (999, 0, 0, 0), (0, 1, 0, 0), (110, 0, 199, 65), (999, 0, 0, 0), (999, 0, 0, 0), (61, 27, 42, 0), (999, 0, 0, 0), (999, 0, 0, 0), (14, 0, 0, 112), (14, 0, 0, 112), (80, 12, 43, 14), (999, 0, 0, 0), (999, 0, 0, 0), (10, 0, 1, 0), (92, 0, 0, 69), (1, 102, 0, 0), (999, 0, 0, 0), (66, 7, 34, 0), (999, 0, 0, 0), (999, 0, 0, 0), (0, 1, 0, 0), (72, 4, 35, 0), (999, 0, 0, 0), (999, 0, 0, 0), (0, 0, 0, 0), (0, 2, 0, 0), (110, 0, 199, 65), (999, 0, 0, 0), (999, 0, 0, 0), (60, 7, 46, 0), (999, 0, 0, 0), (999, 0, 0, 0), (0, 0, 0, 0), (72, 9, 52, 0), (999, 0, 0, 0), (999, 0, 0, 0), (14, 0, 0, 112), (80, 12, 88, 29), (999, 0, 0, 0), (999, 0, 0, 0), (10, 0, 1, 0), (92, 0, 0, 84), (130, 0, 2, 0)]
def zu_M_fault : List (Nat × List Bool) := [(35, [true, true]), (42, [false, false]), (52, [false, false])]
set_option maxRecDepth 100000 in
theorem qe_M_fault_52 {ρ : Type} (kr : Int → zH → Option ρ) (t0 : Int) (h : zH) : M_fault_52 kr t0 h = zseg zPP false (zcal []) (zget (999, 0, 0, 0) zc_M_fault) (zcut zu_M_fault) (zorc []) kr (fun _ _ => none) 400 52 [none, none] [(0, t0)] h := by rfl
set_option maxRecDepth 100000 in
theorem qe_M_fault_42 {ρ : Type} (kr : Int → zH → Option ρ) (h : zH) : M_fault_42 kr h = zseg zPP false (zcal []) (zget (999, 0, 0, 0) zc_M_fault) (zcut zu_M_fault) (zorc [(52, [none, none], [(0, none)], fun xs h => match xs with
  | [t0] => M_fault_52 kr t0 h
  | _ => none)]) kr (fun _ _ => none) 400 42 [none, none] [] h := by rfl
set_option maxRecDepth 100000 in
theorem qe_M_fault_35 {ρ : Type} (kr : Int → zH → Option ρ) (a1 t0 : Int) (h : zH) : M_fault_35 kr a1 t0 h = zseg zPP false (zcal [(65, [some 0, none, none], fun xs h kr kt => match xs with
  | [x1, x2] => M_fails x1 x2 h kr
  | _ => none)]) (zget (999, 0, 0, 0) zc_M_fault) (zcut zu_M_fault) (zorc [(42, [none, none], [], fun xs h => match xs with
  | [] => M_fault_42 kr h
  | _ => none), (52, [none, none], [(0, none)], fun xs h => match xs with
  | [t0] => M_fault_52 kr t0 h
  | _ => none)]) kr (fun _ _ => none) 400 35 [some (112, 0), some (0, a1)] [(0, t0), (112, 0)] h := by rfl
set_option maxRecDepth 100000 in
theorem qe_M_fault {ρ : Type} (kr : Int → zH → Option ρ) (a1 : Int) (h : zH) : M_fault a1 h kr = zseg zPP false (zcal [(65, [some 0, none, none], fun xs h kr kt => match xs with
  | [x1, x2] => M_fails x1 x2 h kr
  | _ => none), (67, [some 0, none], fun xs h kr kt => match xs with
  | [x1] => M_noLaunch x1 h kr
  | _ => none)]) (zget (999, 0, 0, 0) zc_M_fault) (zcut zu_M_fault) (zorc [(35, [some (112, some 0), some (0, none)], [(0, none), (112, some 0)], fun xs h => match xs with
  | [a1, t0] => M_fault_35 kr a1 t0 h
  | _ => none), (42, [none, none], [], fun xs h => match xs with
  | [] => M_fault_42 kr h
  | _ => none)]) kr (fun _ _ => none) 400 0 [some (112, 0), some (0, a1)] [] h := by rfl
def zc_M_faultAt : List zI := [(14, 0, 0, 112), (0, 0, 0, 0), (82, 12, 185, 0), (999, 0, 0, 0), (999, 0, 0, 0), (14, 0, 0, 112), (14, 0, 0, 112), (10, 0, 1, 0), (110, 0, 228, 67), (999, 0, 0, 0), (999, 0, 0, 0), (0, 1, 0, 0), (110, 0, 199, 65), (999, 0, 0, 0), (999, 0, 0, 0), (61, 27, 42, 0), (999, 0, 0, 0), (999, 0, 0, 0), (14, 0, 0, 112), (14, 0, 0, 112), (80, 12, 43, 14), (999, 0, 0, 0), (999, 0, 0, 0), (10, 0, 1, 0), (92, 0, 0, 69), (1, 102, 0, 0), (999, 0, 0, 0), (66, 7, 34, 0), (999, 0, 0, 0), (999, 0, 0, 0), (0, 1, 0, 0), (72, 4, 35, 0), (999, 0, 0, 0), (999, 0, 0, 0), (0, 0, 0, 0), (0, 2, 0, 0), (110, 0, 199, 65), (999, 0, 0, 0), (999, 0, 0, 0), (60, 7, 46, 0), (999, 0, 0, 0), (999, 0, 0, 0), (0, 0, 0, 0), (72, 9, 52, 0), (999, 0, 0, 0), (999, 0, 0, 0), (14, 0, 0, 112), (80, 12, 91, 30), (999, 0, 0, 0), (999, 0, 0, 0), (10, 0, 1, 0), (90, 0, 0, 85), (130, 0, 0, 0)]
def zu_M_faultAt : List (Nat × List Bool) := [(35, [true, true]), (42, [false, false]), (52, [false, false])]
set_option maxRecDepth 100000 in
theorem qe_M_faultAt_52 {ρ : Type} (kr : Int → zH → Option ρ) (t0 : Int) (h : zH) : M_faultAt_52 kr t0 h = zseg zPP false (zcal []) (zget (999, 0, 0, 0) zc_M_faultAt) (zcut zu_M_faultAt) (zorc []) kr (fun _ _ => none) 400 52 [none, none] [(0, t0)] h := by rfl
set_option maxRecDepth 100000 in
theorem qe_M_faultAt_42 {ρ : Type} (kr : Int → zH → Option ρ) (h : zH) : M_faultAt_42 kr h = zseg zPP false (zcal []) (zget (999, 0, 0, 0) zc_M_faultAt) (zcut zu_M_faultAt) (zorc [(52, [none, none], [(0, none)], fun xs h => match xs with
  | [t0] => M_faultAt_52 kr t0 h
  | _ => none)]) kr (fun _ _ => none) 400 42 [none, none] [] h := by rfl
set_option maxRecDepth 100000 in
theorem qe_M_faultAt_35 {ρ : Type} (kr : Int → zH → Option ρ) (a1 t0 : Int) (h : zH) : M_faultAt_35 kr a1 t0 h = zseg zPP false (zcal [(65, [some 0, none, none], fun xs h kr kt => match xs with
  | [x1, x2] => M_fails x1 x2 h kr
  | _ => none)]) (zget (999, 0, 0, 0) zc_M_faultAt) (zcut zu_M_faultAt) (zorc [(42, [none, none], [], fun xs h => match xs with
  | [] => M_faultAt_42 kr h
  | _ => none), (52, [none, none], [(0, none)], fun xs h => match xs with
  | [t0] => M_faultAt_52 kr t0 h
  | _ => none)]) kr (fun _ _ => none) 400 35 [some (112, 0), some (0, a1)] [(0, t0), (112, 0)] h := by rfl
set_option maxRecDepth 100000 in
theorem qe_M_faultAt {ρ : Type} (kr : Int → zH → Option ρ) (a1 : Int) (h : zH) : M_faultAt a1 h kr = zseg zPP false (zcal [(65, [some 0, none, none], fun xs h kr kt => match xs with
  | [x1, x2] => M_fails x1 x2 h kr
  | _ => none), (67, [some 0, none], fun xs h kr kt => match xs with
  | [x1] => M_noLaunch x1 h kr
  | _ => none)]) (zget (999, 0, 0, 0) zc_M_faultAt) (zcut zu_M_faultAt) (zorc [(35, [some (112, some 0), some (0, none)], [(0, none), (112, some 0)], fun xs h => match xs with
  | [a1, t0] => M_faultAt_35 kr a1 t0 h
  | _ => none), (42, [none, none], [], fun xs h => match xs with
  | [] => M_faultAt_42 kr h
  | _ => none)]) kr (fun _ _ => none) 400 0 [some (112, 0), some (0, a1)] [] h := by rfl
def zc_M_isRacing : List zI := [(14, 0, 0, 112), (0, 0, 0, 0), (82, 12, 185, 0), (999, 0, 0, 0), (999, 0, 0, 0), (14, 0, 0, 112), (14, 0, 0, 112), (10, 0, 1, 0), (110, 0, 228, 67), (999, 0, 0, 0), (999, 0, 0, 0), (61, 10, 21, 0), (999, 0, 0, 0), (999, 0, 0, 0), (10, 0, 2, 0), (113, 0, 222, 68), (999, 0, 0, 0), (999, 0, 0, 0), (60, 7, 25, 0), (999, 0, 0, 0), (999, 0, 0, 0), (0, 1, 0, 0), (72, 4, 26, 0), (999, 0, 0, 0), (999, 0, 0, 0), (0, 0, 0, 0), (0, 1, 0, 0), (110, 0, 199, 65), (999, 0, 0, 0), (999, 0, 0, 0), (61, 21, 51, 0), (999, 0, 0, 0), (999, 0, 0, 0), (14, 0, 0, 112), (80, 12, 152, 50), (999, 0, 0, 0), (999, 0, 0, 0), (1, 64, 0, 0), (999, 0, 0, 0), (10, 0, 1, 0), (32, 0, 0, 0), (10, 0, 2, 0), (30, 0, 0, 0), (91, 0, 0, 105), (60, 7, 51, 0), (999, 0, 0, 0), (999, 0, 0, 0), (0, 1, 0, 0), (72, 4, 52, 0), (999, 0, 0, 0), (999, 0, 0, 0), (0, 0, 0, 0), (130, 0, 1, 0)]
def zu_M_isRacing : List (Nat × List Bool) := [(21, [true, true, true]), (26, [true, true, true]), (51, [false, false, false]), (52, [false, false, false])]
set_option maxRecDepth 100000 in
theorem qe_M_isRacing_52 {ρ : Type} (kr : Int → zH → Option ρ) (t0 : Int) (h : zH) : M_isRacing_52 kr t0 h = zseg zPP false (zcal []) (zget (999, 0, 0, 0) zc_M_isRacing) (zcut zu_M_isRacing) (zorc []) kr (fun _ _ => none) 400 52 [none, none, none] [(0, t0)] h := by rfl
set_option maxRecDepth 100000 in
theorem qe_M_isRacing_51 {ρ : Type} (kr : Int → zH → Option ρ) (h : zH) : M_isRacing_51 kr h = zseg zPP false (zcal []) (zget (999, 0, 0, 0) zc_M_isRacing) (zcut zu_M_isRacing) (zorc [(52, [none, none, none], [(0, none)], fun xs h => match xs with
  | [t0] => M_isRacing_52 kr t0 h
  | _ => none)]) kr (fun _ _ => none) 400 51 [none, none, none] [] h := by rfl
set_option maxRecDepth 100000 in
theorem qe_M_isRacing_26 {ρ : Type} (kr : Int → zH → Option ρ) (a1 a2 t0 : Int) (h : zH) : M_isRacing_26 kr a1 a2 t0 h = zseg zPP false (zcal [(65, [some 0, none, none], fun xs h kr kt => match xs with
  | [x1, x2] => M_fails x1 x2 h kr
  | _ => none)]) (zget (999, 0, 0, 0) zc_M_isRacing) (zcut zu_M_isRacing) (zorc [(51, [none, none, none], [], fun xs h => match xs with
  | [] => M_isRacing_51 kr h
  | _ => none), (52, [none, none, none], [(0, none)], fun xs h => match xs with
  | [t0] => M_isRacing_52 kr t0 h
  | _ => none)]) kr (fun _ _ => none) 400 26 [some (112, 0), some (0, a1), some (0, a2)] [(0, t0), (112, 0)] h := by rfl
set_option maxRecDepth 100000 in
theorem qe_M_isRacing_21 {ρ : Type} (kr : Int → zH → Option ρ) (a1 a2 : Int) (h : zH) : M_isRacing_21 kr a1 a2 h = zseg zPP false (zcal []) (zget (999, 0, 0, 0) zc_M_isRacing) (zcut zu_M_isRacing) (zorc [(26, [some (112, some 0), some (0, none), some (0, none)], [(0, none), (112, some 0)], fun xs h => match xs with
  | [a1, a2, t0] => M_isRacing_26 kr a1 a2 t0 h
  | _ => none)]) kr (fun _ _ => none) 400 21 [some (112, 0), some (0, a1), some (0, a2)] [(112, 0)] h := by rfl
set_option maxRecDepth 100000 in
theorem qe_M_isRacing {ρ : Type} (kr : Int → zH → Option ρ) (a1 a2 : Int) (h : zH) : M_isRacing a1 a2 h kr = zseg zPP false (zcal [(67, [some 0, none], fun xs h kr kt => match xs with
  | [x1] => M_noLaunch x1 h kr
  | _ => none), (68, [none], fun xs h kr kt => match xs with
  | [x0] => M_noCell x0 h kr
  | _ => none)]) (zget (999, 0, 0, 0) zc_M_isRacing) (zcut zu_M_isRacing) (zorc [(21, [some (112, some 0), some (0, none), some (0, none)], [(112, some 0)], fun xs h => match xs with
  | [a1, a2] => M_isRacing_21 kr a1 a2 h
  | _ => none), (26, [some (112, some 0), some (0, none), some (0, none)], [(0, none), (112, some 0)], fun xs h => match xs with
  | [a1, a2, t0] => M_isRacing_26 kr a1 a2 t0 h
  | _ => none)]) kr (fun _ _ => none) 400 0 [some (112, 0), some (0, a1), some (0, a2)] [] h := by rfl
def zc_M_races : List zI := [(14, 0, 0, 112), (0, 0, 0, 0), (82, 12, 185, 0), (999, 0, 0, 0), (999, 0, 0, 0), (14, 0, 0, 112), (14, 0, 0, 112), (10, 0, 1, 0), (110, 0, 228, 67), (999, 0, 0, 0), (999, 0, 0, 0), (0, 1, 0, 0), (110, 0, 199, 65), (999, 0, 0, 0), (999, 0, 0, 0), (60, 5, 20, 0), (999, 0, 0, 0), (999, 0, 0, 0), (0, 0, 0, 0), (130, 0, 0, 0), (0, 0, 0, 0), (16, 0, 2, 0), (0, 0, 0, 0), (16, 0, 3, 0), (10, 0, 3, 0), (1, 64, 0, 0), (999, 0, 0, 0), (69, 31, 58, 0), (999, 0, 0, 0), (999, 0, 0, 0), (10, 0, 2, 0), (14, 0, 0, 112), (80, 12, 152, 50), (999, 0, 0, 0), (999, 0, 0, 0), (1, 64, 0, 0), (999, 0, 0, 0), (10, 0, 1, 0), (32, 0, 0, 0), (10, 0, 3, 0), (30, 0, 0, 0), (91, 0, 0, 105), (60, 7, 49, 0), (999, 0, 0, 0), (999, 0, 0, 0), (0, 1, 0, 0), (72, 4, 50, 0), (999, 0, 0, 0), (999, 0, 0, 0), (0, 0, 0, 0), (30, 0, 0, 0), (16, 0, 2, 0), (22, 1, 3, 0), (999, 0, 0, 0), (999, 0, 0, 0), (72, (-31), 24, 0), (999, 0, 0, 0), (999, 0, 0, 0), (1, 96, 0, 0), (999, 0, 0, 0), (10, 0, 1, 0), (32, 0, 0, 0), (16, 0, 3, 0), (10, 0, 3, 0), (1, 96, 0, 0), (999, 0, 0, 0), (10, 0, 1, 0), (32, 0, 0, 0), (1, 96, 0, 0), (999, 0, 0, 0), (30, 0, 0, 0), (69, 26, 97, 0), (999, 0, 0, 0), (999, 0, 0, 0), (10, 0, 2, 0), (14, 0, 0, 112), (80, 12, 161, 53), (999, 0, 0, 0), (999, 0, 0, 0), (10, 0, 3, 0), (91, 0, 0, 108), (60, 7, 88, 0), (999, 0, 0, 0), (999, 0, 0, 0), (0, 1, 0, 0), (72, 4, 89, 0), (999, 0, 0, 0), (999, 0, 0, 0), (0, 0, 0, 0), (30, 0, 0, 0), (16, 0, 2, 0), (22, 1, 3, 0), (999, 0, 0, 0), (999, 0, 0, 0), (72, (-31), 63, 0), (999, 0, 0, 0), (999, 0, 0, 0), (10, 0, 2, 0), (130, 0, 0, 0)]
def zu_M_races : List (Nat × List Bool) := [(24, [true, true, true, true]), (50, [true, true, false, true]), (63, [true, true, true, true]), (89, [true, true, false, true])]
set_option maxRecDepth 100000 in
theorem qe_M_races_50 {ρ : Type} (kr : Int → zH → Option ρ) (r24 : Int → Int → Int → zH → Option ρ) (a1 a3 t0 t1 : Int) (h : zH) : M_races_50 kr r24 a1 a3 t0 t1 h = zseg zPP false (zcal []) (zget (999, 0, 0, 0) zc_M_races) (zcut zu_M_races) (zorc [(24, [some (112, some 0), some (0, none), some (0, none), some (0, none)], [], fun xs h => match xs with
  | [a1, a2, a3] => r24 a1 a2 a3 h
  | _ => none)]) kr (fun _ _ => none) 400 50 [some (112, 0), some (0, a1), none, some (0, a3)] [(0, t0), (0, t1)] h := by rfl
set_option maxRecDepth 100000 in
theorem qe_M_races_89 {ρ : Type} (kr : Int → zH → Option ρ) (r63 : Int → Int → Int → zH → Option ρ) (a1 a3 t0 t1 : Int) (h : zH) : M_races_89 kr r63 a1 a3 t0 t1 h = zseg zPP false (zcal []) (zget (999, 0, 0, 0) zc_M_races) (zcut zu_M_races) (zorc [(63, [some (112, some 0), some (0, none), some (0, none), some (0, none)], [], fun xs h => match xs with
  | [a1, a2, a3] => r63 a1 a2 a3 h
  | _ => none)]) kr (fun _ _ => none) 400 89 [some (112, 0), some (0, a1), none, some (0, a3)] [(0, t0), (0, t1)] h := by rfl
set_option maxRecDepth 100000 in
theorem qe_M_races_63b {ρ : Type} (kr : Int → zH → Option ρ) (r63 : Int → Int → Int → zH → Option ρ) (a1 a2 a3 : Int) (h : zH) : M_races_63b kr r63 a1 a2 a3 h = zseg zPP false (zcal []) (zget (999, 0, 0, 0) zc_M_races) (zcut zu_M_races) (zorc [(89, [some (112, some 0), some (0, none), none, some (0, none)], [(0, none), (0, none)], fun xs h => match xs with
  | [a1, a3, t0, t1] => M_races_89 kr r63 a1 a3 t0 t1 h
  | _ => none)]) kr (fun _ _ => none) 400 63 [some (112, 0), some (0, a1), some (0, a2), some (0, a3)] [] h := by rfl
set_option maxRecDepth 100000 in
theorem qe_M_races_24b {ρ : Type} (kr : Int → zH → Option ρ) (r24 : Int → Int → Int → zH → Option ρ) (a1 a2 a3 : Int) (h : zH) : M_races_24b kr r24 a1 a2 a3 h = zseg zPP false (zcal []) (zget (999, 0, 0, 0) zc_M_races) (zcut zu_M_races) (zorc [(50, [some (112, some 0), some (0, none), none, some (0, none)], [(0, none), (0, none)], fun xs h => match xs with
  | [a1, a3, t0, t1] => M_races_50 kr r24 a1 a3 t0 t1 h
  | _ => none), (63, [some (112, some 0), some (0, none), some (0, none), some (0, none)], [], fun xs h => match xs with
  | [a1, a2, a3] => M_races_63 kr a1 a2 a3 h
  | _ => none)]) kr (fun _ _ => none) 400 24 [some (112, 0), some (0, a1), some (0, a2), some (0, a3)] [] h := by rfl
set_option maxRecDepth 100000 in
theorem qe_M_races {ρ : Type} (kr : Int → zH → Option ρ) (a1 : Int) (h : zH) : M_races a1 h kr = zseg zPP false (zcal [(65, [some 0, none, none], fun xs h kr kt => match xs with
  | [x1, x2] => M_fails x1 x2 h kr
  | _ => none), (67, [some 0, none], fun xs h kr kt => match xs with
  | [x1] => M_noLaunch x1 h kr
  | _ => none)]) (zget (999, 0, 0, 0) zc_M_races) (zcut zu_M_races) (zorc [(24, [some (112, some 0), some (0, none), some (0, none), some (0, none)], [], fun xs h => match xs with
  | [a1, a2, a3] => M_races_24 kr a1 a2 a3 h
  | _ => none)]) kr (fun _ _ => none) 400 0 [some (112, 0), some (0, a1), none, none] [] h := by rfl
def zc_M_runThread : List zI := [(14, 0, 0, 112), (80, 12, 179, 72), (999, 0, 0, 0), (999, 0, 0, 0), (10, 0, 3, 0), (92, 0, 0, 114), (1, 114, 0, 0), (999, 0, 0, 0), (67, 657, 665, 0), (999, 0, 0, 0), (999, 0, 0, 0), (14, 0, 0, 112), (80, 12, 176, 71), (999, 0, 0, 0), (999, 0, 0, 0), (10, 0, 3, 0), (90, 0, 0, 113), (14, 0, 0, 112), (80, 12, 23, 7), (999, 0, 0, 0), (999, 0, 0, 0), (10, 0, 1, 0), (90, 0, 0, 63), (68, 14, 37, 0), (999, 0, 0, 0), (999, 0, 0, 0), (14, 0, 0, 112), (80, 12, 179, 72), (999, 0, 0, 0), (999, 0, 0, 0), (10, 0, 3, 0), (1, 101, 0, 0), (999, 0, 0, 0), (97, 0, 0, 114), (72, (-34), 0, 0), (999, 0, 0, 0), (999, 0, 0, 0), (1, 40, 0, 0), (999, 0, 0, 0), (10, 0, 1, 0), (32, 0, 0, 0), (14, 0, 0, 112), (80, 12, 176, 71), (999, 0, 0, 0), (999, 0, 0, 0), (10, 0, 3, 0), (90, 0, 0, 113), (30, 0, 0, 0), (17, 0, 4, 0), (999, 0, 0, 0), (14, 0, 0, 112), (80, 12, 30, 9), (999, 0, 0, 0), (999, 0, 0, 0), (11, 0, 4, 0), (999, 0, 0, 0), (92, 0, 0, 65), (17, 0, 5, 0), (999, 0, 0, 0), (14, 0, 0, 112), (80, 12, 182, 73), (999, 0, 0, 0), (999, 0, 0, 0), (10, 0, 3, 0), (51, 0, 0, 0), (90, 0, 0, 115), (0, 1, 0, 0), (30, 0, 0, 0), (95, 0, 0, 115), (1, 8, 0, 0), (999, 0, 0, 0), (10, 0, 3, 0), (32, 0, 0, 0), (17, 0, 6, 0), (999, 0, 0, 0), (14, 0, 0, 112), (80, 12, 37, 11), (999, 0, 0, 0), (999, 0, 0, 0), (11, 0, 4, 0), (999, 0, 0, 0), (90, 0, 0, 67), (0, 0, 0, 0), (1, 7, 0, 0), (999, 0, 0, 0), (113, 0, 192, 64), (999, 0, 0, 0), (999, 0, 0, 0), (60, 21, 109, 0), (999, 0, 0, 0), (999, 0, 0, 0), (14, 0, 0, 112), (80, 12, 173, 70), (999, 0, 0, 0), (999, 0, 0, 0), (11, 0, 6, 0), (999, 0, 0, 0), (14, 0, 0, 112), (80, 12, 37, 11), (999, 0, 0, 0), (999, 0, 0, 0), (11, 0, 4, 0), (999, 0, 0, 0), (90, 0, 0, 67), (30, 0, 0, 0), (90, 0, 0, 112), (72, 4, 110, 0), (999, 0, 0, 0), (999, 0, 0, 0), (0, 0, 0, 0), (17, 0, 7, 0), (999, 0, 0, 0), (14, 0, 0, 112), (80, 12, 40, 12), (999, 0, 0, 0), (999, 0, 0, 0), (11, 0, 4, 0), (999, 0, 0, 0), (90, 0, 0, 68), (0, 0, 0, 0), (1, 7, 0, 0), (999, 0, 0, 0), (113, 0, 192, 64), (999, 0, 0, 0), (999, 0, 0, 0), (60, 21, 146, 0), (999, 0, 0, 0), (999, 0, 0, 0), (14, 0, 0, 112), (80, 12, 173, 70), (999, 0, 0, 0), (999, 0, 0, 0), (11, 0, 6, 0), (999, 0, 0, 0), (14, 0, 0, 112), (80, 12, 40, 12), (999, 0, 0, 0), (999, 0, 0, 0), (11, 0, 4, 0), (999, 0, 0, 0), (90, 0, 0, 68), (30, 0, 0, 0), (90, 0, 0, 112), (72, 4, 147, 0), (999, 0, 0, 0), (999, 0, 0, 0), (0, 0, 0, 0), (17, 0, 8, 0), (999, 0, 0, 0), (14, 0, 0, 112), (80, 12, 34, 10), (999, 0, 0, 0), (999, 0, 0, 0), (11, 0, 4, 0), (999, 0, 0, 0), (90, 0, 0, 66), (0, 0, 0, 0), (1, 7, 0, 0), (999, 0, 0, 0), (113, 0, 192, 64), (999, 0, 0, 0), (999, 0, 0, 0), (60, 21, 183, 0), (999, 0, 0, 0), (999, 0, 0, 0), (14, 0, 0, 112), (80, 12, 173, 70), (999, 0, 0, 0), (999, 0, 0, 0), (11, 0, 6, 0), (999, 0, 0, 0), (14, 0, 0, 112), (80, 12, 34, 10), (999, 0, 0, 0), (999, 0, 0, 0), (11, 0, 4, 0), (999, 0, 0, 0), (90, 0, 0, 66), (30, 0, 0, 0), (90, 0, 0, 112), (72, 4, 184, 0), (999, 0, 0, 0), (999, 0, 0, 0), (0, 0, 0, 0), (17, 0, 9, 0), (999, 0, 0, 0), (11, 0, 5, 0), (999, 0, 0, 0), (1, 119, 0, 0), (999, 0, 0, 0), (66, 10, 200, 0), (999, 0, 0, 0), (999, 0, 0, 0), (11, 0, 5, 0), (999, 0, 0, 0), (1, 87, 0, 0), (999, 0, 0, 0), (67, 8, 205, 0), (999, 0, 0, 0), (999, 0, 0, 0), (11, 0, 9, 0), (999, 0, 0, 0), (72, 5, 207, 0), (999, 0, 0, 0), (999, 0, 0, 0), (11, 0, 7, 0), (999, 0, 0, 0), (17, 0, 10, 0), (999, 0, 0, 0), (14, 0, 0, 112), (80, 12, 182, 73), (999, 0, 0, 0), (999, 0, 0, 0), (10, 0, 3, 0), (90, 0, 0, 115), (2, 200, 0, 0), (999, 0, 0, 0), (999, 0, 0, 0), (70, 44, 262, 0), (999, 0, 0, 0), (999, 0, 0, 0), (11, 0, 5, 0), (999, 0, 0, 0), (113, 0, 347, 113), (999, 0, 0, 0), (999, 0, 0, 0), (60, 11, 237, 0), (999, 0, 0, 0), (999, 0, 0, 0), (11, 0, 10, 0), (999, 0, 0, 0), (113, 0, 222, 68), (999, 0, 0, 0), (999, 0, 0, 0), (61, 28, 262, 0), (999, 0, 0, 0), (999, 0, 0, 0), (11, 0, 5, 0), (999, 0, 0, 0), (113, 0, 297, 114), (999, 0, 0, 0), (999, 0, 0, 0), (60, 22, 264, 0), (999, 0, 0, 0), (999, 0, 0, 0), (11, 0, 10, 0), (999, 0, 0, 0), (0, 0, 0, 0), (14, 0, 0, 112), (80, 12, 20, 6), (999, 0, 0, 0), (999, 0, 0, 0), (10, 0, 1, 0), (90, 0, 0, 62), (0, 1, 0, 0), (31, 0, 0, 0), (113, 0, 192, 64), (999, 0, 0, 0), (999, 0, 0, 0), (61, 5, 264, 0), (999, 0, 0, 0), (999, 0, 0, 0), (0, 0, 0, 0), (130, 0, 1, 0), (14, 0, 0, 112), (80, 12, 176, 71), (999, 0, 0, 0), (999, 0, 0, 0), (10, 0, 3, 0), (90, 0, 0, 113), (0, 1, 0, 0), (30, 0, 0, 0), (17, 0, 11, 0), (999, 0, 0, 0), (11, 0, 5, 0), (999, 0, 0, 0), (1, 119, 0, 0), (999, 0, 0, 0), (67, 15, 293, 0), (999, 0, 0, 0), (999, 0, 0, 0), (14, 0, 0, 112), (80, 12, 167, 68), (999, 0, 0, 0), (999, 0, 0, 0), (11, 0, 10, 0), (999, 0, 0, 0), (11, 0, 7, 0), (999, 0, 0, 0), (95, 0, 0, 110), (72, 364, 654, 0), (999, 0, 0, 0), (999, 0, 0, 0), (11, 0, 5, 0), (999, 0, 0, 0), (1, 87, 0, 0), (999, 0, 0, 0), (67, 15, 312, 0), (999, 0, 0, 0), (999, 0, 0, 0), (14, 0, 0, 112), (80, 12, 170, 69), (999, 0, 0, 0), (999, 0, 0, 0), (11, 0, 10, 0), (999, 0, 0, 0), (11, 0, 7, 0), (999, 0, 0, 0), (95, 0, 0, 111), (72, 345, 654, 0), (999, 0, 0, 0), (999, 0, 0, 0), (11, 0, 5, 0), (999, 0, 0, 0), (1, 114, 0, 0), (999, 0, 0, 0), (66, 10, 326, 0), (999, 0, 0, 0), (999, 0, 0, 0), (11, 0, 5, 0), (999, 0, 0, 0), (1, 82, 0, 0), (999, 0, 0, 0), (67, 45, 368, 0), (999, 0, 0, 0), (999, 0, 0, 0), (14, 0, 0, 112), (80, 12, 173, 70), (999, 0, 0, 0), (999, 0, 0, 0), (11, 0, 6, 0), (999, 0, 0, 0), (14, 0, 0, 112), (80, 12, 34, 10), (999, 0, 0, 0), (999, 0, 0, 0), (11, 0, 4, 0), (999, 0, 0, 0), (90, 0, 0, 66), (30, 0, 0, 0), (11, 0, 5, 0), (999, 0, 0, 0), (1, 114, 0, 0), (999, 0, 0, 0), (67, 13, 357, 0), (999, 0, 0, 0), (999, 0, 0, 0), (14, 0, 0, 112), (80, 12, 167, 68), (999, 0, 0, 0), (999, 0, 0, 0), (11, 0, 10, 0), (999, 0, 0, 0), (90, 0, 0, 110), (72, 10, 364, 0), (999, 0, 0, 0), (999, 0, 0, 0), (14, 0, 0, 112), (80, 12, 170, 69), (999, 0, 0, 0), (999, 0, 0, 0), (11, 0, 10, 0), (999, 0, 0, 0), (90, 0, 0, 111), (95, 0, 0, 112), (72, 289, 654, 0), (999, 0, 0, 0), (999, 0, 0, 0), (11, 0, 5, 0), (999, 0, 0, 0), (1, 97, 0, 0), (999, 0, 0, 0), (66, 10, 382, 0), (999, 0, 0, 0), (999, 0, 0, 0), (11, 0, 5, 0), (999, 0, 0, 0), (1, 120, 0, 0), (999, 0, 0, 0), (67, 56, 435, 0), (999, 0, 0, 0), (999, 0, 0, 0), (14, 0, 0, 112), (80, 12, 167, 68), (999, 0, 0, 0), (999, 0, 0, 0), (11, 0, 10, 0), (999, 0, 0, 0), (90, 0, 0, 110), (17, 0, 12, 0), (999, 0, 0, 0), (14, 0, 0, 112), (80, 12, 167, 68), (999, 0, 0, 0), (999, 0, 0, 0), (11, 0, 10, 0), (999, 0, 0, 0), (11, 0, 5, 0), (999, 0, 0, 0), (1, 97, 0, 0), (999, 0, 0, 0), (67, 11, 412, 0), (999, 0, 0, 0), (999, 0, 0, 0), (11, 0, 12, 0), (999, 0, 0, 0), (11, 0, 8, 0), (999, 0, 0, 0), (30, 0, 0, 0), (72, 5, 414, 0), (999, 0, 0, 0), (999, 0, 0, 0), (11, 0, 8, 0), (999, 0, 0, 0), (95, 0, 0, 110), (14, 0, 0, 112), (80, 12, 173, 70), (999, 0, 0, 0), (999, 0, 0, 0), (11, 0, 6, 0), (999, 0, 0, 0), (14, 0, 0, 112), (80, 12, 34, 10), (999, 0, 0, 0), (999, 0, 0, 0), (11, 0, 4, 0), (999, 0, 0, 0), (90, 0, 0, 66), (30, 0, 0, 0), (11, 0, 12, 0), (999, 0, 0, 0), (95, 0, 0, 112), (72, 222, 654, 0), (999, 0, 0, 0), (999, 0, 0, 0), (11, 0, 5, 0), (999, 0, 0, 0), (1, 107, 0, 0), (999, 0, 0, 0), (67, 28, 467, 0), (999, 0, 0, 0), (999, 0, 0, 0), (14, 0, 0, 112), (80, 12, 173, 70), (999, 0, 0, 0), (999, 0, 0, 0), (11, 0, 6, 0), (999, 0, 0, 0), (14, 0, 0, 112), (80, 12, 34, 10), (999, 0, 0, 0), (999, 0, 0, 0), (11, 0, 4, 0), (999, 0, 0, 0), (90, 0, 0, 66), (30, 0, 0, 0), (14, 0, 0, 112), (80, 12, 37, 11), (999, 0, 0, 0), (999, 0, 0, 0), (11, 0, 4, 0), (999, 0, 0, 0), (90, 0, 0, 67), (95, 0, 0, 112), (72, 190, 654, 0), (999, 0, 0, 0), (999, 0, 0, 0), (11, 0, 5, 0), (999, 0, 0, 0), (1, 116, 0, 0), (999, 0, 0, 0), (66, 17, 488, 0), (999, 0, 0, 0), (999, 0, 0, 0), (11, 0, 5, 0), (999, 0, 0, 0), (1, 110, 0, 0), (999, 0, 0, 0), (66, 10, 488, 0), (999, 0, 0, 0), (999, 0, 0, 0), (11, 0, 5, 0), (999, 0, 0, 0), (1, 108, 0, 0), (999, 0, 0, 0), (67, 46, 531, 0), (999, 0, 0, 0), (999, 0, 0, 0), (14, 0, 0, 112), (80, 12, 173, 70), (999, 0, 0, 0), (999, 0, 0, 0), (11, 0, 6, 0), (999, 0, 0, 0), (14, 0, 0, 112), (80, 12, 34, 10), (999, 0, 0, 0), (999, 0, 0, 0), (11, 0, 4, 0), (999, 0, 0, 0), (90, 0, 0, 66), (30, 0, 0, 0), (11, 0, 5, 0), (999, 0, 0, 0), (1, 116, 0, 0), (999, 0, 0, 0), (67, 7, 513, 0), (999, 0, 0, 0), (999, 0, 0, 0), (10, 0, 3, 0), (72, 17, 527, 0), (999, 0, 0, 0), (999, 0, 0, 0), (11, 0, 5, 0), (999, 0, 0, 0), (1, 110, 0, 0), (999, 0, 0, 0), (67, 7, 524, 0), (999, 0, 0, 0), (999, 0, 0, 0), (10, 0, 2, 0), (72, 6, 527, 0), (999, 0, 0, 0), (999, 0, 0, 0), (10, 0, 3, 0), (0, 4, 0, 0), (34, 0, 0, 0), (95, 0, 0, 112), (72, 126, 654, 0), (999, 0, 0, 0), (999, 0, 0, 0), (11, 0, 5, 0), (999, 0, 0, 0), (1, 122, 0, 0), (999, 0, 0, 0), (67, 25, 560, 0), (999, 0, 0, 0), (999, 0, 0, 0), (11, 0, 9, 0), (999, 0, 0, 0), (61, 13, 553, 0), (999, 0, 0, 0), (999, 0, 0, 0), (14, 0, 0, 112), (80, 12, 37, 11), (999, 0, 0, 0), (999, 0, 0, 0), (11, 0, 4, 0), (999, 0, 0, 0), (90, 0, 0, 67), (72, 5, 555, 0), (999, 0, 0, 0), (999, 0, 0, 0), (11, 0, 11, 0), (999, 0, 0, 0), (17, 0, 11, 0), (999, 0, 0, 0), (72, 97, 654, 0), (999, 0, 0, 0), (999, 0, 0, 0), (11, 0, 5, 0), (999, 0, 0, 0), (1, 106, 0, 0), (999, 0, 0, 0), (67, 15, 579, 0), (999, 0, 0, 0), (999, 0, 0, 0), (14, 0, 0, 112), (80, 12, 37, 11), (999, 0, 0, 0), (999, 0, 0, 0), (11, 0, 4, 0), (999, 0, 0, 0), (90, 0, 0, 67), (17, 0, 11, 0), (999, 0, 0, 0), (72, 78, 654, 0), (999, 0, 0, 0), (999, 0, 0, 0), (11, 0, 5, 0), (999, 0, 0, 0), (1, 101, 0, 0), (999, 0, 0, 0), (67, 14, 597, 0), (999, 0, 0, 0), (999, 0, 0, 0), (14, 0, 0, 112), (80, 12, 179, 72), (999, 0, 0, 0), (999, 0, 0, 0), (10, 0, 3, 0), (1, 101, 0, 0), (999, 0, 0, 0), (97, 0, 0, 114), (72, 60, 654, 0), (999, 0, 0, 0), (999, 0, 0, 0), (11, 0, 5, 0), (999, 0, 0, 0), (1, 98, 0, 0), (999, 0, 0, 0), (67, 22, 623, 0), (999, 0, 0, 0), (999, 0, 0, 0), (14, 0, 0, 112), (80, 12, 179, 72), (999, 0, 0, 0), (999, 0, 0, 0), (10, 0, 3, 0), (1, 119, 0, 0), (999, 0, 0, 0), (97, 0, 0, 114), (14, 0, 0, 112), (80, 12, 176, 71), (999, 0, 0, 0), (999, 0, 0, 0), (10, 0, 3, 0), (90, 0, 0, 113), (17, 0, 11, 0), (999, 0, 0, 0), (72, 34, 654, 0), (999, 0, 0, 0), (999, 0, 0, 0), (11, 0, 5, 0), (999, 0, 0, 0), (1, 102, 0, 0), (999, 0, 0, 0), (66, 27, 654, 0), (999, 0, 0, 0), (999, 0, 0, 0), (14, 0, 0, 112), (80, 12, 173, 70), (999, 0, 0, 0), (999, 0, 0, 0), (11, 0, 6, 0), (999, 0, 0, 0), (14, 0, 0, 112), (80, 12, 34, 10), (999, 0, 0, 0), (999, 0, 0, 0), (11, 0, 4, 0), (999, 0, 0, 0), (90, 0, 0, 66), (30, 0, 0, 0), (11, 0, 5, 0), (999, 0, 0, 0), (11, 0, 7, 0), (999, 0, 0, 0), (11, 0, 8, 0), (999, 0, 0, 0), (113, 0, 327, 115), (999, 0, 0, 0), (999, 0, 0, 0), (95, 0, 0, 112), (14, 0, 0, 112), (80, 12, 176, 71), (999, 0, 0, 0), (999, 0, 0, 0), (10, 0, 3, 0), (11, 0, 11, 0), (999, 0, 0, 0), (95, 0, 0, 113), (72, (-662), 0, 0), (999, 0, 0, 0), (999, 0, 0, 0), (0, 1, 0, 0), (130, 0, 1, 0)]
def zu_M_runThread : List (Nat × List Bool) := [(0, [true, true, true, true, false, false, false, false, false, false, false, false, false]), (110, [true, true, true, true, true, true, true, false, false, false, false, false, false]), (147, [true, true, true, true, true, true, true, true, false, false, false, false, false]), (184, [true, true, true, true, true, true, true, true, true, false, false, false, false]), (200, [true, true, true, true, true, true, true, true, true, true, false, false, false]), (207, [true, true, true, true, true, true, true, true, true, true, false, false, false]), (237, [true, true, true, true, true, true, true, true, true, true, true, false, false]), (262, [false, false, false, false, false, false, false, false, false, false, false, false, false]), (264, [true, true, true, true, true, true, true, true, true, true, true, false, false]), (326, [true, true, true, true, true, true, true, false, false, false, true, true, false]), (364, [true, true, true, true, false, false, false, false, false, false, false, true, false]), (382, [true, true, true, true, true, true, true, false, true, false, true, true, false]), (414, [true, true, true, true, true, false, true, false, false, false, false, true, true]), (488, [true, true, true, true, true, true, true, false, false, false, false, true, false]), (527, [true, true, true, true, false, false, false, false, false, false, false, true, false]), (555, [true, true, true, true, false, false, false, false, false, false, false, false, false]), (654, [true, true, true, true, false, false, false, false, false, false, false, true, false])]
set_option maxRecDepth 100000 in
theorem qe_M_runThread_262 {ρ : Type} (kr : Int → zH → Option ρ) (h : zH) : M_runThread_262 kr h = zseg zPP false (zcal []) (zget (999, 0, 0, 0) zc_M_runThread) (zcut zu_M_runThread) (zorc []) kr (fun _ _ => none) 400 262 [none, none, none, none, none, none, none, none, none, none, none, none, none] [] h := by rfl
set_option maxRecDepth 100000 in
theorem qe_M_runThread_654 {ρ : Type} (kr : Int → zH → Option ρ) (r0 : Int → Int → Int → zH → Option ρ) (a1 a2 a3 a11 : Int) (h : zH) : M_runThread_654 kr r0 a1 a2 a3 a11 h = zseg zPP false (zcal []) (zget (999, 0, 0, 0) zc_M_runThread) (zcut zu_M_runThread) (zorc [(0, [some (112, some 0), some (0, none), some (0, none), some (0, none), none, none, none, none, none, none, none, none, none], [], fun xs h => match xs with
  | [a1, a2, a3] => r0 a1 a2 a3 h
  | _ => none)]) kr (fun _ _ => none) 400 654 [some (112, 0), some (0, a1), some (0, a2), some (0, a3), none, none, none, none, none, none, none, some (0, a11), none] [] h := by rfl
set_option maxRecDepth 100000 in
theorem qe_M_runThread_364 {ρ : Type} (kr : Int → zH → Option ρ) (r0 : Int → Int → Int → zH → Option ρ) (a1 a2 a3 a11 t0 t1 : Int) (h : zH) : M_runThread_364 kr r0 a1 a2 a3 a11 t0 t1 h = zseg zPP false (zcal []) (zget (999, 0, 0, 0) zc_M_runThread) (zcut zu_M_runThread) (zorc [(654, [some (112, some 0), some (0, none), some (0, none), some (0, none), none, none, none, none, none, none, none, some (0, none), none], [], fun xs h => match xs with
  | [a1, a2, a3, a11] => M_runThread_654 kr r0 a1 a2 a3 a11 h
  | _ => none)]) kr (fun _ _ => none) 400 364 [some (112, 0), some (0, a1), some (0, a2), some (0, a3), none, none, none, none, none, none, none, some (0, a11), none] [(0, t0), (0, t1), (212, 0)] h := by rfl
set_option maxRecDepth 100000 in
theorem qe_M_runThread_326 {ρ : Type} (kr : Int → zH → Option ρ) (r0 : Int → Int → Int → zH → Option ρ) (a1 a2 a3 a4 a5 a6 a10 a11 : Int) (h : zH) : M_runThread_326 kr r0 a1 a2 a3 a4 a5 a6 a10 a11 h = zseg zPP false (zcal []) (zget (999, 0, 0, 0) zc_M_runThread) (zcut zu_M_runThread) (zorc [(364, [some (112, some 0), some (0, none), some (0, none), some (0, none), none, none, none, none, none, none, none, some (0, none), none], [(0, none), (0, none), (212, some 0)], fun xs h => match xs with
  | [a1, a2, a3, a11, t0, t1] => M_runThread_364 kr r0 a1 a2 a3 a11 t0 t1 h
  | _ => none)]) kr (fun _ _ => none) 400 326 [some (112, 0), some (0, a1), some (0, a2), some (0, a3), some (0, a4), some (0, a5), some (0, a6), none, none, none, some (0, a10), some (0, a11), none] [] h := by rfl
set_option maxRecDepth 100000 in
theorem qe_M_runThread_414 {ρ : Type} (kr : Int → zH → Option ρ) (r0 : Int → Int → Int → zH → Option ρ) (a1 a2 a3 a4 a6 a11 a12 t0 t1 : Int) (h : zH) : M_runThread_414 kr r0 a1 a2 a3 a4 a6 a11 a12 t0 t1 h = zseg zPP false (zcal []) (zget (999, 0, 0, 0) zc_M_runThread) (zcut zu_M_runThread) (zorc [(654, [some (112, some 0), some (0, none), some (0, none), some (0, none), none, none, none, none, none, none, none, some (0, none), none], [], fun xs h => match xs with
  | [a1, a2, a3, a11] => M_runThread_654 kr r0 a1 a2 a3 a11 h
  | _ => none)]) kr (fun _ _ => none) 400 414 [some (112, 0), some (0, a1), some (0, a2), some (0, a3), some (0, a4), none, some (0, a6), none, none, none, none, some (0, a11), some (0, a12)] [(0, t0), (0, t1), (210, 0)] h := by rfl
set_option maxRecDepth 100000 in
theorem qe_M_runThread_382 {ρ : Type} (kr : Int → zH → Option ρ) (r0 : Int → Int → Int → zH → Option ρ) (a1 a2 a3 a4 a5 a6 a8 a10 a11 : Int) (h : zH) : M_runThread_382 kr r0 a1 a2 a3 a4 a5 a6 a8 a10 a11 h = zseg zPP false (zcal []) (zget (999, 0, 0, 0) zc_M_runThread) (zcut zu_M_runThread) (zorc [(414, [some (112, some 0), some (0, none), some (0, none), some (0, none), some (0, none), none, some (0, none), none, none, none, none, some (0, none), some (0, none)], [(0, none), (0, none), (210, some 0)], fun xs h => match xs with
  | [a1, a2, a3, a4, a6, a11, a12, t0, t1] => M_runThread_414 kr r0 a1 a2 a3 a4 a6 a11 a12 t0 t1 h
  | _ => none)]) kr (fun _ _ => none) 400 382 [some (112, 0), some (0, a1), some (0, a2), some (0, a3), some (0, a4), some (0, a5), some (0, a6), none, some (0, a8), none, some (0, a10), some (0, a11), none] [] h := by rfl
set_option maxRecDepth 100000 in
theorem qe_M_runThread_527 {ρ : Type} (kr : Int → zH → Option ρ) (r0 : Int → Int → Int → zH → Option ρ) (a1 a2 a3 a11 t0 t1 : Int) (h : zH) : M_runThread_527 kr r0 a1 a2 a3 a11 t0 t1 h = zseg zPP false (zcal []) (zget (999, 0, 0, 0) zc_M_runThread) (zcut zu_M_runThread) (zorc [(654, [some (112, some 0), some (0, none), some (0, none), some (0, none), none, none, none, none, none, none, none, some (0, none), none], [], fun xs h => match xs with
  | [a1, a2, a3, a11] => M_runThread_654 kr r0 a1 a2 a3 a11 h
  | _ => none)]) kr (fun _ _ => none) 400 527 [some (112, 0), some (0, a1), some (0, a2), some (0, a3), none, none, none, none, none, none, none, some (0, a11), none] [(0, t0), (0, t1), (212, 0)] h := by rfl
set_option maxRecDepth 100000 in
theorem qe_M_runThread_488 {ρ : Type} (kr : Int → zH → Option ρ) (r0 : Int → Int → Int → zH → Option ρ) (a1 a2 a3 a4 a5 a6 a11 : Int) (h : zH) : M_runThread_488 kr r0 a1 a2 a3 a4 a5 a6 a11 h = zseg zPP false (zcal []) (zget (999, 0, 0, 0) zc_M_runThread) (zcut zu_M_runThread) (zorc [(527, [some (112, some 0), some (0, none), some (0, none), some (0, none), none, none, none, none, none, none, none, some (0, none), none], [(0, none), (0, none), (212, some 0)], fun xs h => match xs with
  | [a1, a2, a3, a11, t0, t1] => M_runThread_527 kr r0 a1 a2 a3 a11 t0 t1 h
  | _ => none)]) kr (fun _ _ => none) 400 488 [some (112, 0), some (0, a1), some (0, a2), some (0, a3), some (0, a4), some (0, a5), some (0, a6), none, none, none, none, some (0, a11), none] [] h := by rfl
set_option maxRecDepth 100000 in
theorem qe_M_runThread_555 {ρ : Type} (kr : Int → zH → Option ρ) (r0 : Int → Int → Int → zH → Option ρ) (a1 a2 a3 t0 : Int) (h : zH) : M_runThread_555 kr r0 a1 a2 a3 t0 h = zseg zPP false (zcal []) (zget (999, 0, 0, 0) zc_M_runThread) (zcut zu_M_runThread) (zorc [(654, [some (112, some 0), some (0, none), some (0, none), some (0, none), none, none, none, none, none, none, none, some (0, none), none], [], fun xs h => match xs with
  | [a1, a2, a3, a11] => M_runThread_654 kr r0 a1 a2 a3 a11 h
  | _ => none)]) kr (fun _ _ => none) 400 555 [some (112, 0), some (0, a1), some (0, a2), some (0, a3), none, none, none, none, none, none, none, none, none] [(0, t0)] h := by rfl
set_option maxRecDepth 100000 in
theorem qe_M_runThread_264 {ρ : Type} (kr : Int → zH → Option ρ) (r0 : Int → Int → Int → zH → Option ρ) (a1 a2 a3 a4 a5 a6 a7 a8 a9 a10 : Int) (h : zH) : M_runThread_264 kr r0 a1 a2 a3 a4 a5 a6 a7 a8 a9 a10 h = zseg zPP false (zcal [(115, [none, none, none], fun xs h kr kt => match xs with
  | [x0, x1, x2] => M_compute x0 x1 x2 h kr
  | _ => none)]) (zget (999, 0, 0, 0) zc_M_runThread) (zcut zu_M_runThread) (zorc [(326, [some (112, some 0), some (0, none), some (0, none), some (0, none), some (0, none), some (0, none), some (0, none), none, none, none, some (0, none), some (0, none), none], [], fun xs h => match xs with
  | [a1, a2, a3, a4, a5, a6, a10, a11] => M_runThread_326 kr r0 a1 a2 a3 a4 a5 a6 a10 a11 h
  | _ => none), (382, [some (112, some 0), some (0, none), some (0, none), some (0, none), some (0, none), some (0, none), some (0, none), none, some (0, none), none, some (0, none), some (0, none), none], [], fun xs h => match xs with
  | [a1, a2, a3, a4, a5, a6, a8, a10, a11] => M_runThread_382 kr r0 a1 a2 a3 a4 a5 a6 a8 a10 a11 h
  | _ => none), (488, [some (112, some 0), some (0, none), some (0, none), some (0, none), some (0, none), some (0, none), some (0, none), none, none, none, none, some (0, none), none], [], fun xs h => match xs with
  | [a1, a2, a3, a4, a5, a6, a11] => M_runThread_488 kr r0 a1 a2 a3 a4 a5 a6 a11 h
  | _ => none), (555, [some (112, some 0), some (0, none), some (0, none), some (0, none), none, none, none, none, none, none, none, none, none], [(0, none)], fun xs h => match xs with
  | [a1, a2, a3, t0] => M_runThread_555 kr r0 a1 a2 a3 t0 h
  | _ => none), (654, [some (112, some 0), some (0, none), some (0, none), some (0, none), none, none, none, none, none, none, none, some (0, none), none], [], fun xs h => match xs with
  | [a1, a2, a3, a11] => M_runThread_654 kr r0 a1 a2 a3 a11 h
  | _ => none)]) kr (fun _ _ => none) 400 264 [some (112, 0), some (0, a1), some (0, a2), some (0, a3), some (0, a4), some (0, a5), some (0, a6), some (0, a7), some (0, a8), some (0, a9), some (0, a10), none, none] [] h := by rfl
set_option maxRecDepth 100000 in
theorem qe_M_runThread_237 {ρ : Type} (kr : Int → zH → Option ρ) (r0 : Int → Int → Int → zH → Option ρ) (a1 a2 a3 a4 a5 a6 a7 a8 a9 a10 : Int) (h : zH) : M_runThread_237 kr r0 a1 a2 a3 a4 a5 a6 a7 a8 a9 a10 h = zseg zPP false (zcal [(64, [none, none, none], fun xs h kr kt => match xs with
  | [x0, x1, x2] => M_in x0 x1 x2 h kr
  | _ => none), (114, [none], fun xs h kr kt => match xs with
  | [x0] => M_isShared x0 h kr
  | _ => none)]) (zget (999, 0, 0, 0) zc_M_runThread) (zcut zu_M_runThread) (zorc [(262, [none, none, none, none, none, none, none, none, none, none, none, none, none], [], fun xs h => match xs with
  | [] => M_runThread_262 kr h
  | _ => none), (264, [some (112, some 0), some (0, none), some (0, none), some (0, none), some (0, none), some (0, none), some (0, none), some (0, none), some (0, none), some (0, none), some (0, none), none, none], [], fun xs h => match xs with
  | [a1, a2, a3, a4, a5, a6, a7, a8, a9, a10] => M_runThread_264 kr r0 a1 a2 a3 a4 a5 a6 a7 a8 a9 a10 h
  | _ => none)]) kr (fun _ _ => none) 400 237 [some (112, 0), some (0, a1), some (0, a2), some (0, a3), some (0, a4), some (0, a5), some (0, a6), some (0, a7), some (0, a8), some (0, a9), some (0, a10), none, none] [] h := by rfl
set_option maxRecDepth 100000 in
theorem qe_M_runThread_207 {ρ : Type} (kr : Int → zH → Option ρ) (r0 : Int → Int → Int → zH → Option ρ) (a1 a2 a3 a4 a5 a6 a7 a8 a9 t0 : Int) (h : zH) : M_runThread_207 kr r0 a1 a2 a3 a4 a5 a6 a7 a8 a9 t0 h = zseg zPP false (zcal [(68, [none], fun xs h kr kt => match xs with
  | [x0] => M_noCell x0 h kr
  | _ => none), (113, [none], fun xs h kr kt => match xs with
  | [x0] => M_isGlobal x0 h kr
  | _ => none)]) (zget (999, 0, 0, 0) zc_M_runThread) (zcut zu_M_runThread) (zorc [(237, [some (112, some 0), some (0, none), some (0, none), some (0, none), some (0, none), some (0, none), some (0, none), some (0, none), some (0, none), some (0, none), some (0, none), none, none], [], fun xs h => match xs with
  | [a1, a2, a3, a4, a5, a6, a7, a8, a9, a10] => M_runThread_237 kr r0 a1 a2 a3 a4 a5 a6 a7 a8 a9 a10 h
  | _ => none), (262, [none, none, none, none, none, none, none, none, none, none, none, none, none], [], fun xs h => match xs with
  | [] => M_runThread_262 kr h
  | _ => none)]) kr (fun _ _ => none) 400 207 [some (112, 0), some (0, a1), some (0, a2), some (0, a3), some (0, a4), some (0, a5), some (0, a6), some (0, a7), some (0, a8), some (0, a9), none, none, none] [(0, t0)] h := by rfl
set_option maxRecDepth 100000 in
theorem qe_M_runThread_200 {ρ : Type} (kr : Int → zH → Option ρ) (r0 : Int → Int → Int → zH → Option ρ) (a1 a2 a3 a4 a5 a6 a7 a8 a9 : Int) (h : zH) : M_runThread_200 kr r0 a1 a2 a3 a4 a5 a6 a7 a8 a9 h = zseg zPP false (zcal []) (zget (999, 0, 0, 0) zc_M_runThread) (zcut zu_M_runThread) (zorc [(207, [some (112, some 0), some (0, none), some (0, none), some (0, none), some (0, none), some (0, none), some (0, none), some (0, none), some (0, none), some (0, none), none, none, none], [(0, none)], fun xs h => match xs with
  | [a1, a2, a3, a4, a5, a6, a7, a8, a9, t0] => M_runThread_207 kr r0 a1 a2 a3 a4 a5 a6 a7 a8 a9 t0 h
  | _ => none)]) kr (fun _ _ => none) 400 200 [some (112, 0), some (0, a1), some (0, a2), some (0, a3), some (0, a4), some (0, a5), some (0, a6), some (0, a7), some (0, a8), some (0, a9), none, none, none] [] h := by rfl
set_option maxRecDepth 100000 in
theorem qe_M_runThread_184 {ρ : Type} (kr : Int → zH → Option ρ) (r0 : Int → Int → Int → zH → Option ρ) (a1 a2 a3 a4 a5 a6 a7 a8 t0 : Int) (h : zH) : M_runThread_184 kr r0 a1 a2 a3 a4 a5 a6 a7 a8 t0 h = zseg zPP false (zcal []) (zget (999, 0, 0, 0) zc_M_runThread) (zcut zu_M_runThread) (zorc [(200, [some (112, some 0), some (0, none), some (0, none), some (0, none), some (0, none), some (0, none), some (0, none), some (0, none), some (0, none), some (0, none), none, none, none], [], fun xs h => match xs with
  | [a1, a2, a3, a4, a5, a6, a7, a8, a9] => M_runThread_200 kr r0 a1 a2 a3 a4 a5 a6 a7 a8 a9 h
  | _ => none), (207, [some (112, some 0), some (0, none), some (0, none), some (0, none), some (0, none), some (0, none), some (0, none), some (0, none), some (0, none), some (0, none), none, none, none], [(0, none)], fun xs h => match xs with
  | [a1, a2, a3, a4, a5, a6, a7, a8, a9, t0] => M_runThread_207 kr r0 a1 a2 a3 a4 a5 a6 a7 a8 a9 t0 h
  | _ => none)]) kr (fun _ _ => none) 400 184 [some (112, 0), some (0, a1), some (0, a2), some (0, a3), some (0, a4), some (0, a5), some (0, a6), some (0, a7), some (0, a8), none, none, none, none] [(0, t0)] h := by rfl
set_option maxRecDepth 100000 in
theorem qe_M_runThread_147 {ρ : Type} (kr : Int → zH → Option ρ) (r0 : Int → Int → Int → zH → Option ρ) (a1 a2 a3 a4 a5 a6 a7 t0 : Int) (h : zH) : M_runThread_147 kr r0 a1 a2 a3 a4 a5 a6 a7 t0 h = zseg zPP false (zcal [(64, [none, none, none], fun xs h kr kt => match xs with
  | [x0, x1, x2] => M_in x0 x1 x2 h kr
  | _ => none)]) (zget (999, 0, 0, 0) zc_M_runThread) (zcut zu_M_runThread) (zorc [(184, [some (112, some 0), some (0, none), some (0, none), some (0, none), some (0, none), some (0, none), some (0, none), some (0, none), some (0, none), none, none, none, none], [(0, none)], fun xs h => match xs with
  | [a1, a2, a3, a4, a5, a6, a7, a8, t0] => M_runThread_184 kr r0 a1 a2 a3 a4 a5 a6 a7 a8 t0 h
  | _ => none)]) kr (fun _ _ => none) 400 147 [some (112, 0), some (0, a1), some (0, a2), some (0, a3), some (0, a4), some (0, a5), some (0, a6), some (0, a7), none, none, none, none, none] [(0, t0)] h := by rfl
set_option maxRecDepth 100000 in
theorem qe_M_runThread_110 {ρ : Type} (kr : Int → zH → Option ρ) (r0 : Int → Int → Int → zH → Option ρ) (a1 a2 a3 a4 a5 a6 t0 : Int) (h : zH) : M_runThread_110 kr r0 a1 a2 a3 a4 a5 a6 t0 h = zseg zPP false (zcal [(64, [none, none, none], fun xs h kr kt => match xs with
  | [x0, x1, x2] => M_in x0 x1 x2 h kr
  | _ => none)]) (zget (999, 0, 0, 0) zc_M_runThread) (zcut zu_M_runThread) (zorc [(147, [some (112, some 0), some (0, none), some (0, none), some (0, none), some (0, none), some (0, none), some (0, none), some (0, none), none, none, none, none, none], [(0, none)], fun xs h => match xs with
  | [a1, a2, a3, a4, a5, a6, a7, t0] => M_runThread_147 kr r0 a1 a2 a3 a4 a5 a6 a7 t0 h
  | _ => none)]) kr (fun _ _ => none) 400 110 [some (112, 0), some (0, a1), some (0, a2), some (0, a3), some (0, a4), some (0, a5), some (0, a6), none, none, none, none, none, none] [(0, t0)] h := by rfl
set_option maxRecDepth 100000 in
theorem qe_M_runThread_0b {ρ : Type} (kr : Int → zH → Option ρ) (r0 : Int → Int → Int → zH → Option ρ) (a1 a2 a3 : Int) (h : zH) : M_runThread_0b kr r0 a1 a2 a3 h = zseg zPP false (zcal [(64, [none, none, none], fun xs h kr kt => match xs with
  | [x0, x1, x2] => M_in x0 x1 x2 h kr
  | _ => none)]) (zget (999, 0, 0, 0) zc_M_runThread) (zcut zu_M_runThread) (zorc [(0, [some (112, some 0), some (0, none), some (0, none), some (0, none), none, none, none, none, none, none, none, none, none], [], fun xs h => match xs with
  | [a1, a2, a3] => r0 a1 a2 a3 h
  | _ => none), (110, [some (112, some 0), some (0, none), some (0, none), some (0, none), some (0, none), some (0, none), some (0, none), none, none, none, none, none, none], [(0, none)], fun xs h => match xs with
  | [a1, a2, a3, a4, a5, a6, t0] => M_runThread_110 kr r0 a1 a2 a3 a4 a5 a6 t0 h
  | _ => none)]) kr (fun _ _ => none) 400 0 [some (112, 0), some (0, a1), some (0, a2), some (0, a3), none, none, none, none, none, none, none, none, none] [] h := by rfl
