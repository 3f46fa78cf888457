def zc_M_runBarrier : List zI := [(0, (-1), 0, 0), (16, 0, 2, 0), (0, 1, 0, 0), (16, 0, 3, 0), (0, 0, 0, 0), (17, 0, 4, 0), (999, 0, 0, 0), (11, 0, 4, 0), (999, 0, 0, 0), (10, 0, 1, 0), (69, 55, 65, 0), (999, 0, 0, 0), (999, 0, 0, 0), (14, 0, 0, 112), (80, 12, 179, 72), (999, 0, 0, 0), (999, 0, 0, 0), (11, 0, 4, 0), (999, 0, 0, 0), (92, 0, 0, 114), (1, 119, 0, 0), (999, 0, 0, 0), (67, 37, 59, 0), (999, 0, 0, 0), (999, 0, 0, 0), (10, 0, 3, 0), (60, 23, 49, 0), (999, 0, 0, 0), (999, 0, 0, 0), (10, 0, 2, 0), (0, (-1), 0, 0), (66, 14, 45, 0), (999, 0, 0, 0), (999, 0, 0, 0), (10, 0, 2, 0), (14, 0, 0, 112), (80, 12, 176, 71), (999, 0, 0, 0), (999, 0, 0, 0), (11, 0, 4, 0), (999, 0, 0, 0), (90, 0, 0, 113), (67, 7, 49, 0), (999, 0, 0, 0), (999, 0, 0, 0), (0, 1, 0, 0), (72, 4, 50, 0), (999, 0, 0, 0), (999, 0, 0, 0), (0, 0, 0, 0), (16, 0, 3, 0), (14, 0, 0, 112), (80, 12, 176, 71), (999, 0, 0, 0), (999, 0, 0, 0), (11, 0, 4, 0), (999, 0, 0, 0), (90, 0, 0, 113), (16, 0, 2, 0), (22, 1, 4, 0), (999, 0, 0, 0), (999, 0, 0, 0), (72, (-55), 7, 0), (999, 0, 0, 0), (999, 0, 0, 0), (0, 0, 0, 0), (17, 0, 4, 0), (999, 0, 0, 0), (11, 0, 4, 0), (999, 0, 0, 0), (10, 0, 1, 0), (69, 45, 116, 0), (999, 0, 0, 0), (999, 0, 0, 0), (10, 0, 3, 0), (60, 41, 116, 0), (999, 0, 0, 0), (999, 0, 0, 0), (14, 0, 0, 112), (80, 12, 179, 72), (999, 0, 0, 0), (999, 0, 0, 0), (11, 0, 4, 0), (999, 0, 0, 0), (92, 0, 0, 114), (1, 119, 0, 0), (999, 0, 0, 0), (67, 23, 110, 0), (999, 0, 0, 0), (999, 0, 0, 0), (14, 0, 0, 112), (80, 12, 179, 72), (999, 0, 0, 0), (999, 0, 0, 0), (11, 0, 4, 0), (999, 0, 0, 0), (1, 114, 0, 0), (999, 0, 0, 0), (97, 0, 0, 114), (14, 0, 0, 112), (80, 12, 176, 71), (999, 0, 0, 0), (999, 0, 0, 0), (11, 0, 4, 0), (999, 0, 0, 0), (51, 0, 0, 0), (90, 0, 0, 113), (0, 1, 0, 0), (30, 0, 0, 0), (95, 0, 0, 113), (22, 1, 4, 0), (999, 0, 0, 0), (999, 0, 0, 0), (72, (-45), 68, 0), (999, 0, 0, 0), (999, 0, 0, 0), (10, 0, 2, 0), (0, (-1), 0, 0), (67, 8, 126, 0), (999, 0, 0, 0), (999, 0, 0, 0), (1, 101, 0, 0), (999, 0, 0, 0), (72, 14, 137, 0), (999, 0, 0, 0), (999, 0, 0, 0), (10, 0, 3, 0), (60, 8, 135, 0), (999, 0, 0, 0), (999, 0, 0, 0), (1, 112, 0, 0), (999, 0, 0, 0), (72, 5, 137, 0), (999, 0, 0, 0), (999, 0, 0, 0), (1, 102, 0, 0), (999, 0, 0, 0), (130, 0, 2, 0)]
def zu_M_runBarrier : List (Nat × List Bool) := [(7, [true, true, true, true, true]), (45, [true, true, false, false, true]), (49, [true, true, false, false, true]), (50, [true, true, false, false, true]), (59, [true, true, true, true, true]), (68, [true, true, true, true, true]), (110, [true, true, true, true, true]), (116, [false, false, true, true, false]), (137, [false, false, false, false, false])]
set_option maxRecDepth 100000 in
theorem qe_M_runBarrier_59 {ρ : Type} (kr : Int → zH → Option ρ) (r7 : Int → Int → Int → Int → zH → Option ρ) (a1 a2 a3 a4 : Int) (h : zH) : M_runBarrier_59 kr r7 a1 a2 a3 a4 h = zseg zPP false (zcal []) (zget (999, 0, 0, 0) zc_M_runBarrier) (zcut zu_M_runBarrier) (zorc [(7, [some (112, some 0), some (0, none), some (0, none), some (0, none), some (0, none)], [], fun xs h => match xs with
  | [a1, a2, a3, a4] => r7 a1 a2 a3 a4 h
  | _ => none)]) kr (fun _ _ => none) 400 59 [some (112, 0), some (0, a1), some (0, a2), some (0, a3), some (0, a4)] [] h := by rfl
set_option maxRecDepth 100000 in
theorem qe_M_runBarrier_50 {ρ : Type} (kr : Int → zH → Option ρ) (r7 : Int → Int → Int → Int → zH → Option ρ) (a1 a4 t0 : Int) (h : zH) : M_runBarrier_50 kr r7 a1 a4 t0 h = zseg zPP false (zcal []) (zget (999, 0, 0, 0) zc_M_runBarrier) (zcut zu_M_runBarrier) (zorc [(59, [some (112, some 0), some (0, none), some (0, none), some (0, none), some (0, none)], [], fun xs h => match xs with
  | [a1, a2, a3, a4] => M_runBarrier_59 kr r7 a1 a2 a3 a4 h
  | _ => none)]) kr (fun _ _ => none) 400 50 [some (112, 0), some (0, a1), none, none, some (0, a4)] [(0, t0)] h := by rfl
set_option maxRecDepth 100000 in
theorem qe_M_runBarrier_45 {ρ : Type} (kr : Int → zH → Option ρ) (r7 : Int → Int → Int → Int → zH → Option ρ) (a1 a4 : Int) (h : zH) : M_runBarrier_45 kr r7 a1 a4 h = zseg zPP false (zcal []) (zget (999, 0, 0, 0) zc_M_runBarrier) (zcut zu_M_runBarrier) (zorc [(50, [some (112, some 0), some (0, none), none, none, some (0, none)], [(0, none)], fun xs h => match xs with
  | [a1, a4, t0] => M_runBarrier_50 kr r7 a1 a4 t0 h
  | _ => none)]) kr (fun _ _ => none) 400 45 [some (112, 0), some (0, a1), none, none, some (0, a4)] [] h := by rfl
set_option maxRecDepth 100000 in
theorem qe_M_runBarrier_49 {ρ : Type} (kr : Int → zH → Option ρ) (r7 : Int → Int → Int → Int → zH → Option ρ) (a1 a4 : Int) (h : zH) : M_runBarrier_49 kr r7 a1 a4 h = zseg zPP false (zcal []) (zget (999, 0, 0, 0) zc_M_runBarrier) (zcut zu_M_runBarrier) (zorc [(50, [some (112, some 0), some (0, none), none, none, some (0, none)], [(0, none)], fun xs h => match xs with
  | [a1, a4, t0] => M_runBarrier_50 kr r7 a1 a4 t0 h
  | _ => none)]) kr (fun _ _ => none) 400 49 [some (112, 0), some (0, a1), none, none, some (0, a4)] [] h := by rfl
set_option maxRecDepth 100000 in
theorem qe_M_runBarrier_110 {ρ : Type} (kr : Int → zH → Option ρ) (r68 : Int → Int → Int → Int → zH → Option ρ) (a1 a2 a3 a4 : Int) (h : zH) : M_runBarrier_110 kr r68 a1 a2 a3 a4 h = zseg zPP false (zcal []) (zget (999, 0, 0, 0) zc_M_runBarrier) (zcut zu_M_runBarrier) (zorc [(68, [some (112, some 0), some (0, none), some (0, none), some (0, none), some (0, none)], [], fun xs h => match xs with
  | [a1, a2, a3, a4] => r68 a1 a2 a3 a4 h
  | _ => none)]) kr (fun _ _ => none) 400 110 [some (112, 0), some (0, a1), some (0, a2), some (0, a3), some (0, a4)] [] h := by rfl
set_option maxRecDepth 100000 in
theorem qe_M_runBarrier_137 {ρ : Type} (kr : Int → zH → Option ρ) (t0 : Int) (h : zH) : M_runBarrier_137 kr t0 h = zseg zPP false (zcal []) (zget (999, 0, 0, 0) zc_M_runBarrier) (zcut zu_M_runBarrier) (zorc []) kr (fun _ _ => none) 400 137 [none, none, none, none, none] [(0, t0)] h := by rfl
set_option maxRecDepth 100000 in
theorem qe_M_runBarrier_116 {ρ : Type} (kr : Int → zH → Option ρ) (a2 a3 : Int) (h : zH) : M_runBarrier_116 kr a2 a3 h = zseg zPP false (zcal []) (zget (999, 0, 0, 0) zc_M_runBarrier) (zcut zu_M_runBarrier) (zorc [(137, [none, none, none, none, none], [(0, none)], fun xs h => match xs with
  | [t0] => M_runBarrier_137 kr t0 h
  | _ => none)]) kr (fun _ _ => none) 400 116 [none, none, some (0, a2), some (0, a3), none] [] h := by rfl
set_option maxRecDepth 100000 in
theorem qe_M_runBarrier_68b {ρ : Type} (kr : Int → zH → Option ρ) (r68 : Int → Int → Int → Int → zH → Option ρ) (a1 a2 a3 a4 : Int) (h : zH) : M_runBarrier_68b kr r68 a1 a2 a3 a4 h = zseg zPP false (zcal []) (zget (999, 0, 0, 0) zc_M_runBarrier) (zcut zu_M_runBarrier) (zorc [(110, [some (112, some 0), some (0, none), some (0, none), some (0, none), some (0, none)], [], fun xs h => match xs with
  | [a1, a2, a3, a4] => M_runBarrier_110 kr r68 a1 a2 a3 a4 h
  | _ => none), (116, [none, none, some (0, none), some (0, none), none], [], fun xs h => match xs with
  | [a2, a3] => M_runBarrier_116 kr a2 a3 h
  | _ => none)]) kr (fun _ _ => none) 400 68 [some (112, 0), some (0, a1), some (0, a2), some (0, a3), some (0, a4)] [] h := by rfl
set_option maxRecDepth 100000 in
theorem qe_M_runBarrier_7b {ρ : Type} (kr : Int → zH → Option ρ) (r7 : Int → Int → Int → Int → zH → Option ρ) (a1 a2 a3 a4 : Int) (h : zH) : M_runBarrier_7b kr r7 a1 a2 a3 a4 h = zseg zPP false (zcal []) (zget (999, 0, 0, 0) zc_M_runBarrier) (zcut zu_M_runBarrier) (zorc [(45, [some (112, some 0), some (0, none), none, none, some (0, none)], [], fun xs h => match xs with
  | [a1, a4] => M_runBarrier_45 kr r7 a1 a4 h
  | _ => none), (49, [some (112, some 0), some (0, none), none, none, some (0, none)], [], fun xs h => match xs with
  | [a1, a4] => M_runBarrier_49 kr r7 a1 a4 h
  | _ => none), (59, [some (112, some 0), some (0, none), some (0, none), some (0, none), some (0, none)], [], fun xs h => match xs with
  | [a1, a2, a3, a4] => M_runBarrier_59 kr r7 a1 a2 a3 a4 h
  | _ => none), (68, [some (112, some 0), some (0, none), some (0, none), some (0, none), some (0, none)], [], fun xs h => match xs with
  | [a1, a2, a3, a4] => M_runBarrier_68 kr a1 a2 a3 a4 h
  | _ => none)]) kr (fun _ _ => none) 400 7 [some (112, 0), some (0, a1), some (0, a2), some (0, a3), some (0, a4)] [] h := by rfl
set_option maxRecDepth 100000 in
theorem qe_M_runBarrier {ρ : Type} (kr : Int → zH → Option ρ) (a1 : Int) (h : zH) : M_runBarrier a1 h kr = zseg zPP false (zcal []) (zget (999, 0, 0, 0) zc_M_runBarrier) (zcut zu_M_runBarrier) (zorc [(7, [some (112, some 0), some (0, none), some (0, none), some (0, none), some (0, none)], [], fun xs h => match xs with
  | [a1, a2, a3, a4] => M_runBarrier_7 kr a1 a2 a3 a4 h
  | _ => none)]) kr (fun _ _ => none) 400 0 [some (112, 0), some (0, a1), none, none, none] [] h := by rfl
def zc_M_runBlock : List zI := [(0, 0, 0, 0), (17, 0, 5, 0), (999, 0, 0, 0), (11, 0, 5, 0), (999, 0, 0, 0), (1, 16, 0, 0), (999, 0, 0, 0), (69, 72, 79, 0), (999, 0, 0, 0), (999, 0, 0, 0), (14, 0, 0, 112), (80, 12, 176, 71), (999, 0, 0, 0), (999, 0, 0, 0), (11, 0, 5, 0), (999, 0, 0, 0), (0, 0, 0, 0), (95, 0, 0, 113), (14, 0, 0, 112), (80, 12, 179, 72), (999, 0, 0, 0), (999, 0, 0, 0), (11, 0, 5, 0), (999, 0, 0, 0), (1, 114, 0, 0), (999, 0, 0, 0), (97, 0, 0, 114), (14, 0, 0, 112), (80, 12, 182, 73), (999, 0, 0, 0), (999, 0, 0, 0), (11, 0, 5, 0), (999, 0, 0, 0), (0, 0, 0, 0), (95, 0, 0, 115), (14, 0, 0, 112), (80, 12, 170, 69), (999, 0, 0, 0), (999, 0, 0, 0), (11, 0, 5, 0), (999, 0, 0, 0), (0, 0, 0, 0), (95, 0, 0, 111), (0, 0, 0, 0), (17, 0, 6, 0), (999, 0, 0, 0), (11, 0, 6, 0), (999, 0, 0, 0), (1, 8, 0, 0), (999, 0, 0, 0), (69, 23, 73, 0), (999, 0, 0, 0), (999, 0, 0, 0), (14, 0, 0, 112), (80, 12, 173, 70), (999, 0, 0, 0), (999, 0, 0, 0), (1, 8, 0, 0), (999, 0, 0, 0), (11, 0, 5, 0), (999, 0, 0, 0), (32, 0, 0, 0), (11, 0, 6, 0), (999, 0, 0, 0), (30, 0, 0, 0), (0, 0, 0, 0), (95, 0, 0, 112), (22, 1, 6, 0), (999, 0, 0, 0), (999, 0, 0, 0), (72, (-24), 46, 0), (999, 0, 0, 0), (999, 0, 0, 0), (22, 1, 5, 0), (999, 0, 0, 0), (999, 0, 0, 0), (72, (-73), 3, 0), (999, 0, 0, 0), (999, 0, 0, 0), (1, 112, 0, 0), (999, 0, 0, 0), (17, 0, 5, 0), (999, 0, 0, 0), (11, 0, 5, 0), (999, 0, 0, 0), (1, 112, 0, 0), (999, 0, 0, 0), (67, 59, 146, 0), (999, 0, 0, 0), (999, 0, 0, 0), (0, 0, 0, 0), (17, 0, 6, 0), (999, 0, 0, 0), (11, 0, 6, 0), (999, 0, 0, 0), (10, 0, 3, 0), (69, 40, 136, 0), (999, 0, 0, 0), (999, 0, 0, 0), (11, 0, 4, 0), (999, 0, 0, 0), (60, 12, 113, 0), (999, 0, 0, 0), (999, 0, 0, 0), (10, 0, 3, 0), (0, 1, 0, 0), (31, 0, 0, 0), (11, 0, 6, 0), (999, 0, 0, 0), (31, 0, 0, 0), (72, 5, 115, 0), (999, 0, 0, 0), (999, 0, 0, 0), (11, 0, 6, 0), (999, 0, 0, 0), (17, 0, 7, 0), (999, 0, 0, 0), (14, 0, 0, 112), (10, 0, 1, 0), (10, 0, 2, 0), (11, 0, 7, 0), (999, 0, 0, 0), (110, 0, 456, 157), (999, 0, 0, 0), (999, 0, 0, 0), (61, 5, 130, 0), (999, 0, 0, 0), (999, 0, 0, 0), (0, 0, 0, 0), (130, 0, 1, 0), (22, 1, 6, 0), (999, 0, 0, 0), (999, 0, 0, 0), (72, (-40), 93, 0), (999, 0, 0, 0), (999, 0, 0, 0), (14, 0, 0, 112), (10, 0, 3, 0), (110, 0, 459, 158), (999, 0, 0, 0), (999, 0, 0, 0), (17, 0, 5, 0), (999, 0, 0, 0), (72, (-60), 83, 0), (999, 0, 0, 0), (999, 0, 0, 0), (11, 0, 5, 0), (999, 0, 0, 0), (1, 101, 0, 0), (999, 0, 0, 0), (67, 7, 157, 0), (999, 0, 0, 0), (999, 0, 0, 0), (0, 1, 0, 0), (72, 4, 158, 0), (999, 0, 0, 0), (999, 0, 0, 0), (0, 0, 0, 0), (130, 0, 1, 0)]
def zu_M_runBlock : List (Nat × List Bool) := [(3, [true, true, true, true, true, true, false, false]), (46, [true, true, true, true, true, true, true, false]), (83, [true, true, true, true, true, true, false, false]), (93, [true, true, true, true, true, false, true, false]), (115, [true, true, true, true, true, false, true, false]), (158, [false, false, false, false, false, false, false, false])]
set_option maxRecDepth 100000 in
theorem qe_M_runBlock_46b {ρ : Type} (kr : Int → zH → Option ρ) (r3 : Int → Int → Int → Int → Int → zH → Option ρ) (r46 : Int → Int → Int → Int → Int → Int → zH → Option ρ) (a1 a2 a3 a4 a5 a6 : Int) (h : zH) : M_runBlock_46b kr r3 r46 a1 a2 a3 a4 a5 a6 h = zseg zPP false (zcal []) (zget (999, 0, 0, 0) zc_M_runBlock) (zcut zu_M_runBlock) (zorc [(3, [some (112, some 0), some (0, none), some (0, none), some (0, none), some (0, none), some (0, none), none, none], [], fun xs h => match xs with
  | [a1, a2, a3, a4, a5] => r3 a1 a2 a3 a4 a5 h
  | _ => none), (46, [some (112, some 0), some (0, none), some (0, none), some (0, none), some (0, none), some (0, none), some (0, none), none], [], fun xs h => match xs with
  | [a1, a2, a3, a4, a5, a6] => r46 a1 a2 a3 a4 a5 a6 h
  | _ => none)]) kr (fun _ _ => none) 400 46 [some (112, 0), some (0, a1), some (0, a2), some (0, a3), some (0, a4), some (0, a5), some (0, a6), none] [] h := by rfl
set_option maxRecDepth 100000 in
theorem qe_M_runBlock_115 {ρ : Type} (kr : Int → zH → Option ρ) (r83 : Int → Int → Int → Int → Int → zH → Option ρ) (r93 : Int → Int → Int → Int → Int → zH → Option ρ) (a1 a2 a3 a4 a6 t0 : Int) (h : zH) : M_runBlock_115 kr r83 r93 a1 a2 a3 a4 a6 t0 h = zseg zPP false (zcal [(157, [some 0, none, none, none], fun xs h kr kt => match xs with
  | [x1, x2, x3] => M_runThread x1 x2 x3 h kr
  | _ => none)]) (zget (999, 0, 0, 0) zc_M_runBlock) (zcut zu_M_runBlock) (zorc [(93, [some (112, some 0), some (0, none), some (0, none), some (0, none), some (0, none), none, some (0, none), none], [], fun xs h => match xs with
  | [a1, a2, a3, a4, a6] => r93 a1 a2 a3 a4 a6 h
  | _ => none)]) kr (fun _ _ => none) 400 115 [some (112, 0), some (0, a1), some (0, a2), some (0, a3), some (0, a4), none, some (0, a6), none] [(0, t0)] h := by rfl
set_option maxRecDepth 100000 in
theorem qe_M_runBlock_93b {ρ : Type} (kr : Int → zH → Option ρ) (r83 : Int → Int → Int → Int → Int → zH → Option ρ) (r93 : Int → Int → Int → Int → Int → zH → Option ρ) (a1 a2 a3 a4 a6 : Int) (h : zH) : M_runBlock_93b kr r83 r93 a1 a2 a3 a4 a6 h = zseg zPP false (zcal [(158, [some 0, none], fun xs h kr kt => match xs with
  | [x1] => M_runBarrier x1 h kr
  | _ => none)]) (zget (999, 0, 0, 0) zc_M_runBlock) (zcut zu_M_runBlock) (zorc [(83, [some (112, some 0), some (0, none), some (0, none), some (0, none), some (0, none), some (0, none), none, none], [], fun xs h => match xs with
  | [a1, a2, a3, a4, a5] => r83 a1 a2 a3 a4 a5 h
  | _ => none), (115, [some (112, some 0), some (0, none), some (0, none), some (0, none), some (0, none), none, some (0, none), none], [(0, none)], fun xs h => match xs with
  | [a1, a2, a3, a4, a6, t0] => M_runBlock_115 kr r83 r93 a1 a2 a3 a4 a6 t0 h
  | _ => none)]) kr (fun _ _ => none) 400 93 [some (112, 0), some (0, a1), some (0, a2), some (0, a3), some (0, a4), none, some (0, a6), none] [] h := by rfl
set_option maxRecDepth 100000 in
theorem qe_M_runBlock_158 {ρ : Type} (kr : Int → zH → Option ρ) (t0 : Int) (h : zH) : M_runBlock_158 kr t0 h = zseg zPP false (zcal []) (zget (999, 0, 0, 0) zc_M_runBlock) (zcut zu_M_runBlock) (zorc []) kr (fun _ _ => none) 400 158 [none, none, none, none, none, none, none, none] [(0, t0)] h := by rfl
set_option maxRecDepth 100000 in
theorem qe_M_runBlock_83b {ρ : Type} (kr : Int → zH → Option ρ) (r83 : Int → Int → Int → Int → Int → zH → Option ρ) (a1 a2 a3 a4 a5 : Int) (h : zH) : M_runBlock_83b kr r83 a1 a2 a3 a4 a5 h = zseg zPP false (zcal []) (zget (999, 0, 0, 0) zc_M_runBlock) (zcut zu_M_runBlock) (zorc [(93, [some (112, some 0), some (0, none), some (0, none), some (0, none), some (0, none), none, some (0, none), none], [], fun xs h => match xs with
  | [a1, a2, a3, a4, a6] => M_runBlock_93 kr r83 a1 a2 a3 a4 a6 h
  | _ => none), (158, [none, none, none, none, none, none, none, none], [(0, none)], fun xs h => match xs with
  | [t0] => M_runBlock_158 kr t0 h
  | _ => none)]) kr (fun _ _ => none) 400 83 [some (112, 0), some (0, a1), some (0, a2), some (0, a3), some (0, a4), some (0, a5), none, none] [] h := by rfl
set_option maxRecDepth 100000 in
theorem qe_M_runBlock_3b {ρ : Type} (kr : Int → zH → Option ρ) (r3 : Int → Int → Int → Int → Int → zH → Option ρ) (a1 a2 a3 a4 a5 : Int) (h : zH) : M_runBlock_3b kr r3 a1 a2 a3 a4 a5 h = zseg zPP false (zcal []) (zget (999, 0, 0, 0) zc_M_runBlock) (zcut zu_M_runBlock) (zorc [(46, [some (112, some 0), some (0, none), some (0, none), some (0, none), some (0, none), some (0, none), some (0, none), none], [], fun xs h => match xs with
  | [a1, a2, a3, a4, a5, a6] => M_runBlock_46 kr r3 a1 a2 a3 a4 a5 a6 h
  | _ => none), (83, [some (112, some 0), some (0, none), some (0, none), some (0, none), some (0, none), some (0, none), none, none], [], fun xs h => match xs with
  | [a1, a2, a3, a4, a5] => M_runBlock_83 kr a1 a2 a3 a4 a5 h
  | _ => none)]) kr (fun _ _ => none) 400 3 [some (112, 0), some (0, a1), some (0, a2), some (0, a3), some (0, a4), some (0, a5), none, none] [] h := by rfl
set_option maxRecDepth 100000 in
theorem qe_M_runBlock {ρ : Type} (kr : Int → zH → Option ρ) (a1 a2 a3 a4 : Int) (h : zH) : M_runBlock a1 a2 a3 a4 h kr = zseg zPP false (zcal []) (zget (999, 0, 0, 0) zc_M_runBlock) (zcut zu_M_runBlock) (zorc [(3, [some (112, some 0), some (0, none), some (0, none), some (0, none), some (0, none), some (0, none), none, none], [], fun xs h => match xs with
  | [a1, a2, a3, a4, a5] => M_runBlock_3 kr a1 a2 a3 a4 a5 h
  | _ => none)]) kr (fun _ _ => none) 400 0 [some (112, 0), some (0, a1), some (0, a2), some (0, a3), some (0, a4), none, none, none] [] h := by rfl
def zc_M_serial : List zI := [(14, 0, 0, 112), (0, 0, 0, 0), (82, 12, 185, 0), (999, 0, 0, 0), (999, 0, 0, 0), (14, 0, 0, 112), (14, 0, 0, 112), (10, 0, 1, 0), (110, 0, 203, 66), (999, 0, 0, 0), (999, 0, 0, 0), (61, 11, 22, 0), (999, 0, 0, 0), (999, 0, 0, 0), (11, 0, 5, 0), (999, 0, 0, 0), (113, 0, 222, 68), (999, 0, 0, 0), (999, 0, 0, 0), (60, 7, 26, 0), (999, 0, 0, 0), (999, 0, 0, 0), (0, 1, 0, 0), (72, 4, 27, 0), (999, 0, 0, 0), (999, 0, 0, 0), (0, 0, 0, 0), (0, 1, 0, 0), (110, 0, 199, 65), (999, 0, 0, 0), (999, 0, 0, 0), (61, 36, 67, 0), (999, 0, 0, 0), (999, 0, 0, 0), (14, 0, 0, 112), (10, 0, 2, 0), (0, 1, 0, 0), (1, 6, 0, 0), (999, 0, 0, 0), (113, 0, 192, 64), (999, 0, 0, 0), (999, 0, 0, 0), (60, 13, 55, 0), (999, 0, 0, 0), (999, 0, 0, 0), (10, 0, 3, 0), (0, 1, 0, 0), (1, 16, 0, 0), (999, 0, 0, 0), (113, 0, 192, 64), (999, 0, 0, 0), (999, 0, 0, 0), (61, 7, 59, 0), (999, 0, 0, 0), (999, 0, 0, 0), (0, 1, 0, 0), (72, 4, 60, 0), (999, 0, 0, 0), (999, 0, 0, 0), (0, 0, 0, 0), (0, 2, 0, 0), (110, 0, 199, 65), (999, 0, 0, 0), (999, 0, 0, 0), (60, 5, 69, 0), (999, 0, 0, 0), (999, 0, 0, 0), (0, 0, 0, 0), (130, 0, 0, 0), (0, 0, 0, 0), (17, 0, 6, 0), (999, 0, 0, 0), (1, 40, 0, 0), (999, 0, 0, 0), (10, 0, 1, 0), (32, 0, 0, 0), (17, 0, 7, 0), (999, 0, 0, 0), (11, 0, 7, 0), (999, 0, 0, 0), (1, 40, 0, 0), (999, 0, 0, 0), (10, 0, 1, 0), (32, 0, 0, 0), (14, 0, 0, 112), (80, 12, 23, 7), (999, 0, 0, 0), (999, 0, 0, 0), (10, 0, 1, 0), (90, 0, 0, 63), (30, 0, 0, 0), (69, 57, 148, 0), (999, 0, 0, 0), (999, 0, 0, 0), (11, 0, 6, 0), (999, 0, 0, 0), (61, 39, 135, 0), (999, 0, 0, 0), (999, 0, 0, 0), (14, 0, 0, 112), (80, 12, 30, 9), (999, 0, 0, 0), (999, 0, 0, 0), (11, 0, 7, 0), (999, 0, 0, 0), (92, 0, 0, 65), (1, 118, 0, 0), (999, 0, 0, 0), (66, 27, 135, 0), (999, 0, 0, 0), (999, 0, 0, 0), (14, 0, 0, 112), (80, 12, 30, 9), (999, 0, 0, 0), (999, 0, 0, 0), (11, 0, 7, 0), (999, 0, 0, 0), (92, 0, 0, 65), (1, 115, 0, 0), (999, 0, 0, 0), (66, 15, 135, 0), (999, 0, 0, 0), (999, 0, 0, 0), (14, 0, 0, 112), (80, 12, 30, 9), (999, 0, 0, 0), (999, 0, 0, 0), (11, 0, 7, 0), (999, 0, 0, 0), (92, 0, 0, 65), (1, 99, 0, 0), (999, 0, 0, 0), (67, 7, 139, 0), (999, 0, 0, 0), (999, 0, 0, 0), (0, 1, 0, 0), (72, 4, 140, 0), (999, 0, 0, 0), (999, 0, 0, 0), (0, 0, 0, 0), (17, 0, 6, 0), (999, 0, 0, 0), (22, 1, 7, 0), (999, 0, 0, 0), (999, 0, 0, 0), (72, (-67), 78, 0), (999, 0, 0, 0), (999, 0, 0, 0), (14, 0, 0, 112), (11, 0, 6, 0), (999, 0, 0, 0), (0, 3, 0, 0), (110, 0, 199, 65), (999, 0, 0, 0), (999, 0, 0, 0), (60, 5, 160, 0), (999, 0, 0, 0), (999, 0, 0, 0), (0, 0, 0, 0), (130, 0, 0, 0), (0, 0, 0, 0), (17, 0, 7, 0), (999, 0, 0, 0), (11, 0, 7, 0), (999, 0, 0, 0), (1, 64, 0, 0), (999, 0, 0, 0), (69, 23, 190, 0), (999, 0, 0, 0), (999, 0, 0, 0), (14, 0, 0, 112), (80, 12, 167, 68), (999, 0, 0, 0), (999, 0, 0, 0), (11, 0, 7, 0), (999, 0, 0, 0), (14, 0, 0, 112), (80, 12, 13, 3), (999, 0, 0, 0), (999, 0, 0, 0), (11, 0, 7, 0), (999, 0, 0, 0), (90, 0, 0, 60), (95, 0, 0, 110), (22, 1, 7, 0), (999, 0, 0, 0), (999, 0, 0, 0), (72, (-24), 163, 0), (999, 0, 0, 0), (999, 0, 0, 0), (0, 1, 0, 0), (17, 0, 7, 0), (999, 0, 0, 0), (0, 0, 0, 0), (17, 0, 8, 0), (999, 0, 0, 0), (11, 0, 8, 0), (999, 0, 0, 0), (10, 0, 2, 0), (69, 40, 239, 0), (999, 0, 0, 0), (999, 0, 0, 0), (11, 0, 7, 0), (999, 0, 0, 0), (60, 35, 239, 0), (999, 0, 0, 0), (999, 0, 0, 0), (14, 0, 0, 112), (10, 0, 1, 0), (11, 0, 4, 0), (999, 0, 0, 0), (60, 12, 223, 0), (999, 0, 0, 0), (999, 0, 0, 0), (10, 0, 2, 0), (0, 1, 0, 0), (31, 0, 0, 0), (11, 0, 8, 0), (999, 0, 0, 0), (31, 0, 0, 0), (72, 5, 225, 0), (999, 0, 0, 0), (999, 0, 0, 0), (11, 0, 8, 0), (999, 0, 0, 0), (10, 0, 3, 0), (11, 0, 4, 0), (999, 0, 0, 0), (110, 0, 463, 159), (999, 0, 0, 0), (999, 0, 0, 0), (17, 0, 7, 0), (999, 0, 0, 0), (22, 1, 8, 0), (999, 0, 0, 0), (999, 0, 0, 0), (72, (-40), 196, 0), (999, 0, 0, 0), (999, 0, 0, 0), (14, 0, 0, 112), (11, 0, 7, 0), (999, 0, 0, 0), (61, 7, 249, 0), (999, 0, 0, 0), (999, 0, 0, 0), (0, 1, 0, 0), (72, 4, 250, 0), (999, 0, 0, 0), (999, 0, 0, 0), (0, 0, 0, 0), (0, 4, 0, 0), (110, 0, 199, 65), (999, 0, 0, 0), (999, 0, 0, 0), (60, 7, 261, 0), (999, 0, 0, 0), (999, 0, 0, 0), (0, 0, 0, 0), (72, 10, 268, 0), (999, 0, 0, 0), (999, 0, 0, 0), (14, 0, 0, 112), (80, 12, 167, 68), (999, 0, 0, 0), (999, 0, 0, 0), (11, 0, 5, 0), (999, 0, 0, 0), (90, 0, 0, 110), (130, 0, 0, 0)]
def zu_M_serial : List (Nat × List Bool) := [(22, [true, true, true, true, true, true, false, false, false]), (27, [true, true, true, true, true, true, false, false, false]), (55, [true, true, true, true, true, true, false, false, false]), (60, [true, true, true, true, true, true, false, false, false]), (67, [false, false, false, false, false, false, false, false, false]), (78, [true, true, true, true, true, true, true, true, false]), (135, [true, true, true, true, true, true, false, true, false]), (140, [true, true, true, true, true, true, false, true, false]), (163, [true, true, true, true, true, true, false, true, false]), (196, [true, true, true, true, true, true, false, true, true]), (225, [true, true, true, true, true, true, false, false, true]), (239, [true, false, false, false, false, true, false, true, false]), (250, [true, false, false, false, false, true, false, false, false]), (268, [false, false, false, false, false, false, false, false, false])]
set_option maxRecDepth 100000 in
theorem qe_M_serial_67 {ρ : Type} (kr : Int → zH → Option ρ) (h : zH) : M_serial_67 kr h = zseg zPP false (zcal []) (zget (999, 0, 0, 0) zc_M_serial) (zcut zu_M_serial) (zorc []) kr (fun _ _ => none) 400 67 [none, none, none, none, none, none, none, none, none] [] h := by rfl
set_option maxRecDepth 100000 in
theorem qe_M_serial_140 {ρ : Type} (kr : Int → zH → Option ρ) (r78 : Int → Int → Int → Int → Int → Int → Int → zH → Option ρ) (a1 a2 a3 a4 a5 a7 t0 : Int) (h : zH) : M_serial_140 kr r78 a1 a2 a3 a4 a5 a7 t0 h = zseg zPP false (zcal []) (zget (999, 0, 0, 0) zc_M_serial) (zcut zu_M_serial) (zorc [(78, [some (112, some 0), some (0, none), some (0, none), some (0, none), some (0, none), some (0, none), some (0, none), some (0, none), none], [], fun xs h => match xs with
  | [a1, a2, a3, a4, a5, a6, a7] => r78 a1 a2 a3 a4 a5 a6 a7 h
  | _ => none)]) kr (fun _ _ => none) 400 140 [some (112, 0), some (0, a1), some (0, a2), some (0, a3), some (0, a4), some (0, a5), none, some (0, a7), none] [(0, t0)] h := by rfl
set_option maxRecDepth 100000 in
theorem qe_M_serial_135 {ρ : Type} (kr : Int → zH → Option ρ) (r78 : Int → Int → Int → Int → Int → Int → Int → zH → Option ρ) (a1 a2 a3 a4 a5 a7 : Int) (h : zH) : M_serial_135 kr r78 a1 a2 a3 a4 a5 a7 h = zseg zPP false (zcal []) (zget (999, 0, 0, 0) zc_M_serial) (zcut zu_M_serial) (zorc [(140, [some (112, some 0), some (0, none), some (0, none), some (0, none), some (0, none), some (0, none), none, some (0, none), none], [(0, none)], fun xs h => match xs with
  | [a1, a2, a3, a4, a5, a7, t0] => M_serial_140 kr r78 a1 a2 a3 a4 a5 a7 t0 h
  | _ => none)]) kr (fun _ _ => none) 400 135 [some (112, 0), some (0, a1), some (0, a2), some (0, a3), some (0, a4), some (0, a5), none, some (0, a7), none] [] h := by rfl
set_option maxRecDepth 100000 in
theorem qe_M_serial_225 {ρ : Type} (kr : Int → zH → Option ρ) (r196 : Int → Int → Int → Int → Int → Int → Int → zH → Option ρ) (a1 a2 a3 a4 a5 a8 t0 t1 : Int) (h : zH) : M_serial_225 kr r196 a1 a2 a3 a4 a5 a8 t0 t1 h = zseg zPP false (zcal [(159, [some 0, none, none, none, none], fun xs h kr kt => match xs with
  | [x1, x2, x3, x4] => M_runBlock x1 x2 x3 x4 h kr
  | _ => none)]) (zget (999, 0, 0, 0) zc_M_serial) (zcut zu_M_serial) (zorc [(196, [some (112, some 0), some (0, none), some (0, none), some (0, none), some (0, none), some (0, none), none, some (0, none), some (0, none)], [], fun xs h => match xs with
  | [a1, a2, a3, a4, a5, a7, a8] => r196 a1 a2 a3 a4 a5 a7 a8 h
  | _ => none)]) kr (fun _ _ => none) 400 225 [some (112, 0), some (0, a1), some (0, a2), some (0, a3), some (0, a4), some (0, a5), none, none, some (0, a8)] [(0, t0), (0, t1), (112, 0)] h := by rfl
set_option maxRecDepth 100000 in
theorem qe_M_serial_268 {ρ : Type} (kr : Int → zH → Option ρ) (t0 : Int) (h : zH) : M_serial_268 kr t0 h = zseg zPP false (zcal []) (zget (999, 0, 0, 0) zc_M_serial) (zcut zu_M_serial) (zorc []) kr (fun _ _ => none) 400 268 [none, none, none, none, none, none, none, none, none] [(0, t0)] h := by rfl
set_option maxRecDepth 100000 in
theorem qe_M_serial_250 {ρ : Type} (kr : Int → zH → Option ρ) (a5 t0 : Int) (h : zH) : M_serial_250 kr a5 t0 h = zseg zPP false (zcal [(65, [some 0, none, none], fun xs h kr kt => match xs with
  | [x1, x2] => M_fails x1 x2 h kr
  | _ => none)]) (zget (999, 0, 0, 0) zc_M_serial) (zcut zu_M_serial) (zorc [(268, [none, none, none, none, none, none, none, none, none], [(0, none)], fun xs h => match xs with
  | [t0] => M_serial_268 kr t0 h
  | _ => none)]) kr (fun _ _ => none) 400 250 [some (112, 0), none, none, none, none, some (0, a5), none, none, none] [(0, t0), (112, 0)] h := by rfl
set_option maxRecDepth 100000 in
theorem qe_M_serial_239 {ρ : Type} (kr : Int → zH → Option ρ) (a5 a7 : Int) (h : zH) : M_serial_239 kr a5 a7 h = zseg zPP false (zcal []) (zget (999, 0, 0, 0) zc_M_serial) (zcut zu_M_serial) (zorc [(250, [some (112, some 0), none, none, none, none, some (0, none), none, none, none], [(0, none), (112, some 0)], fun xs h => match xs with
  | [a5, t0] => M_serial_250 kr a5 t0 h
  | _ => none)]) kr (fun _ _ => none) 400 239 [some (112, 0), none, none, none, none, some (0, a5), none, some (0, a7), none] [] h := by rfl
set_option maxRecDepth 100000 in
theorem qe_M_serial_196b {ρ : Type} (kr : Int → zH → Option ρ) (r196 : Int → Int → Int → Int → Int → Int → Int → zH → Option ρ) (a1 a2 a3 a4 a5 a7 a8 : Int) (h : zH) : M_serial_196b kr r196 a1 a2 a3 a4 a5 a7 a8 h = zseg zPP false (zcal []) (zget (999, 0, 0, 0) zc_M_serial) (zcut zu_M_serial) (zorc [(225, [some (112, some 0), some (0, none), some (0, none), some (0, none), some (0, none), some (0, none), none, none, some (0, none)], [(0, none), (0, none), (112, some 0)], fun xs h => match xs with
  | [a1, a2, a3, a4, a5, a8, t0, t1] => M_serial_225 kr r196 a1 a2 a3 a4 a5 a8 t0 t1 h
  | _ => none), (239, [some (112, some 0), none, none, none, none, some (0, none), none, some (0, none), none], [], fun xs h => match xs with
  | [a5, a7] => M_serial_239 kr a5 a7 h
  | _ => none)]) kr (fun _ _ => none) 400 196 [some (112, 0), some (0, a1), some (0, a2), some (0, a3), some (0, a4), some (0, a5), none, some (0, a7), some (0, a8)] [] h := by rfl
set_option maxRecDepth 100000 in
theorem qe_M_serial_163b {ρ : Type} (kr : Int → zH → Option ρ) (r163 : Int → Int → Int → Int → Int → Int → zH → Option ρ) (a1 a2 a3 a4 a5 a7 : Int) (h : zH) : M_serial_163b kr r163 a1 a2 a3 a4 a5 a7 h = zseg zPP false (zcal []) (zget (999, 0, 0, 0) zc_M_serial) (zcut zu_M_serial) (zorc [(163, [some (112, some 0), some (0, none), some (0, none), some (0, none), some (0, none), some (0, none), none, some (0, none), none], [], fun xs h => match xs with
  | [a1, a2, a3, a4, a5, a7] => r163 a1 a2 a3 a4 a5 a7 h
  | _ => none), (196, [some (112, some 0), some (0, none), some (0, none), some (0, none), some (0, none), some (0, none), none, some (0, none), some (0, none)], [], fun xs h => match xs with
  | [a1, a2, a3, a4, a5, a7, a8] => M_serial_196 kr a1 a2 a3 a4 a5 a7 a8 h
  | _ => none)]) kr (fun _ _ => none) 400 163 [some (112, 0), some (0, a1), some (0, a2), some (0, a3), some (0, a4), some (0, a5), none, some (0, a7), none] [] h := by rfl
set_option maxRecDepth 100000 in
theorem qe_M_serial_78b {ρ : Type} (kr : Int → zH → Option ρ) (r78 : Int → Int → Int → Int → Int → Int → Int → zH → Option ρ) (a1 a2 a3 a4 a5 a6 a7 : Int) (h : zH) : M_serial_78b kr r78 a1 a2 a3 a4 a5 a6 a7 h = zseg zPP false (zcal [(65, [some 0, none, none], fun xs h kr kt => match xs with
  | [x1, x2] => M_fails x1 x2 h kr
  | _ => none)]) (zget (999, 0, 0, 0) zc_M_serial) (zcut zu_M_serial) (zorc [(135, [some (112, some 0), some (0, none), some (0, none), some (0, none), some (0, none), some (0, none), none, some (0, none), none], [], fun xs h => match xs with
  | [a1, a2, a3, a4, a5, a7] => M_serial_135 kr r78 a1 a2 a3 a4 a5 a7 h
  | _ => none), (140, [some (112, some 0), some (0, none), some (0, none), some (0, none), some (0, none), some (0, none), none, some (0, none), none], [(0, none)], fun xs h => match xs with
  | [a1, a2, a3, a4, a5, a7, t0] => M_serial_140 kr r78 a1 a2 a3 a4 a5 a7 t0 h
  | _ => none), (163, [some (112, some 0), some (0, none), some (0, none), some (0, none), some (0, none), some (0, none), none, some (0, none), none], [], fun xs h => match xs with
  | [a1, a2, a3, a4, a5, a7] => M_serial_163 kr a1 a2 a3 a4 a5 a7 h
  | _ => none)]) kr (fun _ _ => none) 400 78 [some (112, 0), some (0, a1), some (0, a2), some (0, a3), some (0, a4), some (0, a5), some (0, a6), some (0, a7), none] [] h := by rfl
set_option maxRecDepth 100000 in
theorem qe_M_serial_60 {ρ : Type} (kr : Int → zH → Option ρ) (a1 a2 a3 a4 a5 t0 : Int) (h : zH) : M_serial_60 kr a1 a2 a3 a4 a5 t0 h = zseg zPP false (zcal [(65, [some 0, none, none], fun xs h kr kt => match xs with
  | [x1, x2] => M_fails x1 x2 h kr
  | _ => none)]) (zget (999, 0, 0, 0) zc_M_serial) (zcut zu_M_serial) (zorc [(67, [none, none, none, none, none, none, none, none, none], [], fun xs h => match xs with
  | [] => M_serial_67 kr h
  | _ => none), (78, [some (112, some 0), some (0, none), some (0, none), some (0, none), some (0, none), some (0, none), some (0, none), some (0, none), none], [], fun xs h => match xs with
  | [a1, a2, a3, a4, a5, a6, a7] => M_serial_78 kr a1 a2 a3 a4 a5 a6 a7 h
  | _ => none)]) kr (fun _ _ => none) 400 60 [some (112, 0), some (0, a1), some (0, a2), some (0, a3), some (0, a4), some (0, a5), none, none, none] [(0, t0), (112, 0)] h := by rfl
set_option maxRecDepth 100000 in
theorem qe_M_serial_55 {ρ : Type} (kr : Int → zH → Option ρ) (a1 a2 a3 a4 a5 : Int) (h : zH) : M_serial_55 kr a1 a2 a3 a4 a5 h = zseg zPP false (zcal []) (zget (999, 0, 0, 0) zc_M_serial) (zcut zu_M_serial) (zorc [(60, [some (112, some 0), some (0, none), some (0, none), some (0, none), some (0, none), some (0, none), none, none, none], [(0, none), (112, some 0)], fun xs h => match xs with
  | [a1, a2, a3, a4, a5, t0] => M_serial_60 kr a1 a2 a3 a4 a5 t0 h
  | _ => none)]) kr (fun _ _ => none) 400 55 [some (112, 0), some (0, a1), some (0, a2), some (0, a3), some (0, a4), some (0, a5), none, none, none] [(112, 0)] h := by rfl
set_option maxRecDepth 100000 in
theorem qe_M_serial_27 {ρ : Type} (kr : Int → zH → Option ρ) (a1 a2 a3 a4 a5 t0 : Int) (h : zH) : M_serial_27 kr a1 a2 a3 a4 a5 t0 h = zseg zPP false (zcal [(64, [none, none, none], fun xs h kr kt => match xs with
  | [x0, x1, x2] => M_in x0 x1 x2 h kr
  | _ => none), (65, [some 0, none, none], fun xs h kr kt => match xs with
  | [x1, x2] => M_fails x1 x2 h kr
  | _ => none)]) (zget (999, 0, 0, 0) zc_M_serial) (zcut zu_M_serial) (zorc [(55, [some (112, some 0), some (0, none), some (0, none), some (0, none), some (0, none), some (0, none), none, none, none], [(112, some 0)], fun xs h => match xs with
  | [a1, a2, a3, a4, a5] => M_serial_55 kr a1 a2 a3 a4 a5 h
  | _ => none), (60, [some (112, some 0), some (0, none), some (0, none), some (0, none), some (0, none), some (0, none), none, none, none], [(0, none), (112, some 0)], fun xs h => match xs with
  | [a1, a2, a3, a4, a5, t0] => M_serial_60 kr a1 a2 a3 a4 a5 t0 h
  | _ => none), (67, [none, none, none, none, none, none, none, none, none], [], fun xs h => match xs with
  | [] => M_serial_67 kr h
  | _ => none)]) kr (fun _ _ => none) 400 27 [some (112, 0), some (0, a1), some (0, a2), some (0, a3), some (0, a4), some (0, a5), none, none, none] [(0, t0), (112, 0)] h := by rfl
set_option maxRecDepth 100000 in
theorem qe_M_serial_22 {ρ : Type} (kr : Int → zH → Option ρ) (a1 a2 a3 a4 a5 : Int) (h : zH) : M_serial_22 kr a1 a2 a3 a4 a5 h = zseg zPP false (zcal []) (zget (999, 0, 0, 0) zc_M_serial) (zcut zu_M_serial) (zorc [(27, [some (112, some 0), some (0, none), some (0, none), some (0, none), some (0, none), some (0, none), none, none, none], [(0, none), (112, some 0)], fun xs h => match xs with
  | [a1, a2, a3, a4, a5, t0] => M_serial_27 kr a1 a2 a3 a4 a5 t0 h
  | _ => none)]) kr (fun _ _ => none) 400 22 [some (112, 0), some (0, a1), some (0, a2), some (0, a3), some (0, a4), some (0, a5), none, none, none] [(112, 0)] h := by rfl
set_option maxRecDepth 100000 in
theorem qe_M_serial {ρ : Type} (kr : Int → zH → Option ρ) (a1 a2 a3 a4 a5 : Int) (h : zH) : M_serial a1 a2 a3 a4 a5 h kr = zseg zPP false (zcal [(66, [some 0, none], fun xs h kr kt => match xs with
  | [x1] => M_noKernel x1 h kr
  | _ => none), (68, [none], fun xs h kr kt => match xs with
  | [x0] => M_noCell x0 h kr
  | _ => none)]) (zget (999, 0, 0, 0) zc_M_serial) (zcut zu_M_serial) (zorc [(22, [some (112, some 0), some (0, none), some (0, none), some (0, none), some (0, none), some (0, none), none, none, none], [(112, some 0)], fun xs h => match xs with
  | [a1, a2, a3, a4, a5] => M_serial_22 kr a1 a2 a3 a4 a5 h
  | _ => none), (27, [some (112, some 0), some (0, none), some (0, none), some (0, none), some (0, none), some (0, none), none, none, none], [(0, none), (112, some 0)], fun xs h => match xs with
  | [a1, a2, a3, a4, a5, t0] => M_serial_27 kr a1 a2 a3 a4 a5 t0 h
  | _ => none)]) kr (fun _ _ => none) 400 0 [some (112, 0), some (0, a1), some (0, a2), some (0, a3), some (0, a4), some (0, a5), none, none, none] [] h := by rfl
def zc_M_lanes : List zI := [(14, 0, 0, 112), (0, 0, 0, 0), (82, 12, 185, 0), (999, 0, 0, 0), (999, 0, 0, 0), (14, 0, 0, 112), (80, 12, 373, 54), (999, 0, 0, 0), (999, 0, 0, 0), (131, 0, 0, 0)]
def zu_M_lanes : List (Nat × List Bool) := []
set_option maxRecDepth 100000 in
theorem qe_M_lanes {ρ : Type} (kr : Int → zH → Option ρ) (h : zH) : M_lanes h kr = zseg zPP false (zcal []) (zget (999, 0, 0, 0) zc_M_lanes) (zcut zu_M_lanes) (zorc []) kr (fun _ _ => none) 400 0 [some (112, 0)] [] h := by rfl
def zc_M_misses : List zI := [(14, 0, 0, 112), (0, 0, 0, 0), (82, 12, 185, 0), (999, 0, 0, 0), (999, 0, 0, 0), (14, 0, 0, 112), (80, 12, 341, 58), (999, 0, 0, 0), (999, 0, 0, 0), (130, 0, 0, 0)]
def zu_M_misses : List (Nat × List Bool) := []
set_option maxRecDepth 100000 in
theorem qe_M_misses {ρ : Type} (kr : Int → zH → Option ρ) (h : zH) : M_misses h kr = zseg zPP false (zcal []) (zget (999, 0, 0, 0) zc_M_misses) (zcut zu_M_misses) (zorc []) kr (fun _ _ => none) 400 0 [some (112, 0)] [] h := by rfl
def zc_M_lost : List zI := [(14, 0, 0, 112), (0, 0, 0, 0), (82, 12, 185, 0), (999, 0, 0, 0), (999, 0, 0, 0), (14, 0, 0, 112), (80, 12, 387, 59), (999, 0, 0, 0), (999, 0, 0, 0), (130, 0, 0, 0)]
def zu_M_lost : List (Nat × List Bool) := []
set_option maxRecDepth 100000 in
theorem qe_M_lost {ρ : Type} (kr : Int → zH → Option ρ) (h : zH) : M_lost h kr = zseg zPP false (zcal []) (zget (999, 0, 0, 0) zc_M_lost) (zcut zu_M_lost) (zorc []) kr (fun _ _ => none) 400 0 [some (112, 0)] [] h := by rfl
def zc_M_barriers : List zI := [(14, 0, 0, 112), (0, 0, 0, 0), (82, 12, 185, 0), (999, 0, 0, 0), (999, 0, 0, 0), (14, 0, 0, 112), (80, 12, 260, 60), (999, 0, 0, 0), (999, 0, 0, 0), (130, 0, 0, 0)]
def zu_M_barriers : List (Nat × List Bool) := []
set_option maxRecDepth 100000 in
theorem qe_M_barriers {ρ : Type} (kr : Int → zH → Option ρ) (h : zH) : M_barriers h kr = zseg zPP false (zcal []) (zget (999, 0, 0, 0) zc_M_barriers) (zcut zu_M_barriers) (zorc []) kr (fun _ _ => none) 400 0 [some (112, 0)] [] h := by rfl
def zc_M_refused : List zI := [(14, 0, 0, 112), (0, 0, 0, 0), (82, 12, 185, 0), (999, 0, 0, 0), (999, 0, 0, 0), (14, 0, 0, 112), (80, 12, 235, 61), (999, 0, 0, 0), (999, 0, 0, 0), (130, 0, 0, 0)]
def zu_M_refused : List (Nat × List Bool) := []
set_option maxRecDepth 100000 in
theorem qe_M_refused {ρ : Type} (kr : Int → zH → Option ρ) (h : zH) : M_refused h kr = zseg zPP false (zcal []) (zget (999, 0, 0, 0) zc_M_refused) (zcut zu_M_refused) (zorc []) kr (fun _ _ => none) 400 0 [some (112, 0)] [] h := by rfl
def zc_M_usedShare : List zI := [(14, 0, 0, 112), (0, 0, 0, 0), (82, 12, 185, 0), (999, 0, 0, 0), (999, 0, 0, 0), (14, 0, 0, 112), (14, 0, 0, 112), (80, 12, 370, 55), (999, 0, 0, 0), (999, 0, 0, 0), (61, 7, 17, 0), (999, 0, 0, 0), (999, 0, 0, 0), (0, 1, 0, 0), (72, 4, 18, 0), (999, 0, 0, 0), (999, 0, 0, 0), (0, 0, 0, 0), (0, 1, 0, 0), (110, 0, 199, 65), (999, 0, 0, 0), (999, 0, 0, 0), (60, 7, 29, 0), (999, 0, 0, 0), (999, 0, 0, 0), (140, 0, 0, 0), (72, 16, 42, 0), (999, 0, 0, 0), (999, 0, 0, 0), (14, 0, 0, 112), (80, 12, 373, 54), (999, 0, 0, 0), (999, 0, 0, 0), (142, 0, 0, 0), (0, 4, 0, 0), (14, 0, 0, 112), (80, 12, 370, 55), (999, 0, 0, 0), (999, 0, 0, 0), (32, 0, 0, 0), (143, 0, 0, 0), (144, 0, 0, 0), (160, 0, 0, 0)]
def zu_M_usedShare : List (Nat × List Bool) := [(18, [true]), (42, [false])]
set_option maxRecDepth 100000 in
theorem qe_M_usedShare_42 {ρ : Type} (kr : Int → zH → Option ρ) (t0 : Int) (h : zH) : M_usedShare_42 kr t0 h = zseg zPP false (zcal []) (zget (999, 0, 0, 0) zc_M_usedShare) (zcut zu_M_usedShare) (zorc []) kr (fun _ _ => none) 400 42 [none] [(5, t0)] h := by rfl
set_option maxRecDepth 100000 in
theorem qe_M_usedShare_18 {ρ : Type} (kr : Int → zH → Option ρ) (t0 : Int) (h : zH) : M_usedShare_18 kr t0 h = zseg zPP false (zcal [(65, [some 0, none, none], fun xs h kr kt => match xs with
  | [x1, x2] => M_fails x1 x2 h kr
  | _ => none)]) (zget (999, 0, 0, 0) zc_M_usedShare) (zcut zu_M_usedShare) (zorc [(42, [none], [(5, none)], fun xs h => match xs with
  | [t0] => M_usedShare_42 kr t0 h
  | _ => none)]) kr (fun _ _ => none) 400 18 [some (112, 0)] [(0, t0), (112, 0)] h := by rfl
set_option maxRecDepth 100000 in
theorem qe_M_usedShare {ρ : Type} (kr : Int → zH → Option ρ) (h : zH) : M_usedShare h kr = zseg zPP false (zcal []) (zget (999, 0, 0, 0) zc_M_usedShare) (zcut zu_M_usedShare) (zorc [(18, [some (112, some 0)], [(0, none), (112, some 0)], fun xs h => match xs with
  | [t0] => M_usedShare_18 kr t0 h
  | _ => none)]) kr (fun _ _ => none) 400 0 [some (112, 0)] [] h := by rfl
def zc_M_meanDelay : List zI := [(14, 0, 0, 112), (0, 0, 0, 0), (82, 12, 185, 0), (999, 0, 0, 0), (999, 0, 0, 0), (14, 0, 0, 112), (14, 0, 0, 112), (80, 12, 381, 56), (999, 0, 0, 0), (999, 0, 0, 0), (61, 7, 17, 0), (999, 0, 0, 0), (999, 0, 0, 0), (0, 1, 0, 0), (72, 4, 18, 0), (999, 0, 0, 0), (999, 0, 0, 0), (0, 0, 0, 0), (0, 1, 0, 0), (110, 0, 199, 65), (999, 0, 0, 0), (999, 0, 0, 0), (60, 7, 29, 0), (999, 0, 0, 0), (999, 0, 0, 0), (141, 0, 0, 0), (72, 14, 40, 0), (999, 0, 0, 0), (999, 0, 0, 0), (14, 0, 0, 112), (80, 12, 384, 57), (999, 0, 0, 0), (999, 0, 0, 0), (146, 0, 0, 0), (14, 0, 0, 112), (80, 12, 381, 56), (999, 0, 0, 0), (999, 0, 0, 0), (146, 0, 0, 0), (147, 0, 0, 0), (161, 0, 0, 0)]
def zu_M_meanDelay : List (Nat × List Bool) := [(18, [true]), (40, [false])]
set_option maxRecDepth 100000 in
theorem qe_M_meanDelay_40 {ρ : Type} (kr : Int → zH → Option ρ) (t0 : Int) (h : zH) : M_meanDelay_40 kr t0 h = zseg zPP false (zcal []) (zget (999, 0, 0, 0) zc_M_meanDelay) (zcut zu_M_meanDelay) (zorc []) kr (fun _ _ => none) 400 40 [none] [(6, t0)] h := by rfl
set_option maxRecDepth 100000 in
theorem qe_M_meanDelay_18 {ρ : Type} (kr : Int → zH → Option ρ) (t0 : Int) (h : zH) : M_meanDelay_18 kr t0 h = zseg zPP false (zcal [(65, [some 0, none, none], fun xs h kr kt => match xs with
  | [x1, x2] => M_fails x1 x2 h kr
  | _ => none)]) (zget (999, 0, 0, 0) zc_M_meanDelay) (zcut zu_M_meanDelay) (zorc [(40, [none], [(6, none)], fun xs h => match xs with
  | [t0] => M_meanDelay_40 kr t0 h
  | _ => none)]) kr (fun _ _ => none) 400 18 [some (112, 0)] [(0, t0), (112, 0)] h := by rfl
set_option maxRecDepth 100000 in
theorem qe_M_meanDelay {ρ : Type} (kr : Int → zH → Option ρ) (h : zH) : M_meanDelay h kr = zseg zPP false (zcal []) (zget (999, 0, 0, 0) zc_M_meanDelay) (zcut zu_M_meanDelay) (zorc [(18, [some (112, some 0)], [(0, none), (112, some 0)], fun xs h => match xs with
  | [t0] => M_meanDelay_18 kr t0 h
  | _ => none)]) kr (fun _ _ => none) 400 0 [some (112, 0)] [] h := by rfl
def zc_M_isSound : List zI := [(14, 0, 0, 112), (0, 0, 0, 0), (82, 12, 185, 0), (999, 0, 0, 0), (999, 0, 0, 0), (0, 1, 0, 0), (130, 0, 1, 0)]
def zu_M_isSound : List (Nat × List Bool) := []
set_option maxRecDepth 100000 in
theorem qe_M_isSound {ρ : Type} (kr : Int → zH → Option ρ) (h : zH) : M_isSound h kr = zseg zPP false (zcal []) (zget (999, 0, 0, 0) zc_M_isSound) (zcut zu_M_isSound) (zorc []) kr (fun _ _ => none) 400 0 [some (112, 0)] [] h := by rfl
def zc_Lw_addKernel : List zI := [(14, 0, 3, 151), (0, 0, 0, 0), (14, 0, 0, 100), (10, 0, 1, 0), (10, 0, 2, 0), (118, 0, 7, 10), (999, 0, 0, 0), (999, 0, 0, 0), (42, 0, 0, 0), (98, 0, 0, 51), (72, 11, 21, 0), (999, 0, 0, 0), (999, 0, 0, 0), (21, 0, 4, 4), (999, 0, 0, 0), (0, 1, 0, 0), (130, 0, 0, 0), (21, 0, 4, 4), (999, 0, 0, 0), (0, 2, 0, 0), (130, 0, 0, 0), (0, 0, 0, 0), (130, 0, 0, 0)]
def zu_Lw_addKernel : List (Nat × List Bool) := []
set_option maxRecDepth 100000 in
theorem qe_Lw_addKernel {ρ : Type} (kr : Int → zH → Option ρ) (a0 a1 a2 a3 : Int) (h : zH) : Lw_addKernel a0 a1 a2 a3 h kr = zseg zPP true (zcal [(10, [none, none, none], fun xs h kr kt => match xs with
  | [x0, x1, x2] => X_addKernel x0 x1 x2 h kr kt
  | _ => none)]) (zget (999, 0, 0, 0) zc_Lw_addKernel) (zcut zu_Lw_addKernel) (zorc []) kr (fun _ _ => none) 400 0 [some (100, a0), some (0, a1), some (0, a2), some (151, a3), none] [] h := by rfl
def zc_Lw_code : List zI := [(15, 0, 6, 151), (999, 0, 0, 0), (0, 0, 0, 0), (14, 0, 0, 100), (10, 0, 1, 0), (10, 0, 2, 0), (10, 0, 3, 0), (11, 0, 4, 0), (999, 0, 0, 0), (11, 0, 5, 0), (999, 0, 0, 0), (118, 1, 17, 11), (999, 0, 0, 0), (999, 0, 0, 0), (42, 0, 0, 0), (98, 0, 0, 51), (72, 15, 31, 0), (999, 0, 0, 0), (999, 0, 0, 0), (21, 0, 7, 4), (999, 0, 0, 0), (0, 1, 0, 0), (130, 0, 0, 0), (21, 0, 7, 4), (999, 0, 0, 0), (0, 2, 0, 0), (130, 0, 0, 0), (21, 0, 7, 4), (999, 0, 0, 0), (0, 3, 0, 0), (130, 0, 0, 0), (0, 0, 0, 0), (130, 0, 0, 0)]
def zu_Lw_code : List (Nat × List Bool) := []
set_option maxRecDepth 100000 in
theorem qe_Lw_code {ρ : Type} (kr : Int → zH → Option ρ) (a0 a1 a2 a3 a4 a5 a6 : Int) (h : zH) : Lw_code a0 a1 a2 a3 a4 a5 a6 h kr = zseg zPP true (zcal [(11, [none, none, none, none, none, none], fun xs h kr kt => match xs with
  | [x0, x1, x2, x3, x4, x5] => X_code x0 x1 x2 x3 x4 x5 h kr kt
  | _ => none)]) (zget (999, 0, 0, 0) zc_Lw_code) (zcut zu_Lw_code) (zorc []) kr (fun _ _ => none) 400 0 [some (100, a0), some (0, a1), some (0, a2), some (0, a3), some (0, a4), some (0, a5), some (151, a6), none] [] h := by rfl
def zc_Lw_fits : List zI := [(14, 0, 3, 151), (0, 0, 0, 0), (14, 0, 0, 100), (10, 0, 1, 0), (10, 0, 2, 0), (118, 2, 23, 12), (999, 0, 0, 0), (999, 0, 0, 0), (42, 0, 0, 0), (98, 0, 0, 51), (72, 11, 21, 0), (999, 0, 0, 0), (999, 0, 0, 0), (21, 0, 4, 4), (999, 0, 0, 0), (0, 1, 0, 0), (130, 0, 0, 0), (21, 0, 4, 4), (999, 0, 0, 0), (0, 2, 0, 0), (130, 0, 0, 0), (0, 0, 0, 0), (130, 0, 0, 0)]
def zu_Lw_fits : List (Nat × List Bool) := []
set_option maxRecDepth 100000 in
theorem qe_Lw_fits {ρ : Type} (kr : Int → zH → Option ρ) (a0 a1 a2 a3 : Int) (h : zH) : Lw_fits a0 a1 a2 a3 h kr = zseg zPP true (zcal [(12, [none, none, none], fun xs h kr kt => match xs with
  | [x0, x1, x2] => X_fits x0 x1 x2 h kr kt
  | _ => none)]) (zget (999, 0, 0, 0) zc_Lw_fits) (zcut zu_Lw_fits) (zorc []) kr (fun _ _ => none) 400 0 [some (100, a0), some (0, a1), some (0, a2), some (151, a3), none] [] h := by rfl
def zc_Lw_poke : List zI := [(14, 0, 3, 151), (0, 0, 0, 0), (14, 0, 0, 100), (10, 0, 1, 0), (10, 0, 2, 0), (118, 3, 26, 13), (999, 0, 0, 0), (999, 0, 0, 0), (42, 0, 0, 0), (98, 0, 0, 51), (72, 7, 17, 0), (999, 0, 0, 0), (999, 0, 0, 0), (21, 0, 4, 4), (999, 0, 0, 0), (0, 1, 0, 0), (130, 0, 0, 0), (0, 0, 0, 0), (130, 0, 0, 0)]
def zu_Lw_poke : List (Nat × List Bool) := []
set_option maxRecDepth 100000 in
theorem qe_Lw_poke {ρ : Type} (kr : Int → zH → Option ρ) (a0 a1 a2 a3 : Int) (h : zH) : Lw_poke a0 a1 a2 a3 h kr = zseg zPP true (zcal [(13, [none, none, none], fun xs h kr kt => match xs with
  | [x0, x1, x2] => X_poke x0 x1 x2 h kr kt
  | _ => none)]) (zget (999, 0, 0, 0) zc_Lw_poke) (zcut zu_Lw_poke) (zorc []) kr (fun _ _ => none) 400 0 [some (100, a0), some (0, a1), some (0, a2), some (151, a3), none] [] h := by rfl
def zc_Lw_peek : List zI := [(14, 0, 2, 151), (0, 0, 0, 0), (14, 0, 0, 100), (10, 0, 1, 0), (118, 4, 29, 14), (999, 0, 0, 0), (999, 0, 0, 0), (42, 0, 0, 0), (98, 0, 0, 51), (72, 6, 15, 0), (999, 0, 0, 0), (999, 0, 0, 0), (20, 0, 3, 4), (0, 1, 0, 0), (130, 0, 0, 0), (0, 0, 0, 0), (130, 0, 0, 0)]
def zu_Lw_peek : List (Nat × List Bool) := []
set_option maxRecDepth 100000 in
theorem qe_Lw_peek {ρ : Type} (kr : Int → zH → Option ρ) (a0 a1 a2 : Int) (h : zH) : Lw_peek a0 a1 a2 h kr = zseg zPP true (zcal [(14, [none, none], fun xs h kr kt => match xs with
  | [x0, x1] => X_peek x0 x1 h kr kt
  | _ => none)]) (zget (999, 0, 0, 0) zc_Lw_peek) (zcut zu_Lw_peek) (zorc []) kr (fun _ _ => none) 400 0 [some (100, a0), some (0, a1), some (151, a2), none] [] h := by rfl
def zc_Lw_launch : List zI := [(15, 0, 6, 151), (999, 0, 0, 0), (0, 0, 0, 0), (14, 0, 0, 100), (10, 0, 1, 0), (10, 0, 2, 0), (10, 0, 3, 0), (11, 0, 4, 0), (999, 0, 0, 0), (11, 0, 5, 0), (999, 0, 0, 0), (118, 5, 33, 15), (999, 0, 0, 0), (999, 0, 0, 0), (42, 0, 0, 0), (98, 0, 0, 51), (72, 19, 35, 0), (999, 0, 0, 0), (999, 0, 0, 0), (21, 0, 7, 4), (999, 0, 0, 0), (0, 1, 0, 0), (130, 0, 0, 0), (21, 0, 7, 4), (999, 0, 0, 0), (0, 2, 0, 0), (130, 0, 0, 0), (21, 0, 7, 4), (999, 0, 0, 0), (0, 3, 0, 0), (130, 0, 0, 0), (21, 0, 7, 4), (999, 0, 0, 0), (0, 4, 0, 0), (130, 0, 0, 0), (0, 0, 0, 0), (130, 0, 0, 0)]
def zu_Lw_launch : List (Nat × List Bool) := []
set_option maxRecDepth 100000 in
theorem qe_Lw_launch {ρ : Type} (kr : Int → zH → Option ρ) (a0 a1 a2 a3 a4 a5 a6 : Int) (h : zH) : Lw_launch a0 a1 a2 a3 a4 a5 a6 h kr = zseg zPP true (zcal [(15, [none, none, none, none, none, none], fun xs h kr kt => match xs with
  | [x0, x1, x2, x3, x4, x5] => X_launch x0 x1 x2 x3 x4 x5 h kr kt
  | _ => none)]) (zget (999, 0, 0, 0) zc_Lw_launch) (zcut zu_Lw_launch) (zorc []) kr (fun _ _ => none) 400 0 [some (100, a0), some (0, a1), some (0, a2), some (0, a3), some (0, a4), some (0, a5), some (151, a6), none] [] h := by rfl
def zc_Lw_copy : List zI := [(15, 0, 6, 151), (999, 0, 0, 0), (0, 0, 0, 0), (14, 0, 0, 100), (10, 0, 1, 0), (10, 0, 2, 0), (10, 0, 3, 0), (11, 0, 4, 0), (999, 0, 0, 0), (11, 0, 5, 0), (999, 0, 0, 0), (118, 6, 39, 16), (999, 0, 0, 0), (999, 0, 0, 0), (42, 0, 0, 0), (98, 0, 0, 51), (72, 15, 31, 0), (999, 0, 0, 0), (999, 0, 0, 0), (21, 0, 7, 4), (999, 0, 0, 0), (0, 1, 0, 0), (130, 0, 0, 0), (21, 0, 7, 4), (999, 0, 0, 0), (0, 2, 0, 0), (130, 0, 0, 0), (21, 0, 7, 4), (999, 0, 0, 0), (0, 3, 0, 0), (130, 0, 0, 0), (0, 0, 0, 0), (130, 0, 0, 0)]
def zu_Lw_copy : List (Nat × List Bool) := []
set_option maxRecDepth 100000 in
theorem qe_Lw_copy {ρ : Type} (kr : Int → zH → Option ρ) (a0 a1 a2 a3 a4 a5 a6 : Int) (h : zH) : Lw_copy a0 a1 a2 a3 a4 a5 a6 h kr = zseg zPP true (zcal [(16, [none, none, none, none, none, none], fun xs h kr kt => match xs with
  | [x0, x1, x2, x3, x4, x5] => X_copy x0 x1 x2 x3 x4 x5 h kr kt
  | _ => none)]) (zget (999, 0, 0, 0) zc_Lw_copy) (zcut zu_Lw_copy) (zorc []) kr (fun _ _ => none) 400 0 [some (100, a0), some (0, a1), some (0, a2), some (0, a3), some (0, a4), some (0, a5), some (151, a6), none] [] h := by rfl
def zc_Lw_state : List zI := [(14, 0, 2, 151), (0, 0, 0, 0), (14, 0, 0, 100), (10, 0, 1, 0), (118, 7, 42, 18), (999, 0, 0, 0), (999, 0, 0, 0), (42, 0, 0, 0), (98, 0, 0, 51), (72, 6, 15, 0), (999, 0, 0, 0), (999, 0, 0, 0), (20, 0, 3, 4), (0, 1, 0, 0), (130, 0, 0, 0), (0, 0, 0, 0), (130, 0, 0, 0)]
def zu_Lw_state : List (Nat × List Bool) := []
set_option maxRecDepth 100000 in
theorem qe_Lw_state {ρ : Type} (kr : Int → zH → Option ρ) (a0 a1 a2 : Int) (h : zH) : Lw_state a0 a1 a2 h kr = zseg zPP true (zcal [(18, [none, none], fun xs h kr kt => match xs with
  | [x0, x1] => X_state x0 x1 h kr kt
  | _ => none)]) (zget (999, 0, 0, 0) zc_Lw_state) (zcut zu_Lw_state) (zorc []) kr (fun _ _ => none) 400 0 [some (100, a0), some (0, a1), some (151, a2), none] [] h := by rfl
def zc_Lw_parent : List zI := [(14, 0, 2, 151), (0, 0, 0, 0), (14, 0, 0, 100), (10, 0, 1, 0), (118, 8, 46, 19), (999, 0, 0, 0), (999, 0, 0, 0), (42, 0, 0, 0), (98, 0, 0, 51), (72, 9, 18, 0), (999, 0, 0, 0), (999, 0, 0, 0), (20, 0, 3, 4), (0, 1, 0, 0), (130, 0, 0, 0), (20, 0, 3, 4), (0, 2, 0, 0), (130, 0, 0, 0), (0, 0, 0, 0), (130, 0, 0, 0)]
def zu_Lw_parent : List (Nat × List Bool) := []
set_option maxRecDepth 100000 in
theorem qe_Lw_parent {ρ : Type} (kr : Int → zH → Option ρ) (a0 a1 a2 : Int) (h : zH) : Lw_parent a0 a1 a2 h kr = zseg zPP true (zcal [(19, [none, none], fun xs h kr kt => match xs with
  | [x0, x1] => X_parent x0 x1 h kr kt
  | _ => none)]) (zget (999, 0, 0, 0) zc_Lw_parent) (zcut zu_Lw_parent) (zorc []) kr (fun _ _ => none) 400 0 [some (100, a0), some (0, a1), some (151, a2), none] [] h := by rfl
def zc_Lw_given : List zI := [(14, 0, 2, 151), (0, 0, 0, 0), (14, 0, 0, 100), (10, 0, 1, 0), (118, 9, 51, 20), (999, 0, 0, 0), (999, 0, 0, 0), (42, 0, 0, 0), (98, 0, 0, 51), (72, 6, 15, 0), (999, 0, 0, 0), (999, 0, 0, 0), (20, 0, 3, 4), (0, 1, 0, 0), (130, 0, 0, 0), (0, 0, 0, 0), (130, 0, 0, 0)]
def zu_Lw_given : List (Nat × List Bool) := []
set_option maxRecDepth 100000 in
theorem qe_Lw_given {ρ : Type} (kr : Int → zH → Option ρ) (a0 a1 a2 : Int) (h : zH) : Lw_given a0 a1 a2 h kr = zseg zPP true (zcal [(20, [none, none], fun xs h kr kt => match xs with
  | [x0, x1] => X_given x0 x1 h kr kt
  | _ => none)]) (zget (999, 0, 0, 0) zc_Lw_given) (zcut zu_Lw_given) (zorc []) kr (fun _ _ => none) 400 0 [some (100, a0), some (0, a1), some (151, a2), none] [] h := by rfl
def zc_Lw_step : List zI := [(14, 0, 2, 151), (0, 0, 0, 0), (14, 0, 0, 100), (10, 0, 1, 0), (118, 10, 54, 21), (999, 0, 0, 0), (999, 0, 0, 0), (42, 0, 0, 0), (98, 0, 0, 51), (72, 6, 15, 0), (999, 0, 0, 0), (999, 0, 0, 0), (20, 0, 3, 4), (0, 1, 0, 0), (130, 0, 0, 0), (0, 0, 0, 0), (130, 0, 0, 0)]
def zu_Lw_step : List (Nat × List Bool) := []
set_option maxRecDepth 100000 in
theorem qe_Lw_step {ρ : Type} (kr : Int → zH → Option ρ) (a0 a1 a2 : Int) (h : zH) : Lw_step a0 a1 a2 h kr = zseg zPP true (zcal [(21, [none, none], fun xs h kr kt => match xs with
  | [x0, x1] => X_step x0 x1 h kr kt
  | _ => none)]) (zget (999, 0, 0, 0) zc_Lw_step) (zcut zu_Lw_step) (zorc []) kr (fun _ _ => none) 400 0 [some (100, a0), some (0, a1), some (151, a2), none] [] h := by rfl
def zc_Lw_run : List zI := [(14, 0, 2, 151), (0, 0, 0, 0), (14, 0, 0, 100), (10, 0, 1, 0), (118, 11, 57, 22), (999, 0, 0, 0), (999, 0, 0, 0), (42, 0, 0, 0), (98, 0, 0, 51), (72, 6, 15, 0), (999, 0, 0, 0), (999, 0, 0, 0), (20, 0, 3, 4), (0, 1, 0, 0), (130, 0, 0, 0), (0, 0, 0, 0), (130, 0, 0, 0)]
def zu_Lw_run : List (Nat × List Bool) := []
set_option maxRecDepth 100000 in
theorem qe_Lw_run {ρ : Type} (kr : Int → zH → Option ρ) (a0 a1 a2 : Int) (h : zH) : Lw_run a0 a1 a2 h kr = zseg zPP true (zcal [(22, [none, none], fun xs h kr kt => match xs with
  | [x0, x1] => X_run x0 x1 h kr kt
  | _ => none)]) (zget (999, 0, 0, 0) zc_Lw_run) (zcut zu_Lw_run) (zorc []) kr (fun _ _ => none) 400 0 [some (100, a0), some (0, a1), some (151, a2), none] [] h := by rfl
def zc_Lw_setOrder : List zI := [(14, 0, 2, 151), (0, 0, 0, 0), (14, 0, 0, 100), (10, 0, 1, 0), (118, 12, 60, 23), (999, 0, 0, 0), (999, 0, 0, 0), (42, 0, 0, 0), (98, 0, 0, 51), (72, 6, 15, 0), (999, 0, 0, 0), (999, 0, 0, 0), (20, 0, 3, 4), (0, 1, 0, 0), (130, 0, 0, 0), (0, 0, 0, 0), (130, 0, 0, 0)]
def zu_Lw_setOrder : List (Nat × List Bool) := []
set_option maxRecDepth 100000 in
theorem qe_Lw_setOrder {ρ : Type} (kr : Int → zH → Option ρ) (a0 a1 a2 : Int) (h : zH) : Lw_setOrder a0 a1 a2 h kr = zseg zPP true (zcal [(23, [none, none], fun xs h kr kt => match xs with
  | [x0, x1] => X_setOrder x0 x1 h kr kt
  | _ => none)]) (zget (999, 0, 0, 0) zc_Lw_setOrder) (zcut zu_Lw_setOrder) (zorc []) kr (fun _ _ => none) 400 0 [some (100, a0), some (0, a1), some (151, a2), none] [] h := by rfl
def zc_Lw_groups : List zI := [(14, 0, 2, 151), (0, 0, 0, 0), (14, 0, 0, 100), (10, 0, 1, 0), (118, 13, 64, 25), (999, 0, 0, 0), (999, 0, 0, 0), (42, 0, 0, 0), (98, 0, 0, 51), (72, 6, 15, 0), (999, 0, 0, 0), (999, 0, 0, 0), (20, 0, 3, 4), (0, 1, 0, 0), (130, 0, 0, 0), (0, 0, 0, 0), (130, 0, 0, 0)]
def zu_Lw_groups : List (Nat × List Bool) := []
set_option maxRecDepth 100000 in
theorem qe_Lw_groups {ρ : Type} (kr : Int → zH → Option ρ) (a0 a1 a2 : Int) (h : zH) : Lw_groups a0 a1 a2 h kr = zseg zPP true (zcal [(25, [none, none], fun xs h kr kt => match xs with
  | [x0, x1] => X_groups x0 x1 h kr kt
  | _ => none)]) (zget (999, 0, 0, 0) zc_Lw_groups) (zcut zu_Lw_groups) (zorc []) kr (fun _ _ => none) 400 0 [some (100, a0), some (0, a1), some (151, a2), none] [] h := by rfl
def zc_Lw_threadAt : List zI := [(14, 0, 3, 151), (0, 0, 0, 0), (14, 0, 0, 100), (10, 0, 1, 0), (10, 0, 2, 0), (118, 14, 67, 26), (999, 0, 0, 0), (999, 0, 0, 0), (42, 0, 0, 0), (98, 0, 0, 51), (72, 7, 17, 0), (999, 0, 0, 0), (999, 0, 0, 0), (21, 0, 4, 4), (999, 0, 0, 0), (0, 1, 0, 0), (130, 0, 0, 0), (0, 0, 0, 0), (130, 0, 0, 0)]
def zu_Lw_threadAt : List (Nat × List Bool) := []
set_option maxRecDepth 100000 in
theorem qe_Lw_threadAt {ρ : Type} (kr : Int → zH → Option ρ) (a0 a1 a2 a3 : Int) (h : zH) : Lw_threadAt a0 a1 a2 a3 h kr = zseg zPP true (zcal [(26, [none, none, none], fun xs h kr kt => match xs with
  | [x0, x1, x2] => X_threadAt x0 x1 x2 h kr kt
  | _ => none)]) (zget (999, 0, 0, 0) zc_Lw_threadAt) (zcut zu_Lw_threadAt) (zorc []) kr (fun _ _ => none) 400 0 [some (100, a0), some (0, a1), some (0, a2), some (151, a3), none] [] h := by rfl
def zc_Lw_place : List zI := [(14, 0, 3, 151), (0, 0, 0, 0), (14, 0, 0, 100), (10, 0, 1, 0), (10, 0, 2, 0), (118, 15, 70, 27), (999, 0, 0, 0), (999, 0, 0, 0), (42, 0, 0, 0), (98, 0, 0, 51), (72, 11, 21, 0), (999, 0, 0, 0), (999, 0, 0, 0), (21, 0, 4, 4), (999, 0, 0, 0), (0, 1, 0, 0), (130, 0, 0, 0), (21, 0, 4, 4), (999, 0, 0, 0), (0, 2, 0, 0), (130, 0, 0, 0), (0, 0, 0, 0), (130, 0, 0, 0)]
def zu_Lw_place : List (Nat × List Bool) := []
set_option maxRecDepth 100000 in
theorem qe_Lw_place {ρ : Type} (kr : Int → zH → Option ρ) (a0 a1 a2 a3 : Int) (h : zH) : Lw_place a0 a1 a2 a3 h kr = zseg zPP true (zcal [(27, [none, none, none], fun xs h kr kt => match xs with
  | [x0, x1, x2] => X_place x0 x1 x2 h kr kt
  | _ => none)]) (zget (999, 0, 0, 0) zc_Lw_place) (zcut zu_Lw_place) (zorc []) kr (fun _ _ => none) 400 0 [some (100, a0), some (0, a1), some (0, a2), some (151, a3), none] [] h := by rfl
def zc_Lw_mask : List zI := [(14, 0, 3, 151), (0, 0, 0, 0), (14, 0, 0, 100), (10, 0, 1, 0), (10, 0, 2, 0), (118, 16, 73, 28), (999, 0, 0, 0), (999, 0, 0, 0), (42, 0, 0, 0), (98, 0, 0, 51), (72, 7, 17, 0), (999, 0, 0, 0), (999, 0, 0, 0), (21, 0, 4, 4), (999, 0, 0, 0), (0, 1, 0, 0), (130, 0, 0, 0), (0, 0, 0, 0), (130, 0, 0, 0)]
def zu_Lw_mask : List (Nat × List Bool) := []
set_option maxRecDepth 100000 in
theorem qe_Lw_mask {ρ : Type} (kr : Int → zH → Option ρ) (a0 a1 a2 a3 : Int) (h : zH) : Lw_mask a0 a1 a2 a3 h kr = zseg zPP true (zcal [(28, [none, none, none], fun xs h kr kt => match xs with
  | [x0, x1, x2] => X_mask x0 x1 x2 h kr kt
  | _ => none)]) (zget (999, 0, 0, 0) zc_Lw_mask) (zcut zu_Lw_mask) (zorc []) kr (fun _ _ => none) 400 0 [some (100, a0), some (0, a1), some (0, a2), some (151, a3), none] [] h := by rfl
def zc_Lw_places : List zI := [(14, 0, 3, 151), (0, 0, 0, 0), (14, 0, 0, 100), (10, 0, 1, 0), (10, 0, 2, 0), (118, 17, 76, 29), (999, 0, 0, 0), (999, 0, 0, 0), (42, 0, 0, 0), (98, 0, 0, 51), (72, 7, 17, 0), (999, 0, 0, 0), (999, 0, 0, 0), (21, 0, 4, 4), (999, 0, 0, 0), (0, 1, 0, 0), (130, 0, 0, 0), (0, 0, 0, 0), (130, 0, 0, 0)]
def zu_Lw_places : List (Nat × List Bool) := []
set_option maxRecDepth 100000 in
theorem qe_Lw_places {ρ : Type} (kr : Int → zH → Option ρ) (a0 a1 a2 a3 : Int) (h : zH) : Lw_places a0 a1 a2 a3 h kr = zseg zPP true (zcal [(29, [none, none, none], fun xs h kr kt => match xs with
  | [x0, x1, x2] => X_places x0 x1 x2 h kr kt
  | _ => none)]) (zget (999, 0, 0, 0) zc_Lw_places) (zcut zu_Lw_places) (zorc []) kr (fun _ _ => none) 400 0 [some (100, a0), some (0, a1), some (0, a2), some (151, a3), none] [] h := by rfl
def zc_Lw_reason : List zI := [(14, 0, 3, 151), (0, 0, 0, 0), (14, 0, 0, 100), (10, 0, 1, 0), (10, 0, 2, 0), (118, 18, 79, 30), (999, 0, 0, 0), (999, 0, 0, 0), (42, 0, 0, 0), (98, 0, 0, 51), (72, 7, 17, 0), (999, 0, 0, 0), (999, 0, 0, 0), (21, 0, 4, 4), (999, 0, 0, 0), (0, 1, 0, 0), (130, 0, 0, 0), (0, 0, 0, 0), (130, 0, 0, 0)]
def zu_Lw_reason : List (Nat × List Bool) := []
set_option maxRecDepth 100000 in
theorem qe_Lw_reason {ρ : Type} (kr : Int → zH → Option ρ) (a0 a1 a2 a3 : Int) (h : zH) : Lw_reason a0 a1 a2 a3 h kr = zseg zPP true (zcal [(30, [none, none, none], fun xs h kr kt => match xs with
  | [x0, x1, x2] => X_reason x0 x1 x2 h kr kt
  | _ => none)]) (zget (999, 0, 0, 0) zc_Lw_reason) (zcut zu_Lw_reason) (zorc []) kr (fun _ _ => none) 400 0 [some (100, a0), some (0, a1), some (0, a2), some (151, a3), none] [] h := by rfl
def zc_Lw_register : List zI := [(15, 0, 5, 151), (999, 0, 0, 0), (0, 0, 0, 0), (14, 0, 0, 100), (10, 0, 1, 0), (10, 0, 2, 0), (10, 0, 3, 0), (11, 0, 4, 0), (999, 0, 0, 0), (118, 19, 83, 31), (999, 0, 0, 0), (999, 0, 0, 0), (42, 0, 0, 0), (98, 0, 0, 51), (72, 7, 21, 0), (999, 0, 0, 0), (999, 0, 0, 0), (21, 0, 6, 4), (999, 0, 0, 0), (0, 1, 0, 0), (130, 0, 0, 0), (0, 0, 0, 0), (130, 0, 0, 0)]
def zu_Lw_register : List (Nat × List Bool) := []
set_option maxRecDepth 100000 in
theorem qe_Lw_register {ρ : Type} (kr : Int → zH → Option ρ) (a0 a1 a2 a3 a4 a5 : Int) (h : zH) : Lw_register a0 a1 a2 a3 a4 a5 h kr = zseg zPP true (zcal [(31, [none, none, none, none, none], fun xs h kr kt => match xs with
  | [x0, x1, x2, x3, x4] => X_register x0 x1 x2 x3 x4 h kr kt
  | _ => none)]) (zget (999, 0, 0, 0) zc_Lw_register) (zcut zu_Lw_register) (zorc []) kr (fun _ _ => none) 400 0 [some (100, a0), some (0, a1), some (0, a2), some (0, a3), some (0, a4), some (151, a5), none] [] h := by rfl
def zc_Lw_shared : List zI := [(15, 0, 4, 151), (999, 0, 0, 0), (0, 0, 0, 0), (14, 0, 0, 100), (10, 0, 1, 0), (10, 0, 2, 0), (10, 0, 3, 0), (118, 20, 87, 32), (999, 0, 0, 0), (999, 0, 0, 0), (42, 0, 0, 0), (98, 0, 0, 51), (72, 7, 19, 0), (999, 0, 0, 0), (999, 0, 0, 0), (21, 0, 5, 4), (999, 0, 0, 0), (0, 1, 0, 0), (130, 0, 0, 0), (0, 0, 0, 0), (130, 0, 0, 0)]
def zu_Lw_shared : List (Nat × List Bool) := []
set_option maxRecDepth 100000 in
theorem qe_Lw_shared {ρ : Type} (kr : Int → zH → Option ρ) (a0 a1 a2 a3 a4 : Int) (h : zH) : Lw_shared a0 a1 a2 a3 a4 h kr = zseg zPP true (zcal [(32, [none, none, none, none], fun xs h kr kt => match xs with
  | [x0, x1, x2, x3] => X_shared x0 x1 x2 x3 h kr kt
  | _ => none)]) (zget (999, 0, 0, 0) zc_Lw_shared) (zcut zu_Lw_shared) (zorc []) kr (fun _ _ => none) 400 0 [some (100, a0), some (0, a1), some (0, a2), some (0, a3), some (151, a4), none] [] h := by rfl
def zc_Lw_buffered : List zI := [(14, 0, 3, 151), (0, 0, 0, 0), (14, 0, 0, 100), (10, 0, 1, 0), (10, 0, 2, 0), (118, 21, 91, 33), (999, 0, 0, 0), (999, 0, 0, 0), (42, 0, 0, 0), (98, 0, 0, 51), (72, 7, 17, 0), (999, 0, 0, 0), (999, 0, 0, 0), (21, 0, 4, 4), (999, 0, 0, 0), (0, 1, 0, 0), (130, 0, 0, 0), (0, 0, 0, 0), (130, 0, 0, 0)]
def zu_Lw_buffered : List (Nat × List Bool) := []
set_option maxRecDepth 100000 in
theorem qe_Lw_buffered {ρ : Type} (kr : Int → zH → Option ρ) (a0 a1 a2 a3 : Int) (h : zH) : Lw_buffered a0 a1 a2 a3 h kr = zseg zPP true (zcal [(33, [none, none, none], fun xs h kr kt => match xs with
  | [x0, x1, x2] => X_buffered x0 x1 x2 h kr kt
  | _ => none)]) (zget (999, 0, 0, 0) zc_Lw_buffered) (zcut zu_Lw_buffered) (zorc []) kr (fun _ _ => none) 400 0 [some (100, a0), some (0, a1), some (0, a2), some (151, a3), none] [] h := by rfl
def zc_Lw_fault : List zI := [(14, 0, 2, 151), (0, 0, 0, 0), (14, 0, 0, 100), (10, 0, 1, 0), (118, 22, 94, 34), (999, 0, 0, 0), (999, 0, 0, 0), (42, 0, 0, 0), (98, 0, 0, 51), (72, 9, 18, 0), (999, 0, 0, 0), (999, 0, 0, 0), (20, 0, 3, 4), (0, 1, 0, 0), (130, 0, 0, 0), (20, 0, 3, 4), (0, 2, 0, 0), (130, 0, 0, 0), (0, 0, 0, 0), (130, 0, 0, 0)]
def zu_Lw_fault : List (Nat × List Bool) := []
set_option maxRecDepth 100000 in
theorem qe_Lw_fault {ρ : Type} (kr : Int → zH → Option ρ) (a0 a1 a2 : Int) (h : zH) : Lw_fault a0 a1 a2 h kr = zseg zPP true (zcal [(34, [none, none], fun xs h kr kt => match xs with
  | [x0, x1] => X_fault x0 x1 h kr kt
  | _ => none)]) (zget (999, 0, 0, 0) zc_Lw_fault) (zcut zu_Lw_fault) (zorc []) kr (fun _ _ => none) 400 0 [some (100, a0), some (0, a1), some (151, a2), none] [] h := by rfl
def zc_Lw_faultAt : List zI := [(14, 0, 2, 151), (0, 0, 0, 0), (14, 0, 0, 100), (10, 0, 1, 0), (118, 23, 97, 35), (999, 0, 0, 0), (999, 0, 0, 0), (42, 0, 0, 0), (98, 0, 0, 51), (72, 9, 18, 0), (999, 0, 0, 0), (999, 0, 0, 0), (20, 0, 3, 4), (0, 1, 0, 0), (130, 0, 0, 0), (20, 0, 3, 4), (0, 2, 0, 0), (130, 0, 0, 0), (0, 0, 0, 0), (130, 0, 0, 0)]
def zu_Lw_faultAt : List (Nat × List Bool) := []
set_option maxRecDepth 100000 in
theorem qe_Lw_faultAt {ρ : Type} (kr : Int → zH → Option ρ) (a0 a1 a2 : Int) (h : zH) : Lw_faultAt a0 a1 a2 h kr = zseg zPP true (zcal [(35, [none, none], fun xs h kr kt => match xs with
  | [x0, x1] => X_faultAt x0 x1 h kr kt
  | _ => none)]) (zget (999, 0, 0, 0) zc_Lw_faultAt) (zcut zu_Lw_faultAt) (zorc []) kr (fun _ _ => none) 400 0 [some (100, a0), some (0, a1), some (151, a2), none] [] h := by rfl
def zc_Lw_isRacing : List zI := [(14, 0, 3, 151), (0, 0, 0, 0), (14, 0, 0, 100), (10, 0, 1, 0), (10, 0, 2, 0), (118, 24, 100, 36), (999, 0, 0, 0), (999, 0, 0, 0), (60, 7, 15, 0), (999, 0, 0, 0), (999, 0, 0, 0), (5, 1, 1, 0), (72, 4, 16, 0), (999, 0, 0, 0), (999, 0, 0, 0), (5, 0, 0, 0), (98, 0, 0, 51), (72, 7, 24, 0), (999, 0, 0, 0), (999, 0, 0, 0), (21, 0, 4, 4), (999, 0, 0, 0), (0, 1, 0, 0), (130, 0, 0, 0), (0, 0, 0, 0), (130, 0, 0, 0)]
def zu_Lw_isRacing : List (Nat × List Bool) := [(16, [false, false, false, false, false])]
set_option maxRecDepth 100000 in
theorem qe_Lw_isRacing_16 {ρ : Type} (kr : Int → zH → Option ρ) (t0 t1 t2 : Int) (h : zH) : Lw_isRacing_16 kr t0 t1 t2 h = zseg zPP true (zcal []) (zget (999, 0, 0, 0) zc_Lw_isRacing) (zcut zu_Lw_isRacing) (zorc []) kr (fun _ _ => none) 400 16 [none, none, none, none, none] [(1, t0), (0, t1), (151, t2)] h := by rfl
set_option maxRecDepth 100000 in
theorem qe_Lw_isRacing {ρ : Type} (kr : Int → zH → Option ρ) (a0 a1 a2 a3 : Int) (h : zH) : Lw_isRacing a0 a1 a2 a3 h kr = zseg zPP true (zcal [(36, [none, none, none], fun xs h kr kt => match xs with
  | [x0, x1, x2] => X_isRacing x0 x1 x2 h kr kt
  | _ => none)]) (zget (999, 0, 0, 0) zc_Lw_isRacing) (zcut zu_Lw_isRacing) (zorc [(16, [none, none, none, none, none], [(1, none), (0, none), (151, none)], fun xs h => match xs with
  | [t0, t1, t2] => Lw_isRacing_16 kr t0 t1 t2 h
  | _ => none)]) kr (fun _ _ => none) 400 0 [some (100, a0), some (0, a1), some (0, a2), some (151, a3), none] [] h := by rfl
def zc_Lw_races : List zI := [(14, 0, 2, 151), (0, 0, 0, 0), (14, 0, 0, 100), (10, 0, 1, 0), (118, 25, 104, 37), (999, 0, 0, 0), (999, 0, 0, 0), (42, 0, 0, 0), (98, 0, 0, 51), (72, 6, 15, 0), (999, 0, 0, 0), (999, 0, 0, 0), (20, 0, 3, 4), (0, 1, 0, 0), (130, 0, 0, 0), (0, 0, 0, 0), (130, 0, 0, 0)]
def zu_Lw_races : List (Nat × List Bool) := []
set_option maxRecDepth 100000 in
theorem qe_Lw_races {ρ : Type} (kr : Int → zH → Option ρ) (a0 a1 a2 : Int) (h : zH) : Lw_races a0 a1 a2 h kr = zseg zPP true (zcal [(37, [none, none], fun xs h kr kt => match xs with
  | [x0, x1] => X_races x0 x1 h kr kt
  | _ => none)]) (zget (999, 0, 0, 0) zc_Lw_races) (zcut zu_Lw_races) (zorc []) kr (fun _ _ => none) 400 0 [some (100, a0), some (0, a1), some (151, a2), none] [] h := by rfl
def zc_Lw_serial : List zI := [(15, 0, 6, 151), (999, 0, 0, 0), (0, 0, 0, 0), (14, 0, 0, 100), (10, 0, 1, 0), (10, 0, 2, 0), (10, 0, 3, 0), (11, 0, 4, 0), (999, 0, 0, 0), (11, 0, 5, 0), (999, 0, 0, 0), (118, 26, 107, 38), (999, 0, 0, 0), (999, 0, 0, 0), (42, 0, 0, 0), (98, 0, 0, 51), (72, 19, 35, 0), (999, 0, 0, 0), (999, 0, 0, 0), (21, 0, 7, 4), (999, 0, 0, 0), (0, 1, 0, 0), (130, 0, 0, 0), (21, 0, 7, 4), (999, 0, 0, 0), (0, 2, 0, 0), (130, 0, 0, 0), (21, 0, 7, 4), (999, 0, 0, 0), (0, 3, 0, 0), (130, 0, 0, 0), (21, 0, 7, 4), (999, 0, 0, 0), (0, 4, 0, 0), (130, 0, 0, 0), (0, 0, 0, 0), (130, 0, 0, 0)]
def zu_Lw_serial : List (Nat × List Bool) := []
set_option maxRecDepth 100000 in
theorem qe_Lw_serial {ρ : Type} (kr : Int → zH → Option ρ) (a0 a1 a2 a3 a4 a5 a6 : Int) (h : zH) : Lw_serial a0 a1 a2 a3 a4 a5 a6 h kr = zseg zPP true (zcal [(38, [none, none, none, none, none, none], fun xs h kr kt => match xs with
  | [x0, x1, x2, x3, x4, x5] => X_serial x0 x1 x2 x3 x4 x5 h kr kt
  | _ => none)]) (zget (999, 0, 0, 0) zc_Lw_serial) (zcut zu_Lw_serial) (zorc []) kr (fun _ _ => none) 400 0 [some (100, a0), some (0, a1), some (0, a2), some (0, a3), some (0, a4), some (0, a5), some (151, a6), none] [] h := by rfl
def zc_Lw_usedShare : List zI := [(14, 0, 1, 152), (0, 0, 0, 0), (14, 0, 0, 100), (118, 27, 111, 44), (999, 0, 0, 0), (999, 0, 0, 0), (148, 0, 0, 0), (159, 0, 0, 52), (72, 6, 14, 0), (999, 0, 0, 0), (999, 0, 0, 0), (20, 0, 2, 4), (0, 1, 0, 0), (130, 0, 0, 0), (0, 0, 0, 0), (130, 0, 0, 0)]
def zu_Lw_usedShare : List (Nat × List Bool) := []
set_option maxRecDepth 100000 in
theorem qe_Lw_usedShare {ρ : Type} (kr : Int → zH → Option ρ) (a0 a1 : Int) (h : zH) : Lw_usedShare a0 a1 h kr = zseg zPP true (zcal [(44, [none], fun xs h kr kt => match xs with
  | [x0] => X_usedShare x0 h kr kt
  | _ => none)]) (zget (999, 0, 0, 0) zc_Lw_usedShare) (zcut zu_Lw_usedShare) (zorc []) kr (fun _ _ => none) 400 0 [some (100, a0), some (152, a1), none] [] h := by rfl
def zc_Lw_meanDelay : List zI := [(14, 0, 1, 152), (0, 0, 0, 0), (14, 0, 0, 100), (118, 28, 117, 45), (999, 0, 0, 0), (999, 0, 0, 0), (159, 0, 0, 52), (72, 6, 13, 0), (999, 0, 0, 0), (999, 0, 0, 0), (20, 0, 2, 4), (0, 1, 0, 0), (130, 0, 0, 0), (0, 0, 0, 0), (130, 0, 0, 0)]
def zu_Lw_meanDelay : List (Nat × List Bool) := []
set_option maxRecDepth 100000 in
theorem qe_Lw_meanDelay {ρ : Type} (kr : Int → zH → Option ρ) (a0 a1 : Int) (h : zH) : Lw_meanDelay a0 a1 h kr = zseg zPP true (zcal [(45, [none], fun xs h kr kt => match xs with
  | [x0] => X_meanDelay x0 h kr kt
  | _ => none)]) (zget (999, 0, 0, 0) zc_Lw_meanDelay) (zcut zu_Lw_meanDelay) (zorc []) kr (fun _ _ => none) 400 0 [some (100, a0), some (152, a1), none] [] h := by rfl
def zc_Lw_law : List zI := [(103, 0, 8, 0), (999, 0, 0, 0), (999, 0, 0, 0), (50, 0, 0, 0), (115, 0, 121, 9), (999, 0, 0, 0), (999, 0, 0, 0), (20, 0, 1, 100), (103, 0, 122, 12), (999, 0, 0, 0), (999, 0, 0, 0), (50, 0, 0, 0), (115, 0, 124, 62), (999, 0, 0, 0), (999, 0, 0, 0), (20, 0, 2, 112), (0, 1, 0, 0), (101, 0, 0, 51), (999, 0, 0, 0), (20, 0, 3, 151), (0, 1, 0, 0), (101, 0, 0, 52), (999, 0, 0, 0), (21, 0, 4, 152), (999, 0, 0, 0), (0, 0, 0, 0), (17, 0, 5, 0), (999, 0, 0, 0), (11, 0, 5, 0), (999, 0, 0, 0), (14, 0, 0, 150), (106, 0, 0, 50), (1, 6, 0, 0), (999, 0, 0, 0), (31, 0, 0, 0), (70, 2326, 2361, 0), (999, 0, 0, 0), (999, 0, 0, 0), (14, 0, 0, 150), (11, 0, 5, 0), (999, 0, 0, 0), (105, 0, 0, 50), (1, 63, 0, 0), (999, 0, 0, 0), (36, 0, 0, 0), (78, 0, 2, 0), (999, 0, 0, 0), (999, 0, 0, 0), (999, 0, 0, 0), (999, 0, 0, 0), (999, 0, 0, 0), (999, 0, 0, 0), (999, 0, 0, 0), (999, 0, 0, 0), (999, 0, 0, 0), (999, 0, 0, 0), (999, 0, 0, 0), (999, 0, 0, 0), (999, 0, 0, 0), (999, 0, 0, 0), (999, 0, 0, 0), (999, 0, 0, 0), (999, 0, 0, 0), (999, 0, 0, 0), (999, 0, 0, 0), (999, 0, 0, 0), (999, 0, 0, 0), (999, 0, 0, 0), (999, 0, 0, 0), (999, 0, 0, 0), (999, 0, 0, 0), (999, 0, 0, 0), (999, 0, 0, 0), (999, 0, 0, 0), (999, 0, 0, 0), (999, 0, 0, 0), (999, 0, 0, 0), (999, 0, 0, 0), (999, 0, 0, 0), (999, 0, 0, 0), (999, 0, 0, 0), (999, 0, 0, 0), (999, 0, 0, 0), (999, 0, 0, 0), (999, 0, 0, 0), (999, 0, 0, 0), (999, 0, 0, 0), (999, 0, 0, 0), (999, 0, 0, 0), (999, 0, 0, 0), (999, 0, 0, 0), (999, 0, 0, 0), (999, 0, 0, 0), (999, 0, 0, 0), (999, 0, 0, 0), (999, 0, 0, 0), (999, 0, 0, 0), (999, 0, 0, 0), (999, 0, 0, 0), (999, 0, 0, 0), (999, 0, 0, 0), (999, 0, 0, 0), (999, 0, 0, 0), (999, 0, 0, 0), (999, 0, 0, 0), (999, 0, 0, 0), (999, 0, 0, 0), (999, 0, 0, 0), (999, 0, 0, 0), (999, 0, 0, 0), (999, 0, 0, 0), (999, 0, 0, 0), (999, 0, 0, 0), (999, 0, 0, 0), (999, 0, 0, 0), (999, 0, 0, 0), (999, 0, 0, 0), (999, 0, 0, 0), (999, 0, 0, 0), (999, 0, 0, 0), (999, 0, 0, 0), (999, 0, 0, 0), (999, 0, 0, 0), (999, 0, 0, 0), (999, 0, 0, 0), (999, 0, 0, 0), (999, 0, 0, 0), (999, 0, 0, 0), (999, 0, 0, 0), (999, 0, 0, 0), (999, 0, 0, 0), (999, 0, 0, 0), (999, 0, 0, 0), (999, 0, 0, 0), (999, 0, 0, 0), (999, 0, 0, 0), (999, 0, 0, 0), (999, 0, 0, 0), (999, 0, 0, 0), (999, 0, 0, 0), (999, 0, 0, 0), (999, 0, 0, 0), (999, 0, 0, 0), (999, 0, 0, 0), (999, 0, 0, 0), (999, 0, 0, 0), (999, 0, 0, 0), (999, 0, 0, 0), (999, 0, 0, 0), (999, 0, 0, 0), (999, 0, 0, 0), (999, 0, 0, 0), (999, 0, 0, 0), (999, 0, 0, 0), (999, 0, 0, 0), (999, 0, 0, 0), (999, 0, 0, 0), (999, 0, 0, 0), (999, 0, 0, 0), (999, 0, 0, 0), (999, 0, 0, 0), (999, 0, 0, 0), (999, 0, 0, 0), (999, 0, 0, 0), (999, 0, 0, 0), (999, 0, 0, 0), (999, 0, 0, 0), (999, 0, 0, 0), (999, 0, 0, 0), (999, 0, 0, 0), (999, 0, 0, 0), (999, 0, 0, 0), (999, 0, 0, 0), (999, 0, 0, 0), (999, 0, 0, 0), (999, 0, 0, 0), (999, 0, 0, 0), (999, 0, 0, 0), (999, 0, 0, 0), (999, 0, 0, 0), (999, 0, 0, 0), (999, 0, 0, 0), (999, 0, 0, 0), (999, 0, 0, 0), (999, 0, 0, 0), (999, 0, 0, 0), (999, 0, 0, 0), (999, 0, 0, 0), (999, 0, 0, 0), (999, 0, 0, 0), (999, 0, 0, 0), (999, 0, 0, 0), (999, 0, 0, 0), (999, 0, 0, 0), (999, 0, 0, 0), (999, 0, 0, 0), (999, 0, 0, 0), (999, 0, 0, 0), (999, 0, 0, 0), (999, 0, 0, 0), (999, 0, 0, 0), (999, 0, 0, 0), (999, 0, 0, 0), (999, 0, 0, 0), (999, 0, 0, 0), (999, 0, 0, 0), (999, 0, 0, 0), (999, 0, 0, 0), (14, 0, 1, 100), (14, 0, 0, 150), (11, 0, 5, 0), (999, 0, 0, 0), (0, 1, 0, 0), (30, 0, 0, 0), (105, 0, 0, 50), (14, 0, 0, 150), (11, 0, 5, 0), (999, 0, 0, 0), (0, 2, 0, 0), (30, 0, 0, 0), (105, 0, 0, 50), (14, 0, 3, 151), (113, 0, 125, 289), (999, 0, 0, 0), (999, 0, 0, 0), (17, 0, 6, 0), (999, 0, 0, 0), (14, 0, 2, 112), (14, 0, 0, 150), (11, 0, 5, 0), (999, 0, 0, 0), (0, 1, 0, 0), (30, 0, 0, 0), (105, 0, 0, 50), (14, 0, 0, 150), (11, 0, 5, 0), (999, 0, 0, 0), (0, 2, 0, 0), (30, 0, 0, 0), (105, 0, 0, 50), (110, 0, 130, 69), (999, 0, 0, 0), (999, 0, 0, 0), (17, 0, 7, 0), (999, 0, 0, 0), (14, 0, 2, 112), (110, 0, 131, 63), (999, 0, 0, 0), (999, 0, 0, 0), (11, 0, 6, 0), (999, 0, 0, 0), (66, 5, 256, 0), (999, 0, 0, 0), (999, 0, 0, 0), (0, 0, 0, 0), (130, 0, 1, 0), (11, 0, 6, 0), (999, 0, 0, 0), (61, 15, 273, 0), (999, 0, 0, 0), (999, 0, 0, 0), (14, 0, 3, 151), (0, 0, 0, 0), (93, 0, 0, 51), (11, 0, 7, 0), (999, 0, 0, 0), (42, 0, 0, 0), (48, 0, 0, 0), (60, 5, 273, 0), (999, 0, 0, 0), (999, 0, 0, 0), (0, 0, 0, 0), (130, 0, 1, 0), (72, 2082, 2355, 0), (999, 0, 0, 0), (999, 0, 0, 0), (14, 0, 1, 100), (14, 0, 0, 150), (11, 0, 5, 0), (999, 0, 0, 0), (0, 1, 0, 0), (30, 0, 0, 0), (105, 0, 0, 50), (14, 0, 0, 150), (11, 0, 5, 0), (999, 0, 0, 0), (0, 2, 0, 0), (30, 0, 0, 0), (105, 0, 0, 50), (44, 0, 0, 0), (14, 0, 0, 150), (11, 0, 5, 0), (999, 0, 0, 0), (0, 3, 0, 0), (30, 0, 0, 0), (105, 0, 0, 50), (14, 0, 0, 150), (11, 0, 5, 0), (999, 0, 0, 0), (0, 4, 0, 0), (30, 0, 0, 0), (105, 0, 0, 50), (14, 0, 0, 150), (11, 0, 5, 0), (999, 0, 0, 0), (0, 5, 0, 0), (30, 0, 0, 0), (105, 0, 0, 50), (14, 0, 3, 151), (113, 0, 135, 290), (999, 0, 0, 0), (999, 0, 0, 0), (17, 0, 6, 0), (999, 0, 0, 0), (14, 0, 2, 112), (14, 0, 0, 150), (11, 0, 5, 0), (999, 0, 0, 0), (0, 1, 0, 0), (30, 0, 0, 0), (105, 0, 0, 50), (14, 0, 0, 150), (11, 0, 5, 0), (999, 0, 0, 0), (0, 2, 0, 0), (30, 0, 0, 0), (105, 0, 0, 50), (44, 0, 0, 0), (14, 0, 0, 150), (11, 0, 5, 0), (999, 0, 0, 0), (0, 3, 0, 0), (30, 0, 0, 0), (105, 0, 0, 50), (14, 0, 0, 150), (11, 0, 5, 0), (999, 0, 0, 0), (0, 4, 0, 0), (30, 0, 0, 0), (105, 0, 0, 50), (14, 0, 0, 150), (11, 0, 5, 0), (999, 0, 0, 0), (0, 5, 0, 0), (30, 0, 0, 0), (105, 0, 0, 50), (110, 0, 138, 71), (999, 0, 0, 0), (999, 0, 0, 0), (17, 0, 7, 0), (999, 0, 0, 0), (14, 0, 2, 112), (110, 0, 131, 63), (999, 0, 0, 0), (999, 0, 0, 0), (11, 0, 6, 0), (999, 0, 0, 0), (66, 5, 362, 0), (999, 0, 0, 0), (999, 0, 0, 0), (0, 0, 0, 0), (130, 0, 1, 0), (11, 0, 6, 0), (999, 0, 0, 0), (61, 15, 379, 0), (999, 0, 0, 0), (999, 0, 0, 0), (14, 0, 3, 151), (0, 0, 0, 0), (93, 0, 0, 51), (11, 0, 7, 0), (999, 0, 0, 0), (42, 0, 0, 0), (48, 0, 0, 0), (60, 5, 379, 0), (999, 0, 0, 0), (999, 0, 0, 0), (0, 0, 0, 0), (130, 0, 1, 0), (72, 1976, 2355, 0), (999, 0, 0, 0), (999, 0, 0, 0), (14, 0, 1, 100), (14, 0, 0, 150), (11, 0, 5, 0), (999, 0, 0, 0), (0, 1, 0, 0), (30, 0, 0, 0), (105, 0, 0, 50), (14, 0, 0, 150), (11, 0, 5, 0), (999, 0, 0, 0), (0, 2, 0, 0), (30, 0, 0, 0), (105, 0, 0, 50), (14, 0, 3, 151), (113, 0, 139, 291), (999, 0, 0, 0), (999, 0, 0, 0), (17, 0, 6, 0), (999, 0, 0, 0), (14, 0, 2, 112), (14, 0, 0, 150), (11, 0, 5, 0), (999, 0, 0, 0), (0, 1, 0, 0), (30, 0, 0, 0), (105, 0, 0, 50), (14, 0, 0, 150), (11, 0, 5, 0), (999, 0, 0, 0), (0, 2, 0, 0), (30, 0, 0, 0), (105, 0, 0, 50), (110, 0, 141, 75), (999, 0, 0, 0), (999, 0, 0, 0), (17, 0, 7, 0), (999, 0, 0, 0), (14, 0, 2, 112), (110, 0, 131, 63), (999, 0, 0, 0), (999, 0, 0, 0), (11, 0, 6, 0), (999, 0, 0, 0), (66, 5, 430, 0), (999, 0, 0, 0), (999, 0, 0, 0), (0, 0, 0, 0), (130, 0, 1, 0), (11, 0, 6, 0), (999, 0, 0, 0), (61, 15, 447, 0), (999, 0, 0, 0), (999, 0, 0, 0), (14, 0, 3, 151), (0, 0, 0, 0), (93, 0, 0, 51), (11, 0, 7, 0), (999, 0, 0, 0), (42, 0, 0, 0), (48, 0, 0, 0), (60, 5, 447, 0), (999, 0, 0, 0), (999, 0, 0, 0), (0, 0, 0, 0), (130, 0, 1, 0), (72, 1908, 2355, 0), (999, 0, 0, 0), (999, 0, 0, 0), (14, 0, 1, 100), (14, 0, 0, 150), (11, 0, 5, 0), (999, 0, 0, 0), (0, 1, 0, 0), (30, 0, 0, 0), (105, 0, 0, 50), (14, 0, 0, 150), (11, 0, 5, 0), (999, 0, 0, 0), (0, 2, 0, 0), (30, 0, 0, 0), (105, 0, 0, 50), (14, 0, 3, 151), (113, 0, 142, 292), (999, 0, 0, 0), (999, 0, 0, 0), (17, 0, 6, 0), (999, 0, 0, 0), (14, 0, 2, 112), (14, 0, 0, 150), (11, 0, 5, 0), (999, 0, 0, 0), (0, 1, 0, 0), (30, 0, 0, 0), (105, 0, 0, 50), (14, 0, 0, 150), (11, 0, 5, 0), (999, 0, 0, 0), (0, 2, 0, 0), (30, 0, 0, 0), (105, 0, 0, 50), (110, 0, 144, 76), (999, 0, 0, 0), (999, 0, 0, 0), (17, 0, 7, 0), (999, 0, 0, 0), (14, 0, 2, 112), (110, 0, 131, 63), (999, 0, 0, 0), (999, 0, 0, 0), (11, 0, 6, 0), (999, 0, 0, 0), (66, 5, 498, 0), (999, 0, 0, 0), (999, 0, 0, 0), (0, 0, 0, 0), (130, 0, 1, 0), (11, 0, 6, 0), (999, 0, 0, 0), (61, 15, 515, 0), (999, 0, 0, 0), (999, 0, 0, 0), (14, 0, 3, 151), (0, 0, 0, 0), (93, 0, 0, 51), (11, 0, 7, 0), (999, 0, 0, 0), (42, 0, 0, 0), (48, 0, 0, 0), (60, 5, 515, 0), (999, 0, 0, 0), (999, 0, 0, 0), (0, 0, 0, 0), (130, 0, 1, 0), (72, 1840, 2355, 0), (999, 0, 0, 0), (999, 0, 0, 0), (14, 0, 1, 100), (14, 0, 0, 150), (11, 0, 5, 0), (999, 0, 0, 0), (0, 1, 0, 0), (30, 0, 0, 0), (105, 0, 0, 50), (14, 0, 3, 151), (113, 0, 145, 293), (999, 0, 0, 0), (999, 0, 0, 0), (17, 0, 6, 0), (999, 0, 0, 0), (14, 0, 2, 112), (14, 0, 0, 150), (11, 0, 5, 0), (999, 0, 0, 0), (0, 1, 0, 0), (30, 0, 0, 0), (105, 0, 0, 50), (110, 0, 148, 77), (999, 0, 0, 0), (999, 0, 0, 0), (17, 0, 7, 0), (999, 0, 0, 0), (14, 0, 2, 112), (110, 0, 131, 63), (999, 0, 0, 0), (999, 0, 0, 0), (11, 0, 6, 0), (999, 0, 0, 0), (66, 5, 554, 0), (999, 0, 0, 0), (999, 0, 0, 0), (0, 0, 0, 0), (130, 0, 1, 0), (11, 0, 6, 0), (999, 0, 0, 0), (61, 15, 571, 0), (999, 0, 0, 0), (999, 0, 0, 0), (14, 0, 3, 151), (0, 0, 0, 0), (93, 0, 0, 51), (11, 0, 7, 0), (999, 0, 0, 0), (42, 0, 0, 0), (48, 0, 0, 0), (60, 5, 571, 0), (999, 0, 0, 0), (999, 0, 0, 0), (0, 0, 0, 0), (130, 0, 1, 0), (72, 1784, 2355, 0), (999, 0, 0, 0), (999, 0, 0, 0), (14, 0, 1, 100), (14, 0, 0, 150), (11, 0, 5, 0), (999, 0, 0, 0), (0, 1, 0, 0), (30, 0, 0, 0), (105, 0, 0, 50), (14, 0, 0, 150), (11, 0, 5, 0), (999, 0, 0, 0), (0, 2, 0, 0), (30, 0, 0, 0), (105, 0, 0, 50), (14, 0, 0, 150), (11, 0, 5, 0), (999, 0, 0, 0), (0, 3, 0, 0), (30, 0, 0, 0), (105, 0, 0, 50), (14, 0, 0, 150), (11, 0, 5, 0), (999, 0, 0, 0), (0, 4, 0, 0), (30, 0, 0, 0), (105, 0, 0, 50), (14, 0, 0, 150), (11, 0, 5, 0), (999, 0, 0, 0), (0, 5, 0, 0), (30, 0, 0, 0), (105, 0, 0, 50), (14, 0, 3, 151), (113, 0, 149, 294), (999, 0, 0, 0), (999, 0, 0, 0), (17, 0, 6, 0), (999, 0, 0, 0), (14, 0, 2, 112), (14, 0, 0, 150), (11, 0, 5, 0), (999, 0, 0, 0), (0, 1, 0, 0), (30, 0, 0, 0), (105, 0, 0, 50), (14, 0, 0, 150), (11, 0, 5, 0), (999, 0, 0, 0), (0, 2, 0, 0), (30, 0, 0, 0), (105, 0, 0, 50), (14, 0, 0, 150), (11, 0, 5, 0), (999, 0, 0, 0), (0, 3, 0, 0), (30, 0, 0, 0), (105, 0, 0, 50), (14, 0, 0, 150), (11, 0, 5, 0), (999, 0, 0, 0), (0, 4, 0, 0), (30, 0, 0, 0), (105, 0, 0, 50), (14, 0, 0, 150), (11, 0, 5, 0), (999, 0, 0, 0), (0, 5, 0, 0), (30, 0, 0, 0), (105, 0, 0, 50), (110, 0, 152, 80), (999, 0, 0, 0), (999, 0, 0, 0), (17, 0, 7, 0), (999, 0, 0, 0), (14, 0, 2, 112), (110, 0, 131, 63), (999, 0, 0, 0), (999, 0, 0, 0), (11, 0, 6, 0), (999, 0, 0, 0), (66, 5, 658, 0), (999, 0, 0, 0), (999, 0, 0, 0), (0, 0, 0, 0), (130, 0, 1, 0), (11, 0, 6, 0), (999, 0, 0, 0), (61, 15, 675, 0), (999, 0, 0, 0), (999, 0, 0, 0), (14, 0, 3, 151), (0, 0, 0, 0), (93, 0, 0, 51), (11, 0, 7, 0), (999, 0, 0, 0), (42, 0, 0, 0), (48, 0, 0, 0), (60, 5, 675, 0), (999, 0, 0, 0), (999, 0, 0, 0), (0, 0, 0, 0), (130, 0, 1, 0), (72, 1680, 2355, 0), (999, 0, 0, 0), (999, 0, 0, 0), (14, 0, 1, 100), (14, 0, 0, 150), (11, 0, 5, 0), (999, 0, 0, 0), (0, 1, 0, 0), (30, 0, 0, 0), (105, 0, 0, 50), (14, 0, 0, 150), (11, 0, 5, 0), (999, 0, 0, 0), (0, 2, 0, 0), (30, 0, 0, 0), (105, 0, 0, 50), (14, 0, 0, 150), (11, 0, 5, 0), (999, 0, 0, 0), (0, 3, 0, 0), (30, 0, 0, 0), (105, 0, 0, 50), (14, 0, 0, 150), (11, 0, 5, 0), (999, 0, 0, 0), (0, 4, 0, 0), (30, 0, 0, 0), (105, 0, 0, 50), (14, 0, 0, 150), (11, 0, 5, 0), (999, 0, 0, 0), (0, 5, 0, 0), (30, 0, 0, 0), (105, 0, 0, 50), (14, 0, 3, 151), (113, 0, 153, 295), (999, 0, 0, 0), (999, 0, 0, 0), (17, 0, 6, 0), (999, 0, 0, 0), (14, 0, 2, 112), (14, 0, 0, 150), (11, 0, 5, 0), (999, 0, 0, 0), (0, 1, 0, 0), (30, 0, 0, 0), (105, 0, 0, 50), (14, 0, 0, 150), (11, 0, 5, 0), (999, 0, 0, 0), (0, 2, 0, 0), (30, 0, 0, 0), (105, 0, 0, 50), (14, 0, 0, 150), (11, 0, 5, 0), (999, 0, 0, 0), (0, 3, 0, 0), (30, 0, 0, 0), (105, 0, 0, 50), (14, 0, 0, 150), (11, 0, 5, 0), (999, 0, 0, 0), (0, 4, 0, 0), (30, 0, 0, 0), (105, 0, 0, 50), (14, 0, 0, 150), (11, 0, 5, 0), (999, 0, 0, 0), (0, 5, 0, 0), (30, 0, 0, 0), (105, 0, 0, 50), (110, 0, 155, 81), (999, 0, 0, 0), (999, 0, 0, 0), (17, 0, 7, 0), (999, 0, 0, 0), (14, 0, 2, 112), (110, 0, 131, 63), (999, 0, 0, 0), (999, 0, 0, 0), (11, 0, 6, 0), (999, 0, 0, 0), (66, 5, 762, 0), (999, 0, 0, 0), (999, 0, 0, 0), (0, 0, 0, 0), (130, 0, 1, 0), (11, 0, 6, 0), (999, 0, 0, 0), (61, 15, 779, 0), (999, 0, 0, 0), (999, 0, 0, 0), (14, 0, 3, 151), (0, 0, 0, 0), (93, 0, 0, 51), (11, 0, 7, 0), (999, 0, 0, 0), (42, 0, 0, 0), (48, 0, 0, 0), (60, 5, 779, 0), (999, 0, 0, 0), (999, 0, 0, 0), (0, 0, 0, 0), (130, 0, 1, 0), (72, 1576, 2355, 0), (999, 0, 0, 0), (999, 0, 0, 0), (14, 0, 1, 100), (110, 0, 156, 17), (999, 0, 0, 0), (999, 0, 0, 0), (14, 0, 2, 112), (110, 0, 159, 83), (999, 0, 0, 0), (999, 0, 0, 0), (66, 1565, 2355, 0), (999, 0, 0, 0), (999, 0, 0, 0), (0, 0, 0, 0), (130, 0, 1, 0), (14, 0, 1, 100), (14, 0, 0, 150), (11, 0, 5, 0), (999, 0, 0, 0), (0, 1, 0, 0), (30, 0, 0, 0), (105, 0, 0, 50), (14, 0, 3, 151), (113, 0, 160, 296), (999, 0, 0, 0), (999, 0, 0, 0), (17, 0, 6, 0), (999, 0, 0, 0), (14, 0, 2, 112), (14, 0, 0, 150), (11, 0, 5, 0), (999, 0, 0, 0), (0, 1, 0, 0), (30, 0, 0, 0), (105, 0, 0, 50), (110, 0, 162, 84), (999, 0, 0, 0), (999, 0, 0, 0), (17, 0, 7, 0), (999, 0, 0, 0), (14, 0, 2, 112), (110, 0, 131, 63), (999, 0, 0, 0), (999, 0, 0, 0), (11, 0, 6, 0), (999, 0, 0, 0), (66, 5, 831, 0), (999, 0, 0, 0), (999, 0, 0, 0), (0, 0, 0, 0), (130, 0, 1, 0), (11, 0, 6, 0), (999, 0, 0, 0), (61, 15, 848, 0), (999, 0, 0, 0), (999, 0, 0, 0), (14, 0, 3, 151), (0, 0, 0, 0), (93, 0, 0, 51), (11, 0, 7, 0), (999, 0, 0, 0), (42, 0, 0, 0), (48, 0, 0, 0), (60, 5, 848, 0), (999, 0, 0, 0), (999, 0, 0, 0), (0, 0, 0, 0), (130, 0, 1, 0), (72, 1507, 2355, 0), (999, 0, 0, 0), (999, 0, 0, 0), (14, 0, 1, 100), (14, 0, 0, 150), (11, 0, 5, 0), (999, 0, 0, 0), (0, 1, 0, 0), (30, 0, 0, 0), (105, 0, 0, 50), (14, 0, 3, 151), (113, 0, 163, 297), (999, 0, 0, 0), (999, 0, 0, 0), (17, 0, 6, 0), (999, 0, 0, 0), (14, 0, 2, 112), (14, 0, 0, 150), (11, 0, 5, 0), (999, 0, 0, 0), (0, 1, 0, 0), (30, 0, 0, 0), (105, 0, 0, 50), (110, 0, 165, 85), (999, 0, 0, 0), (999, 0, 0, 0), (17, 0, 7, 0), (999, 0, 0, 0), (14, 0, 2, 112), (110, 0, 131, 63), (999, 0, 0, 0), (999, 0, 0, 0), (11, 0, 6, 0), (999, 0, 0, 0), (66, 5, 887, 0), (999, 0, 0, 0), (999, 0, 0, 0), (0, 0, 0, 0), (130, 0, 1, 0), (11, 0, 6, 0), (999, 0, 0, 0), (61, 15, 904, 0), (999, 0, 0, 0), (999, 0, 0, 0), (14, 0, 3, 151), (0, 0, 0, 0), (93, 0, 0, 51), (11, 0, 7, 0), (999, 0, 0, 0), (42, 0, 0, 0), (48, 0, 0, 0), (60, 5, 904, 0), (999, 0, 0, 0), (999, 0, 0, 0), (0, 0, 0, 0), (130, 0, 1, 0), (72, 1451, 2355, 0), (999, 0, 0, 0), (999, 0, 0, 0), (14, 0, 1, 100), (14, 0, 0, 150), (11, 0, 5, 0), (999, 0, 0, 0), (0, 1, 0, 0), (30, 0, 0, 0), (105, 0, 0, 50), (14, 0, 3, 151), (113, 0, 166, 298), (999, 0, 0, 0), (999, 0, 0, 0), (17, 0, 6, 0), (999, 0, 0, 0), (14, 0, 2, 112), (14, 0, 0, 150), (11, 0, 5, 0), (999, 0, 0, 0), (0, 1, 0, 0), (30, 0, 0, 0), (105, 0, 0, 50), (110, 0, 168, 86), (999, 0, 0, 0), (999, 0, 0, 0), (17, 0, 7, 0), (999, 0, 0, 0), (14, 0, 2, 112), (110, 0, 131, 63), (999, 0, 0, 0), (999, 0, 0, 0), (11, 0, 6, 0), (999, 0, 0, 0), (66, 5, 943, 0), (999, 0, 0, 0), (999, 0, 0, 0), (0, 0, 0, 0), (130, 0, 1, 0), (11, 0, 6, 0), (999, 0, 0, 0), (61, 15, 960, 0), (999, 0, 0, 0), (999, 0, 0, 0), (14, 0, 3, 151), (0, 0, 0, 0), (93, 0, 0, 51), (11, 0, 7, 0), (999, 0, 0, 0), (42, 0, 0, 0), (48, 0, 0, 0), (60, 5, 960, 0), (999, 0, 0, 0), (999, 0, 0, 0), (0, 0, 0, 0), (130, 0, 1, 0), (72, 1395, 2355, 0), (999, 0, 0, 0), (999, 0, 0, 0), (14, 0, 1, 100), (14, 0, 0, 150), (11, 0, 5, 0), (999, 0, 0, 0), (0, 1, 0, 0), (30, 0, 0, 0), (105, 0, 0, 50), (14, 0, 3, 151), (113, 0, 169, 299), (999, 0, 0, 0), (999, 0, 0, 0), (17, 0, 6, 0), (999, 0, 0, 0), (14, 0, 2, 112), (14, 0, 0, 150), (11, 0, 5, 0), (999, 0, 0, 0), (0, 1, 0, 0), (30, 0, 0, 0), (105, 0, 0, 50), (110, 0, 171, 137), (999, 0, 0, 0), (999, 0, 0, 0), (17, 0, 7, 0), (999, 0, 0, 0), (14, 0, 2, 112), (110, 0, 131, 63), (999, 0, 0, 0), (999, 0, 0, 0), (11, 0, 6, 0), (999, 0, 0, 0), (66, 5, 999, 0), (999, 0, 0, 0), (999, 0, 0, 0), (0, 0, 0, 0), (130, 0, 1, 0), (11, 0, 6, 0), (999, 0, 0, 0), (61, 15, 1016, 0), (999, 0, 0, 0), (999, 0, 0, 0), (14, 0, 3, 151), (0, 0, 0, 0), (93, 0, 0, 51), (11, 0, 7, 0), (999, 0, 0, 0), (42, 0, 0, 0), (48, 0, 0, 0), (60, 5, 1016, 0), (999, 0, 0, 0), (999, 0, 0, 0), (0, 0, 0, 0), (130, 0, 1, 0), (72, 1339, 2355, 0), (999, 0, 0, 0), (999, 0, 0, 0), (14, 0, 1, 100), (14, 0, 0, 150), (11, 0, 5, 0), (999, 0, 0, 0), (0, 1, 0, 0), (30, 0, 0, 0), (105, 0, 0, 50), (14, 0, 3, 151), (113, 0, 172, 300), (999, 0, 0, 0), (999, 0, 0, 0), (17, 0, 6, 0), (999, 0, 0, 0), (14, 0, 2, 112), (14, 0, 0, 150), (11, 0, 5, 0), (999, 0, 0, 0), (0, 1, 0, 0), (30, 0, 0, 0), (105, 0, 0, 50), (110, 0, 174, 139), (999, 0, 0, 0), (999, 0, 0, 0), (17, 0, 7, 0), (999, 0, 0, 0), (14, 0, 2, 112), (110, 0, 131, 63), (999, 0, 0, 0), (999, 0, 0, 0), (11, 0, 6, 0), (999, 0, 0, 0), (66, 5, 1055, 0), (999, 0, 0, 0), (999, 0, 0, 0), (0, 0, 0, 0), (130, 0, 1, 0), (11, 0, 6, 0), (999, 0, 0, 0), (61, 15, 1072, 0), (999, 0, 0, 0), (999, 0, 0, 0), (14, 0, 3, 151), (0, 0, 0, 0), (93, 0, 0, 51), (11, 0, 7, 0), (999, 0, 0, 0), (42, 0, 0, 0), (48, 0, 0, 0), (60, 5, 1072, 0), (999, 0, 0, 0), (999, 0, 0, 0), (0, 0, 0, 0), (130, 0, 1, 0), (72, 1283, 2355, 0), (999, 0, 0, 0), (999, 0, 0, 0), (14, 0, 1, 100), (14, 0, 0, 150), (11, 0, 5, 0), (999, 0, 0, 0), (0, 1, 0, 0), (30, 0, 0, 0), (105, 0, 0, 50), (44, 0, 0, 0), (14, 0, 3, 151), (113, 0, 175, 301), (999, 0, 0, 0), (999, 0, 0, 0), (17, 0, 6, 0), (999, 0, 0, 0), (14, 0, 2, 112), (14, 0, 0, 150), (11, 0, 5, 0), (999, 0, 0, 0), (0, 1, 0, 0), (30, 0, 0, 0), (105, 0, 0, 50), (44, 0, 0, 0), (110, 0, 178, 140), (999, 0, 0, 0), (999, 0, 0, 0), (17, 0, 7, 0), (999, 0, 0, 0), (14, 0, 2, 112), (110, 0, 131, 63), (999, 0, 0, 0), (999, 0, 0, 0), (11, 0, 6, 0), (999, 0, 0, 0), (66, 5, 1113, 0), (999, 0, 0, 0), (999, 0, 0, 0), (0, 0, 0, 0), (130, 0, 1, 0), (11, 0, 6, 0), (999, 0, 0, 0), (61, 15, 1130, 0), (999, 0, 0, 0), (999, 0, 0, 0), (14, 0, 3, 151), (0, 0, 0, 0), (93, 0, 0, 51), (11, 0, 7, 0), (999, 0, 0, 0), (42, 0, 0, 0), (48, 0, 0, 0), (60, 5, 1130, 0), (999, 0, 0, 0), (999, 0, 0, 0), (0, 0, 0, 0), (130, 0, 1, 0), (72, 1225, 2355, 0), (999, 0, 0, 0), (999, 0, 0, 0), (14, 0, 1, 100), (110, 0, 179, 24), (999, 0, 0, 0), (999, 0, 0, 0), (14, 0, 2, 112), (110, 0, 182, 141), (999, 0, 0, 0), (999, 0, 0, 0), (66, 1214, 2355, 0), (999, 0, 0, 0), (999, 0, 0, 0), (0, 0, 0, 0), (130, 0, 1, 0), (14, 0, 1, 100), (14, 0, 0, 150), (11, 0, 5, 0), (999, 0, 0, 0), (0, 1, 0, 0), (30, 0, 0, 0), (105, 0, 0, 50), (14, 0, 3, 151), (113, 0, 183, 302), (999, 0, 0, 0), (999, 0, 0, 0), (17, 0, 6, 0), (999, 0, 0, 0), (14, 0, 2, 112), (14, 0, 0, 150), (11, 0, 5, 0), (999, 0, 0, 0), (0, 1, 0, 0), (30, 0, 0, 0), (105, 0, 0, 50), (110, 0, 185, 144), (999, 0, 0, 0), (999, 0, 0, 0), (17, 0, 7, 0), (999, 0, 0, 0), (14, 0, 2, 112), (110, 0, 131, 63), (999, 0, 0, 0), (999, 0, 0, 0), (11, 0, 6, 0), (999, 0, 0, 0), (66, 5, 1182, 0), (999, 0, 0, 0), (999, 0, 0, 0), (0, 0, 0, 0), (130, 0, 1, 0), (11, 0, 6, 0), (999, 0, 0, 0), (61, 15, 1199, 0), (999, 0, 0, 0), (999, 0, 0, 0), (14, 0, 3, 151), (0, 0, 0, 0), (93, 0, 0, 51), (11, 0, 7, 0), (999, 0, 0, 0), (42, 0, 0, 0), (48, 0, 0, 0), (60, 5, 1199, 0), (999, 0, 0, 0), (999, 0, 0, 0), (0, 0, 0, 0), (130, 0, 1, 0), (72, 1156, 2355, 0), (999, 0, 0, 0), (999, 0, 0, 0), (14, 0, 1, 100), (14, 0, 0, 150), (11, 0, 5, 0), (999, 0, 0, 0), (0, 1, 0, 0), (30, 0, 0, 0), (105, 0, 0, 50), (14, 0, 0, 150), (11, 0, 5, 0), (999, 0, 0, 0), (0, 2, 0, 0), (30, 0, 0, 0), (105, 0, 0, 50), (14, 0, 3, 151), (113, 0, 186, 303), (999, 0, 0, 0), (999, 0, 0, 0), (17, 0, 6, 0), (999, 0, 0, 0), (14, 0, 2, 112), (14, 0, 0, 150), (11, 0, 5, 0), (999, 0, 0, 0), (0, 1, 0, 0), (30, 0, 0, 0), (105, 0, 0, 50), (14, 0, 0, 150), (11, 0, 5, 0), (999, 0, 0, 0), (0, 2, 0, 0), (30, 0, 0, 0), (105, 0, 0, 50), (110, 0, 188, 145), (999, 0, 0, 0), (999, 0, 0, 0), (17, 0, 7, 0), (999, 0, 0, 0), (14, 0, 2, 112), (110, 0, 131, 63), (999, 0, 0, 0), (999, 0, 0, 0), (11, 0, 6, 0), (999, 0, 0, 0), (66, 5, 1250, 0), (999, 0, 0, 0), (999, 0, 0, 0), (0, 0, 0, 0), (130, 0, 1, 0), (11, 0, 6, 0), (999, 0, 0, 0), (61, 15, 1267, 0), (999, 0, 0, 0), (999, 0, 0, 0), (14, 0, 3, 151), (0, 0, 0, 0), (93, 0, 0, 51), (11, 0, 7, 0), (999, 0, 0, 0), (42, 0, 0, 0), (48, 0, 0, 0), (60, 5, 1267, 0), (999, 0, 0, 0), (999, 0, 0, 0), (0, 0, 0, 0), (130, 0, 1, 0), (72, 1088, 2355, 0), (999, 0, 0, 0), (999, 0, 0, 0), (14, 0, 1, 100), (14, 0, 0, 150), (11, 0, 5, 0), (999, 0, 0, 0), (0, 1, 0, 0), (30, 0, 0, 0), (105, 0, 0, 50), (14, 0, 0, 150), (11, 0, 5, 0), (999, 0, 0, 0), (0, 2, 0, 0), (30, 0, 0, 0), (105, 0, 0, 50), (14, 0, 3, 151), (113, 0, 189, 304), (999, 0, 0, 0), (999, 0, 0, 0), (17, 0, 6, 0), (999, 0, 0, 0), (14, 0, 2, 112), (14, 0, 0, 150), (11, 0, 5, 0), (999, 0, 0, 0), (0, 1, 0, 0), (30, 0, 0, 0), (105, 0, 0, 50), (14, 0, 0, 150), (11, 0, 5, 0), (999, 0, 0, 0), (0, 2, 0, 0), (30, 0, 0, 0), (105, 0, 0, 50), (110, 0, 191, 146), (999, 0, 0, 0), (999, 0, 0, 0), (17, 0, 7, 0), (999, 0, 0, 0), (14, 0, 2, 112), (110, 0, 131, 63), (999, 0, 0, 0), (999, 0, 0, 0), (11, 0, 6, 0), (999, 0, 0, 0), (66, 5, 1318, 0), (999, 0, 0, 0), (999, 0, 0, 0), (0, 0, 0, 0), (130, 0, 1, 0), (11, 0, 6, 0), (999, 0, 0, 0), (61, 15, 1335, 0), (999, 0, 0, 0), (999, 0, 0, 0), (14, 0, 3, 151), (0, 0, 0, 0), (93, 0, 0, 51), (11, 0, 7, 0), (999, 0, 0, 0), (42, 0, 0, 0), (48, 0, 0, 0), (60, 5, 1335, 0), (999, 0, 0, 0), (999, 0, 0, 0), (0, 0, 0, 0), (130, 0, 1, 0), (72, 1020, 2355, 0), (999, 0, 0, 0), (999, 0, 0, 0), (14, 0, 1, 100), (14, 0, 0, 150), (11, 0, 5, 0), (999, 0, 0, 0), (0, 1, 0, 0), (30, 0, 0, 0), (105, 0, 0, 50), (14, 0, 0, 150), (11, 0, 5, 0), (999, 0, 0, 0), (0, 2, 0, 0), (30, 0, 0, 0), (105, 0, 0, 50), (14, 0, 3, 151), (113, 0, 192, 305), (999, 0, 0, 0), (999, 0, 0, 0), (17, 0, 6, 0), (999, 0, 0, 0), (14, 0, 2, 112), (14, 0, 0, 150), (11, 0, 5, 0), (999, 0, 0, 0), (0, 1, 0, 0), (30, 0, 0, 0), (105, 0, 0, 50), (14, 0, 0, 150), (11, 0, 5, 0), (999, 0, 0, 0), (0, 2, 0, 0), (30, 0, 0, 0), (105, 0, 0, 50), (110, 0, 194, 147), (999, 0, 0, 0), (999, 0, 0, 0), (17, 0, 7, 0), (999, 0, 0, 0), (14, 0, 2, 112), (110, 0, 131, 63), (999, 0, 0, 0), (999, 0, 0, 0), (11, 0, 6, 0), (999, 0, 0, 0), (66, 5, 1386, 0), (999, 0, 0, 0), (999, 0, 0, 0), (0, 0, 0, 0), (130, 0, 1, 0), (11, 0, 6, 0), (999, 0, 0, 0), (61, 15, 1403, 0), (999, 0, 0, 0), (999, 0, 0, 0), (14, 0, 3, 151), (0, 0, 0, 0), (93, 0, 0, 51), (11, 0, 7, 0), (999, 0, 0, 0), (42, 0, 0, 0), (48, 0, 0, 0), (60, 5, 1403, 0), (999, 0, 0, 0), (999, 0, 0, 0), (0, 0, 0, 0), (130, 0, 1, 0), (72, 952, 2355, 0), (999, 0, 0, 0), (999, 0, 0, 0), (14, 0, 1, 100), (14, 0, 0, 150), (11, 0, 5, 0), (999, 0, 0, 0), (0, 1, 0, 0), (30, 0, 0, 0), (105, 0, 0, 50), (14, 0, 0, 150), (11, 0, 5, 0), (999, 0, 0, 0), (0, 2, 0, 0), (30, 0, 0, 0), (105, 0, 0, 50), (14, 0, 3, 151), (113, 0, 195, 306), (999, 0, 0, 0), (999, 0, 0, 0), (17, 0, 6, 0), (999, 0, 0, 0), (14, 0, 2, 112), (14, 0, 0, 150), (11, 0, 5, 0), (999, 0, 0, 0), (0, 1, 0, 0), (30, 0, 0, 0), (105, 0, 0, 50), (14, 0, 0, 150), (11, 0, 5, 0), (999, 0, 0, 0), (0, 2, 0, 0), (30, 0, 0, 0), (105, 0, 0, 50), (110, 0, 197, 148), (999, 0, 0, 0), (999, 0, 0, 0), (17, 0, 7, 0), (999, 0, 0, 0), (14, 0, 2, 112), (110, 0, 131, 63), (999, 0, 0, 0), (999, 0, 0, 0), (11, 0, 6, 0), (999, 0, 0, 0), (66, 5, 1454, 0), (999, 0, 0, 0), (999, 0, 0, 0), (0, 0, 0, 0), (130, 0, 1, 0), (11, 0, 6, 0), (999, 0, 0, 0), (61, 15, 1471, 0), (999, 0, 0, 0), (999, 0, 0, 0), (14, 0, 3, 151), (0, 0, 0, 0), (93, 0, 0, 51), (11, 0, 7, 0), (999, 0, 0, 0), (42, 0, 0, 0), (48, 0, 0, 0), (60, 5, 1471, 0), (999, 0, 0, 0), (999, 0, 0, 0), (0, 0, 0, 0), (130, 0, 1, 0), (72, 884, 2355, 0), (999, 0, 0, 0), (999, 0, 0, 0), (14, 0, 1, 100), (14, 0, 0, 150), (11, 0, 5, 0), (999, 0, 0, 0), (0, 1, 0, 0), (30, 0, 0, 0), (105, 0, 0, 50), (14, 0, 0, 150), (11, 0, 5, 0), (999, 0, 0, 0), (0, 2, 0, 0), (30, 0, 0, 0), (105, 0, 0, 50), (14, 0, 3, 151), (113, 0, 198, 307), (999, 0, 0, 0), (999, 0, 0, 0), (17, 0, 6, 0), (999, 0, 0, 0), (14, 0, 2, 112), (14, 0, 0, 150), (11, 0, 5, 0), (999, 0, 0, 0), (0, 1, 0, 0), (30, 0, 0, 0), (105, 0, 0, 50), (14, 0, 0, 150), (11, 0, 5, 0), (999, 0, 0, 0), (0, 2, 0, 0), (30, 0, 0, 0), (105, 0, 0, 50), (110, 0, 200, 149), (999, 0, 0, 0), (999, 0, 0, 0), (17, 0, 7, 0), (999, 0, 0, 0), (14, 0, 2, 112), (110, 0, 131, 63), (999, 0, 0, 0), (999, 0, 0, 0), (11, 0, 6, 0), (999, 0, 0, 0), (66, 5, 1522, 0), (999, 0, 0, 0), (999, 0, 0, 0), (0, 0, 0, 0), (130, 0, 1, 0), (11, 0, 6, 0), (999, 0, 0, 0), (61, 15, 1539, 0), (999, 0, 0, 0), (999, 0, 0, 0), (14, 0, 3, 151), (0, 0, 0, 0), (93, 0, 0, 51), (11, 0, 7, 0), (999, 0, 0, 0), (42, 0, 0, 0), (48, 0, 0, 0), (60, 5, 1539, 0), (999, 0, 0, 0), (999, 0, 0, 0), (0, 0, 0, 0), (130, 0, 1, 0), (72, 816, 2355, 0), (999, 0, 0, 0), (999, 0, 0, 0), (14, 0, 1, 100), (14, 0, 0, 150), (11, 0, 5, 0), (999, 0, 0, 0), (0, 1, 0, 0), (30, 0, 0, 0), (105, 0, 0, 50), (14, 0, 0, 150), (11, 0, 5, 0), (999, 0, 0, 0), (0, 2, 0, 0), (30, 0, 0, 0), (105, 0, 0, 50), (14, 0, 0, 150), (11, 0, 5, 0), (999, 0, 0, 0), (0, 3, 0, 0), (30, 0, 0, 0), (105, 0, 0, 50), (14, 0, 0, 150), (11, 0, 5, 0), (999, 0, 0, 0), (0, 4, 0, 0), (30, 0, 0, 0), (105, 0, 0, 50), (14, 0, 3, 151), (113, 0, 201, 308), (999, 0, 0, 0), (999, 0, 0, 0), (17, 0, 6, 0), (999, 0, 0, 0), (14, 0, 2, 112), (14, 0, 0, 150), (11, 0, 5, 0), (999, 0, 0, 0), (0, 1, 0, 0), (30, 0, 0, 0), (105, 0, 0, 50), (14, 0, 0, 150), (11, 0, 5, 0), (999, 0, 0, 0), (0, 2, 0, 0), (30, 0, 0, 0), (105, 0, 0, 50), (14, 0, 0, 150), (11, 0, 5, 0), (999, 0, 0, 0), (0, 3, 0, 0), (30, 0, 0, 0), (105, 0, 0, 50), (14, 0, 0, 150), (11, 0, 5, 0), (999, 0, 0, 0), (0, 4, 0, 0), (30, 0, 0, 0), (105, 0, 0, 50), (110, 0, 204, 150), (999, 0, 0, 0), (999, 0, 0, 0), (17, 0, 7, 0), (999, 0, 0, 0), (14, 0, 2, 112), (110, 0, 131, 63), (999, 0, 0, 0), (999, 0, 0, 0), (11, 0, 6, 0), (999, 0, 0, 0), (66, 5, 1614, 0), (999, 0, 0, 0), (999, 0, 0, 0), (0, 0, 0, 0), (130, 0, 1, 0), (11, 0, 6, 0), (999, 0, 0, 0), (61, 15, 1631, 0), (999, 0, 0, 0), (999, 0, 0, 0), (14, 0, 3, 151), (0, 0, 0, 0), (93, 0, 0, 51), (11, 0, 7, 0), (999, 0, 0, 0), (42, 0, 0, 0), (48, 0, 0, 0), (60, 5, 1631, 0), (999, 0, 0, 0), (999, 0, 0, 0), (0, 0, 0, 0), (130, 0, 1, 0), (72, 724, 2355, 0), (999, 0, 0, 0), (999, 0, 0, 0), (14, 0, 1, 100), (14, 0, 0, 150), (11, 0, 5, 0), (999, 0, 0, 0), (0, 1, 0, 0), (30, 0, 0, 0), (105, 0, 0, 50), (14, 0, 0, 150), (11, 0, 5, 0), (999, 0, 0, 0), (0, 2, 0, 0), (30, 0, 0, 0), (105, 0, 0, 50), (14, 0, 0, 150), (11, 0, 5, 0), (999, 0, 0, 0), (0, 3, 0, 0), (30, 0, 0, 0), (105, 0, 0, 50), (14, 0, 3, 151), (113, 0, 205, 309), (999, 0, 0, 0), (999, 0, 0, 0), (17, 0, 6, 0), (999, 0, 0, 0), (14, 0, 2, 112), (14, 0, 0, 150), (11, 0, 5, 0), (999, 0, 0, 0), (0, 1, 0, 0), (30, 0, 0, 0), (105, 0, 0, 50), (14, 0, 0, 150), (11, 0, 5, 0), (999, 0, 0, 0), (0, 2, 0, 0), (30, 0, 0, 0), (105, 0, 0, 50), (14, 0, 0, 150), (11, 0, 5, 0), (999, 0, 0, 0), (0, 3, 0, 0), (30, 0, 0, 0), (105, 0, 0, 50), (110, 0, 208, 151), (999, 0, 0, 0), (999, 0, 0, 0), (17, 0, 7, 0), (999, 0, 0, 0), (14, 0, 2, 112), (110, 0, 131, 63), (999, 0, 0, 0), (999, 0, 0, 0), (11, 0, 6, 0), (999, 0, 0, 0), (66, 5, 1694, 0), (999, 0, 0, 0), (999, 0, 0, 0), (0, 0, 0, 0), (130, 0, 1, 0), (11, 0, 6, 0), (999, 0, 0, 0), (61, 15, 1711, 0), (999, 0, 0, 0), (999, 0, 0, 0), (14, 0, 3, 151), (0, 0, 0, 0), (93, 0, 0, 51), (11, 0, 7, 0), (999, 0, 0, 0), (42, 0, 0, 0), (48, 0, 0, 0), (60, 5, 1711, 0), (999, 0, 0, 0), (999, 0, 0, 0), (0, 0, 0, 0), (130, 0, 1, 0), (72, 644, 2355, 0), (999, 0, 0, 0), (999, 0, 0, 0), (14, 0, 1, 100), (14, 0, 0, 150), (11, 0, 5, 0), (999, 0, 0, 0), (0, 1, 0, 0), (30, 0, 0, 0), (105, 0, 0, 50), (14, 0, 0, 150), (11, 0, 5, 0), (999, 0, 0, 0), (0, 2, 0, 0), (30, 0, 0, 0), (105, 0, 0, 50), (14, 0, 3, 151), (113, 0, 209, 310), (999, 0, 0, 0), (999, 0, 0, 0), (17, 0, 6, 0), (999, 0, 0, 0), (14, 0, 2, 112), (14, 0, 0, 150), (11, 0, 5, 0), (999, 0, 0, 0), (0, 1, 0, 0), (30, 0, 0, 0), (105, 0, 0, 50), (14, 0, 0, 150), (11, 0, 5, 0), (999, 0, 0, 0), (0, 2, 0, 0), (30, 0, 0, 0), (105, 0, 0, 50), (110, 0, 211, 152), (999, 0, 0, 0), (999, 0, 0, 0), (17, 0, 7, 0), (999, 0, 0, 0), (14, 0, 2, 112), (110, 0, 131, 63), (999, 0, 0, 0), (999, 0, 0, 0), (11, 0, 6, 0), (999, 0, 0, 0), (66, 5, 1762, 0), (999, 0, 0, 0), (999, 0, 0, 0), (0, 0, 0, 0), (130, 0, 1, 0), (11, 0, 6, 0), (999, 0, 0, 0), (61, 15, 1779, 0), (999, 0, 0, 0), (999, 0, 0, 0), (14, 0, 3, 151), (0, 0, 0, 0), (93, 0, 0, 51), (11, 0, 7, 0), (999, 0, 0, 0), (42, 0, 0, 0), (48, 0, 0, 0), (60, 5, 1779, 0), (999, 0, 0, 0), (999, 0, 0, 0), (0, 0, 0, 0), (130, 0, 1, 0), (72, 576, 2355, 0), (999, 0, 0, 0), (999, 0, 0, 0), (14, 0, 1, 100), (14, 0, 0, 150), (11, 0, 5, 0), (999, 0, 0, 0), (0, 1, 0, 0), (30, 0, 0, 0), (105, 0, 0, 50), (14, 0, 3, 151), (113, 0, 212, 311), (999, 0, 0, 0), (999, 0, 0, 0), (17, 0, 6, 0), (999, 0, 0, 0), (14, 0, 2, 112), (14, 0, 0, 150), (11, 0, 5, 0), (999, 0, 0, 0), (0, 1, 0, 0), (30, 0, 0, 0), (105, 0, 0, 50), (110, 0, 214, 153), (999, 0, 0, 0), (999, 0, 0, 0), (17, 0, 7, 0), (999, 0, 0, 0), (14, 0, 2, 112), (110, 0, 131, 63), (999, 0, 0, 0), (999, 0, 0, 0), (11, 0, 6, 0), (999, 0, 0, 0), (66, 5, 1818, 0), (999, 0, 0, 0), (999, 0, 0, 0), (0, 0, 0, 0), (130, 0, 1, 0), (11, 0, 6, 0), (999, 0, 0, 0), (61, 15, 1835, 0), (999, 0, 0, 0), (999, 0, 0, 0), (14, 0, 3, 151), (0, 0, 0, 0), (93, 0, 0, 51), (11, 0, 7, 0), (999, 0, 0, 0), (42, 0, 0, 0), (48, 0, 0, 0), (60, 5, 1835, 0), (999, 0, 0, 0), (999, 0, 0, 0), (0, 0, 0, 0), (130, 0, 1, 0), (72, 520, 2355, 0), (999, 0, 0, 0), (999, 0, 0, 0), (14, 0, 1, 100), (14, 0, 0, 150), (11, 0, 5, 0), (999, 0, 0, 0), (0, 1, 0, 0), (30, 0, 0, 0), (105, 0, 0, 50), (14, 0, 3, 151), (113, 0, 215, 312), (999, 0, 0, 0), (999, 0, 0, 0), (17, 0, 6, 0), (999, 0, 0, 0), (14, 0, 2, 112), (14, 0, 0, 150), (11, 0, 5, 0), (999, 0, 0, 0), (0, 1, 0, 0), (30, 0, 0, 0), (105, 0, 0, 50), (110, 0, 217, 154), (999, 0, 0, 0), (999, 0, 0, 0), (17, 0, 7, 0), (999, 0, 0, 0), (14, 0, 2, 112), (110, 0, 131, 63), (999, 0, 0, 0), (999, 0, 0, 0), (11, 0, 6, 0), (999, 0, 0, 0), (66, 5, 1874, 0), (999, 0, 0, 0), (999, 0, 0, 0), (0, 0, 0, 0), (130, 0, 1, 0), (11, 0, 6, 0), (999, 0, 0, 0), (61, 15, 1891, 0), (999, 0, 0, 0), (999, 0, 0, 0), (14, 0, 3, 151), (0, 0, 0, 0), (93, 0, 0, 51), (11, 0, 7, 0), (999, 0, 0, 0), (42, 0, 0, 0), (48, 0, 0, 0), (60, 5, 1891, 0), (999, 0, 0, 0), (999, 0, 0, 0), (0, 0, 0, 0), (130, 0, 1, 0), (72, 464, 2355, 0), (999, 0, 0, 0), (999, 0, 0, 0), (14, 0, 1, 100), (14, 0, 0, 150), (11, 0, 5, 0), (999, 0, 0, 0), (0, 1, 0, 0), (30, 0, 0, 0), (105, 0, 0, 50), (14, 0, 0, 150), (11, 0, 5, 0), (999, 0, 0, 0), (0, 2, 0, 0), (30, 0, 0, 0), (105, 0, 0, 50), (14, 0, 3, 151), (113, 0, 218, 313), (999, 0, 0, 0), (999, 0, 0, 0), (17, 0, 6, 0), (999, 0, 0, 0), (14, 0, 2, 112), (14, 0, 0, 150), (11, 0, 5, 0), (999, 0, 0, 0), (0, 1, 0, 0), (30, 0, 0, 0), (105, 0, 0, 50), (14, 0, 0, 150), (11, 0, 5, 0), (999, 0, 0, 0), (0, 2, 0, 0), (30, 0, 0, 0), (105, 0, 0, 50), (110, 0, 220, 155), (999, 0, 0, 0), (999, 0, 0, 0), (17, 0, 7, 0), (999, 0, 0, 0), (14, 0, 2, 112), (110, 0, 131, 63), (999, 0, 0, 0), (999, 0, 0, 0), (11, 0, 6, 0), (999, 0, 0, 0), (66, 5, 1942, 0), (999, 0, 0, 0), (999, 0, 0, 0), (0, 0, 0, 0), (130, 0, 1, 0), (11, 0, 6, 0), (999, 0, 0, 0), (61, 22, 1966, 0), (999, 0, 0, 0), (999, 0, 0, 0), (14, 0, 3, 151), (0, 0, 0, 0), (93, 0, 0, 51), (11, 0, 7, 0), (999, 0, 0, 0), (60, 7, 1959, 0), (999, 0, 0, 0), (999, 0, 0, 0), (5, 1, 1, 0), (72, 4, 1960, 0), (999, 0, 0, 0), (999, 0, 0, 0), (5, 0, 0, 0), (48, 0, 0, 0), (60, 5, 1966, 0), (999, 0, 0, 0), (999, 0, 0, 0), (0, 0, 0, 0), (130, 0, 1, 0), (72, 389, 2355, 0), (999, 0, 0, 0), (999, 0, 0, 0), (14, 0, 1, 100), (14, 0, 0, 150), (11, 0, 5, 0), (999, 0, 0, 0), (0, 1, 0, 0), (30, 0, 0, 0), (105, 0, 0, 50), (14, 0, 3, 151), (113, 0, 221, 314), (999, 0, 0, 0), (999, 0, 0, 0), (17, 0, 6, 0), (999, 0, 0, 0), (14, 0, 2, 112), (14, 0, 0, 150), (11, 0, 5, 0), (999, 0, 0, 0), (0, 1, 0, 0), (30, 0, 0, 0), (105, 0, 0, 50), (110, 0, 223, 156), (999, 0, 0, 0), (999, 0, 0, 0), (17, 0, 7, 0), (999, 0, 0, 0), (14, 0, 2, 112), (110, 0, 131, 63), (999, 0, 0, 0), (999, 0, 0, 0), (11, 0, 6, 0), (999, 0, 0, 0), (66, 5, 2005, 0), (999, 0, 0, 0), (999, 0, 0, 0), (0, 0, 0, 0), (130, 0, 1, 0), (11, 0, 6, 0), (999, 0, 0, 0), (61, 15, 2022, 0), (999, 0, 0, 0), (999, 0, 0, 0), (14, 0, 3, 151), (0, 0, 0, 0), (93, 0, 0, 51), (11, 0, 7, 0), (999, 0, 0, 0), (42, 0, 0, 0), (48, 0, 0, 0), (60, 5, 2022, 0), (999, 0, 0, 0), (999, 0, 0, 0), (0, 0, 0, 0), (130, 0, 1, 0), (72, 333, 2355, 0), (999, 0, 0, 0), (999, 0, 0, 0), (14, 0, 1, 100), (14, 0, 0, 150), (11, 0, 5, 0), (999, 0, 0, 0), (0, 1, 0, 0), (30, 0, 0, 0), (105, 0, 0, 50), (14, 0, 0, 150), (11, 0, 5, 0), (999, 0, 0, 0), (0, 2, 0, 0), (30, 0, 0, 0), (105, 0, 0, 50), (14, 0, 0, 150), (11, 0, 5, 0), (999, 0, 0, 0), (0, 3, 0, 0), (30, 0, 0, 0), (105, 0, 0, 50), (14, 0, 0, 150), (11, 0, 5, 0), (999, 0, 0, 0), (0, 4, 0, 0), (30, 0, 0, 0), (105, 0, 0, 50), (60, 7, 2057, 0), (999, 0, 0, 0), (999, 0, 0, 0), (0, 1, 0, 0), (72, 4, 2058, 0), (999, 0, 0, 0), (999, 0, 0, 0), (0, 0, 0, 0), (14, 0, 0, 150), (11, 0, 5, 0), (999, 0, 0, 0), (0, 5, 0, 0), (30, 0, 0, 0), (105, 0, 0, 50), (14, 0, 3, 151), (113, 0, 224, 315), (999, 0, 0, 0), (999, 0, 0, 0), (17, 0, 6, 0), (999, 0, 0, 0), (14, 0, 2, 112), (14, 0, 0, 150), (11, 0, 5, 0), (999, 0, 0, 0), (0, 1, 0, 0), (30, 0, 0, 0), (105, 0, 0, 50), (14, 0, 0, 150), (11, 0, 5, 0), (999, 0, 0, 0), (0, 2, 0, 0), (30, 0, 0, 0), (105, 0, 0, 50), (14, 0, 0, 150), (11, 0, 5, 0), (999, 0, 0, 0), (0, 3, 0, 0), (30, 0, 0, 0), (105, 0, 0, 50), (14, 0, 0, 150), (11, 0, 5, 0), (999, 0, 0, 0), (0, 4, 0, 0), (30, 0, 0, 0), (105, 0, 0, 50), (60, 7, 2102, 0), (999, 0, 0, 0), (999, 0, 0, 0), (0, 1, 0, 0), (72, 4, 2103, 0), (999, 0, 0, 0), (999, 0, 0, 0), (0, 0, 0, 0), (14, 0, 0, 150), (11, 0, 5, 0), (999, 0, 0, 0), (0, 5, 0, 0), (30, 0, 0, 0), (105, 0, 0, 50), (110, 0, 227, 160), (999, 0, 0, 0), (999, 0, 0, 0), (17, 0, 7, 0), (999, 0, 0, 0), (14, 0, 2, 112), (110, 0, 131, 63), (999, 0, 0, 0), (999, 0, 0, 0), (11, 0, 6, 0), (999, 0, 0, 0), (66, 5, 2125, 0), (999, 0, 0, 0), (999, 0, 0, 0), (0, 0, 0, 0), (130, 0, 1, 0), (11, 0, 6, 0), (999, 0, 0, 0), (61, 15, 2142, 0), (999, 0, 0, 0), (999, 0, 0, 0), (14, 0, 3, 151), (0, 0, 0, 0), (93, 0, 0, 51), (11, 0, 7, 0), (999, 0, 0, 0), (42, 0, 0, 0), (48, 0, 0, 0), (60, 5, 2142, 0), (999, 0, 0, 0), (999, 0, 0, 0), (0, 0, 0, 0), (130, 0, 1, 0), (72, 213, 2355, 0), (999, 0, 0, 0), (999, 0, 0, 0), (14, 0, 1, 100), (110, 0, 228, 39), (999, 0, 0, 0), (999, 0, 0, 0), (14, 0, 2, 112), (110, 0, 232, 161), (999, 0, 0, 0), (999, 0, 0, 0), (48, 0, 0, 0), (60, 201, 2355, 0), (999, 0, 0, 0), (999, 0, 0, 0), (0, 0, 0, 0), (130, 0, 1, 0), (14, 0, 1, 100), (110, 0, 233, 40), (999, 0, 0, 0), (999, 0, 0, 0), (14, 0, 2, 112), (110, 0, 236, 162), (999, 0, 0, 0), (999, 0, 0, 0), (66, 188, 2355, 0), (999, 0, 0, 0), (999, 0, 0, 0), (0, 0, 0, 0), (130, 0, 1, 0), (14, 0, 1, 100), (110, 0, 237, 41), (999, 0, 0, 0), (999, 0, 0, 0), (14, 0, 2, 112), (110, 0, 240, 163), (999, 0, 0, 0), (999, 0, 0, 0), (66, 175, 2355, 0), (999, 0, 0, 0), (999, 0, 0, 0), (0, 0, 0, 0), (130, 0, 1, 0), (14, 0, 1, 100), (110, 0, 241, 42), (999, 0, 0, 0), (999, 0, 0, 0), (14, 0, 2, 112), (110, 0, 244, 164), (999, 0, 0, 0), (999, 0, 0, 0), (66, 162, 2355, 0), (999, 0, 0, 0), (999, 0, 0, 0), (0, 0, 0, 0), (130, 0, 1, 0), (14, 0, 1, 100), (110, 0, 245, 43), (999, 0, 0, 0), (999, 0, 0, 0), (14, 0, 2, 112), (110, 0, 248, 165), (999, 0, 0, 0), (999, 0, 0, 0), (66, 149, 2355, 0), (999, 0, 0, 0), (999, 0, 0, 0), (0, 0, 0, 0), (130, 0, 1, 0), (14, 0, 1, 100), (15, 0, 4, 152), (999, 0, 0, 0), (113, 0, 249, 316), (999, 0, 0, 0), (999, 0, 0, 0), (17, 0, 6, 0), (999, 0, 0, 0), (14, 0, 2, 112), (110, 0, 252, 166), (999, 0, 0, 0), (999, 0, 0, 0), (153, 0, 7, 0), (999, 0, 0, 0), (14, 0, 2, 112), (110, 0, 131, 63), (999, 0, 0, 0), (999, 0, 0, 0), (11, 0, 6, 0), (999, 0, 0, 0), (66, 5, 2236, 0), (999, 0, 0, 0), (999, 0, 0, 0), (0, 0, 0, 0), (130, 0, 1, 0), (11, 0, 6, 0), (999, 0, 0, 0), (61, 36, 2274, 0), (999, 0, 0, 0), (999, 0, 0, 0), (15, 0, 4, 152), (999, 0, 0, 0), (0, 0, 0, 0), (158, 0, 0, 52), (151, 0, 7, 0), (999, 0, 0, 0), (148, 0, 0, 0), (149, 0, 0, 0), (60, 25, 2274, 0), (999, 0, 0, 0), (999, 0, 0, 0), (15, 0, 4, 152), (999, 0, 0, 0), (0, 0, 0, 0), (158, 0, 0, 52), (15, 0, 4, 152), (999, 0, 0, 0), (0, 0, 0, 0), (158, 0, 0, 52), (149, 0, 0, 0), (60, 11, 2272, 0), (999, 0, 0, 0), (999, 0, 0, 0), (151, 0, 7, 0), (999, 0, 0, 0), (151, 0, 7, 0), (999, 0, 0, 0), (139, 0, 0, 0), (61, 5, 2274, 0), (999, 0, 0, 0), (999, 0, 0, 0), (0, 0, 0, 0), (130, 0, 1, 0), (72, 81, 2355, 0), (999, 0, 0, 0), (999, 0, 0, 0), (14, 0, 1, 100), (15, 0, 4, 152), (999, 0, 0, 0), (113, 0, 253, 317), (999, 0, 0, 0), (999, 0, 0, 0), (17, 0, 6, 0), (999, 0, 0, 0), (14, 0, 2, 112), (110, 0, 255, 167), (999, 0, 0, 0), (999, 0, 0, 0), (157, 0, 7, 0), (999, 0, 0, 0), (14, 0, 2, 112), (110, 0, 131, 63), (999, 0, 0, 0), (999, 0, 0, 0), (11, 0, 6, 0), (999, 0, 0, 0), (66, 5, 2302, 0), (999, 0, 0, 0), (999, 0, 0, 0), (0, 0, 0, 0), (130, 0, 1, 0), (11, 0, 6, 0), (999, 0, 0, 0), (61, 35, 2339, 0), (999, 0, 0, 0), (999, 0, 0, 0), (15, 0, 4, 152), (999, 0, 0, 0), (0, 0, 0, 0), (158, 0, 0, 52), (155, 0, 7, 0), (999, 0, 0, 0), (149, 0, 0, 0), (60, 25, 2339, 0), (999, 0, 0, 0), (999, 0, 0, 0), (15, 0, 4, 152), (999, 0, 0, 0), (0, 0, 0, 0), (158, 0, 0, 52), (15, 0, 4, 152), (999, 0, 0, 0), (0, 0, 0, 0), (158, 0, 0, 52), (149, 0, 0, 0), (60, 11, 2337, 0), (999, 0, 0, 0), (999, 0, 0, 0), (155, 0, 7, 0), (999, 0, 0, 0), (155, 0, 7, 0), (999, 0, 0, 0), (149, 0, 0, 0), (61, 5, 2339, 0), (999, 0, 0, 0), (999, 0, 0, 0), (0, 0, 0, 0), (130, 0, 1, 0), (72, 16, 2355, 0), (999, 0, 0, 0), (999, 0, 0, 0), (14, 0, 1, 100), (110, 0, 256, 46), (999, 0, 0, 0), (999, 0, 0, 0), (14, 0, 2, 112), (110, 0, 260, 168), (999, 0, 0, 0), (999, 0, 0, 0), (66, 5, 2355, 0), (999, 0, 0, 0), (999, 0, 0, 0), (0, 0, 0, 0), (130, 0, 1, 0), (22, 6, 5, 0), (999, 0, 0, 0), (999, 0, 0, 0), (72, (-2330), 28, 0), (999, 0, 0, 0), (999, 0, 0, 0), (0, 1, 0, 0), (130, 0, 1, 0)]
def zu_Lw_law : List (Nat × List Bool) := [(28, [true, true, true, true, true, true, false, false, false]), (208, [true, true, true, true, true, true, false, false, false]), (273, [true, true, true, true, true, true, false, false, false]), (276, [true, true, true, true, true, true, false, false, false]), (379, [true, true, true, true, true, true, false, false, false]), (382, [true, true, true, true, true, true, false, false, false]), (447, [true, true, true, true, true, true, false, false, false]), (450, [true, true, true, true, true, true, false, false, false]), (515, [true, true, true, true, true, true, false, false, false]), (518, [true, true, true, true, true, true, false, false, false]), (571, [true, true, true, true, true, true, false, false, false]), (574, [true, true, true, true, true, true, false, false, false]), (675, [true, true, true, true, true, true, false, false, false]), (678, [true, true, true, true, true, true, false, false, false]), (779, [true, true, true, true, true, true, false, false, false]), (782, [true, true, true, true, true, true, false, false, false]), (795, [true, true, true, true, true, true, false, false, false]), (848, [true, true, true, true, true, true, false, false, false]), (851, [true, true, true, true, true, true, false, false, false]), (904, [true, true, true, true, true, true, false, false, false]), (907, [true, true, true, true, true, true, false, false, false]), (960, [true, true, true, true, true, true, false, false, false]), (963, [true, true, true, true, true, true, false, false, false]), (1016, [true, true, true, true, true, true, false, false, false]), (1019, [true, true, true, true, true, true, false, false, false]), (1072, [true, true, true, true, true, true, false, false, false]), (1075, [true, true, true, true, true, true, false, false, false]), (1130, [true, true, true, true, true, true, false, false, false]), (1133, [true, true, true, true, true, true, false, false, false]), (1146, [true, true, true, true, true, true, false, false, false]), (1199, [true, true, true, true, true, true, false, false, false]), (1202, [true, true, true, true, true, true, false, false, false]), (1267, [true, true, true, true, true, true, false, false, false]), (1270, [true, true, true, true, true, true, false, false, false]), (1335, [true, true, true, true, true, true, false, false, false]), (1338, [true, true, true, true, true, true, false, false, false]), (1403, [true, true, true, true, true, true, false, false, false]), (1406, [true, true, true, true, true, true, false, false, false]), (1471, [true, true, true, true, true, true, false, false, false]), (1474, [true, true, true, true, true, true, false, false, false]), (1539, [true, true, true, true, true, true, false, false, false]), (1542, [true, true, true, true, true, true, false, false, false]), (1631, [true, true, true, true, true, true, false, false, false]), (1634, [true, true, true, true, true, true, false, false, false]), (1711, [true, true, true, true, true, true, false, false, false]), (1714, [true, true, true, true, true, true, false, false, false]), (1779, [true, true, true, true, true, true, false, false, false]), (1782, [true, true, true, true, true, true, false, false, false]), (1835, [true, true, true, true, true, true, false, false, false]), (1838, [true, true, true, true, true, true, false, false, false]), (1891, [true, true, true, true, true, true, false, false, false]), (1894, [true, true, true, true, true, true, false, false, false]), (1960, [true, true, true, true, true, true, false, false, false]), (1966, [true, true, true, true, true, true, false, false, false]), (1969, [true, true, true, true, true, true, false, false, false]), (2022, [true, true, true, true, true, true, false, false, false]), (2025, [true, true, true, true, true, true, false, false, false]), (2058, [true, true, true, true, true, true, false, false, false]), (2103, [true, true, true, true, true, true, true, false, false]), (2142, [true, true, true, true, true, true, false, false, false]), (2145, [true, true, true, true, true, true, false, false, false]), (2159, [true, true, true, true, true, true, false, false, false]), (2172, [true, true, true, true, true, true, false, false, false]), (2185, [true, true, true, true, true, true, false, false, false]), (2198, [true, true, true, true, true, true, false, false, false]), (2211, [true, true, true, true, true, true, false, false, false]), (2272, [false, false, false, false, false, false, false, false, false]), (2274, [true, true, true, true, true, true, false, false, false]), (2277, [true, true, true, true, true, true, false, false, false]), (2337, [false, false, false, false, false, false, false, false, false]), (2339, [true, true, true, true, true, true, false, false, false]), (2342, [true, true, true, true, true, true, false, false, false]), (2355, [true, true, true, true, true, true, false, false, false])]
set_option maxRecDepth 100000 in
theorem qe_Lw_law_2355 {ρ : Type} (kr : Int → zH → Option ρ) (r28 : Int → Int → Int → Int → Int → Int → zH → Option ρ) (a0 a1 a2 a3 a4 a5 : Int) (h : zH) : Lw_law_2355 kr r28 a0 a1 a2 a3 a4 a5 h = zseg zPP true (zcal []) (zget (999, 0, 0, 0) zc_Lw_law) (zcut zu_Lw_law) (zorc [(28, [some (150, none), some (100, none), some (112, none), some (151, none), some (152, none), some (0, none), none, none, none], [], fun xs h => match xs with
  | [a0, a1, a2, a3, a4, a5] => r28 a0 a1 a2 a3 a4 a5 h
  | _ => none)]) kr (fun _ _ => none) 400 2355 [some (150, a0), some (100, a1), some (112, a2), some (151, a3), some (152, a4), some (0, a5), none, none, none] [] h := by rfl
set_option maxRecDepth 100000 in
theorem qe_Lw_law_273 {ρ : Type} (kr : Int → zH → Option ρ) (r28 : Int → Int → Int → Int → Int → Int → zH → Option ρ) (a0 a1 a2 a3 a4 a5 : Int) (h : zH) : Lw_law_273 kr r28 a0 a1 a2 a3 a4 a5 h = zseg zPP true (zcal []) (zget (999, 0, 0, 0) zc_Lw_law) (zcut zu_Lw_law) (zorc [(2355, [some (150, none), some (100, none), some (112, none), some (151, none), some (152, none), some (0, none), none, none, none], [], fun xs h => match xs with
  | [a0, a1, a2, a3, a4, a5] => Lw_law_2355 kr r28 a0 a1 a2 a3 a4 a5 h
  | _ => none)]) kr (fun _ _ => none) 400 273 [some (150, a0), some (100, a1), some (112, a2), some (151, a3), some (152, a4), some (0, a5), none, none, none] [] h := by rfl
set_option maxRecDepth 100000 in
theorem qe_Lw_law_208 {ρ : Type} (kr : Int → zH → Option ρ) (r28 : Int → Int → Int → Int → Int → Int → zH → Option ρ) (a0 a1 a2 a3 a4 a5 : Int) (h : zH) : Lw_law_208 kr r28 a0 a1 a2 a3 a4 a5 h = zseg zPP true (zcal [(63, [none], fun xs h kr kt => match xs with
  | [x0] => zmch h x0 (M_thrown h kr)
  | _ => none), (69, [none, none, none], fun xs h kr kt => match xs with
  | [x0, x1, x2] => zmch h x0 (M_addKernel x1 x2 h kr)
  | _ => none), (289, [none, none, none, none], fun xs h kr kt => match xs with
  | [x0, x1, x2, x3] => Lw_addKernel x0 x1 x2 x3 h kr
  | _ => none)]) (zget (999, 0, 0, 0) zc_Lw_law) (zcut zu_Lw_law) (zorc [(273, [some (150, none), some (100, none), some (112, none), some (151, none), some (152, none), some (0, none), none, none, none], [], fun xs h => match xs with
  | [a0, a1, a2, a3, a4, a5] => Lw_law_273 kr r28 a0 a1 a2 a3 a4 a5 h
  | _ => none)]) kr (fun _ _ => none) 400 208 [some (150, a0), some (100, a1), some (112, a2), some (151, a3), some (152, a4), some (0, a5), none, none, none] [] h := by rfl
set_option maxRecDepth 100000 in
theorem qe_Lw_law_379 {ρ : Type} (kr : Int → zH → Option ρ) (r28 : Int → Int → Int → Int → Int → Int → zH → Option ρ) (a0 a1 a2 a3 a4 a5 : Int) (h : zH) : Lw_law_379 kr r28 a0 a1 a2 a3 a4 a5 h = zseg zPP true (zcal []) (zget (999, 0, 0, 0) zc_Lw_law) (zcut zu_Lw_law) (zorc [(2355, [some (150, none), some (100, none), some (112, none), some (151, none), some (152, none), some (0, none), none, none, none], [], fun xs h => match xs with
  | [a0, a1, a2, a3, a4, a5] => Lw_law_2355 kr r28 a0 a1 a2 a3 a4 a5 h
  | _ => none)]) kr (fun _ _ => none) 400 379 [some (150, a0), some (100, a1), some (112, a2), some (151, a3), some (152, a4), some (0, a5), none, none, none] [] h := by rfl
set_option maxRecDepth 100000 in
theorem qe_Lw_law_276 {ρ : Type} (kr : Int → zH → Option ρ) (r28 : Int → Int → Int → Int → Int → Int → zH → Option ρ) (a0 a1 a2 a3 a4 a5 : Int) (h : zH) : Lw_law_276 kr r28 a0 a1 a2 a3 a4 a5 h = zseg zPP true (zcal [(63, [none], fun xs h kr kt => match xs with
  | [x0] => zmch h x0 (M_thrown h kr)
  | _ => none), (71, [none, none, none, none, none, none], fun xs h kr kt => match xs with
  | [x0, x1, x2, x3, x4, x5] => zmch h x0 (M_code x1 x2 x3 x4 x5 h kr)
  | _ => none), (290, [none, none, none, none, none, none, none], fun xs h kr kt => match xs with
  | [x0, x1, x2, x3, x4, x5, x6] => Lw_code x0 x1 x2 x3 x4 x5 x6 h kr
  | _ => none)]) (zget (999, 0, 0, 0) zc_Lw_law) (zcut zu_Lw_law) (zorc [(379, [some (150, none), some (100, none), some (112, none), some (151, none), some (152, none), some (0, none), none, none, none], [], fun xs h => match xs with
  | [a0, a1, a2, a3, a4, a5] => Lw_law_379 kr r28 a0 a1 a2 a3 a4 a5 h
  | _ => none)]) kr (fun _ _ => none) 400 276 [some (150, a0), some (100, a1), some (112, a2), some (151, a3), some (152, a4), some (0, a5), none, none, none] [] h := by rfl
set_option maxRecDepth 100000 in
theorem qe_Lw_law_447 {ρ : Type} (kr : Int → zH → Option ρ) (r28 : Int → Int → Int → Int → Int → Int → zH → Option ρ) (a0 a1 a2 a3 a4 a5 : Int) (h : zH) : Lw_law_447 kr r28 a0 a1 a2 a3 a4 a5 h = zseg zPP true (zcal []) (zget (999, 0, 0, 0) zc_Lw_law) (zcut zu_Lw_law) (zorc [(2355, [some (150, none), some (100, none), some (112, none), some (151, none), some (152, none), some (0, none), none, none, none], [], fun xs h => match xs with
  | [a0, a1, a2, a3, a4, a5] => Lw_law_2355 kr r28 a0 a1 a2 a3 a4 a5 h
  | _ => none)]) kr (fun _ _ => none) 400 447 [some (150, a0), some (100, a1), some (112, a2), some (151, a3), some (152, a4), some (0, a5), none, none, none] [] h := by rfl
set_option maxRecDepth 100000 in
theorem qe_Lw_law_382 {ρ : Type} (kr : Int → zH → Option ρ) (r28 : Int → Int → Int → Int → Int → Int → zH → Option ρ) (a0 a1 a2 a3 a4 a5 : Int) (h : zH) : Lw_law_382 kr r28 a0 a1 a2 a3 a4 a5 h = zseg zPP true (zcal [(63, [none], fun xs h kr kt => match xs with
  | [x0] => zmch h x0 (M_thrown h kr)
  | _ => none), (75, [none, none, none], fun xs h kr kt => match xs with
  | [x0, x1, x2] => zmch h x0 (M_fits x1 x2 h kr)
  | _ => none), (291, [none, none, none, none], fun xs h kr kt => match xs with
  | [x0, x1, x2, x3] => Lw_fits x0 x1 x2 x3 h kr
  | _ => none)]) (zget (999, 0, 0, 0) zc_Lw_law) (zcut zu_Lw_law) (zorc [(447, [some (150, none), some (100, none), some (112, none), some (151, none), some (152, none), some (0, none), none, none, none], [], fun xs h => match xs with
  | [a0, a1, a2, a3, a4, a5] => Lw_law_447 kr r28 a0 a1 a2 a3 a4 a5 h
  | _ => none)]) kr (fun _ _ => none) 400 382 [some (150, a0), some (100, a1), some (112, a2), some (151, a3), some (152, a4), some (0, a5), none, none, none] [] h := by rfl
set_option maxRecDepth 100000 in
theorem qe_Lw_law_515 {ρ : Type} (kr : Int → zH → Option ρ) (r28 : Int → Int → Int → Int → Int → Int → zH → Option ρ) (a0 a1 a2 a3 a4 a5 : Int) (h : zH) : Lw_law_515 kr r28 a0 a1 a2 a3 a4 a5 h = zseg zPP true (zcal []) (zget (999, 0, 0, 0) zc_Lw_law) (zcut zu_Lw_law) (zorc [(2355, [some (150, none), some (100, none), some (112, none), some (151, none), some (152, none), some (0, none), none, none, none], [], fun xs h => match xs with
  | [a0, a1, a2, a3, a4, a5] => Lw_law_2355 kr r28 a0 a1 a2 a3 a4 a5 h
  | _ => none)]) kr (fun _ _ => none) 400 515 [some (150, a0), some (100, a1), some (112, a2), some (151, a3), some (152, a4), some (0, a5), none, none, none] [] h := by rfl
set_option maxRecDepth 100000 in
theorem qe_Lw_law_450 {ρ : Type} (kr : Int → zH → Option ρ) (r28 : Int → Int → Int → Int → Int → Int → zH → Option ρ) (a0 a1 a2 a3 a4 a5 : Int) (h : zH) : Lw_law_450 kr r28 a0 a1 a2 a3 a4 a5 h = zseg zPP true (zcal [(63, [none], fun xs h kr kt => match xs with
  | [x0] => zmch h x0 (M_thrown h kr)
  | _ => none), (76, [none, none, none], fun xs h kr kt => match xs with
  | [x0, x1, x2] => zmch h x0 (M_poke x1 x2 h kr)
  | _ => none), (292, [none, none, none, none], fun xs h kr kt => match xs with
  | [x0, x1, x2, x3] => Lw_poke x0 x1 x2 x3 h kr
  | _ => none)]) (zget (999, 0, 0, 0) zc_Lw_law) (zcut zu_Lw_law) (zorc [(515, [some (150, none), some (100, none), some (112, none), some (151, none), some (152, none), some (0, none), none, none, none], [], fun xs h => match xs with
  | [a0, a1, a2, a3, a4, a5] => Lw_law_515 kr r28 a0 a1 a2 a3 a4 a5 h
  | _ => none)]) kr (fun _ _ => none) 400 450 [some (150, a0), some (100, a1), some (112, a2), some (151, a3), some (152, a4), some (0, a5), none, none, none] [] h := by rfl
set_option maxRecDepth 100000 in
theorem qe_Lw_law_571 {ρ : Type} (kr : Int → zH → Option ρ) (r28 : Int → Int → Int → Int → Int → Int → zH → Option ρ) (a0 a1 a2 a3 a4 a5 : Int) (h : zH) : Lw_law_571 kr r28 a0 a1 a2 a3 a4 a5 h = zseg zPP true (zcal []) (zget (999, 0, 0, 0) zc_Lw_law) (zcut zu_Lw_law) (zorc [(2355, [some (150, none), some (100, none), some (112, none), some (151, none), some (152, none), some (0, none), none, none, none], [], fun xs h => match xs with
  | [a0, a1, a2, a3, a4, a5] => Lw_law_2355 kr r28 a0 a1 a2 a3 a4 a5 h
  | _ => none)]) kr (fun _ _ => none) 400 571 [some (150, a0), some (100, a1), some (112, a2), some (151, a3), some (152, a4), some (0, a5), none, none, none] [] h := by rfl
set_option maxRecDepth 100000 in
theorem qe_Lw_law_518 {ρ : Type} (kr : Int → zH → Option ρ) (r28 : Int → Int → Int → Int → Int → Int → zH → Option ρ) (a0 a1 a2 a3 a4 a5 : Int) (h : zH) : Lw_law_518 kr r28 a0 a1 a2 a3 a4 a5 h = zseg zPP true (zcal [(63, [none], fun xs h kr kt => match xs with
  | [x0] => zmch h x0 (M_thrown h kr)
  | _ => none), (77, [none, none], fun xs h kr kt => match xs with
  | [x0, x1] => zmch h x0 (M_peek x1 h kr)
  | _ => none), (293, [none, none, none], fun xs h kr kt => match xs with
  | [x0, x1, x2] => Lw_peek x0 x1 x2 h kr
  | _ => none)]) (zget (999, 0, 0, 0) zc_Lw_law) (zcut zu_Lw_law) (zorc [(571, [some (150, none), some (100, none), some (112, none), some (151, none), some (152, none), some (0, none), none, none, none], [], fun xs h => match xs with
  | [a0, a1, a2, a3, a4, a5] => Lw_law_571 kr r28 a0 a1 a2 a3 a4 a5 h
  | _ => none)]) kr (fun _ _ => none) 400 518 [some (150, a0), some (100, a1), some (112, a2), some (151, a3), some (152, a4), some (0, a5), none, none, none] [] h := by rfl
set_option maxRecDepth 100000 in
theorem qe_Lw_law_675 {ρ : Type} (kr : Int → zH → Option ρ) (r28 : Int → Int → Int → Int → Int → Int → zH → Option ρ) (a0 a1 a2 a3 a4 a5 : Int) (h : zH) : Lw_law_675 kr r28 a0 a1 a2 a3 a4 a5 h = zseg zPP true (zcal []) (zget (999, 0, 0, 0) zc_Lw_law) (zcut zu_Lw_law) (zorc [(2355, [some (150, none), some (100, none), some (112, none), some (151, none), some (152, none), some (0, none), none, none, none], [], fun xs h => match xs with
  | [a0, a1, a2, a3, a4, a5] => Lw_law_2355 kr r28 a0 a1 a2 a3 a4 a5 h
  | _ => none)]) kr (fun _ _ => none) 400 675 [some (150, a0), some (100, a1), some (112, a2), some (151, a3), some (152, a4), some (0, a5), none, none, none] [] h := by rfl
set_option maxRecDepth 100000 in
theorem qe_Lw_law_574 {ρ : Type} (kr : Int → zH → Option ρ) (r28 : Int → Int → Int → Int → Int → Int → zH → Option ρ) (a0 a1 a2 a3 a4 a5 : Int) (h : zH) : Lw_law_574 kr r28 a0 a1 a2 a3 a4 a5 h = zseg zPP true (zcal [(63, [none], fun xs h kr kt => match xs with
  | [x0] => zmch h x0 (M_thrown h kr)
  | _ => none), (80, [none, none, none, none, none, none], fun xs h kr kt => match xs with
  | [x0, x1, x2, x3, x4, x5] => zmch h x0 (M_launch x1 x2 x3 x4 x5 h kr)
  | _ => none), (294, [none, none, none, none, none, none, none], fun xs h kr kt => match xs with
  | [x0, x1, x2, x3, x4, x5, x6] => Lw_launch x0 x1 x2 x3 x4 x5 x6 h kr
  | _ => none)]) (zget (999, 0, 0, 0) zc_Lw_law) (zcut zu_Lw_law) (zorc [(675, [some (150, none), some (100, none), some (112, none), some (151, none), some (152, none), some (0, none), none, none, none], [], fun xs h => match xs with
  | [a0, a1, a2, a3, a4, a5] => Lw_law_675 kr r28 a0 a1 a2 a3 a4 a5 h
  | _ => none)]) kr (fun _ _ => none) 400 574 [some (150, a0), some (100, a1), some (112, a2), some (151, a3), some (152, a4), some (0, a5), none, none, none] [] h := by rfl
set_option maxRecDepth 100000 in
theorem qe_Lw_law_779 {ρ : Type} (kr : Int → zH → Option ρ) (r28 : Int → Int → Int → Int → Int → Int → zH → Option ρ) (a0 a1 a2 a3 a4 a5 : Int) (h : zH) : Lw_law_779 kr r28 a0 a1 a2 a3 a4 a5 h = zseg zPP true (zcal []) (zget (999, 0, 0, 0) zc_Lw_law) (zcut zu_Lw_law) (zorc [(2355, [some (150, none), some (100, none), some (112, none), some (151, none), some (152, none), some (0, none), none, none, none], [], fun xs h => match xs with
  | [a0, a1, a2, a3, a4, a5] => Lw_law_2355 kr r28 a0 a1 a2 a3 a4 a5 h
  | _ => none)]) kr (fun _ _ => none) 400 779 [some (150, a0), some (100, a1), some (112, a2), some (151, a3), some (152, a4), some (0, a5), none, none, none] [] h := by rfl
set_option maxRecDepth 100000 in
theorem qe_Lw_law_678 {ρ : Type} (kr : Int → zH → Option ρ) (r28 : Int → Int → Int → Int → Int → Int → zH → Option ρ) (a0 a1 a2 a3 a4 a5 : Int) (h : zH) : Lw_law_678 kr r28 a0 a1 a2 a3 a4 a5 h = zseg zPP true (zcal [(63, [none], fun xs h kr kt => match xs with
  | [x0] => zmch h x0 (M_thrown h kr)
  | _ => none), (81, [none, none, none, none, none, none], fun xs h kr kt => match xs with
  | [x0, x1, x2, x3, x4, x5] => zmch h x0 (M_copy x1 x2 x3 x4 x5 h kr)
  | _ => none), (295, [none, none, none, none, none, none, none], fun xs h kr kt => match xs with
  | [x0, x1, x2, x3, x4, x5, x6] => Lw_copy x0 x1 x2 x3 x4 x5 x6 h kr
  | _ => none)]) (zget (999, 0, 0, 0) zc_Lw_law) (zcut zu_Lw_law) (zorc [(779, [some (150, none), some (100, none), some (112, none), some (151, none), some (152, none), some (0, none), none, none, none], [], fun xs h => match xs with
  | [a0, a1, a2, a3, a4, a5] => Lw_law_779 kr r28 a0 a1 a2 a3 a4 a5 h
  | _ => none)]) kr (fun _ _ => none) 400 678 [some (150, a0), some (100, a1), some (112, a2), some (151, a3), some (152, a4), some (0, a5), none, none, none] [] h := by rfl
set_option maxRecDepth 100000 in
theorem qe_Lw_law_782 {ρ : Type} (kr : Int → zH → Option ρ) (r28 : Int → Int → Int → Int → Int → Int → zH → Option ρ) (a0 a1 a2 a3 a4 a5 : Int) (h : zH) : Lw_law_782 kr r28 a0 a1 a2 a3 a4 a5 h = zseg zPP true (zcal [(17, [none], fun xs h kr kt => match xs with
  | [x0] => X_launches x0 h kr
  | _ => none), (83, [none], fun xs h kr kt => match xs with
  | [x0] => zmch h x0 (M_launches h kr)
  | _ => none)]) (zget (999, 0, 0, 0) zc_Lw_law) (zcut zu_Lw_law) (zorc [(2355, [some (150, none), some (100, none), some (112, none), some (151, none), some (152, none), some (0, none), none, none, none], [], fun xs h => match xs with
  | [a0, a1, a2, a3, a4, a5] => Lw_law_2355 kr r28 a0 a1 a2 a3 a4 a5 h
  | _ => none)]) kr (fun _ _ => none) 400 782 [some (150, a0), some (100, a1), some (112, a2), some (151, a3), some (152, a4), some (0, a5), none, none, none] [] h := by rfl
set_option maxRecDepth 100000 in
theorem qe_Lw_law_848 {ρ : Type} (kr : Int → zH → Option ρ) (r28 : Int → Int → Int → Int → Int → Int → zH → Option ρ) (a0 a1 a2 a3 a4 a5 : Int) (h : zH) : Lw_law_848 kr r28 a0 a1 a2 a3 a4 a5 h = zseg zPP true (zcal []) (zget (999, 0, 0, 0) zc_Lw_law) (zcut zu_Lw_law) (zorc [(2355, [some (150, none), some (100, none), some (112, none), some (151, none), some (152, none), some (0, none), none, none, none], [], fun xs h => match xs with
  | [a0, a1, a2, a3, a4, a5] => Lw_law_2355 kr r28 a0 a1 a2 a3 a4 a5 h
  | _ => none)]) kr (fun _ _ => none) 400 848 [some (150, a0), some (100, a1), some (112, a2), some (151, a3), some (152, a4), some (0, a5), none, none, none] [] h := by rfl
set_option maxRecDepth 100000 in
theorem qe_Lw_law_795 {ρ : Type} (kr : Int → zH → Option ρ) (r28 : Int → Int → Int → Int → Int → Int → zH → Option ρ) (a0 a1 a2 a3 a4 a5 : Int) (h : zH) : Lw_law_795 kr r28 a0 a1 a2 a3 a4 a5 h = zseg zPP true (zcal [(63, [none], fun xs h kr kt => match xs with
  | [x0] => zmch h x0 (M_thrown h kr)
  | _ => none), (84, [none, none], fun xs h kr kt => match xs with
  | [x0, x1] => zmch h x0 (M_state x1 h kr)
  | _ => none), (296, [none, none, none], fun xs h kr kt => match xs with
  | [x0, x1, x2] => Lw_state x0 x1 x2 h kr
  | _ => none)]) (zget (999, 0, 0, 0) zc_Lw_law) (zcut zu_Lw_law) (zorc [(848, [some (150, none), some (100, none), some (112, none), some (151, none), some (152, none), some (0, none), none, none, none], [], fun xs h => match xs with
  | [a0, a1, a2, a3, a4, a5] => Lw_law_848 kr r28 a0 a1 a2 a3 a4 a5 h
  | _ => none)]) kr (fun _ _ => none) 400 795 [some (150, a0), some (100, a1), some (112, a2), some (151, a3), some (152, a4), some (0, a5), none, none, none] [] h := by rfl
set_option maxRecDepth 100000 in
theorem qe_Lw_law_904 {ρ : Type} (kr : Int → zH → Option ρ) (r28 : Int → Int → Int → Int → Int → Int → zH → Option ρ) (a0 a1 a2 a3 a4 a5 : Int) (h : zH) : Lw_law_904 kr r28 a0 a1 a2 a3 a4 a5 h = zseg zPP true (zcal []) (zget (999, 0, 0, 0) zc_Lw_law) (zcut zu_Lw_law) (zorc [(2355, [some (150, none), some (100, none), some (112, none), some (151, none), some (152, none), some (0, none), none, none, none], [], fun xs h => match xs with
  | [a0, a1, a2, a3, a4, a5] => Lw_law_2355 kr r28 a0 a1 a2 a3 a4 a5 h
  | _ => none)]) kr (fun _ _ => none) 400 904 [some (150, a0), some (100, a1), some (112, a2), some (151, a3), some (152, a4), some (0, a5), none, none, none] [] h := by rfl
set_option maxRecDepth 100000 in
theorem qe_Lw_law_851 {ρ : Type} (kr : Int → zH → Option ρ) (r28 : Int → Int → Int → Int → Int → Int → zH → Option ρ) (a0 a1 a2 a3 a4 a5 : Int) (h : zH) : Lw_law_851 kr r28 a0 a1 a2 a3 a4 a5 h = zseg zPP true (zcal [(63, [none], fun xs h kr kt => match xs with
  | [x0] => zmch h x0 (M_thrown h kr)
  | _ => none), (85, [none, none], fun xs h kr kt => match xs with
  | [x0, x1] => zmch h x0 (M_parent x1 h kr)
  | _ => none), (297, [none, none, none], fun xs h kr kt => match xs with
  | [x0, x1, x2] => Lw_parent x0 x1 x2 h kr
  | _ => none)]) (zget (999, 0, 0, 0) zc_Lw_law) (zcut zu_Lw_law) (zorc [(904, [some (150, none), some (100, none), some (112, none), some (151, none), some (152, none), some (0, none), none, none, none], [], fun xs h => match xs with
  | [a0, a1, a2, a3, a4, a5] => Lw_law_904 kr r28 a0 a1 a2 a3 a4 a5 h
  | _ => none)]) kr (fun _ _ => none) 400 851 [some (150, a0), some (100, a1), some (112, a2), some (151, a3), some (152, a4), some (0, a5), none, none, none] [] h := by rfl
set_option maxRecDepth 100000 in
theorem qe_Lw_law_960 {ρ : Type} (kr : Int → zH → Option ρ) (r28 : Int → Int → Int → Int → Int → Int → zH → Option ρ) (a0 a1 a2 a3 a4 a5 : Int) (h : zH) : Lw_law_960 kr r28 a0 a1 a2 a3 a4 a5 h = zseg zPP true (zcal []) (zget (999, 0, 0, 0) zc_Lw_law) (zcut zu_Lw_law) (zorc [(2355, [some (150, none), some (100, none), some (112, none), some (151, none), some (152, none), some (0, none), none, none, none], [], fun xs h => match xs with
  | [a0, a1, a2, a3, a4, a5] => Lw_law_2355 kr r28 a0 a1 a2 a3 a4 a5 h
  | _ => none)]) kr (fun _ _ => none) 400 960 [some (150, a0), some (100, a1), some (112, a2), some (151, a3), some (152, a4), some (0, a5), none, none, none] [] h := by rfl
set_option maxRecDepth 100000 in
theorem qe_Lw_law_907 {ρ : Type} (kr : Int → zH → Option ρ) (r28 : Int → Int → Int → Int → Int → Int → zH → Option ρ) (a0 a1 a2 a3 a4 a5 : Int) (h : zH) : Lw_law_907 kr r28 a0 a1 a2 a3 a4 a5 h = zseg zPP true (zcal [(63, [none], fun xs h kr kt => match xs with
  | [x0] => zmch h x0 (M_thrown h kr)
  | _ => none), (86, [none, none], fun xs h kr kt => match xs with
  | [x0, x1] => zmch h x0 (M_given x1 h kr)
  | _ => none), (298, [none, none, none], fun xs h kr kt => match xs with
  | [x0, x1, x2] => Lw_given x0 x1 x2 h kr
  | _ => none)]) (zget (999, 0, 0, 0) zc_Lw_law) (zcut zu_Lw_law) (zorc [(960, [some (150, none), some (100, none), some (112, none), some (151, none), some (152, none), some (0, none), none, none, none], [], fun xs h => match xs with
  | [a0, a1, a2, a3, a4, a5] => Lw_law_960 kr r28 a0 a1 a2 a3 a4 a5 h
  | _ => none)]) kr (fun _ _ => none) 400 907 [some (150, a0), some (100, a1), some (112, a2), some (151, a3), some (152, a4), some (0, a5), none, none, none] [] h := by rfl
set_option maxRecDepth 100000 in
theorem qe_Lw_law_1016 {ρ : Type} (kr : Int → zH → Option ρ) (r28 : Int → Int → Int → Int → Int → Int → zH → Option ρ) (a0 a1 a2 a3 a4 a5 : Int) (h : zH) : Lw_law_1016 kr r28 a0 a1 a2 a3 a4 a5 h = zseg zPP true (zcal []) (zget (999, 0, 0, 0) zc_Lw_law) (zcut zu_Lw_law) (zorc [(2355, [some (150, none), some (100, none), some (112, none), some (151, none), some (152, none), some (0, none), none, none, none], [], fun xs h => match xs with
  | [a0, a1, a2, a3, a4, a5] => Lw_law_2355 kr r28 a0 a1 a2 a3 a4 a5 h
  | _ => none)]) kr (fun _ _ => none) 400 1016 [some (150, a0), some (100, a1), some (112, a2), some (151, a3), some (152, a4), some (0, a5), none, none, none] [] h := by rfl
set_option maxRecDepth 100000 in
theorem qe_Lw_law_963 {ρ : Type} (kr : Int → zH → Option ρ) (r28 : Int → Int → Int → Int → Int → Int → zH → Option ρ) (a0 a1 a2 a3 a4 a5 : Int) (h : zH) : Lw_law_963 kr r28 a0 a1 a2 a3 a4 a5 h = zseg zPP true (zcal [(63, [none], fun xs h kr kt => match xs with
  | [x0] => zmch h x0 (M_thrown h kr)
  | _ => none), (137, [none, none], fun xs h kr kt => match xs with
  | [x0, x1] => zmch h x0 (M_step x1 h kr)
  | _ => none), (299, [none, none, none], fun xs h kr kt => match xs with
  | [x0, x1, x2] => Lw_step x0 x1 x2 h kr
  | _ => none)]) (zget (999, 0, 0, 0) zc_Lw_law) (zcut zu_Lw_law) (zorc [(1016, [some (150, none), some (100, none), some (112, none), some (151, none), some (152, none), some (0, none), none, none, none], [], fun xs h => match xs with
  | [a0, a1, a2, a3, a4, a5] => Lw_law_1016 kr r28 a0 a1 a2 a3 a4 a5 h
  | _ => none)]) kr (fun _ _ => none) 400 963 [some (150, a0), some (100, a1), some (112, a2), some (151, a3), some (152, a4), some (0, a5), none, none, none] [] h := by rfl
set_option maxRecDepth 100000 in
theorem qe_Lw_law_1072 {ρ : Type} (kr : Int → zH → Option ρ) (r28 : Int → Int → Int → Int → Int → Int → zH → Option ρ) (a0 a1 a2 a3 a4 a5 : Int) (h : zH) : Lw_law_1072 kr r28 a0 a1 a2 a3 a4 a5 h = zseg zPP true (zcal []) (zget (999, 0, 0, 0) zc_Lw_law) (zcut zu_Lw_law) (zorc [(2355, [some (150, none), some (100, none), some (112, none), some (151, none), some (152, none), some (0, none), none, none, none], [], fun xs h => match xs with
  | [a0, a1, a2, a3, a4, a5] => Lw_law_2355 kr r28 a0 a1 a2 a3 a4 a5 h
  | _ => none)]) kr (fun _ _ => none) 400 1072 [some (150, a0), some (100, a1), some (112, a2), some (151, a3), some (152, a4), some (0, a5), none, none, none] [] h := by rfl
set_option maxRecDepth 100000 in
theorem qe_Lw_law_1019 {ρ : Type} (kr : Int → zH → Option ρ) (r28 : Int → Int → Int → Int → Int → Int → zH → Option ρ) (a0 a1 a2 a3 a4 a5 : Int) (h : zH) : Lw_law_1019 kr r28 a0 a1 a2 a3 a4 a5 h = zseg zPP true (zcal [(63, [none], fun xs h kr kt => match xs with
  | [x0] => zmch h x0 (M_thrown h kr)
  | _ => none), (139, [none, none], fun xs h kr kt => match xs with
  | [x0, x1] => zmch h x0 (M_run x1 h kr)
  | _ => none), (300, [none, none, none], fun xs h kr kt => match xs with
  | [x0, x1, x2] => Lw_run x0 x1 x2 h kr
  | _ => none)]) (zget (999, 0, 0, 0) zc_Lw_law) (zcut zu_Lw_law) (zorc [(1072, [some (150, none), some (100, none), some (112, none), some (151, none), some (152, none), some (0, none), none, none, none], [], fun xs h => match xs with
  | [a0, a1, a2, a3, a4, a5] => Lw_law_1072 kr r28 a0 a1 a2 a3 a4 a5 h
  | _ => none)]) kr (fun _ _ => none) 400 1019 [some (150, a0), some (100, a1), some (112, a2), some (151, a3), some (152, a4), some (0, a5), none, none, none] [] h := by rfl
set_option maxRecDepth 100000 in
theorem qe_Lw_law_1130 {ρ : Type} (kr : Int → zH → Option ρ) (r28 : Int → Int → Int → Int → Int → Int → zH → Option ρ) (a0 a1 a2 a3 a4 a5 : Int) (h : zH) : Lw_law_1130 kr r28 a0 a1 a2 a3 a4 a5 h = zseg zPP true (zcal []) (zget (999, 0, 0, 0) zc_Lw_law) (zcut zu_Lw_law) (zorc [(2355, [some (150, none), some (100, none), some (112, none), some (151, none), some (152, none), some (0, none), none, none, none], [], fun xs h => match xs with
  | [a0, a1, a2, a3, a4, a5] => Lw_law_2355 kr r28 a0 a1 a2 a3 a4 a5 h
  | _ => none)]) kr (fun _ _ => none) 400 1130 [some (150, a0), some (100, a1), some (112, a2), some (151, a3), some (152, a4), some (0, a5), none, none, none] [] h := by rfl
set_option maxRecDepth 100000 in
theorem qe_Lw_law_1075 {ρ : Type} (kr : Int → zH → Option ρ) (r28 : Int → Int → Int → Int → Int → Int → zH → Option ρ) (a0 a1 a2 a3 a4 a5 : Int) (h : zH) : Lw_law_1075 kr r28 a0 a1 a2 a3 a4 a5 h = zseg zPP true (zcal [(63, [none], fun xs h kr kt => match xs with
  | [x0] => zmch h x0 (M_thrown h kr)
  | _ => none), (140, [none, none], fun xs h kr kt => match xs with
  | [x0, x1] => zmch h x0 (M_setOrder x1 h kr)
  | _ => none), (301, [none, none, none], fun xs h kr kt => match xs with
  | [x0, x1, x2] => Lw_setOrder x0 x1 x2 h kr
  | _ => none)]) (zget (999, 0, 0, 0) zc_Lw_law) (zcut zu_Lw_law) (zorc [(1130, [some (150, none), some (100, none), some (112, none), some (151, none), some (152, none), some (0, none), none, none, none], [], fun xs h => match xs with
  | [a0, a1, a2, a3, a4, a5] => Lw_law_1130 kr r28 a0 a1 a2 a3 a4 a5 h
  | _ => none)]) kr (fun _ _ => none) 400 1075 [some (150, a0), some (100, a1), some (112, a2), some (151, a3), some (152, a4), some (0, a5), none, none, none] [] h := by rfl
set_option maxRecDepth 100000 in
theorem qe_Lw_law_1133 {ρ : Type} (kr : Int → zH → Option ρ) (r28 : Int → Int → Int → Int → Int → Int → zH → Option ρ) (a0 a1 a2 a3 a4 a5 : Int) (h : zH) : Lw_law_1133 kr r28 a0 a1 a2 a3 a4 a5 h = zseg zPP true (zcal [(24, [none], fun xs h kr kt => match xs with
  | [x0] => X_cycle x0 h kr
  | _ => none), (141, [none], fun xs h kr kt => match xs with
  | [x0] => zmch h x0 (M_cycle h kr)
  | _ => none)]) (zget (999, 0, 0, 0) zc_Lw_law) (zcut zu_Lw_law) (zorc [(2355, [some (150, none), some (100, none), some (112, none), some (151, none), some (152, none), some (0, none), none, none, none], [], fun xs h => match xs with
  | [a0, a1, a2, a3, a4, a5] => Lw_law_2355 kr r28 a0 a1 a2 a3 a4 a5 h
  | _ => none)]) kr (fun _ _ => none) 400 1133 [some (150, a0), some (100, a1), some (112, a2), some (151, a3), some (152, a4), some (0, a5), none, none, none] [] h := by rfl
set_option maxRecDepth 100000 in
theorem qe_Lw_law_1199 {ρ : Type} (kr : Int → zH → Option ρ) (r28 : Int → Int → Int → Int → Int → Int → zH → Option ρ) (a0 a1 a2 a3 a4 a5 : Int) (h : zH) : Lw_law_1199 kr r28 a0 a1 a2 a3 a4 a5 h = zseg zPP true (zcal []) (zget (999, 0, 0, 0) zc_Lw_law) (zcut zu_Lw_law) (zorc [(2355, [some (150, none), some (100, none), some (112, none), some (151, none), some (152, none), some (0, none), none, none, none], [], fun xs h => match xs with
  | [a0, a1, a2, a3, a4, a5] => Lw_law_2355 kr r28 a0 a1 a2 a3 a4 a5 h
  | _ => none)]) kr (fun _ _ => none) 400 1199 [some (150, a0), some (100, a1), some (112, a2), some (151, a3), some (152, a4), some (0, a5), none, none, none] [] h := by rfl
set_option maxRecDepth 100000 in
theorem qe_Lw_law_1146 {ρ : Type} (kr : Int → zH → Option ρ) (r28 : Int → Int → Int → Int → Int → Int → zH → Option ρ) (a0 a1 a2 a3 a4 a5 : Int) (h : zH) : Lw_law_1146 kr r28 a0 a1 a2 a3 a4 a5 h = zseg zPP true (zcal [(63, [none], fun xs h kr kt => match xs with
  | [x0] => zmch h x0 (M_thrown h kr)
  | _ => none), (144, [none, none], fun xs h kr kt => match xs with
  | [x0, x1] => zmch h x0 (M_groups x1 h kr)
  | _ => none), (302, [none, none, none], fun xs h kr kt => match xs with
  | [x0, x1, x2] => Lw_groups x0 x1 x2 h kr
  | _ => none)]) (zget (999, 0, 0, 0) zc_Lw_law) (zcut zu_Lw_law) (zorc [(1199, [some (150, none), some (100, none), some (112, none), some (151, none), some (152, none), some (0, none), none, none, none], [], fun xs h => match xs with
  | [a0, a1, a2, a3, a4, a5] => Lw_law_1199 kr r28 a0 a1 a2 a3 a4 a5 h
  | _ => none)]) kr (fun _ _ => none) 400 1146 [some (150, a0), some (100, a1), some (112, a2), some (151, a3), some (152, a4), some (0, a5), none, none, none] [] h := by rfl
set_option maxRecDepth 100000 in
theorem qe_Lw_law_1267 {ρ : Type} (kr : Int → zH → Option ρ) (r28 : Int → Int → Int → Int → Int → Int → zH → Option ρ) (a0 a1 a2 a3 a4 a5 : Int) (h : zH) : Lw_law_1267 kr r28 a0 a1 a2 a3 a4 a5 h = zseg zPP true (zcal []) (zget (999, 0, 0, 0) zc_Lw_law) (zcut zu_Lw_law) (zorc [(2355, [some (150, none), some (100, none), some (112, none), some (151, none), some (152, none), some (0, none), none, none, none], [], fun xs h => match xs with
  | [a0, a1, a2, a3, a4, a5] => Lw_law_2355 kr r28 a0 a1 a2 a3 a4 a5 h
  | _ => none)]) kr (fun _ _ => none) 400 1267 [some (150, a0), some (100, a1), some (112, a2), some (151, a3), some (152, a4), some (0, a5), none, none, none] [] h := by rfl
set_option maxRecDepth 100000 in
theorem qe_Lw_law_1202 {ρ : Type} (kr : Int → zH → Option ρ) (r28 : Int → Int → Int → Int → Int → Int → zH → Option ρ) (a0 a1 a2 a3 a4 a5 : Int) (h : zH) : Lw_law_1202 kr r28 a0 a1 a2 a3 a4 a5 h = zseg zPP true (zcal [(63, [none], fun xs h kr kt => match xs with
  | [x0] => zmch h x0 (M_thrown h kr)
  | _ => none), (145, [none, none, none], fun xs h kr kt => match xs with
  | [x0, x1, x2] => zmch h x0 (M_threadAt x1 x2 h kr)
  | _ => none), (303, [none, none, none, none], fun xs h kr kt => match xs with
  | [x0, x1, x2, x3] => Lw_threadAt x0 x1 x2 x3 h kr
  | _ => none)]) (zget (999, 0, 0, 0) zc_Lw_law) (zcut zu_Lw_law) (zorc [(1267, [some (150, none), some (100, none), some (112, none), some (151, none), some (152, none), some (0, none), none, none, none], [], fun xs h => match xs with
  | [a0, a1, a2, a3, a4, a5] => Lw_law_1267 kr r28 a0 a1 a2 a3 a4 a5 h
  | _ => none)]) kr (fun _ _ => none) 400 1202 [some (150, a0), some (100, a1), some (112, a2), some (151, a3), some (152, a4), some (0, a5), none, none, none] [] h := by rfl
set_option maxRecDepth 100000 in
theorem qe_Lw_law_1335 {ρ : Type} (kr : Int → zH → Option ρ) (r28 : Int → Int → Int → Int → Int → Int → zH → Option ρ) (a0 a1 a2 a3 a4 a5 : Int) (h : zH) : Lw_law_1335 kr r28 a0 a1 a2 a3 a4 a5 h = zseg zPP true (zcal []) (zget (999, 0, 0, 0) zc_Lw_law) (zcut zu_Lw_law) (zorc [(2355, [some (150, none), some (100, none), some (112, none), some (151, none), some (152, none), some (0, none), none, none, none], [], fun xs h => match xs with
  | [a0, a1, a2, a3, a4, a5] => Lw_law_2355 kr r28 a0 a1 a2 a3 a4 a5 h
  | _ => none)]) kr (fun _ _ => none) 400 1335 [some (150, a0), some (100, a1), some (112, a2), some (151, a3), some (152, a4), some (0, a5), none, none, none] [] h := by rfl
set_option maxRecDepth 100000 in
theorem qe_Lw_law_1270 {ρ : Type} (kr : Int → zH → Option ρ) (r28 : Int → Int → Int → Int → Int → Int → zH → Option ρ) (a0 a1 a2 a3 a4 a5 : Int) (h : zH) : Lw_law_1270 kr r28 a0 a1 a2 a3 a4 a5 h = zseg zPP true (zcal [(63, [none], fun xs h kr kt => match xs with
  | [x0] => zmch h x0 (M_thrown h kr)
  | _ => none), (146, [none, none, none], fun xs h kr kt => match xs with
  | [x0, x1, x2] => zmch h x0 (M_place x1 x2 h kr)
  | _ => none), (304, [none, none, none, none], fun xs h kr kt => match xs with
  | [x0, x1, x2, x3] => Lw_place x0 x1 x2 x3 h kr
  | _ => none)]) (zget (999, 0, 0, 0) zc_Lw_law) (zcut zu_Lw_law) (zorc [(1335, [some (150, none), some (100, none), some (112, none), some (151, none), some (152, none), some (0, none), none, none, none], [], fun xs h => match xs with
  | [a0, a1, a2, a3, a4, a5] => Lw_law_1335 kr r28 a0 a1 a2 a3 a4 a5 h
  | _ => none)]) kr (fun _ _ => none) 400 1270 [some (150, a0), some (100, a1), some (112, a2), some (151, a3), some (152, a4), some (0, a5), none, none, none] [] h := by rfl
set_option maxRecDepth 100000 in
theorem qe_Lw_law_1403 {ρ : Type} (kr : Int → zH → Option ρ) (r28 : Int → Int → Int → Int → Int → Int → zH → Option ρ) (a0 a1 a2 a3 a4 a5 : Int) (h : zH) : Lw_law_1403 kr r28 a0 a1 a2 a3 a4 a5 h = zseg zPP true (zcal []) (zget (999, 0, 0, 0) zc_Lw_law) (zcut zu_Lw_law) (zorc [(2355, [some (150, none), some (100, none), some (112, none), some (151, none), some (152, none), some (0, none), none, none, none], [], fun xs h => match xs with
  | [a0, a1, a2, a3, a4, a5] => Lw_law_2355 kr r28 a0 a1 a2 a3 a4 a5 h
  | _ => none)]) kr (fun _ _ => none) 400 1403 [some (150, a0), some (100, a1), some (112, a2), some (151, a3), some (152, a4), some (0, a5), none, none, none] [] h := by rfl
set_option maxRecDepth 100000 in
theorem qe_Lw_law_1338 {ρ : Type} (kr : Int → zH → Option ρ) (r28 : Int → Int → Int → Int → Int → Int → zH → Option ρ) (a0 a1 a2 a3 a4 a5 : Int) (h : zH) : Lw_law_1338 kr r28 a0 a1 a2 a3 a4 a5 h = zseg zPP true (zcal [(63, [none], fun xs h kr kt => match xs with
  | [x0] => zmch h x0 (M_thrown h kr)
  | _ => none), (147, [none, none, none], fun xs h kr kt => match xs with
  | [x0, x1, x2] => zmch h x0 (M_mask x1 x2 h kr)
  | _ => none), (305, [none, none, none, none], fun xs h kr kt => match xs with
  | [x0, x1, x2, x3] => Lw_mask x0 x1 x2 x3 h kr
  | _ => none)]) (zget (999, 0, 0, 0) zc_Lw_law) (zcut zu_Lw_law) (zorc [(1403, [some (150, none), some (100, none), some (112, none), some (151, none), some (152, none), some (0, none), none, none, none], [], fun xs h => match xs with
  | [a0, a1, a2, a3, a4, a5] => Lw_law_1403 kr r28 a0 a1 a2 a3 a4 a5 h
  | _ => none)]) kr (fun _ _ => none) 400 1338 [some (150, a0), some (100, a1), some (112, a2), some (151, a3), some (152, a4), some (0, a5), none, none, none] [] h := by rfl
set_option maxRecDepth 100000 in
theorem qe_Lw_law_1471 {ρ : Type} (kr : Int → zH → Option ρ) (r28 : Int → Int → Int → Int → Int → Int → zH → Option ρ) (a0 a1 a2 a3 a4 a5 : Int) (h : zH) : Lw_law_1471 kr r28 a0 a1 a2 a3 a4 a5 h = zseg zPP true (zcal []) (zget (999, 0, 0, 0) zc_Lw_law) (zcut zu_Lw_law) (zorc [(2355, [some (150, none), some (100, none), some (112, none), some (151, none), some (152, none), some (0, none), none, none, none], [], fun xs h => match xs with
  | [a0, a1, a2, a3, a4, a5] => Lw_law_2355 kr r28 a0 a1 a2 a3 a4 a5 h
  | _ => none)]) kr (fun _ _ => none) 400 1471 [some (150, a0), some (100, a1), some (112, a2), some (151, a3), some (152, a4), some (0, a5), none, none, none] [] h := by rfl
set_option maxRecDepth 100000 in
theorem qe_Lw_law_1406 {ρ : Type} (kr : Int → zH → Option ρ) (r28 : Int → Int → Int → Int → Int → Int → zH → Option ρ) (a0 a1 a2 a3 a4 a5 : Int) (h : zH) : Lw_law_1406 kr r28 a0 a1 a2 a3 a4 a5 h = zseg zPP true (zcal [(63, [none], fun xs h kr kt => match xs with
  | [x0] => zmch h x0 (M_thrown h kr)
  | _ => none), (148, [none, none, none], fun xs h kr kt => match xs with
  | [x0, x1, x2] => zmch h x0 (M_places x1 x2 h kr)
  | _ => none), (306, [none, none, none, none], fun xs h kr kt => match xs with
  | [x0, x1, x2, x3] => Lw_places x0 x1 x2 x3 h kr
  | _ => none)]) (zget (999, 0, 0, 0) zc_Lw_law) (zcut zu_Lw_law) (zorc [(1471, [some (150, none), some (100, none), some (112, none), some (151, none), some (152, none), some (0, none), none, none, none], [], fun xs h => match xs with
  | [a0, a1, a2, a3, a4, a5] => Lw_law_1471 kr r28 a0 a1 a2 a3 a4 a5 h
  | _ => none)]) kr (fun _ _ => none) 400 1406 [some (150, a0), some (100, a1), some (112, a2), some (151, a3), some (152, a4), some (0, a5), none, none, none] [] h := by rfl
set_option maxRecDepth 100000 in
theorem qe_Lw_law_1539 {ρ : Type} (kr : Int → zH → Option ρ) (r28 : Int → Int → Int → Int → Int → Int → zH → Option ρ) (a0 a1 a2 a3 a4 a5 : Int) (h : zH) : Lw_law_1539 kr r28 a0 a1 a2 a3 a4 a5 h = zseg zPP true (zcal []) (zget (999, 0, 0, 0) zc_Lw_law) (zcut zu_Lw_law) (zorc [(2355, [some (150, none), some (100, none), some (112, none), some (151, none), some (152, none), some (0, none), none, none, none], [], fun xs h => match xs with
  | [a0, a1, a2, a3, a4, a5] => Lw_law_2355 kr r28 a0 a1 a2 a3 a4 a5 h
  | _ => none)]) kr (fun _ _ => none) 400 1539 [some (150, a0), some (100, a1), some (112, a2), some (151, a3), some (152, a4), some (0, a5), none, none, none] [] h := by rfl
set_option maxRecDepth 100000 in
theorem qe_Lw_law_1474 {ρ : Type} (kr : Int → zH → Option ρ) (r28 : Int → Int → Int → Int → Int → Int → zH → Option ρ) (a0 a1 a2 a3 a4 a5 : Int) (h : zH) : Lw_law_1474 kr r28 a0 a1 a2 a3 a4 a5 h = zseg zPP true (zcal [(63, [none], fun xs h kr kt => match xs with
  | [x0] => zmch h x0 (M_thrown h kr)
  | _ => none), (149, [none, none, none], fun xs h kr kt => match xs with
  | [x0, x1, x2] => zmch h x0 (M_reason x1 x2 h kr)
  | _ => none), (307, [none, none, none, none], fun xs h kr kt => match xs with
  | [x0, x1, x2, x3] => Lw_reason x0 x1 x2 x3 h kr
  | _ => none)]) (zget (999, 0, 0, 0) zc_Lw_law) (zcut zu_Lw_law) (zorc [(1539, [some (150, none), some (100, none), some (112, none), some (151, none), some (152, none), some (0, none), none, none, none], [], fun xs h => match xs with
  | [a0, a1, a2, a3, a4, a5] => Lw_law_1539 kr r28 a0 a1 a2 a3 a4 a5 h
  | _ => none)]) kr (fun _ _ => none) 400 1474 [some (150, a0), some (100, a1), some (112, a2), some (151, a3), some (152, a4), some (0, a5), none, none, none] [] h := by rfl
set_option maxRecDepth 100000 in
theorem qe_Lw_law_1631 {ρ : Type} (kr : Int → zH → Option ρ) (r28 : Int → Int → Int → Int → Int → Int → zH → Option ρ) (a0 a1 a2 a3 a4 a5 : Int) (h : zH) : Lw_law_1631 kr r28 a0 a1 a2 a3 a4 a5 h = zseg zPP true (zcal []) (zget (999, 0, 0, 0) zc_Lw_law) (zcut zu_Lw_law) (zorc [(2355, [some (150, none), some (100, none), some (112, none), some (151, none), some (152, none), some (0, none), none, none, none], [], fun xs h => match xs with
  | [a0, a1, a2, a3, a4, a5] => Lw_law_2355 kr r28 a0 a1 a2 a3 a4 a5 h
  | _ => none)]) kr (fun _ _ => none) 400 1631 [some (150, a0), some (100, a1), some (112, a2), some (151, a3), some (152, a4), some (0, a5), none, none, none] [] h := by rfl
set_option maxRecDepth 100000 in
theorem qe_Lw_law_1542 {ρ : Type} (kr : Int → zH → Option ρ) (r28 : Int → Int → Int → Int → Int → Int → zH → Option ρ) (a0 a1 a2 a3 a4 a5 : Int) (h : zH) : Lw_law_1542 kr r28 a0 a1 a2 a3 a4 a5 h = zseg zPP true (zcal [(63, [none], fun xs h kr kt => match xs with
  | [x0] => zmch h x0 (M_thrown h kr)
  | _ => none), (150, [none, none, none, none, none], fun xs h kr kt => match xs with
  | [x0, x1, x2, x3, x4] => zmch h x0 (M_register x1 x2 x3 x4 h kr)
  | _ => none), (308, [none, none, none, none, none, none], fun xs h kr kt => match xs with
  | [x0, x1, x2, x3, x4, x5] => Lw_register x0 x1 x2 x3 x4 x5 h kr
  | _ => none)]) (zget (999, 0, 0, 0) zc_Lw_law) (zcut zu_Lw_law) (zorc [(1631, [some (150, none), some (100, none), some (112, none), some (151, none), some (152, none), some (0, none), none, none, none], [], fun xs h => match xs with
  | [a0, a1, a2, a3, a4, a5] => Lw_law_1631 kr r28 a0 a1 a2 a3 a4 a5 h
  | _ => none)]) kr (fun _ _ => none) 400 1542 [some (150, a0), some (100, a1), some (112, a2), some (151, a3), some (152, a4), some (0, a5), none, none, none] [] h := by rfl
set_option maxRecDepth 100000 in
theorem qe_Lw_law_1711 {ρ : Type} (kr : Int → zH → Option ρ) (r28 : Int → Int → Int → Int → Int → Int → zH → Option ρ) (a0 a1 a2 a3 a4 a5 : Int) (h : zH) : Lw_law_1711 kr r28 a0 a1 a2 a3 a4 a5 h = zseg zPP true (zcal []) (zget (999, 0, 0, 0) zc_Lw_law) (zcut zu_Lw_law) (zorc [(2355, [some (150, none), some (100, none), some (112, none), some (151, none), some (152, none), some (0, none), none, none, none], [], fun xs h => match xs with
  | [a0, a1, a2, a3, a4, a5] => Lw_law_2355 kr r28 a0 a1 a2 a3 a4 a5 h
  | _ => none)]) kr (fun _ _ => none) 400 1711 [some (150, a0), some (100, a1), some (112, a2), some (151, a3), some (152, a4), some (0, a5), none, none, none] [] h := by rfl
set_option maxRecDepth 100000 in
theorem qe_Lw_law_1634 {ρ : Type} (kr : Int → zH → Option ρ) (r28 : Int → Int → Int → Int → Int → Int → zH → Option ρ) (a0 a1 a2 a3 a4 a5 : Int) (h : zH) : Lw_law_1634 kr r28 a0 a1 a2 a3 a4 a5 h = zseg zPP true (zcal [(63, [none], fun xs h kr kt => match xs with
  | [x0] => zmch h x0 (M_thrown h kr)
  | _ => none), (151, [none, none, none, none], fun xs h kr kt => match xs with
  | [x0, x1, x2, x3] => zmch h x0 (M_shared x1 x2 x3 h kr)
  | _ => none), (309, [none, none, none, none, none], fun xs h kr kt => match xs with
  | [x0, x1, x2, x3, x4] => Lw_shared x0 x1 x2 x3 x4 h kr
  | _ => none)]) (zget (999, 0, 0, 0) zc_Lw_law) (zcut zu_Lw_law) (zorc [(1711, [some (150, none), some (100, none), some (112, none), some (151, none), some (152, none), some (0, none), none, none, none], [], fun xs h => match xs with
  | [a0, a1, a2, a3, a4, a5] => Lw_law_1711 kr r28 a0 a1 a2 a3 a4 a5 h
  | _ => none)]) kr (fun _ _ => none) 400 1634 [some (150, a0), some (100, a1), some (112, a2), some (151, a3), some (152, a4), some (0, a5), none, none, none] [] h := by rfl
set_option maxRecDepth 100000 in
theorem qe_Lw_law_1779 {ρ : Type} (kr : Int → zH → Option ρ) (r28 : Int → Int → Int → Int → Int → Int → zH → Option ρ) (a0 a1 a2 a3 a4 a5 : Int) (h : zH) : Lw_law_1779 kr r28 a0 a1 a2 a3 a4 a5 h = zseg zPP true (zcal []) (zget (999, 0, 0, 0) zc_Lw_law) (zcut zu_Lw_law) (zorc [(2355, [some (150, none), some (100, none), some (112, none), some (151, none), some (152, none), some (0, none), none, none, none], [], fun xs h => match xs with
  | [a0, a1, a2, a3, a4, a5] => Lw_law_2355 kr r28 a0 a1 a2 a3 a4 a5 h
  | _ => none)]) kr (fun _ _ => none) 400 1779 [some (150, a0), some (100, a1), some (112, a2), some (151, a3), some (152, a4), some (0, a5), none, none, none] [] h := by rfl
set_option maxRecDepth 100000 in
theorem qe_Lw_law_1714 {ρ : Type} (kr : Int → zH → Option ρ) (r28 : Int → Int → Int → Int → Int → Int → zH → Option ρ) (a0 a1 a2 a3 a4 a5 : Int) (h : zH) : Lw_law_1714 kr r28 a0 a1 a2 a3 a4 a5 h = zseg zPP true (zcal [(63, [none], fun xs h kr kt => match xs with
  | [x0] => zmch h x0 (M_thrown h kr)
  | _ => none), (152, [none, none, none], fun xs h kr kt => match xs with
  | [x0, x1, x2] => zmch h x0 (M_buffered x1 x2 h kr)
  | _ => none), (310, [none, none, none, none], fun xs h kr kt => match xs with
  | [x0, x1, x2, x3] => Lw_buffered x0 x1 x2 x3 h kr
  | _ => none)]) (zget (999, 0, 0, 0) zc_Lw_law) (zcut zu_Lw_law) (zorc [(1779, [some (150, none), some (100, none), some (112, none), some (151, none), some (152, none), some (0, none), none, none, none], [], fun xs h => match xs with
  | [a0, a1, a2, a3, a4, a5] => Lw_law_1779 kr r28 a0 a1 a2 a3 a4 a5 h
  | _ => none)]) kr (fun _ _ => none) 400 1714 [some (150, a0), some (100, a1), some (112, a2), some (151, a3), some (152, a4), some (0, a5), none, none, none] [] h := by rfl
set_option maxRecDepth 100000 in
theorem qe_Lw_law_1835 {ρ : Type} (kr : Int → zH → Option ρ) (r28 : Int → Int → Int → Int → Int → Int → zH → Option ρ) (a0 a1 a2 a3 a4 a5 : Int) (h : zH) : Lw_law_1835 kr r28 a0 a1 a2 a3 a4 a5 h = zseg zPP true (zcal []) (zget (999, 0, 0, 0) zc_Lw_law) (zcut zu_Lw_law) (zorc [(2355, [some (150, none), some (100, none), some (112, none), some (151, none), some (152, none), some (0, none), none, none, none], [], fun xs h => match xs with
  | [a0, a1, a2, a3, a4, a5] => Lw_law_2355 kr r28 a0 a1 a2 a3 a4 a5 h
  | _ => none)]) kr (fun _ _ => none) 400 1835 [some (150, a0), some (100, a1), some (112, a2), some (151, a3), some (152, a4), some (0, a5), none, none, none] [] h := by rfl
set_option maxRecDepth 100000 in
theorem qe_Lw_law_1782 {ρ : Type} (kr : Int → zH → Option ρ) (r28 : Int → Int → Int → Int → Int → Int → zH → Option ρ) (a0 a1 a2 a3 a4 a5 : Int) (h : zH) : Lw_law_1782 kr r28 a0 a1 a2 a3 a4 a5 h = zseg zPP true (zcal [(63, [none], fun xs h kr kt => match xs with
  | [x0] => zmch h x0 (M_thrown h kr)
  | _ => none), (153, [none, none], fun xs h kr kt => match xs with
  | [x0, x1] => zmch h x0 (M_fault x1 h kr)
  | _ => none), (311, [none, none, none], fun xs h kr kt => match xs with
  | [x0, x1, x2] => Lw_fault x0 x1 x2 h kr
  | _ => none)]) (zget (999, 0, 0, 0) zc_Lw_law) (zcut zu_Lw_law) (zorc [(1835, [some (150, none), some (100, none), some (112, none), some (151, none), some (152, none), some (0, none), none, none, none], [], fun xs h => match xs with
  | [a0, a1, a2, a3, a4, a5] => Lw_law_1835 kr r28 a0 a1 a2 a3 a4 a5 h
  | _ => none)]) kr (fun _ _ => none) 400 1782 [some (150, a0), some (100, a1), some (112, a2), some (151, a3), some (152, a4), some (0, a5), none, none, none] [] h := by rfl
set_option maxRecDepth 100000 in
theorem qe_Lw_law_1891 {ρ : Type} (kr : Int → zH → Option ρ) (r28 : Int → Int → Int → Int → Int → Int → zH → Option ρ) (a0 a1 a2 a3 a4 a5 : Int) (h : zH) : Lw_law_1891 kr r28 a0 a1 a2 a3 a4 a5 h = zseg zPP true (zcal []) (zget (999, 0, 0, 0) zc_Lw_law) (zcut zu_Lw_law) (zorc [(2355, [some (150, none), some (100, none), some (112, none), some (151, none), some (152, none), some (0, none), none, none, none], [], fun xs h => match xs with
  | [a0, a1, a2, a3, a4, a5] => Lw_law_2355 kr r28 a0 a1 a2 a3 a4 a5 h
  | _ => none)]) kr (fun _ _ => none) 400 1891 [some (150, a0), some (100, a1), some (112, a2), some (151, a3), some (152, a4), some (0, a5), none, none, none] [] h := by rfl
set_option maxRecDepth 100000 in
theorem qe_Lw_law_1838 {ρ : Type} (kr : Int → zH → Option ρ) (r28 : Int → Int → Int → Int → Int → Int → zH → Option ρ) (a0 a1 a2 a3 a4 a5 : Int) (h : zH) : Lw_law_1838 kr r28 a0 a1 a2 a3 a4 a5 h = zseg zPP true (zcal [(63, [none], fun xs h kr kt => match xs with
  | [x0] => zmch h x0 (M_thrown h kr)
  | _ => none), (154, [none, none], fun xs h kr kt => match xs with
  | [x0, x1] => zmch h x0 (M_faultAt x1 h kr)
  | _ => none), (312, [none, none, none], fun xs h kr kt => match xs with
  | [x0, x1, x2] => Lw_faultAt x0 x1 x2 h kr
  | _ => none)]) (zget (999, 0, 0, 0) zc_Lw_law) (zcut zu_Lw_law) (zorc [(1891, [some (150, none), some (100, none), some (112, none), some (151, none), some (152, none), some (0, none), none, none, none], [], fun xs h => match xs with
  | [a0, a1, a2, a3, a4, a5] => Lw_law_1891 kr r28 a0 a1 a2 a3 a4 a5 h
  | _ => none)]) kr (fun _ _ => none) 400 1838 [some (150, a0), some (100, a1), some (112, a2), some (151, a3), some (152, a4), some (0, a5), none, none, none] [] h := by rfl
set_option maxRecDepth 100000 in
theorem qe_Lw_law_1966 {ρ : Type} (kr : Int → zH → Option ρ) (r28 : Int → Int → Int → Int → Int → Int → zH → Option ρ) (a0 a1 a2 a3 a4 a5 : Int) (h : zH) : Lw_law_1966 kr r28 a0 a1 a2 a3 a4 a5 h = zseg zPP true (zcal []) (zget (999, 0, 0, 0) zc_Lw_law) (zcut zu_Lw_law) (zorc [(2355, [some (150, none), some (100, none), some (112, none), some (151, none), some (152, none), some (0, none), none, none, none], [], fun xs h => match xs with
  | [a0, a1, a2, a3, a4, a5] => Lw_law_2355 kr r28 a0 a1 a2 a3 a4 a5 h
  | _ => none)]) kr (fun _ _ => none) 400 1966 [some (150, a0), some (100, a1), some (112, a2), some (151, a3), some (152, a4), some (0, a5), none, none, none] [] h := by rfl
set_option maxRecDepth 100000 in
theorem qe_Lw_law_1960 {ρ : Type} (kr : Int → zH → Option ρ) (r28 : Int → Int → Int → Int → Int → Int → zH → Option ρ) (a0 a1 a2 a3 a4 a5 t0 t1 : Int) (h : zH) : Lw_law_1960 kr r28 a0 a1 a2 a3 a4 a5 t0 t1 h = zseg zPP true (zcal []) (zget (999, 0, 0, 0) zc_Lw_law) (zcut zu_Lw_law) (zorc [(1966, [some (150, none), some (100, none), some (112, none), some (151, none), some (152, none), some (0, none), none, none, none], [], fun xs h => match xs with
  | [a0, a1, a2, a3, a4, a5] => Lw_law_1966 kr r28 a0 a1 a2 a3 a4 a5 h
  | _ => none)]) kr (fun _ _ => none) 400 1960 [some (150, a0), some (100, a1), some (112, a2), some (151, a3), some (152, a4), some (0, a5), none, none, none] [(1, t0), (1, t1)] h := by rfl
set_option maxRecDepth 100000 in
theorem qe_Lw_law_1894 {ρ : Type} (kr : Int → zH → Option ρ) (r28 : Int → Int → Int → Int → Int → Int → zH → Option ρ) (a0 a1 a2 a3 a4 a5 : Int) (h : zH) : Lw_law_1894 kr r28 a0 a1 a2 a3 a4 a5 h = zseg zPP true (zcal [(63, [none], fun xs h kr kt => match xs with
  | [x0] => zmch h x0 (M_thrown h kr)
  | _ => none), (155, [none, none, none], fun xs h kr kt => match xs with
  | [x0, x1, x2] => zmch h x0 (M_isRacing x1 x2 h kr)
  | _ => none), (313, [none, none, none, none], fun xs h kr kt => match xs with
  | [x0, x1, x2, x3] => Lw_isRacing x0 x1 x2 x3 h kr
  | _ => none)]) (zget (999, 0, 0, 0) zc_Lw_law) (zcut zu_Lw_law) (zorc [(1960, [some (150, none), some (100, none), some (112, none), some (151, none), some (152, none), some (0, none), none, none, none], [(1, none), (1, none)], fun xs h => match xs with
  | [a0, a1, a2, a3, a4, a5, t0, t1] => Lw_law_1960 kr r28 a0 a1 a2 a3 a4 a5 t0 t1 h
  | _ => none), (1966, [some (150, none), some (100, none), some (112, none), some (151, none), some (152, none), some (0, none), none, none, none], [], fun xs h => match xs with
  | [a0, a1, a2, a3, a4, a5] => Lw_law_1966 kr r28 a0 a1 a2 a3 a4 a5 h
  | _ => none)]) kr (fun _ _ => none) 400 1894 [some (150, a0), some (100, a1), some (112, a2), some (151, a3), some (152, a4), some (0, a5), none, none, none] [] h := by rfl
set_option maxRecDepth 100000 in
theorem qe_Lw_law_2022 {ρ : Type} (kr : Int → zH → Option ρ) (r28 : Int → Int → Int → Int → Int → Int → zH → Option ρ) (a0 a1 a2 a3 a4 a5 : Int) (h : zH) : Lw_law_2022 kr r28 a0 a1 a2 a3 a4 a5 h = zseg zPP true (zcal []) (zget (999, 0, 0, 0) zc_Lw_law) (zcut zu_Lw_law) (zorc [(2355, [some (150, none), some (100, none), some (112, none), some (151, none), some (152, none), some (0, none), none, none, none], [], fun xs h => match xs with
  | [a0, a1, a2, a3, a4, a5] => Lw_law_2355 kr r28 a0 a1 a2 a3 a4 a5 h
  | _ => none)]) kr (fun _ _ => none) 400 2022 [some (150, a0), some (100, a1), some (112, a2), some (151, a3), some (152, a4), some (0, a5), none, none, none] [] h := by rfl
set_option maxRecDepth 100000 in
theorem qe_Lw_law_1969 {ρ : Type} (kr : Int → zH → Option ρ) (r28 : Int → Int → Int → Int → Int → Int → zH → Option ρ) (a0 a1 a2 a3 a4 a5 : Int) (h : zH) : Lw_law_1969 kr r28 a0 a1 a2 a3 a4 a5 h = zseg zPP true (zcal [(63, [none], fun xs h kr kt => match xs with
  | [x0] => zmch h x0 (M_thrown h kr)
  | _ => none), (156, [none, none], fun xs h kr kt => match xs with
  | [x0, x1] => zmch h x0 (M_races x1 h kr)
  | _ => none), (314, [none, none, none], fun xs h kr kt => match xs with
  | [x0, x1, x2] => Lw_races x0 x1 x2 h kr
  | _ => none)]) (zget (999, 0, 0, 0) zc_Lw_law) (zcut zu_Lw_law) (zorc [(2022, [some (150, none), some (100, none), some (112, none), some (151, none), some (152, none), some (0, none), none, none, none], [], fun xs h => match xs with
  | [a0, a1, a2, a3, a4, a5] => Lw_law_2022 kr r28 a0 a1 a2 a3 a4 a5 h
  | _ => none)]) kr (fun _ _ => none) 400 1969 [some (150, a0), some (100, a1), some (112, a2), some (151, a3), some (152, a4), some (0, a5), none, none, none] [] h := by rfl
set_option maxRecDepth 100000 in
theorem qe_Lw_law_2142 {ρ : Type} (kr : Int → zH → Option ρ) (r28 : Int → Int → Int → Int → Int → Int → zH → Option ρ) (a0 a1 a2 a3 a4 a5 : Int) (h : zH) : Lw_law_2142 kr r28 a0 a1 a2 a3 a4 a5 h = zseg zPP true (zcal []) (zget (999, 0, 0, 0) zc_Lw_law) (zcut zu_Lw_law) (zorc [(2355, [some (150, none), some (100, none), some (112, none), some (151, none), some (152, none), some (0, none), none, none, none], [], fun xs h => match xs with
  | [a0, a1, a2, a3, a4, a5] => Lw_law_2355 kr r28 a0 a1 a2 a3 a4 a5 h
  | _ => none)]) kr (fun _ _ => none) 400 2142 [some (150, a0), some (100, a1), some (112, a2), some (151, a3), some (152, a4), some (0, a5), none, none, none] [] h := by rfl
set_option maxRecDepth 100000 in
theorem qe_Lw_law_2103 {ρ : Type} (kr : Int → zH → Option ρ) (r28 : Int → Int → Int → Int → Int → Int → zH → Option ρ) (a0 a1 a2 a3 a4 a5 a6 t0 t1 t2 t3 t4 : Int) (h : zH) : Lw_law_2103 kr r28 a0 a1 a2 a3 a4 a5 a6 t0 t1 t2 t3 t4 h = zseg zPP true (zcal [(63, [none], fun xs h kr kt => match xs with
  | [x0] => zmch h x0 (M_thrown h kr)
  | _ => none), (160, [none, none, none, none, none, none], fun xs h kr kt => match xs with
  | [x0, x1, x2, x3, x4, x5] => zmch h x0 (M_serial x1 x2 x3 x4 x5 h kr)
  | _ => none)]) (zget (999, 0, 0, 0) zc_Lw_law) (zcut zu_Lw_law) (zorc [(2142, [some (150, none), some (100, none), some (112, none), some (151, none), some (152, none), some (0, none), none, none, none], [], fun xs h => match xs with
  | [a0, a1, a2, a3, a4, a5] => Lw_law_2142 kr r28 a0 a1 a2 a3 a4 a5 h
  | _ => none)]) kr (fun _ _ => none) 400 2103 [some (150, a0), some (100, a1), some (112, a2), some (151, a3), some (152, a4), some (0, a5), some (0, a6), none, none] [(0, t0), (0, t1), (0, t2), (0, t3), (112, t4)] h := by rfl
set_option maxRecDepth 100000 in
theorem qe_Lw_law_2058 {ρ : Type} (kr : Int → zH → Option ρ) (r28 : Int → Int → Int → Int → Int → Int → zH → Option ρ) (a0 a1 a2 a3 a4 a5 t0 t1 t2 t3 t4 : Int) (h : zH) : Lw_law_2058 kr r28 a0 a1 a2 a3 a4 a5 t0 t1 t2 t3 t4 h = zseg zPP true (zcal [(315, [none, none, none, none, none, none, none], fun xs h kr kt => match xs with
  | [x0, x1, x2, x3, x4, x5, x6] => Lw_serial x0 x1 x2 x3 x4 x5 x6 h kr
  | _ => none)]) (zget (999, 0, 0, 0) zc_Lw_law) (zcut zu_Lw_law) (zorc [(2103, [some (150, none), some (100, none), some (112, none), some (151, none), some (152, none), some (0, none), some (0, none), none, none], [(0, none), (0, none), (0, none), (0, none), (112, none)], fun xs h => match xs with
  | [a0, a1, a2, a3, a4, a5, a6, t0, t1, t2, t3, t4] => Lw_law_2103 kr r28 a0 a1 a2 a3 a4 a5 a6 t0 t1 t2 t3 t4 h
  | _ => none)]) kr (fun _ _ => none) 400 2058 [some (150, a0), some (100, a1), some (112, a2), some (151, a3), some (152, a4), some (0, a5), none, none, none] [(0, t0), (0, t1), (0, t2), (0, t3), (100, t4)] h := by rfl
set_option maxRecDepth 100000 in
theorem qe_Lw_law_2025 {ρ : Type} (kr : Int → zH → Option ρ) (r28 : Int → Int → Int → Int → Int → Int → zH → Option ρ) (a0 a1 a2 a3 a4 a5 : Int) (h : zH) : Lw_law_2025 kr r28 a0 a1 a2 a3 a4 a5 h = zseg zPP true (zcal []) (zget (999, 0, 0, 0) zc_Lw_law) (zcut zu_Lw_law) (zorc [(2058, [some (150, none), some (100, none), some (112, none), some (151, none), some (152, none), some (0, none), none, none, none], [(0, none), (0, none), (0, none), (0, none), (100, none)], fun xs h => match xs with
  | [a0, a1, a2, a3, a4, a5, t0, t1, t2, t3, t4] => Lw_law_2058 kr r28 a0 a1 a2 a3 a4 a5 t0 t1 t2 t3 t4 h
  | _ => none)]) kr (fun _ _ => none) 400 2025 [some (150, a0), some (100, a1), some (112, a2), some (151, a3), some (152, a4), some (0, a5), none, none, none] [] h := by rfl
set_option maxRecDepth 100000 in
theorem qe_Lw_law_2145 {ρ : Type} (kr : Int → zH → Option ρ) (r28 : Int → Int → Int → Int → Int → Int → zH → Option ρ) (a0 a1 a2 a3 a4 a5 : Int) (h : zH) : Lw_law_2145 kr r28 a0 a1 a2 a3 a4 a5 h = zseg zPP true (zcal [(39, [none], fun xs h kr kt => match xs with
  | [x0] => X_lanes x0 h kr
  | _ => none), (161, [none], fun xs h kr kt => match xs with
  | [x0] => zmch h x0 (M_lanes h kr)
  | _ => none)]) (zget (999, 0, 0, 0) zc_Lw_law) (zcut zu_Lw_law) (zorc [(2355, [some (150, none), some (100, none), some (112, none), some (151, none), some (152, none), some (0, none), none, none, none], [], fun xs h => match xs with
  | [a0, a1, a2, a3, a4, a5] => Lw_law_2355 kr r28 a0 a1 a2 a3 a4 a5 h
  | _ => none)]) kr (fun _ _ => none) 400 2145 [some (150, a0), some (100, a1), some (112, a2), some (151, a3), some (152, a4), some (0, a5), none, none, none] [] h := by rfl
set_option maxRecDepth 100000 in
theorem qe_Lw_law_2159 {ρ : Type} (kr : Int → zH → Option ρ) (r28 : Int → Int → Int → Int → Int → Int → zH → Option ρ) (a0 a1 a2 a3 a4 a5 : Int) (h : zH) : Lw_law_2159 kr r28 a0 a1 a2 a3 a4 a5 h = zseg zPP true (zcal [(40, [none], fun xs h kr kt => match xs with
  | [x0] => X_misses x0 h kr
  | _ => none), (162, [none], fun xs h kr kt => match xs with
  | [x0] => zmch h x0 (M_misses h kr)
  | _ => none)]) (zget (999, 0, 0, 0) zc_Lw_law) (zcut zu_Lw_law) (zorc [(2355, [some (150, none), some (100, none), some (112, none), some (151, none), some (152, none), some (0, none), none, none, none], [], fun xs h => match xs with
  | [a0, a1, a2, a3, a4, a5] => Lw_law_2355 kr r28 a0 a1 a2 a3 a4 a5 h
  | _ => none)]) kr (fun _ _ => none) 400 2159 [some (150, a0), some (100, a1), some (112, a2), some (151, a3), some (152, a4), some (0, a5), none, none, none] [] h := by rfl
set_option maxRecDepth 100000 in
theorem qe_Lw_law_2172 {ρ : Type} (kr : Int → zH → Option ρ) (r28 : Int → Int → Int → Int → Int → Int → zH → Option ρ) (a0 a1 a2 a3 a4 a5 : Int) (h : zH) : Lw_law_2172 kr r28 a0 a1 a2 a3 a4 a5 h = zseg zPP true (zcal [(41, [none], fun xs h kr kt => match xs with
  | [x0] => X_lost x0 h kr
  | _ => none), (163, [none], fun xs h kr kt => match xs with
  | [x0] => zmch h x0 (M_lost h kr)
  | _ => none)]) (zget (999, 0, 0, 0) zc_Lw_law) (zcut zu_Lw_law) (zorc [(2355, [some (150, none), some (100, none), some (112, none), some (151, none), some (152, none), some (0, none), none, none, none], [], fun xs h => match xs with
  | [a0, a1, a2, a3, a4, a5] => Lw_law_2355 kr r28 a0 a1 a2 a3 a4 a5 h
  | _ => none)]) kr (fun _ _ => none) 400 2172 [some (150, a0), some (100, a1), some (112, a2), some (151, a3), some (152, a4), some (0, a5), none, none, none] [] h := by rfl
set_option maxRecDepth 100000 in
theorem qe_Lw_law_2185 {ρ : Type} (kr : Int → zH → Option ρ) (r28 : Int → Int → Int → Int → Int → Int → zH → Option ρ) (a0 a1 a2 a3 a4 a5 : Int) (h : zH) : Lw_law_2185 kr r28 a0 a1 a2 a3 a4 a5 h = zseg zPP true (zcal [(42, [none], fun xs h kr kt => match xs with
  | [x0] => X_barriers x0 h kr
  | _ => none), (164, [none], fun xs h kr kt => match xs with
  | [x0] => zmch h x0 (M_barriers h kr)
  | _ => none)]) (zget (999, 0, 0, 0) zc_Lw_law) (zcut zu_Lw_law) (zorc [(2355, [some (150, none), some (100, none), some (112, none), some (151, none), some (152, none), some (0, none), none, none, none], [], fun xs h => match xs with
  | [a0, a1, a2, a3, a4, a5] => Lw_law_2355 kr r28 a0 a1 a2 a3 a4 a5 h
  | _ => none)]) kr (fun _ _ => none) 400 2185 [some (150, a0), some (100, a1), some (112, a2), some (151, a3), some (152, a4), some (0, a5), none, none, none] [] h := by rfl
set_option maxRecDepth 100000 in
theorem qe_Lw_law_2198 {ρ : Type} (kr : Int → zH → Option ρ) (r28 : Int → Int → Int → Int → Int → Int → zH → Option ρ) (a0 a1 a2 a3 a4 a5 : Int) (h : zH) : Lw_law_2198 kr r28 a0 a1 a2 a3 a4 a5 h = zseg zPP true (zcal [(43, [none], fun xs h kr kt => match xs with
  | [x0] => X_refused x0 h kr
  | _ => none), (165, [none], fun xs h kr kt => match xs with
  | [x0] => zmch h x0 (M_refused h kr)
  | _ => none)]) (zget (999, 0, 0, 0) zc_Lw_law) (zcut zu_Lw_law) (zorc [(2355, [some (150, none), some (100, none), some (112, none), some (151, none), some (152, none), some (0, none), none, none, none], [], fun xs h => match xs with
  | [a0, a1, a2, a3, a4, a5] => Lw_law_2355 kr r28 a0 a1 a2 a3 a4 a5 h
  | _ => none)]) kr (fun _ _ => none) 400 2198 [some (150, a0), some (100, a1), some (112, a2), some (151, a3), some (152, a4), some (0, a5), none, none, none] [] h := by rfl
set_option maxRecDepth 100000 in
theorem qe_Lw_law_2272 {ρ : Type} (kr : Int → zH → Option ρ) (h : zH) : Lw_law_2272 kr h = zseg zPP true (zcal []) (zget (999, 0, 0, 0) zc_Lw_law) (zcut zu_Lw_law) (zorc []) kr (fun _ _ => none) 400 2272 [none, none, none, none, none, none, none, none, none] [] h := by rfl
set_option maxRecDepth 100000 in
theorem qe_Lw_law_2274 {ρ : Type} (kr : Int → zH → Option ρ) (r28 : Int → Int → Int → Int → Int → Int → zH → Option ρ) (a0 a1 a2 a3 a4 a5 : Int) (h : zH) : Lw_law_2274 kr r28 a0 a1 a2 a3 a4 a5 h = zseg zPP true (zcal []) (zget (999, 0, 0, 0) zc_Lw_law) (zcut zu_Lw_law) (zorc [(2355, [some (150, none), some (100, none), some (112, none), some (151, none), some (152, none), some (0, none), none, none, none], [], fun xs h => match xs with
  | [a0, a1, a2, a3, a4, a5] => Lw_law_2355 kr r28 a0 a1 a2 a3 a4 a5 h
  | _ => none)]) kr (fun _ _ => none) 400 2274 [some (150, a0), some (100, a1), some (112, a2), some (151, a3), some (152, a4), some (0, a5), none, none, none] [] h := by rfl
set_option maxRecDepth 100000 in
theorem qe_Lw_law_2211 {ρ : Type} (kr : Int → zH → Option ρ) (r28 : Int → Int → Int → Int → Int → Int → zH → Option ρ) (a0 a1 a2 a3 a4 a5 : Int) (h : zH) : Lw_law_2211 kr r28 a0 a1 a2 a3 a4 a5 h = zseg zPP true (zcal [(63, [none], fun xs h kr kt => match xs with
  | [x0] => zmch h x0 (M_thrown h kr)
  | _ => none), (166, [none], fun xs h kr kt => match xs with
  | [x0] => zmch h x0 (M_usedShare h kr)
  | _ => none), (316, [none, none], fun xs h kr kt => match xs with
  | [x0, x1] => Lw_usedShare x0 x1 h kr
  | _ => none)]) (zget (999, 0, 0, 0) zc_Lw_law) (zcut zu_Lw_law) (zorc [(2272, [none, none, none, none, none, none, none, none, none], [], fun xs h => match xs with
  | [] => Lw_law_2272 kr h
  | _ => none), (2274, [some (150, none), some (100, none), some (112, none), some (151, none), some (152, none), some (0, none), none, none, none], [], fun xs h => match xs with
  | [a0, a1, a2, a3, a4, a5] => Lw_law_2274 kr r28 a0 a1 a2 a3 a4 a5 h
  | _ => none)]) kr (fun _ _ => none) 400 2211 [some (150, a0), some (100, a1), some (112, a2), some (151, a3), some (152, a4), some (0, a5), none, none, none] [] h := by rfl
set_option maxRecDepth 100000 in
theorem qe_Lw_law_2337 {ρ : Type} (kr : Int → zH → Option ρ) (h : zH) : Lw_law_2337 kr h = zseg zPP true (zcal []) (zget (999, 0, 0, 0) zc_Lw_law) (zcut zu_Lw_law) (zorc []) kr (fun _ _ => none) 400 2337 [none, none, none, none, none, none, none, none, none] [] h := by rfl
set_option maxRecDepth 100000 in
theorem qe_Lw_law_2339 {ρ : Type} (kr : Int → zH → Option ρ) (r28 : Int → Int → Int → Int → Int → Int → zH → Option ρ) (a0 a1 a2 a3 a4 a5 : Int) (h : zH) : Lw_law_2339 kr r28 a0 a1 a2 a3 a4 a5 h = zseg zPP true (zcal []) (zget (999, 0, 0, 0) zc_Lw_law) (zcut zu_Lw_law) (zorc [(2355, [some (150, none), some (100, none), some (112, none), some (151, none), some (152, none), some (0, none), none, none, none], [], fun xs h => match xs with
  | [a0, a1, a2, a3, a4, a5] => Lw_law_2355 kr r28 a0 a1 a2 a3 a4 a5 h
  | _ => none)]) kr (fun _ _ => none) 400 2339 [some (150, a0), some (100, a1), some (112, a2), some (151, a3), some (152, a4), some (0, a5), none, none, none] [] h := by rfl
set_option maxRecDepth 100000 in
theorem qe_Lw_law_2277 {ρ : Type} (kr : Int → zH → Option ρ) (r28 : Int → Int → Int → Int → Int → Int → zH → Option ρ) (a0 a1 a2 a3 a4 a5 : Int) (h : zH) : Lw_law_2277 kr r28 a0 a1 a2 a3 a4 a5 h = zseg zPP true (zcal [(63, [none], fun xs h kr kt => match xs with
  | [x0] => zmch h x0 (M_thrown h kr)
  | _ => none), (167, [none], fun xs h kr kt => match xs with
  | [x0] => zmch h x0 (M_meanDelay h kr)
  | _ => none), (317, [none, none], fun xs h kr kt => match xs with
  | [x0, x1] => Lw_meanDelay x0 x1 h kr
  | _ => none)]) (zget (999, 0, 0, 0) zc_Lw_law) (zcut zu_Lw_law) (zorc [(2337, [none, none, none, none, none, none, none, none, none], [], fun xs h => match xs with
  | [] => Lw_law_2337 kr h
  | _ => none), (2339, [some (150, none), some (100, none), some (112, none), some (151, none), some (152, none), some (0, none), none, none, none], [], fun xs h => match xs with
  | [a0, a1, a2, a3, a4, a5] => Lw_law_2339 kr r28 a0 a1 a2 a3 a4 a5 h
  | _ => none)]) kr (fun _ _ => none) 400 2277 [some (150, a0), some (100, a1), some (112, a2), some (151, a3), some (152, a4), some (0, a5), none, none, none] [] h := by rfl
set_option maxRecDepth 100000 in
theorem qe_Lw_law_2342 {ρ : Type} (kr : Int → zH → Option ρ) (r28 : Int → Int → Int → Int → Int → Int → zH → Option ρ) (a0 a1 a2 a3 a4 a5 : Int) (h : zH) : Lw_law_2342 kr r28 a0 a1 a2 a3 a4 a5 h = zseg zPP true (zcal [(46, [none], fun xs h kr kt => match xs with
  | [x0] => X_isSound x0 h kr
  | _ => none), (168, [none], fun xs h kr kt => match xs with
  | [x0] => zmch h x0 (M_isSound h kr)
  | _ => none)]) (zget (999, 0, 0, 0) zc_Lw_law) (zcut zu_Lw_law) (zorc [(2355, [some (150, none), some (100, none), some (112, none), some (151, none), some (152, none), some (0, none), none, none, none], [], fun xs h => match xs with
  | [a0, a1, a2, a3, a4, a5] => Lw_law_2355 kr r28 a0 a1 a2 a3 a4 a5 h
  | _ => none)]) kr (fun _ _ => none) 400 2342 [some (150, a0), some (100, a1), some (112, a2), some (151, a3), some (152, a4), some (0, a5), none, none, none] [] h := by rfl
set_option maxRecDepth 100000 in
theorem qe_Lw_law_28b {ρ : Type} (kr : Int → zH → Option ρ) (r28 : Int → Int → Int → Int → Int → Int → zH → Option ρ) (a0 a1 a2 a3 a4 a5 : Int) (h : zH) : Lw_law_28b kr r28 a0 a1 a2 a3 a4 a5 h = zseg zPP true (zcal []) (zget (999, 0, 0, 0) zc_Lw_law) (zcut zu_Lw_law) (zorc [(208, [some (150, none), some (100, none), some (112, none), some (151, none), some (152, none), some (0, none), none, none, none], [], fun xs h => match xs with
  | [a0, a1, a2, a3, a4, a5] => Lw_law_208 kr r28 a0 a1 a2 a3 a4 a5 h
  | _ => none), (276, [some (150, none), some (100, none), some (112, none), some (151, none), some (152, none), some (0, none), none, none, none], [], fun xs h => match xs with
  | [a0, a1, a2, a3, a4, a5] => Lw_law_276 kr r28 a0 a1 a2 a3 a4 a5 h
  | _ => none), (382, [some (150, none), some (100, none), some (112, none), some (151, none), some (152, none), some (0, none), none, none, none], [], fun xs h => match xs with
  | [a0, a1, a2, a3, a4, a5] => Lw_law_382 kr r28 a0 a1 a2 a3 a4 a5 h
  | _ => none), (450, [some (150, none), some (100, none), some (112, none), some (151, none), some (152, none), some (0, none), none, none, none], [], fun xs h => match xs with
  | [a0, a1, a2, a3, a4, a5] => Lw_law_450 kr r28 a0 a1 a2 a3 a4 a5 h
  | _ => none), (518, [some (150, none), some (100, none), some (112, none), some (151, none), some (152, none), some (0, none), none, none, none], [], fun xs h => match xs with
  | [a0, a1, a2, a3, a4, a5] => Lw_law_518 kr r28 a0 a1 a2 a3 a4 a5 h
  | _ => none), (574, [some (150, none), some (100, none), some (112, none), some (151, none), some (152, none), some (0, none), none, none, none], [], fun xs h => match xs with
  | [a0, a1, a2, a3, a4, a5] => Lw_law_574 kr r28 a0 a1 a2 a3 a4 a5 h
  | _ => none), (678, [some (150, none), some (100, none), some (112, none), some (151, none), some (152, none), some (0, none), none, none, none], [], fun xs h => match xs with
  | [a0, a1, a2, a3, a4, a5] => Lw_law_678 kr r28 a0 a1 a2 a3 a4 a5 h
  | _ => none), (782, [some (150, none), some (100, none), some (112, none), some (151, none), some (152, none), some (0, none), none, none, none], [], fun xs h => match xs with
  | [a0, a1, a2, a3, a4, a5] => Lw_law_782 kr r28 a0 a1 a2 a3 a4 a5 h
  | _ => none), (795, [some (150, none), some (100, none), some (112, none), some (151, none), some (152, none), some (0, none), none, none, none], [], fun xs h => match xs with
  | [a0, a1, a2, a3, a4, a5] => Lw_law_795 kr r28 a0 a1 a2 a3 a4 a5 h
  | _ => none), (851, [some (150, none), some (100, none), some (112, none), some (151, none), some (152, none), some (0, none), none, none, none], [], fun xs h => match xs with
  | [a0, a1, a2, a3, a4, a5] => Lw_law_851 kr r28 a0 a1 a2 a3 a4 a5 h
  | _ => none), (907, [some (150, none), some (100, none), some (112, none), some (151, none), some (152, none), some (0, none), none, none, none], [], fun xs h => match xs with
  | [a0, a1, a2, a3, a4, a5] => Lw_law_907 kr r28 a0 a1 a2 a3 a4 a5 h
  | _ => none), (963, [some (150, none), some (100, none), some (112, none), some (151, none), some (152, none), some (0, none), none, none, none], [], fun xs h => match xs with
  | [a0, a1, a2, a3, a4, a5] => Lw_law_963 kr r28 a0 a1 a2 a3 a4 a5 h
  | _ => none), (1019, [some (150, none), some (100, none), some (112, none), some (151, none), some (152, none), some (0, none), none, none, none], [], fun xs h => match xs with
  | [a0, a1, a2, a3, a4, a5] => Lw_law_1019 kr r28 a0 a1 a2 a3 a4 a5 h
  | _ => none), (1075, [some (150, none), some (100, none), some (112, none), some (151, none), some (152, none), some (0, none), none, none, none], [], fun xs h => match xs with
  | [a0, a1, a2, a3, a4, a5] => Lw_law_1075 kr r28 a0 a1 a2 a3 a4 a5 h
  | _ => none), (1133, [some (150, none), some (100, none), some (112, none), some (151, none), some (152, none), some (0, none), none, none, none], [], fun xs h => match xs with
  | [a0, a1, a2, a3, a4, a5] => Lw_law_1133 kr r28 a0 a1 a2 a3 a4 a5 h
  | _ => none), (1146, [some (150, none), some (100, none), some (112, none), some (151, none), some (152, none), some (0, none), none, none, none], [], fun xs h => match xs with
  | [a0, a1, a2, a3, a4, a5] => Lw_law_1146 kr r28 a0 a1 a2 a3 a4 a5 h
  | _ => none), (1202, [some (150, none), some (100, none), some (112, none), some (151, none), some (152, none), some (0, none), none, none, none], [], fun xs h => match xs with
  | [a0, a1, a2, a3, a4, a5] => Lw_law_1202 kr r28 a0 a1 a2 a3 a4 a5 h
  | _ => none), (1270, [some (150, none), some (100, none), some (112, none), some (151, none), some (152, none), some (0, none), none, none, none], [], fun xs h => match xs with
  | [a0, a1, a2, a3, a4, a5] => Lw_law_1270 kr r28 a0 a1 a2 a3 a4 a5 h
  | _ => none), (1338, [some (150, none), some (100, none), some (112, none), some (151, none), some (152, none), some (0, none), none, none, none], [], fun xs h => match xs with
  | [a0, a1, a2, a3, a4, a5] => Lw_law_1338 kr r28 a0 a1 a2 a3 a4 a5 h
  | _ => none), (1406, [some (150, none), some (100, none), some (112, none), some (151, none), some (152, none), some (0, none), none, none, none], [], fun xs h => match xs with
  | [a0, a1, a2, a3, a4, a5] => Lw_law_1406 kr r28 a0 a1 a2 a3 a4 a5 h
  | _ => none), (1474, [some (150, none), some (100, none), some (112, none), some (151, none), some (152, none), some (0, none), none, none, none], [], fun xs h => match xs with
  | [a0, a1, a2, a3, a4, a5] => Lw_law_1474 kr r28 a0 a1 a2 a3 a4 a5 h
  | _ => none), (1542, [some (150, none), some (100, none), some (112, none), some (151, none), some (152, none), some (0, none), none, none, none], [], fun xs h => match xs with
  | [a0, a1, a2, a3, a4, a5] => Lw_law_1542 kr r28 a0 a1 a2 a3 a4 a5 h
  | _ => none), (1634, [some (150, none), some (100, none), some (112, none), some (151, none), some (152, none), some (0, none), none, none, none], [], fun xs h => match xs with
  | [a0, a1, a2, a3, a4, a5] => Lw_law_1634 kr r28 a0 a1 a2 a3 a4 a5 h
  | _ => none), (1714, [some (150, none), some (100, none), some (112, none), some (151, none), some (152, none), some (0, none), none, none, none], [], fun xs h => match xs with
  | [a0, a1, a2, a3, a4, a5] => Lw_law_1714 kr r28 a0 a1 a2 a3 a4 a5 h
  | _ => none), (1782, [some (150, none), some (100, none), some (112, none), some (151, none), some (152, none), some (0, none), none, none, none], [], fun xs h => match xs with
  | [a0, a1, a2, a3, a4, a5] => Lw_law_1782 kr r28 a0 a1 a2 a3 a4 a5 h
  | _ => none), (1838, [some (150, none), some (100, none), some (112, none), some (151, none), some (152, none), some (0, none), none, none, none], [], fun xs h => match xs with
  | [a0, a1, a2, a3, a4, a5] => Lw_law_1838 kr r28 a0 a1 a2 a3 a4 a5 h
  | _ => none), (1894, [some (150, none), some (100, none), some (112, none), some (151, none), some (152, none), some (0, none), none, none, none], [], fun xs h => match xs with
  | [a0, a1, a2, a3, a4, a5] => Lw_law_1894 kr r28 a0 a1 a2 a3 a4 a5 h
  | _ => none), (1969, [some (150, none), some (100, none), some (112, none), some (151, none), some (152, none), some (0, none), none, none, none], [], fun xs h => match xs with
  | [a0, a1, a2, a3, a4, a5] => Lw_law_1969 kr r28 a0 a1 a2 a3 a4 a5 h
  | _ => none), (2025, [some (150, none), some (100, none), some (112, none), some (151, none), some (152, none), some (0, none), none, none, none], [], fun xs h => match xs with
  | [a0, a1, a2, a3, a4, a5] => Lw_law_2025 kr r28 a0 a1 a2 a3 a4 a5 h
  | _ => none), (2145, [some (150, none), some (100, none), some (112, none), some (151, none), some (152, none), some (0, none), none, none, none], [], fun xs h => match xs with
  | [a0, a1, a2, a3, a4, a5] => Lw_law_2145 kr r28 a0 a1 a2 a3 a4 a5 h
  | _ => none), (2159, [some (150, none), some (100, none), some (112, none), some (151, none), some (152, none), some (0, none), none, none, none], [], fun xs h => match xs with
  | [a0, a1, a2, a3, a4, a5] => Lw_law_2159 kr r28 a0 a1 a2 a3 a4 a5 h
  | _ => none), (2172, [some (150, none), some (100, none), some (112, none), some (151, none), some (152, none), some (0, none), none, none, none], [], fun xs h => match xs with
  | [a0, a1, a2, a3, a4, a5] => Lw_law_2172 kr r28 a0 a1 a2 a3 a4 a5 h
  | _ => none), (2185, [some (150, none), some (100, none), some (112, none), some (151, none), some (152, none), some (0, none), none, none, none], [], fun xs h => match xs with
  | [a0, a1, a2, a3, a4, a5] => Lw_law_2185 kr r28 a0 a1 a2 a3 a4 a5 h
  | _ => none), (2198, [some (150, none), some (100, none), some (112, none), some (151, none), some (152, none), some (0, none), none, none, none], [], fun xs h => match xs with
  | [a0, a1, a2, a3, a4, a5] => Lw_law_2198 kr r28 a0 a1 a2 a3 a4 a5 h
  | _ => none), (2211, [some (150, none), some (100, none), some (112, none), some (151, none), some (152, none), some (0, none), none, none, none], [], fun xs h => match xs with
  | [a0, a1, a2, a3, a4, a5] => Lw_law_2211 kr r28 a0 a1 a2 a3 a4 a5 h
  | _ => none), (2277, [some (150, none), some (100, none), some (112, none), some (151, none), some (152, none), some (0, none), none, none, none], [], fun xs h => match xs with
  | [a0, a1, a2, a3, a4, a5] => Lw_law_2277 kr r28 a0 a1 a2 a3 a4 a5 h
  | _ => none), (2342, [some (150, none), some (100, none), some (112, none), some (151, none), some (152, none), some (0, none), none, none, none], [], fun xs h => match xs with
  | [a0, a1, a2, a3, a4, a5] => Lw_law_2342 kr r28 a0 a1 a2 a3 a4 a5 h
  | _ => none), (2355, [some (150, none), some (100, none), some (112, none), some (151, none), some (152, none), some (0, none), none, none, none], [], fun xs h => match xs with
  | [a0, a1, a2, a3, a4, a5] => Lw_law_2355 kr r28 a0 a1 a2 a3 a4 a5 h
  | _ => none)]) kr (fun _ _ => none) 400 28 [some (150, a0), some (100, a1), some (112, a2), some (151, a3), some (152, a4), some (0, a5), none, none, none] [] h := by rfl
set_option maxRecDepth 100000 in
theorem qe_Lw_law {ρ : Type} (kr : Int → zH → Option ρ) (a0 : Int) (h : zH) : Lw_law a0 h kr = zseg zPP true (zcal [(9, [none], fun xs h kr kt => match xs with
  | [x0] => X_init x0 h kr
  | _ => none), (62, [none], fun xs h kr kt => match xs with
  | [x0] => M_init x0 h kr
  | _ => none)]) (zget (999, 0, 0, 0) zc_Lw_law) (zcut zu_Lw_law) (zorc [(28, [some (150, none), some (100, none), some (112, none), some (151, none), some (152, none), some (0, none), none, none, none], [], fun xs h => match xs with
  | [a0, a1, a2, a3, a4, a5] => Lw_law_28 kr a0 a1 a2 a3 a4 a5 h
  | _ => none)]) kr (fun _ _ => none) 400 0 [some (150, a0), none, none, none, none, none, none, none, none] [] h := by rfl
