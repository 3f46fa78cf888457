def zc_M_delayOf : List zI := [(14, 0, 0, 112), (80, 12, 284, 63), (999, 0, 0, 0), (999, 0, 0, 0), (0, 1, 0, 0), (36, 0, 0, 0), (14, 0, 0, 112), (80, 12, 284, 63), (999, 0, 0, 0), (999, 0, 0, 0), (0, 1, 0, 0), (40, 0, 0, 0), (0, 1, 0, 0), (36, 0, 0, 0), (30, 0, 0, 0), (14, 0, 0, 112), (80, 12, 284, 63), (999, 0, 0, 0), (999, 0, 0, 0), (0, 2, 0, 0), (40, 0, 0, 0), (0, 1, 0, 0), (36, 0, 0, 0), (30, 0, 0, 0), (14, 0, 0, 112), (80, 12, 284, 63), (999, 0, 0, 0), (999, 0, 0, 0), (0, 3, 0, 0), (40, 0, 0, 0), (0, 1, 0, 0), (36, 0, 0, 0), (30, 0, 0, 0), (17, 0, 4, 0), (999, 0, 0, 0), (10, 0, 2, 0), (1, 42, 0, 0), (999, 0, 0, 0), (67, 5, 43, 0), (999, 0, 0, 0), (999, 0, 0, 0), (0, 2, 0, 0), (130, 0, 0, 0), (10, 0, 2, 0), (1, 97, 0, 0), (999, 0, 0, 0), (66, 9, 55, 0), (999, 0, 0, 0), (999, 0, 0, 0), (10, 0, 2, 0), (1, 120, 0, 0), (999, 0, 0, 0), (67, 8, 60, 0), (999, 0, 0, 0), (999, 0, 0, 0), (0, 2, 0, 0), (11, 0, 4, 0), (999, 0, 0, 0), (32, 0, 0, 0), (130, 0, 0, 0), (10, 0, 2, 0), (1, 99, 0, 0), (999, 0, 0, 0), (67, 8, 71, 0), (999, 0, 0, 0), (999, 0, 0, 0), (0, 4, 0, 0), (11, 0, 4, 0), (999, 0, 0, 0), (32, 0, 0, 0), (130, 0, 0, 0), (10, 0, 2, 0), (113, 0, 297, 114), (999, 0, 0, 0), (999, 0, 0, 0), (60, 10, 85, 0), (999, 0, 0, 0), (999, 0, 0, 0), (14, 0, 0, 112), (10, 0, 2, 0), (10, 0, 3, 0), (110, 0, 330, 120), (999, 0, 0, 0), (999, 0, 0, 0), (130, 0, 0, 0), (10, 0, 2, 0), (1, 114, 0, 0), (999, 0, 0, 0), (67, 12, 100, 0), (999, 0, 0, 0), (999, 0, 0, 0), (14, 0, 0, 112), (10, 0, 1, 0), (10, 0, 3, 0), (110, 0, 334, 121), (999, 0, 0, 0), (999, 0, 0, 0), (72, 9, 106, 0), (999, 0, 0, 0), (999, 0, 0, 0), (0, 1, 0, 0), (14, 0, 0, 112), (80, 12, 315, 65), (999, 0, 0, 0), (999, 0, 0, 0), (30, 0, 0, 0), (130, 0, 0, 0)]
def zu_M_delayOf : List (Nat × List Bool) := [(55, [false, false, false, false, true]), (106, [false, false, false, false, false])]
set_option maxRecDepth 100000 in
theorem qe_M_delayOf_55 {ρ : Type} (kr : Int → zH → Option ρ) (a4 : Int) (h : zH) : M_delayOf_55 kr a4 h = zseg zPP false (zcal []) (zget (999, 0, 0, 0) zc_M_delayOf) (zcut zu_M_delayOf) (zorc []) kr (fun _ _ => none) 400 55 [none, none, none, none, some (0, a4)] [] h := by rfl
set_option maxRecDepth 100000 in
theorem qe_M_delayOf_106 {ρ : Type} (kr : Int → zH → Option ρ) (t0 : Int) (h : zH) : M_delayOf_106 kr t0 h = zseg zPP false (zcal []) (zget (999, 0, 0, 0) zc_M_delayOf) (zcut zu_M_delayOf) (zorc []) kr (fun _ _ => none) 400 106 [none, none, none, none, none] [(0, t0)] h := by rfl
set_option maxRecDepth 100000 in
theorem qe_M_delayOf {ρ : Type} (kr : Int → zH → Option ρ) (a1 a2 a3 : Int) (h : zH) : M_delayOf a1 a2 a3 h kr = zseg zPP false (zcal [(114, [none], fun xs h kr kt => match xs with
  | [x0] => M_isShared x0 h kr
  | _ => none), (120, [some 0, none, none], fun xs h kr kt => match xs with
  | [x1, x2] => M_banks x1 x2 h kr
  | _ => none), (121, [some 0, none, none], fun xs h kr kt => match xs with
  | [x1, x2] => M_lines x1 x2 h kr
  | _ => none)]) (zget (999, 0, 0, 0) zc_M_delayOf) (zcut zu_M_delayOf) (zorc [(55, [none, none, none, none, some (0, none)], [], fun xs h => match xs with
  | [a4] => M_delayOf_55 kr a4 h
  | _ => none), (106, [none, none, none, none, none], [(0, none)], fun xs h => match xs with
  | [t0] => M_delayOf_106 kr t0 h
  | _ => none)]) kr (fun _ _ => none) 400 0 [some (112, 0), some (0, a1), some (0, a2), some (0, a3), none] [] h := by rfl
def zc_M_doLanes : List zI := [(14, 0, 0, 112), (80, 12, 46, 15), (999, 0, 0, 0), (999, 0, 0, 0), (14, 0, 0, 112), (80, 12, 118, 39), (999, 0, 0, 0), (999, 0, 0, 0), (10, 0, 1, 0), (90, 0, 0, 94), (1, 6, 0, 0), (999, 0, 0, 0), (33, 0, 0, 0), (90, 0, 0, 70), (17, 0, 4, 0), (999, 0, 0, 0), (0, 0, 0, 0), (17, 0, 5, 0), (999, 0, 0, 0), (11, 0, 5, 0), (999, 0, 0, 0), (0, 4, 0, 0), (69, 160, 182, 0), (999, 0, 0, 0), (999, 0, 0, 0), (14, 0, 0, 112), (80, 12, 344, 66), (999, 0, 0, 0), (999, 0, 0, 0), (1, 45, 0, 0), (999, 0, 0, 0), (67, 151, 182, 0), (999, 0, 0, 0), (999, 0, 0, 0), (14, 0, 0, 112), (11, 0, 5, 0), (999, 0, 0, 0), (110, 0, 287, 108), (999, 0, 0, 0), (999, 0, 0, 0), (60, 136, 176, 0), (999, 0, 0, 0), (999, 0, 0, 0), (10, 0, 2, 0), (113, 0, 347, 113), (999, 0, 0, 0), (999, 0, 0, 0), (60, 17, 64, 0), (999, 0, 0, 0), (999, 0, 0, 0), (14, 0, 0, 112), (10, 0, 2, 0), (10, 0, 3, 0), (11, 0, 5, 0), (999, 0, 0, 0), (110, 0, 293, 112), (999, 0, 0, 0), (999, 0, 0, 0), (113, 0, 222, 68), (999, 0, 0, 0), (999, 0, 0, 0), (61, 34, 95, 0), (999, 0, 0, 0), (999, 0, 0, 0), (10, 0, 2, 0), (113, 0, 297, 114), (999, 0, 0, 0), (999, 0, 0, 0), (60, 31, 99, 0), (999, 0, 0, 0), (999, 0, 0, 0), (14, 0, 0, 112), (10, 0, 2, 0), (10, 0, 3, 0), (11, 0, 5, 0), (999, 0, 0, 0), (110, 0, 293, 112), (999, 0, 0, 0), (999, 0, 0, 0), (0, 0, 0, 0), (14, 0, 0, 112), (80, 12, 20, 6), (999, 0, 0, 0), (999, 0, 0, 0), (11, 0, 4, 0), (999, 0, 0, 0), (90, 0, 0, 62), (0, 1, 0, 0), (31, 0, 0, 0), (113, 0, 192, 64), (999, 0, 0, 0), (999, 0, 0, 0), (61, 7, 99, 0), (999, 0, 0, 0), (999, 0, 0, 0), (0, 1, 0, 0), (72, 4, 100, 0), (999, 0, 0, 0), (999, 0, 0, 0), (0, 0, 0, 0), (17, 0, 6, 0), (999, 0, 0, 0), (11, 0, 6, 0), (999, 0, 0, 0), (60, 30, 134, 0), (999, 0, 0, 0), (999, 0, 0, 0), (14, 0, 0, 112), (10, 0, 2, 0), (113, 0, 347, 113), (999, 0, 0, 0), (999, 0, 0, 0), (60, 8, 120, 0), (999, 0, 0, 0), (999, 0, 0, 0), (1, 103, 0, 0), (999, 0, 0, 0), (72, 5, 122, 0), (999, 0, 0, 0), (999, 0, 0, 0), (1, 115, 0, 0), (999, 0, 0, 0), (82, 12, 344, 66), (999, 0, 0, 0), (999, 0, 0, 0), (14, 0, 0, 112), (11, 0, 5, 0), (999, 0, 0, 0), (82, 12, 350, 67), (999, 0, 0, 0), (999, 0, 0, 0), (72, 45, 176, 0), (999, 0, 0, 0), (999, 0, 0, 0), (10, 0, 2, 0), (113, 0, 347, 113), (999, 0, 0, 0), (999, 0, 0, 0), (61, 10, 148, 0), (999, 0, 0, 0), (999, 0, 0, 0), (10, 0, 2, 0), (113, 0, 297, 114), (999, 0, 0, 0), (999, 0, 0, 0), (60, 12, 157, 0), (999, 0, 0, 0), (999, 0, 0, 0), (14, 0, 0, 112), (10, 0, 1, 0), (11, 0, 5, 0), (999, 0, 0, 0), (10, 0, 2, 0), (10, 0, 3, 0), (110, 0, 353, 116), (999, 0, 0, 0), (999, 0, 0, 0), (14, 0, 0, 112), (10, 0, 1, 0), (11, 0, 5, 0), (999, 0, 0, 0), (10, 0, 2, 0), (10, 0, 3, 0), (110, 0, 357, 117), (999, 0, 0, 0), (999, 0, 0, 0), (14, 0, 0, 112), (50, 0, 0, 0), (80, 12, 360, 64), (999, 0, 0, 0), (999, 0, 0, 0), (0, 1, 0, 0), (30, 0, 0, 0), (82, 12, 360, 64), (999, 0, 0, 0), (999, 0, 0, 0), (22, 1, 5, 0), (999, 0, 0, 0), (999, 0, 0, 0), (72, (-160), 19, 0), (999, 0, 0, 0), (999, 0, 0, 0), (133, 0, 0, 0)]
def zu_M_doLanes : List (Nat × List Bool) := [(19, [true, true, true, true, true, true, false]), (64, [true, true, true, true, true, true, false]), (95, [true, true, true, true, true, true, false]), (99, [true, true, true, true, true, true, false]), (100, [true, true, true, true, true, true, false]), (122, [true, true, true, true, true, true, false]), (148, [true, true, true, true, true, true, false]), (157, [true, true, true, true, true, true, false]), (176, [true, true, true, true, true, true, false]), (182, [false, false, false, false, false, false, false])]
set_option maxRecDepth 100000 in
theorem qe_M_doLanes_176 {ρ : Type} (kr : Int → zH → Option ρ) (r19 : Int → Int → Int → Int → Int → zH → Option ρ) (a1 a2 a3 a4 a5 : Int) (h : zH) : M_doLanes_176 kr r19 a1 a2 a3 a4 a5 h = zseg zPP false (zcal []) (zget (999, 0, 0, 0) zc_M_doLanes) (zcut zu_M_doLanes) (zorc [(19, [some (112, some 0), some (0, none), some (0, none), some (0, none), some (0, none), some (0, none), none], [], fun xs h => match xs with
  | [a1, a2, a3, a4, a5] => r19 a1 a2 a3 a4 a5 h
  | _ => none)]) kr (fun _ _ => none) 400 176 [some (112, 0), some (0, a1), some (0, a2), some (0, a3), some (0, a4), some (0, a5), none] [] h := by rfl
set_option maxRecDepth 100000 in
theorem qe_M_doLanes_122 {ρ : Type} (kr : Int → zH → Option ρ) (r19 : Int → Int → Int → Int → Int → zH → Option ρ) (a1 a2 a3 a4 a5 t0 : Int) (h : zH) : M_doLanes_122 kr r19 a1 a2 a3 a4 a5 t0 h = zseg zPP false (zcal []) (zget (999, 0, 0, 0) zc_M_doLanes) (zcut zu_M_doLanes) (zorc [(176, [some (112, some 0), some (0, none), some (0, none), some (0, none), some (0, none), some (0, none), none], [], fun xs h => match xs with
  | [a1, a2, a3, a4, a5] => M_doLanes_176 kr r19 a1 a2 a3 a4 a5 h
  | _ => none)]) kr (fun _ _ => none) 400 122 [some (112, 0), some (0, a1), some (0, a2), some (0, a3), some (0, a4), some (0, a5), none] [(0, t0), (112, 0)] h := by rfl
set_option maxRecDepth 100000 in
theorem qe_M_doLanes_157 {ρ : Type} (kr : Int → zH → Option ρ) (r19 : Int → Int → Int → Int → Int → zH → Option ρ) (a1 a2 a3 a4 a5 : Int) (h : zH) : M_doLanes_157 kr r19 a1 a2 a3 a4 a5 h = zseg zPP false (zcal [(117, [some 0, none, none, none, none], fun xs h kr kt => match xs with
  | [x1, x2, x3, x4] => M_doLane x1 x2 x3 x4 h kr
  | _ => none)]) (zget (999, 0, 0, 0) zc_M_doLanes) (zcut zu_M_doLanes) (zorc [(176, [some (112, some 0), some (0, none), some (0, none), some (0, none), some (0, none), some (0, none), none], [], fun xs h => match xs with
  | [a1, a2, a3, a4, a5] => M_doLanes_176 kr r19 a1 a2 a3 a4 a5 h
  | _ => none)]) kr (fun _ _ => none) 400 157 [some (112, 0), some (0, a1), some (0, a2), some (0, a3), some (0, a4), some (0, a5), none] [] h := by rfl
set_option maxRecDepth 100000 in
theorem qe_M_doLanes_148 {ρ : Type} (kr : Int → zH → Option ρ) (r19 : Int → Int → Int → Int → Int → zH → Option ρ) (a1 a2 a3 a4 a5 : Int) (h : zH) : M_doLanes_148 kr r19 a1 a2 a3 a4 a5 h = zseg zPP false (zcal [(116, [some 0, none, none, none, none], fun xs h kr kt => match xs with
  | [x1, x2, x3, x4] => M_doCell x1 x2 x3 x4 h kr
  | _ => none)]) (zget (999, 0, 0, 0) zc_M_doLanes) (zcut zu_M_doLanes) (zorc [(157, [some (112, some 0), some (0, none), some (0, none), some (0, none), some (0, none), some (0, none), none], [], fun xs h => match xs with
  | [a1, a2, a3, a4, a5] => M_doLanes_157 kr r19 a1 a2 a3 a4 a5 h
  | _ => none)]) kr (fun _ _ => none) 400 148 [some (112, 0), some (0, a1), some (0, a2), some (0, a3), some (0, a4), some (0, a5), none] [] h := by rfl
set_option maxRecDepth 100000 in
theorem qe_M_doLanes_100 {ρ : Type} (kr : Int → zH → Option ρ) (r19 : Int → Int → Int → Int → Int → zH → Option ρ) (a1 a2 a3 a4 a5 t0 : Int) (h : zH) : M_doLanes_100 kr r19 a1 a2 a3 a4 a5 t0 h = zseg zPP false (zcal [(113, [none], fun xs h kr kt => match xs with
  | [x0] => M_isGlobal x0 h kr
  | _ => none), (114, [none], fun xs h kr kt => match xs with
  | [x0] => M_isShared x0 h kr
  | _ => none)]) (zget (999, 0, 0, 0) zc_M_doLanes) (zcut zu_M_doLanes) (zorc [(122, [some (112, some 0), some (0, none), some (0, none), some (0, none), some (0, none), some (0, none), none], [(0, none), (112, some 0)], fun xs h => match xs with
  | [a1, a2, a3, a4, a5, t0] => M_doLanes_122 kr r19 a1 a2 a3 a4 a5 t0 h
  | _ => none), (148, [some (112, some 0), some (0, none), some (0, none), some (0, none), some (0, none), some (0, none), none], [], fun xs h => match xs with
  | [a1, a2, a3, a4, a5] => M_doLanes_148 kr r19 a1 a2 a3 a4 a5 h
  | _ => none), (157, [some (112, some 0), some (0, none), some (0, none), some (0, none), some (0, none), some (0, none), none], [], fun xs h => match xs with
  | [a1, a2, a3, a4, a5] => M_doLanes_157 kr r19 a1 a2 a3 a4 a5 h
  | _ => none)]) kr (fun _ _ => none) 400 100 [some (112, 0), some (0, a1), some (0, a2), some (0, a3), some (0, a4), some (0, a5), none] [(0, t0)] h := by rfl
set_option maxRecDepth 100000 in
theorem qe_M_doLanes_95 {ρ : Type} (kr : Int → zH → Option ρ) (r19 : Int → Int → Int → Int → Int → zH → Option ρ) (a1 a2 a3 a4 a5 : Int) (h : zH) : M_doLanes_95 kr r19 a1 a2 a3 a4 a5 h = zseg zPP false (zcal []) (zget (999, 0, 0, 0) zc_M_doLanes) (zcut zu_M_doLanes) (zorc [(100, [some (112, some 0), some (0, none), some (0, none), some (0, none), some (0, none), some (0, none), none], [(0, none)], fun xs h => match xs with
  | [a1, a2, a3, a4, a5, t0] => M_doLanes_100 kr r19 a1 a2 a3 a4 a5 t0 h
  | _ => none)]) kr (fun _ _ => none) 400 95 [some (112, 0), some (0, a1), some (0, a2), some (0, a3), some (0, a4), some (0, a5), none] [] h := by rfl
set_option maxRecDepth 100000 in
theorem qe_M_doLanes_99 {ρ : Type} (kr : Int → zH → Option ρ) (r19 : Int → Int → Int → Int → Int → zH → Option ρ) (a1 a2 a3 a4 a5 : Int) (h : zH) : M_doLanes_99 kr r19 a1 a2 a3 a4 a5 h = zseg zPP false (zcal []) (zget (999, 0, 0, 0) zc_M_doLanes) (zcut zu_M_doLanes) (zorc [(100, [some (112, some 0), some (0, none), some (0, none), some (0, none), some (0, none), some (0, none), none], [(0, none)], fun xs h => match xs with
  | [a1, a2, a3, a4, a5, t0] => M_doLanes_100 kr r19 a1 a2 a3 a4 a5 t0 h
  | _ => none)]) kr (fun _ _ => none) 400 99 [some (112, 0), some (0, a1), some (0, a2), some (0, a3), some (0, a4), some (0, a5), none] [] h := by rfl
set_option maxRecDepth 100000 in
theorem qe_M_doLanes_64 {ρ : Type} (kr : Int → zH → Option ρ) (r19 : Int → Int → Int → Int → Int → zH → Option ρ) (a1 a2 a3 a4 a5 : Int) (h : zH) : M_doLanes_64 kr r19 a1 a2 a3 a4 a5 h = zseg zPP false (zcal [(64, [none, none, none], fun xs h kr kt => match xs with
  | [x0, x1, x2] => M_in x0 x1 x2 h kr
  | _ => none), (112, [some 0, none, none, none], fun xs h kr kt => match xs with
  | [x1, x2, x3] => M_cellOf x1 x2 x3 h kr
  | _ => none), (114, [none], fun xs h kr kt => match xs with
  | [x0] => M_isShared x0 h kr
  | _ => none)]) (zget (999, 0, 0, 0) zc_M_doLanes) (zcut zu_M_doLanes) (zorc [(95, [some (112, some 0), some (0, none), some (0, none), some (0, none), some (0, none), some (0, none), none], [], fun xs h => match xs with
  | [a1, a2, a3, a4, a5] => M_doLanes_95 kr r19 a1 a2 a3 a4 a5 h
  | _ => none), (99, [some (112, some 0), some (0, none), some (0, none), some (0, none), some (0, none), some (0, none), none], [], fun xs h => match xs with
  | [a1, a2, a3, a4, a5] => M_doLanes_99 kr r19 a1 a2 a3 a4 a5 h
  | _ => none)]) kr (fun _ _ => none) 400 64 [some (112, 0), some (0, a1), some (0, a2), some (0, a3), some (0, a4), some (0, a5), none] [] h := by rfl
set_option maxRecDepth 100000 in
theorem qe_M_doLanes_182 {ρ : Type} (kr : Int → zH → Option ρ) (h : zH) : M_doLanes_182 kr h = zseg zPP false (zcal []) (zget (999, 0, 0, 0) zc_M_doLanes) (zcut zu_M_doLanes) (zorc []) kr (fun _ _ => none) 400 182 [none, none, none, none, none, none, none] [] h := by rfl
set_option maxRecDepth 100000 in
theorem qe_M_doLanes_19b {ρ : Type} (kr : Int → zH → Option ρ) (r19 : Int → Int → Int → Int → Int → zH → Option ρ) (a1 a2 a3 a4 a5 : Int) (h : zH) : M_doLanes_19b kr r19 a1 a2 a3 a4 a5 h = zseg zPP false (zcal [(68, [none], fun xs h kr kt => match xs with
  | [x0] => M_noCell x0 h kr
  | _ => none), (108, [some 0, none], fun xs h kr kt => match xs with
  | [x1] => M_isUnder x1 h kr
  | _ => none), (112, [some 0, none, none, none], fun xs h kr kt => match xs with
  | [x1, x2, x3] => M_cellOf x1 x2 x3 h kr
  | _ => none), (113, [none], fun xs h kr kt => match xs with
  | [x0] => M_isGlobal x0 h kr
  | _ => none)]) (zget (999, 0, 0, 0) zc_M_doLanes) (zcut zu_M_doLanes) (zorc [(64, [some (112, some 0), some (0, none), some (0, none), some (0, none), some (0, none), some (0, none), none], [], fun xs h => match xs with
  | [a1, a2, a3, a4, a5] => M_doLanes_64 kr r19 a1 a2 a3 a4 a5 h
  | _ => none), (95, [some (112, some 0), some (0, none), some (0, none), some (0, none), some (0, none), some (0, none), none], [], fun xs h => match xs with
  | [a1, a2, a3, a4, a5] => M_doLanes_95 kr r19 a1 a2 a3 a4 a5 h
  | _ => none), (176, [some (112, some 0), some (0, none), some (0, none), some (0, none), some (0, none), some (0, none), none], [], fun xs h => match xs with
  | [a1, a2, a3, a4, a5] => M_doLanes_176 kr r19 a1 a2 a3 a4 a5 h
  | _ => none), (182, [none, none, none, none, none, none, none], [], fun xs h => match xs with
  | [] => M_doLanes_182 kr h
  | _ => none)]) kr (fun _ _ => none) 400 19 [some (112, 0), some (0, a1), some (0, a2), some (0, a3), some (0, a4), some (0, a5), none] [] h := by rfl
set_option maxRecDepth 100000 in
theorem qe_M_doLanes {ρ : Type} (kr : Int → zH → Option ρ) (a1 a2 a3 : Int) (h : zH) : M_doLanes a1 a2 a3 h kr = zseg zPP false (zcal []) (zget (999, 0, 0, 0) zc_M_doLanes) (zcut zu_M_doLanes) (zorc [(19, [some (112, some 0), some (0, none), some (0, none), some (0, none), some (0, none), some (0, none), none], [], fun xs h => match xs with
  | [a1, a2, a3, a4, a5] => M_doLanes_19 kr a1 a2 a3 a4 a5 h
  | _ => none)]) kr (fun _ _ => none) 400 0 [some (112, 0), some (0, a1), some (0, a2), some (0, a3), none, none, none] [] h := by rfl
def zc_M_carryOut : List zI := [(0, 4, 0, 0), (10, 0, 1, 0), (32, 0, 0, 0), (10, 0, 2, 0), (30, 0, 0, 0), (16, 0, 3, 0), (14, 0, 0, 112), (80, 12, 118, 39), (999, 0, 0, 0), (999, 0, 0, 0), (10, 0, 3, 0), (90, 0, 0, 94), (17, 0, 4, 0), (999, 0, 0, 0), (11, 0, 4, 0), (999, 0, 0, 0), (1, 6, 0, 0), (999, 0, 0, 0), (33, 0, 0, 0), (17, 0, 5, 0), (999, 0, 0, 0), (14, 0, 0, 112), (10, 0, 3, 0), (110, 0, 278, 103), (999, 0, 0, 0), (999, 0, 0, 0), (17, 0, 6, 0), (999, 0, 0, 0), (1, 40, 0, 0), (999, 0, 0, 0), (14, 0, 0, 112), (80, 12, 46, 15), (999, 0, 0, 0), (999, 0, 0, 0), (11, 0, 5, 0), (999, 0, 0, 0), (90, 0, 0, 70), (32, 0, 0, 0), (11, 0, 6, 0), (999, 0, 0, 0), (30, 0, 0, 0), (17, 0, 7, 0), (999, 0, 0, 0), (14, 0, 0, 112), (80, 12, 30, 9), (999, 0, 0, 0), (999, 0, 0, 0), (11, 0, 7, 0), (999, 0, 0, 0), (92, 0, 0, 65), (17, 0, 8, 0), (999, 0, 0, 0), (14, 0, 0, 112), (14, 0, 0, 112), (10, 0, 3, 0), (110, 0, 363, 104), (999, 0, 0, 0), (999, 0, 0, 0), (82, 12, 284, 63), (999, 0, 0, 0), (999, 0, 0, 0), (0, 0, 0, 0), (17, 0, 9, 0), (999, 0, 0, 0), (11, 0, 9, 0), (999, 0, 0, 0), (0, 4, 0, 0), (69, 52, 119, 0), (999, 0, 0, 0), (999, 0, 0, 0), (0, 0, 0, 0), (17, 0, 10, 0), (999, 0, 0, 0), (11, 0, 10, 0), (999, 0, 0, 0), (1, 8, 0, 0), (999, 0, 0, 0), (69, 36, 113, 0), (999, 0, 0, 0), (999, 0, 0, 0), (14, 0, 0, 112), (80, 12, 164, 62), (999, 0, 0, 0), (999, 0, 0, 0), (1, 8, 0, 0), (999, 0, 0, 0), (11, 0, 9, 0), (999, 0, 0, 0), (32, 0, 0, 0), (11, 0, 10, 0), (999, 0, 0, 0), (30, 0, 0, 0), (14, 0, 0, 112), (80, 12, 109, 36), (999, 0, 0, 0), (999, 0, 0, 0), (14, 0, 0, 112), (10, 0, 3, 0), (11, 0, 9, 0), (999, 0, 0, 0), (11, 0, 10, 0), (999, 0, 0, 0), (110, 0, 281, 105), (999, 0, 0, 0), (999, 0, 0, 0), (90, 0, 0, 91), (95, 0, 0, 109), (22, 1, 10, 0), (999, 0, 0, 0), (999, 0, 0, 0), (72, (-37), 73, 0), (999, 0, 0, 0), (999, 0, 0, 0), (22, 1, 9, 0), (999, 0, 0, 0), (999, 0, 0, 0), (72, (-52), 64, 0), (999, 0, 0, 0), (999, 0, 0, 0), (14, 0, 0, 112), (0, 0, 0, 0), (82, 12, 360, 64), (999, 0, 0, 0), (999, 0, 0, 0), (14, 0, 0, 112), (0, 0, 0, 0), (82, 12, 315, 65), (999, 0, 0, 0), (999, 0, 0, 0), (14, 0, 0, 112), (1, 45, 0, 0), (999, 0, 0, 0), (82, 12, 344, 66), (999, 0, 0, 0), (999, 0, 0, 0), (11, 0, 8, 0), (999, 0, 0, 0), (1, 97, 0, 0), (999, 0, 0, 0), (66, 17, 156, 0), (999, 0, 0, 0), (999, 0, 0, 0), (11, 0, 8, 0), (999, 0, 0, 0), (1, 120, 0, 0), (999, 0, 0, 0), (66, 10, 156, 0), (999, 0, 0, 0), (999, 0, 0, 0), (11, 0, 8, 0), (999, 0, 0, 0), (1, 98, 0, 0), (999, 0, 0, 0), (67, 9, 162, 0), (999, 0, 0, 0), (999, 0, 0, 0), (14, 0, 0, 112), (10, 0, 3, 0), (110, 0, 269, 98), (999, 0, 0, 0), (999, 0, 0, 0), (52, 0, 0, 0), (11, 0, 8, 0), (999, 0, 0, 0), (1, 102, 0, 0), (999, 0, 0, 0), (67, 12, 178, 0), (999, 0, 0, 0), (999, 0, 0, 0), (14, 0, 0, 112), (14, 0, 0, 112), (10, 0, 3, 0), (110, 0, 269, 98), (999, 0, 0, 0), (999, 0, 0, 0), (82, 12, 315, 65), (999, 0, 0, 0), (999, 0, 0, 0), (14, 0, 0, 112), (10, 0, 3, 0), (11, 0, 8, 0), (999, 0, 0, 0), (11, 0, 7, 0), (999, 0, 0, 0), (110, 0, 366, 122), (999, 0, 0, 0), (999, 0, 0, 0), (14, 0, 0, 112), (50, 0, 0, 0), (80, 12, 370, 55), (999, 0, 0, 0), (999, 0, 0, 0), (0, 1, 0, 0), (30, 0, 0, 0), (82, 12, 370, 55), (999, 0, 0, 0), (999, 0, 0, 0), (14, 0, 0, 112), (50, 0, 0, 0), (80, 12, 373, 54), (999, 0, 0, 0), (999, 0, 0, 0), (14, 0, 0, 112), (80, 12, 360, 64), (999, 0, 0, 0), (999, 0, 0, 0), (42, 0, 0, 0), (45, 0, 0, 0), (82, 12, 373, 54), (999, 0, 0, 0), (999, 0, 0, 0), (14, 0, 0, 112), (80, 12, 136, 45), (999, 0, 0, 0), (999, 0, 0, 0), (10, 0, 1, 0), (11, 0, 4, 0), (999, 0, 0, 0), (95, 0, 0, 100), (14, 0, 0, 112), (80, 12, 139, 46), (999, 0, 0, 0), (999, 0, 0, 0), (10, 0, 1, 0), (14, 0, 0, 112), (80, 12, 121, 40), (999, 0, 0, 0), (999, 0, 0, 0), (10, 0, 3, 0), (90, 0, 0, 95), (95, 0, 0, 101), (14, 0, 0, 112), (80, 12, 344, 66), (999, 0, 0, 0), (999, 0, 0, 0), (1, 45, 0, 0), (999, 0, 0, 0), (66, 34, 271, 0), (999, 0, 0, 0), (999, 0, 0, 0), (14, 0, 0, 112), (11, 0, 5, 0), (999, 0, 0, 0), (14, 0, 0, 112), (80, 12, 344, 66), (999, 0, 0, 0), (999, 0, 0, 0), (11, 0, 4, 0), (999, 0, 0, 0), (1, 6, 0, 0), (999, 0, 0, 0), (34, 0, 0, 0), (0, 4, 0, 0), (14, 0, 0, 112), (80, 12, 121, 40), (999, 0, 0, 0), (999, 0, 0, 0), (10, 0, 3, 0), (90, 0, 0, 95), (32, 0, 0, 0), (14, 0, 0, 112), (80, 12, 350, 67), (999, 0, 0, 0), (999, 0, 0, 0), (30, 0, 0, 0), (11, 0, 6, 0), (999, 0, 0, 0), (110, 0, 256, 92), (999, 0, 0, 0), (999, 0, 0, 0), (133, 0, 0, 0), (14, 0, 0, 112), (10, 0, 1, 0), (11, 0, 8, 0), (999, 0, 0, 0), (11, 0, 7, 0), (999, 0, 0, 0), (110, 0, 377, 118), (999, 0, 0, 0), (999, 0, 0, 0), (17, 0, 9, 0), (999, 0, 0, 0), (14, 0, 0, 112), (50, 0, 0, 0), (80, 12, 381, 56), (999, 0, 0, 0), (999, 0, 0, 0), (0, 1, 0, 0), (30, 0, 0, 0), (82, 12, 381, 56), (999, 0, 0, 0), (999, 0, 0, 0), (14, 0, 0, 112), (50, 0, 0, 0), (80, 12, 384, 57), (999, 0, 0, 0), (999, 0, 0, 0), (11, 0, 9, 0), (999, 0, 0, 0), (30, 0, 0, 0), (82, 12, 384, 57), (999, 0, 0, 0), (999, 0, 0, 0), (14, 0, 0, 112), (50, 0, 0, 0), (80, 12, 387, 59), (999, 0, 0, 0), (999, 0, 0, 0), (11, 0, 8, 0), (999, 0, 0, 0), (113, 0, 297, 114), (999, 0, 0, 0), (999, 0, 0, 0), (60, 10, 323, 0), (999, 0, 0, 0), (999, 0, 0, 0), (11, 0, 9, 0), (999, 0, 0, 0), (0, 1, 0, 0), (31, 0, 0, 0), (72, 4, 324, 0), (999, 0, 0, 0), (999, 0, 0, 0), (0, 0, 0, 0), (30, 0, 0, 0), (82, 12, 387, 59), (999, 0, 0, 0), (999, 0, 0, 0), (14, 0, 0, 112), (80, 12, 124, 41), (999, 0, 0, 0), (999, 0, 0, 0), (10, 0, 3, 0), (14, 0, 0, 112), (80, 12, 390, 1), (999, 0, 0, 0), (999, 0, 0, 0), (11, 0, 9, 0), (999, 0, 0, 0), (30, 0, 0, 0), (95, 0, 0, 96), (14, 0, 0, 112), (11, 0, 4, 0), (999, 0, 0, 0), (110, 0, 393, 100), (999, 0, 0, 0), (999, 0, 0, 0), (133, 0, 0, 0)]
def zu_M_carryOut : List (Nat × List Bool) := [(64, [true, true, false, true, true, true, true, true, true, true, false]), (73, [true, true, false, true, true, true, true, true, true, true, true]), (156, [true, true, false, true, true, true, true, true, true, false, false]), (162, [true, true, false, true, true, true, true, true, true, false, false]), (178, [true, true, false, true, true, true, true, true, true, false, false]), (324, [true, false, false, true, true, false, false, false, false, true, false])]
set_option maxRecDepth 100000 in
theorem qe_M_carryOut_73b {ρ : Type} (kr : Int → zH → Option ρ) (r64 : Int → Int → Int → Int → Int → Int → Int → Int → zH → Option ρ) (r73 : Int → Int → Int → Int → Int → Int → Int → Int → Int → zH → Option ρ) (a1 a3 a4 a5 a6 a7 a8 a9 a10 : Int) (h : zH) : M_carryOut_73b kr r64 r73 a1 a3 a4 a5 a6 a7 a8 a9 a10 h = zseg zPP false (zcal [(105, [some 0, none, none, none], fun xs h kr kt => match xs with
  | [x1, x2, x3] => M_registerCell x1 x2 x3 h kr
  | _ => none)]) (zget (999, 0, 0, 0) zc_M_carryOut) (zcut zu_M_carryOut) (zorc [(64, [some (112, some 0), some (0, none), none, some (0, none), some (0, none), some (0, none), some (0, none), some (0, none), some (0, none), some (0, none), none], [], fun xs h => match xs with
  | [a1, a3, a4, a5, a6, a7, a8, a9] => r64 a1 a3 a4 a5 a6 a7 a8 a9 h
  | _ => none), (73, [some (112, some 0), some (0, none), none, some (0, none), some (0, none), some (0, none), some (0, none), some (0, none), some (0, none), some (0, none), some (0, none)], [], fun xs h => match xs with
  | [a1, a3, a4, a5, a6, a7, a8, a9, a10] => r73 a1 a3 a4 a5 a6 a7 a8 a9 a10 h
  | _ => none)]) kr (fun _ _ => none) 400 73 [some (112, 0), some (0, a1), none, some (0, a3), some (0, a4), some (0, a5), some (0, a6), some (0, a7), some (0, a8), some (0, a9), some (0, a10)] [] h := by rfl
set_option maxRecDepth 100000 in
theorem qe_M_carryOut_324 {ρ : Type} (kr : Int → zH → Option ρ) (a3 a4 a9 t0 t1 : Int) (h : zH) : M_carryOut_324 kr a3 a4 a9 t0 t1 h = zseg zPP false (zcal [(100, [some 0, none], fun xs h kr kt => match xs with
  | [x1] => M_settle x1 h kr
  | _ => none)]) (zget (999, 0, 0, 0) zc_M_carryOut) (zcut zu_M_carryOut) (zorc []) kr (fun _ _ => none) 400 324 [some (112, 0), none, none, some (0, a3), some (0, a4), none, none, none, none, some (0, a9), none] [(0, t0), (0, t1), (112, 0)] h := by rfl
set_option maxRecDepth 100000 in
theorem qe_M_carryOut_178 {ρ : Type} (kr : Int → zH → Option ρ) (a1 a3 a4 a5 a6 a7 a8 : Int) (h : zH) : M_carryOut_178 kr a1 a3 a4 a5 a6 a7 a8 h = zseg zPP false (zcal [(92, [some 0, none, none, none, none, none], fun xs h kr kt => match xs with
  | [x1, x2, x3, x4, x5] => M_fail x1 x2 x3 x4 x5 h kr
  | _ => none), (114, [none], fun xs h kr kt => match xs with
  | [x0] => M_isShared x0 h kr
  | _ => none), (118, [some 0, none, none, none], fun xs h kr kt => match xs with
  | [x1, x2, x3] => M_delayOf x1 x2 x3 h kr
  | _ => none), (122, [some 0, none, none, none], fun xs h kr kt => match xs with
  | [x1, x2, x3] => M_doLanes x1 x2 x3 h kr
  | _ => none)]) (zget (999, 0, 0, 0) zc_M_carryOut) (zcut zu_M_carryOut) (zorc [(324, [some (112, some 0), none, none, some (0, none), some (0, none), none, none, none, none, some (0, none), none], [(0, none), (0, none), (112, some 0)], fun xs h => match xs with
  | [a3, a4, a9, t0, t1] => M_carryOut_324 kr a3 a4 a9 t0 t1 h
  | _ => none)]) kr (fun _ _ => none) 400 178 [some (112, 0), some (0, a1), none, some (0, a3), some (0, a4), some (0, a5), some (0, a6), some (0, a7), some (0, a8), none, none] [] h := by rfl
set_option maxRecDepth 100000 in
theorem qe_M_carryOut_162 {ρ : Type} (kr : Int → zH → Option ρ) (a1 a3 a4 a5 a6 a7 a8 : Int) (h : zH) : M_carryOut_162 kr a1 a3 a4 a5 a6 a7 a8 h = zseg zPP false (zcal [(98, [some 0, none], fun xs h kr kt => match xs with
  | [x1] => M_writeAll x1 h kr
  | _ => none)]) (zget (999, 0, 0, 0) zc_M_carryOut) (zcut zu_M_carryOut) (zorc [(178, [some (112, some 0), some (0, none), none, some (0, none), some (0, none), some (0, none), some (0, none), some (0, none), some (0, none), none, none], [], fun xs h => match xs with
  | [a1, a3, a4, a5, a6, a7, a8] => M_carryOut_178 kr a1 a3 a4 a5 a6 a7 a8 h
  | _ => none)]) kr (fun _ _ => none) 400 162 [some (112, 0), some (0, a1), none, some (0, a3), some (0, a4), some (0, a5), some (0, a6), some (0, a7), some (0, a8), none, none] [] h := by rfl
set_option maxRecDepth 100000 in
theorem qe_M_carryOut_156 {ρ : Type} (kr : Int → zH → Option ρ) (a1 a3 a4 a5 a6 a7 a8 : Int) (h : zH) : M_carryOut_156 kr a1 a3 a4 a5 a6 a7 a8 h = zseg zPP false (zcal [(98, [some 0, none], fun xs h kr kt => match xs with
  | [x1] => M_writeAll x1 h kr
  | _ => none)]) (zget (999, 0, 0, 0) zc_M_carryOut) (zcut zu_M_carryOut) (zorc [(162, [some (112, some 0), some (0, none), none, some (0, none), some (0, none), some (0, none), some (0, none), some (0, none), some (0, none), none, none], [], fun xs h => match xs with
  | [a1, a3, a4, a5, a6, a7, a8] => M_carryOut_162 kr a1 a3 a4 a5 a6 a7 a8 h
  | _ => none)]) kr (fun _ _ => none) 400 156 [some (112, 0), some (0, a1), none, some (0, a3), some (0, a4), some (0, a5), some (0, a6), some (0, a7), some (0, a8), none, none] [] h := by rfl
set_option maxRecDepth 100000 in
theorem qe_M_carryOut_64b {ρ : Type} (kr : Int → zH → Option ρ) (r64 : Int → Int → Int → Int → Int → Int → Int → Int → zH → Option ρ) (a1 a3 a4 a5 a6 a7 a8 a9 : Int) (h : zH) : M_carryOut_64b kr r64 a1 a3 a4 a5 a6 a7 a8 a9 h = zseg zPP false (zcal []) (zget (999, 0, 0, 0) zc_M_carryOut) (zcut zu_M_carryOut) (zorc [(73, [some (112, some 0), some (0, none), none, some (0, none), some (0, none), some (0, none), some (0, none), some (0, none), some (0, none), some (0, none), some (0, none)], [], fun xs h => match xs with
  | [a1, a3, a4, a5, a6, a7, a8, a9, a10] => M_carryOut_73 kr r64 a1 a3 a4 a5 a6 a7 a8 a9 a10 h
  | _ => none), (156, [some (112, some 0), some (0, none), none, some (0, none), some (0, none), some (0, none), some (0, none), some (0, none), some (0, none), none, none], [], fun xs h => match xs with
  | [a1, a3, a4, a5, a6, a7, a8] => M_carryOut_156 kr a1 a3 a4 a5 a6 a7 a8 h
  | _ => none), (162, [some (112, some 0), some (0, none), none, some (0, none), some (0, none), some (0, none), some (0, none), some (0, none), some (0, none), none, none], [], fun xs h => match xs with
  | [a1, a3, a4, a5, a6, a7, a8] => M_carryOut_162 kr a1 a3 a4 a5 a6 a7 a8 h
  | _ => none)]) kr (fun _ _ => none) 400 64 [some (112, 0), some (0, a1), none, some (0, a3), some (0, a4), some (0, a5), some (0, a6), some (0, a7), some (0, a8), some (0, a9), none] [] h := by rfl
set_option maxRecDepth 100000 in
theorem qe_M_carryOut {ρ : Type} (kr : Int → zH → Option ρ) (a1 a2 : Int) (h : zH) : M_carryOut a1 a2 h kr = zseg zPP false (zcal [(103, [some 0, none], fun xs h kr kt => match xs with
  | [x1] => M_placeOf x1 h kr
  | _ => none), (104, [some 0, none], fun xs h kr kt => match xs with
  | [x1] => M_maskOf x1 h kr
  | _ => none)]) (zget (999, 0, 0, 0) zc_M_carryOut) (zcut zu_M_carryOut) (zorc [(64, [some (112, some 0), some (0, none), none, some (0, none), some (0, none), some (0, none), some (0, none), some (0, none), some (0, none), some (0, none), none], [], fun xs h => match xs with
  | [a1, a3, a4, a5, a6, a7, a8, a9] => M_carryOut_64 kr a1 a3 a4 a5 a6 a7 a8 a9 h
  | _ => none)]) kr (fun _ _ => none) 400 0 [some (112, 0), some (0, a1), some (0, a2), none, none, none, none, none, none, none, none] [] h := by rfl
def zc_M_beginLaunch : List zI := [(14, 0, 0, 112), (80, 12, 43, 14), (999, 0, 0, 0), (999, 0, 0, 0), (10, 0, 1, 0), (1, 114, 0, 0), (999, 0, 0, 0), (97, 0, 0, 69), (133, 0, 0, 0)]
def zu_M_beginLaunch : List (Nat × List Bool) := []
set_option maxRecDepth 100000 in
theorem qe_M_beginLaunch {ρ : Type} (kr : Int → zH → Option ρ) (a1 : Int) (h : zH) : M_beginLaunch a1 h kr = zseg zPP false (zcal []) (zget (999, 0, 0, 0) zc_M_beginLaunch) (zcut zu_M_beginLaunch) (zorc []) kr (fun _ _ => none) 400 0 [some (112, 0), some (0, a1)] [] h := by rfl
def zc_M_firstOf : List zI := [(0, 0, 0, 0), (16, 0, 2, 0), (10, 0, 2, 0), (14, 0, 0, 112), (80, 12, 196, 13), (999, 0, 0, 0), (999, 0, 0, 0), (69, 29, 36, 0), (999, 0, 0, 0), (999, 0, 0, 0), (14, 0, 0, 112), (80, 12, 49, 16), (999, 0, 0, 0), (999, 0, 0, 0), (10, 0, 2, 0), (90, 0, 0, 71), (10, 0, 1, 0), (67, 13, 30, 0), (999, 0, 0, 0), (999, 0, 0, 0), (14, 0, 0, 112), (10, 0, 2, 0), (110, 0, 225, 78), (999, 0, 0, 0), (999, 0, 0, 0), (61, 5, 30, 0), (999, 0, 0, 0), (999, 0, 0, 0), (10, 0, 2, 0), (130, 0, 0, 0), (22, 1, 2, 0), (999, 0, 0, 0), (999, 0, 0, 0), (72, (-31), 2, 0), (999, 0, 0, 0), (999, 0, 0, 0), (0, (-1), 0, 0), (130, 0, 0, 0)]
def zu_M_firstOf : List (Nat × List Bool) := [(2, [true, true, true]), (30, [true, true, true])]
set_option maxRecDepth 100000 in
theorem qe_M_firstOf_30 {ρ : Type} (kr : Int → zH → Option ρ) (r2 : Int → Int → zH → Option ρ) (a1 a2 : Int) (h : zH) : M_firstOf_30 kr r2 a1 a2 h = zseg zPP false (zcal []) (zget (999, 0, 0, 0) zc_M_firstOf) (zcut zu_M_firstOf) (zorc [(2, [some (112, some 0), some (0, none), some (0, none)], [], fun xs h => match xs with
  | [a1, a2] => r2 a1 a2 h
  | _ => none)]) kr (fun _ _ => none) 400 30 [some (112, 0), some (0, a1), some (0, a2)] [] h := by rfl
set_option maxRecDepth 100000 in
theorem qe_M_firstOf_2b {ρ : Type} (kr : Int → zH → Option ρ) (r2 : Int → Int → zH → Option ρ) (a1 a2 : Int) (h : zH) : M_firstOf_2b kr r2 a1 a2 h = zseg zPP false (zcal [(78, [some 0, none], fun xs h kr kt => match xs with
  | [x1] => M_isOver x1 h kr
  | _ => none)]) (zget (999, 0, 0, 0) zc_M_firstOf) (zcut zu_M_firstOf) (zorc [(30, [some (112, some 0), some (0, none), some (0, none)], [], fun xs h => match xs with
  | [a1, a2] => M_firstOf_30 kr r2 a1 a2 h
  | _ => none)]) kr (fun _ _ => none) 400 2 [some (112, 0), some (0, a1), some (0, a2)] [] h := by rfl
set_option maxRecDepth 100000 in
theorem qe_M_firstOf {ρ : Type} (kr : Int → zH → Option ρ) (a1 : Int) (h : zH) : M_firstOf a1 h kr = zseg zPP false (zcal []) (zget (999, 0, 0, 0) zc_M_firstOf) (zcut zu_M_firstOf) (zorc [(2, [some (112, some 0), some (0, none), some (0, none)], [], fun xs h => match xs with
  | [a1, a2] => M_firstOf_2 kr a1 a2 h
  | _ => none)]) kr (fun _ _ => none) 400 0 [some (112, 0), some (0, a1), none] [] h := by rfl
def zc_M_isBroken : List zI := [(10, 0, 1, 0), (0, (-1), 0, 0), (66, 29, 31, 0), (999, 0, 0, 0), (999, 0, 0, 0), (14, 0, 0, 112), (80, 12, 43, 14), (999, 0, 0, 0), (999, 0, 0, 0), (10, 0, 1, 0), (92, 0, 0, 69), (1, 102, 0, 0), (999, 0, 0, 0), (66, 14, 27, 0), (999, 0, 0, 0), (999, 0, 0, 0), (14, 0, 0, 112), (80, 12, 43, 14), (999, 0, 0, 0), (999, 0, 0, 0), (10, 0, 1, 0), (92, 0, 0, 69), (1, 120, 0, 0), (999, 0, 0, 0), (67, 7, 31, 0), (999, 0, 0, 0), (999, 0, 0, 0), (0, 1, 0, 0), (72, 4, 32, 0), (999, 0, 0, 0), (999, 0, 0, 0), (0, 0, 0, 0), (130, 0, 1, 0)]
def zu_M_isBroken : List (Nat × List Bool) := [(27, [false, false]), (31, [false, false]), (32, [false, false])]
set_option maxRecDepth 100000 in
theorem qe_M_isBroken_32 {ρ : Type} (kr : Int → zH → Option ρ) (t0 : Int) (h : zH) : M_isBroken_32 kr t0 h = zseg zPP false (zcal []) (zget (999, 0, 0, 0) zc_M_isBroken) (zcut zu_M_isBroken) (zorc []) kr (fun _ _ => none) 400 32 [none, none] [(0, t0)] h := by rfl
set_option maxRecDepth 100000 in
theorem qe_M_isBroken_27 {ρ : Type} (kr : Int → zH → Option ρ) (h : zH) : M_isBroken_27 kr h = zseg zPP false (zcal []) (zget (999, 0, 0, 0) zc_M_isBroken) (zcut zu_M_isBroken) (zorc [(32, [none, none], [(0, none)], fun xs h => match xs with
  | [t0] => M_isBroken_32 kr t0 h
  | _ => none)]) kr (fun _ _ => none) 400 27 [none, none] [] h := by rfl
set_option maxRecDepth 100000 in
theorem qe_M_isBroken_31 {ρ : Type} (kr : Int → zH → Option ρ) (h : zH) : M_isBroken_31 kr h = zseg zPP false (zcal []) (zget (999, 0, 0, 0) zc_M_isBroken) (zcut zu_M_isBroken) (zorc [(32, [none, none], [(0, none)], fun xs h => match xs with
  | [t0] => M_isBroken_32 kr t0 h
  | _ => none)]) kr (fun _ _ => none) 400 31 [none, none] [] h := by rfl
set_option maxRecDepth 100000 in
theorem qe_M_isBroken {ρ : Type} (kr : Int → zH → Option ρ) (a1 : Int) (h : zH) : M_isBroken a1 h kr = zseg zPP false (zcal []) (zget (999, 0, 0, 0) zc_M_isBroken) (zcut zu_M_isBroken) (zorc [(27, [none, none], [], fun xs h => match xs with
  | [] => M_isBroken_27 kr h
  | _ => none), (31, [none, none], [], fun xs h => match xs with
  | [] => M_isBroken_31 kr h
  | _ => none)]) kr (fun _ _ => none) 400 0 [some (112, 0), some (0, a1)] [] h := by rfl
def zc_M_goThrough : List zI := [(0, 1, 0, 0), (16, 0, 2, 0), (10, 0, 2, 0), (60, 137, 140, 0), (999, 0, 0, 0), (999, 0, 0, 0), (14, 0, 0, 112), (10, 0, 1, 0), (110, 0, 396, 125), (999, 0, 0, 0), (999, 0, 0, 0), (16, 0, 3, 0), (10, 0, 3, 0), (0, (-1), 0, 0), (66, 18, 32, 0), (999, 0, 0, 0), (999, 0, 0, 0), (14, 0, 0, 112), (80, 12, 43, 14), (999, 0, 0, 0), (999, 0, 0, 0), (10, 0, 3, 0), (92, 0, 0, 69), (1, 113, 0, 0), (999, 0, 0, 0), (67, 7, 32, 0), (999, 0, 0, 0), (999, 0, 0, 0), (0, 1, 0, 0), (72, 4, 33, 0), (999, 0, 0, 0), (999, 0, 0, 0), (0, 0, 0, 0), (16, 0, 2, 0), (10, 0, 2, 0), (60, 102, 137, 0), (999, 0, 0, 0), (999, 0, 0, 0), (14, 0, 0, 112), (14, 0, 0, 112), (80, 12, 61, 20), (999, 0, 0, 0), (999, 0, 0, 0), (10, 0, 3, 0), (90, 0, 0, 75), (110, 0, 399, 126), (999, 0, 0, 0), (999, 0, 0, 0), (61, 16, 64, 0), (999, 0, 0, 0), (999, 0, 0, 0), (14, 0, 0, 112), (14, 0, 0, 112), (80, 12, 58, 19), (999, 0, 0, 0), (999, 0, 0, 0), (10, 0, 3, 0), (90, 0, 0, 74), (110, 0, 399, 126), (999, 0, 0, 0), (999, 0, 0, 0), (60, 7, 68, 0), (999, 0, 0, 0), (999, 0, 0, 0), (0, 1, 0, 0), (72, 4, 69, 0), (999, 0, 0, 0), (999, 0, 0, 0), (0, 0, 0, 0), (17, 0, 4, 0), (999, 0, 0, 0), (11, 0, 4, 0), (999, 0, 0, 0), (61, 30, 103, 0), (999, 0, 0, 0), (999, 0, 0, 0), (14, 0, 0, 112), (80, 12, 58, 19), (999, 0, 0, 0), (999, 0, 0, 0), (10, 0, 3, 0), (90, 0, 0, 74), (0, (-1), 0, 0), (66, 20, 103, 0), (999, 0, 0, 0), (999, 0, 0, 0), (14, 0, 0, 112), (14, 0, 0, 112), (80, 12, 58, 19), (999, 0, 0, 0), (999, 0, 0, 0), (10, 0, 3, 0), (90, 0, 0, 74), (110, 0, 225, 78), (999, 0, 0, 0), (999, 0, 0, 0), (61, 7, 103, 0), (999, 0, 0, 0), (999, 0, 0, 0), (0, 1, 0, 0), (72, 4, 104, 0), (999, 0, 0, 0), (999, 0, 0, 0), (0, 0, 0, 0), (17, 0, 5, 0), (999, 0, 0, 0), (11, 0, 4, 0), (999, 0, 0, 0), (60, 14, 122, 0), (999, 0, 0, 0), (999, 0, 0, 0), (14, 0, 0, 112), (80, 12, 43, 14), (999, 0, 0, 0), (999, 0, 0, 0), (10, 0, 3, 0), (1, 120, 0, 0), (999, 0, 0, 0), (97, 0, 0, 69), (72, 18, 137, 0), (999, 0, 0, 0), (999, 0, 0, 0), (11, 0, 5, 0), (999, 0, 0, 0), (60, 8, 132, 0), (999, 0, 0, 0), (999, 0, 0, 0), (0, 0, 0, 0), (16, 0, 2, 0), (72, 8, 137, 0), (999, 0, 0, 0), (999, 0, 0, 0), (14, 0, 0, 112), (10, 0, 3, 0), (110, 0, 402, 124), (999, 0, 0, 0), (999, 0, 0, 0), (72, (-135), 2, 0), (999, 0, 0, 0), (999, 0, 0, 0), (133, 0, 0, 0)]
def zu_M_goThrough : List (Nat × List Bool) := [(2, [true, true, true, false, false, false]), (32, [true, true, false, true, false, false]), (33, [true, true, false, true, false, false]), (64, [true, true, true, true, false, false]), (69, [true, true, true, true, false, false]), (103, [true, true, true, true, true, false]), (104, [true, true, true, true, true, false]), (137, [true, true, true, false, false, false])]
set_option maxRecDepth 100000 in
theorem qe_M_goThrough_137 {ρ : Type} (kr : Int → zH → Option ρ) (r2 : Int → Int → zH → Option ρ) (a1 a2 : Int) (h : zH) : M_goThrough_137 kr r2 a1 a2 h = zseg zPP false (zcal []) (zget (999, 0, 0, 0) zc_M_goThrough) (zcut zu_M_goThrough) (zorc [(2, [some (112, some 0), some (0, none), some (0, none), none, none, none], [], fun xs h => match xs with
  | [a1, a2] => r2 a1 a2 h
  | _ => none)]) kr (fun _ _ => none) 400 137 [some (112, 0), some (0, a1), some (0, a2), none, none, none] [] h := by rfl
set_option maxRecDepth 100000 in
theorem qe_M_goThrough_104 {ρ : Type} (kr : Int → zH → Option ρ) (r2 : Int → Int → zH → Option ρ) (a1 a2 a3 a4 t0 : Int) (h : zH) : M_goThrough_104 kr r2 a1 a2 a3 a4 t0 h = zseg zPP false (zcal [(124, [some 0, none], fun xs h kr kt => match xs with
  | [x1] => M_beginLaunch x1 h kr
  | _ => none)]) (zget (999, 0, 0, 0) zc_M_goThrough) (zcut zu_M_goThrough) (zorc [(137, [some (112, some 0), some (0, none), some (0, none), none, none, none], [], fun xs h => match xs with
  | [a1, a2] => M_goThrough_137 kr r2 a1 a2 h
  | _ => none)]) kr (fun _ _ => none) 400 104 [some (112, 0), some (0, a1), some (0, a2), some (0, a3), some (0, a4), none] [(0, t0)] h := by rfl
set_option maxRecDepth 100000 in
theorem qe_M_goThrough_103 {ρ : Type} (kr : Int → zH → Option ρ) (r2 : Int → Int → zH → Option ρ) (a1 a2 a3 a4 : Int) (h : zH) : M_goThrough_103 kr r2 a1 a2 a3 a4 h = zseg zPP false (zcal []) (zget (999, 0, 0, 0) zc_M_goThrough) (zcut zu_M_goThrough) (zorc [(104, [some (112, some 0), some (0, none), some (0, none), some (0, none), some (0, none), none], [(0, none)], fun xs h => match xs with
  | [a1, a2, a3, a4, t0] => M_goThrough_104 kr r2 a1 a2 a3 a4 t0 h
  | _ => none)]) kr (fun _ _ => none) 400 103 [some (112, 0), some (0, a1), some (0, a2), some (0, a3), some (0, a4), none] [] h := by rfl
set_option maxRecDepth 100000 in
theorem qe_M_goThrough_69 {ρ : Type} (kr : Int → zH → Option ρ) (r2 : Int → Int → zH → Option ρ) (a1 a2 a3 t0 : Int) (h : zH) : M_goThrough_69 kr r2 a1 a2 a3 t0 h = zseg zPP false (zcal [(78, [some 0, none], fun xs h kr kt => match xs with
  | [x1] => M_isOver x1 h kr
  | _ => none)]) (zget (999, 0, 0, 0) zc_M_goThrough) (zcut zu_M_goThrough) (zorc [(103, [some (112, some 0), some (0, none), some (0, none), some (0, none), some (0, none), none], [], fun xs h => match xs with
  | [a1, a2, a3, a4] => M_goThrough_103 kr r2 a1 a2 a3 a4 h
  | _ => none), (104, [some (112, some 0), some (0, none), some (0, none), some (0, none), some (0, none), none], [(0, none)], fun xs h => match xs with
  | [a1, a2, a3, a4, t0] => M_goThrough_104 kr r2 a1 a2 a3 a4 t0 h
  | _ => none)]) kr (fun _ _ => none) 400 69 [some (112, 0), some (0, a1), some (0, a2), some (0, a3), none, none] [(0, t0)] h := by rfl
set_option maxRecDepth 100000 in
theorem qe_M_goThrough_64 {ρ : Type} (kr : Int → zH → Option ρ) (r2 : Int → Int → zH → Option ρ) (a1 a2 a3 : Int) (h : zH) : M_goThrough_64 kr r2 a1 a2 a3 h = zseg zPP false (zcal []) (zget (999, 0, 0, 0) zc_M_goThrough) (zcut zu_M_goThrough) (zorc [(69, [some (112, some 0), some (0, none), some (0, none), some (0, none), none, none], [(0, none)], fun xs h => match xs with
  | [a1, a2, a3, t0] => M_goThrough_69 kr r2 a1 a2 a3 t0 h
  | _ => none)]) kr (fun _ _ => none) 400 64 [some (112, 0), some (0, a1), some (0, a2), some (0, a3), none, none] [] h := by rfl
set_option maxRecDepth 100000 in
theorem qe_M_goThrough_33 {ρ : Type} (kr : Int → zH → Option ρ) (r2 : Int → Int → zH → Option ρ) (a1 a3 t0 : Int) (h : zH) : M_goThrough_33 kr r2 a1 a3 t0 h = zseg zPP false (zcal [(126, [some 0, none], fun xs h kr kt => match xs with
  | [x1] => M_isBroken x1 h kr
  | _ => none)]) (zget (999, 0, 0, 0) zc_M_goThrough) (zcut zu_M_goThrough) (zorc [(64, [some (112, some 0), some (0, none), some (0, none), some (0, none), none, none], [], fun xs h => match xs with
  | [a1, a2, a3] => M_goThrough_64 kr r2 a1 a2 a3 h
  | _ => none), (69, [some (112, some 0), some (0, none), some (0, none), some (0, none), none, none], [(0, none)], fun xs h => match xs with
  | [a1, a2, a3, t0] => M_goThrough_69 kr r2 a1 a2 a3 t0 h
  | _ => none), (137, [some (112, some 0), some (0, none), some (0, none), none, none, none], [], fun xs h => match xs with
  | [a1, a2] => M_goThrough_137 kr r2 a1 a2 h
  | _ => none)]) kr (fun _ _ => none) 400 33 [some (112, 0), some (0, a1), none, some (0, a3), none, none] [(0, t0)] h := by rfl
set_option maxRecDepth 100000 in
theorem qe_M_goThrough_32 {ρ : Type} (kr : Int → zH → Option ρ) (r2 : Int → Int → zH → Option ρ) (a1 a3 : Int) (h : zH) : M_goThrough_32 kr r2 a1 a3 h = zseg zPP false (zcal []) (zget (999, 0, 0, 0) zc_M_goThrough) (zcut zu_M_goThrough) (zorc [(33, [some (112, some 0), some (0, none), none, some (0, none), none, none], [(0, none)], fun xs h => match xs with
  | [a1, a3, t0] => M_goThrough_33 kr r2 a1 a3 t0 h
  | _ => none)]) kr (fun _ _ => none) 400 32 [some (112, 0), some (0, a1), none, some (0, a3), none, none] [] h := by rfl
set_option maxRecDepth 100000 in
theorem qe_M_goThrough_2b {ρ : Type} (kr : Int → zH → Option ρ) (r2 : Int → Int → zH → Option ρ) (a1 a2 : Int) (h : zH) : M_goThrough_2b kr r2 a1 a2 h = zseg zPP false (zcal [(125, [some 0, none], fun xs h kr kt => match xs with
  | [x1] => M_firstOf x1 h kr
  | _ => none)]) (zget (999, 0, 0, 0) zc_M_goThrough) (zcut zu_M_goThrough) (zorc [(32, [some (112, some 0), some (0, none), none, some (0, none), none, none], [], fun xs h => match xs with
  | [a1, a3] => M_goThrough_32 kr r2 a1 a3 h
  | _ => none), (33, [some (112, some 0), some (0, none), none, some (0, none), none, none], [(0, none)], fun xs h => match xs with
  | [a1, a3, t0] => M_goThrough_33 kr r2 a1 a3 t0 h
  | _ => none)]) kr (fun _ _ => none) 400 2 [some (112, 0), some (0, a1), some (0, a2), none, none, none] [] h := by rfl
set_option maxRecDepth 100000 in
theorem qe_M_goThrough {ρ : Type} (kr : Int → zH → Option ρ) (a1 : Int) (h : zH) : M_goThrough a1 h kr = zseg zPP false (zcal []) (zget (999, 0, 0, 0) zc_M_goThrough) (zcut zu_M_goThrough) (zorc [(2, [some (112, some 0), some (0, none), some (0, none), none, none, none], [], fun xs h => match xs with
  | [a1, a2] => M_goThrough_2 kr a1 a2 h
  | _ => none)]) kr (fun _ _ => none) 400 0 [some (112, 0), some (0, a1), none, none, none, none] [] h := by rfl
def zc_M_copyOne : List zI := [(14, 0, 0, 112), (80, 12, 13, 3), (999, 0, 0, 0), (999, 0, 0, 0), (14, 0, 0, 112), (80, 12, 79, 26), (999, 0, 0, 0), (999, 0, 0, 0), (10, 0, 1, 0), (90, 0, 0, 81), (14, 0, 0, 112), (80, 12, 85, 28), (999, 0, 0, 0), (999, 0, 0, 0), (10, 0, 1, 0), (90, 0, 0, 83), (30, 0, 0, 0), (14, 0, 0, 112), (80, 12, 13, 3), (999, 0, 0, 0), (999, 0, 0, 0), (14, 0, 0, 112), (80, 12, 76, 25), (999, 0, 0, 0), (999, 0, 0, 0), (10, 0, 1, 0), (90, 0, 0, 80), (14, 0, 0, 112), (80, 12, 85, 28), (999, 0, 0, 0), (999, 0, 0, 0), (10, 0, 1, 0), (90, 0, 0, 83), (30, 0, 0, 0), (90, 0, 0, 60), (95, 0, 0, 60), (14, 0, 0, 112), (80, 12, 85, 28), (999, 0, 0, 0), (999, 0, 0, 0), (10, 0, 1, 0), (51, 0, 0, 0), (90, 0, 0, 83), (0, 1, 0, 0), (30, 0, 0, 0), (95, 0, 0, 83), (14, 0, 0, 112), (80, 12, 43, 14), (999, 0, 0, 0), (999, 0, 0, 0), (10, 0, 1, 0), (14, 0, 0, 112), (80, 12, 85, 28), (999, 0, 0, 0), (999, 0, 0, 0), (10, 0, 1, 0), (90, 0, 0, 83), (14, 0, 0, 112), (80, 12, 82, 27), (999, 0, 0, 0), (999, 0, 0, 0), (10, 0, 1, 0), (90, 0, 0, 82), (67, 8, 71, 0), (999, 0, 0, 0), (999, 0, 0, 0), (1, 100, 0, 0), (999, 0, 0, 0), (72, 5, 73, 0), (999, 0, 0, 0), (999, 0, 0, 0), (1, 114, 0, 0), (999, 0, 0, 0), (97, 0, 0, 69), (133, 0, 0, 0)]
def zu_M_copyOne : List (Nat × List Bool) := [(73, [false, false])]
set_option maxRecDepth 100000 in
theorem qe_M_copyOne_73 {ρ : Type} (kr : Int → zH → Option ρ) (t0 t1 : Int) (h : zH) : M_copyOne_73 kr t0 t1 h = zseg zPP false (zcal []) (zget (999, 0, 0, 0) zc_M_copyOne) (zcut zu_M_copyOne) (zorc []) kr (fun _ _ => none) 400 73 [none, none] [(0, t0), (0, t1), (169, 0)] h := by rfl
set_option maxRecDepth 100000 in
theorem qe_M_copyOne {ρ : Type} (kr : Int → zH → Option ρ) (a1 : Int) (h : zH) : M_copyOne a1 h kr = zseg zPP false (zcal []) (zget (999, 0, 0, 0) zc_M_copyOne) (zcut zu_M_copyOne) (zorc [(73, [none, none], [(0, none), (0, none), (169, some 0)], fun xs h => match xs with
  | [t0, t1] => M_copyOne_73 kr t0 t1 h
  | _ => none)]) kr (fun _ _ => none) 400 0 [some (112, 0), some (0, a1)] [] h := by rfl
def zc_M_usedRegisters : List zI := [(0, 0, 0, 0), (16, 0, 2, 0), (0, 0, 0, 0), (16, 0, 3, 0), (10, 0, 3, 0), (1, 72, 0, 0), (999, 0, 0, 0), (69, 59, 66, 0), (999, 0, 0, 0), (999, 0, 0, 0), (10, 0, 2, 0), (14, 0, 0, 112), (80, 12, 97, 32), (999, 0, 0, 0), (999, 0, 0, 0), (10, 0, 3, 0), (91, 0, 0, 87), (60, 40, 57, 0), (999, 0, 0, 0), (999, 0, 0, 0), (14, 0, 0, 112), (80, 12, 100, 33), (999, 0, 0, 0), (999, 0, 0, 0), (10, 0, 3, 0), (90, 0, 0, 88), (10, 0, 1, 0), (67, 30, 57, 0), (999, 0, 0, 0), (999, 0, 0, 0), (14, 0, 0, 112), (80, 12, 55, 18), (999, 0, 0, 0), (999, 0, 0, 0), (10, 0, 3, 0), (1, 6, 0, 0), (999, 0, 0, 0), (33, 0, 0, 0), (90, 0, 0, 73), (14, 0, 0, 112), (80, 12, 17, 5), (999, 0, 0, 0), (999, 0, 0, 0), (14, 0, 0, 112), (80, 12, 46, 15), (999, 0, 0, 0), (999, 0, 0, 0), (10, 0, 3, 0), (1, 6, 0, 0), (999, 0, 0, 0), (33, 0, 0, 0), (90, 0, 0, 70), (90, 0, 0, 61), (32, 0, 0, 0), (72, 4, 58, 0), (999, 0, 0, 0), (999, 0, 0, 0), (0, 0, 0, 0), (30, 0, 0, 0), (16, 0, 2, 0), (22, 1, 3, 0), (999, 0, 0, 0), (999, 0, 0, 0), (72, (-59), 4, 0), (999, 0, 0, 0), (999, 0, 0, 0), (10, 0, 2, 0), (130, 0, 0, 0)]
def zu_M_usedRegisters : List (Nat × List Bool) := [(4, [true, true, true, true]), (57, [true, true, false, true]), (58, [true, true, false, true])]
set_option maxRecDepth 100000 in
theorem qe_M_usedRegisters_58 {ρ : Type} (kr : Int → zH → Option ρ) (r4 : Int → Int → Int → zH → Option ρ) (a1 a3 t0 t1 : Int) (h : zH) : M_usedRegisters_58 kr r4 a1 a3 t0 t1 h = zseg zPP false (zcal []) (zget (999, 0, 0, 0) zc_M_usedRegisters) (zcut zu_M_usedRegisters) (zorc [(4, [some (112, some 0), some (0, none), some (0, none), some (0, none)], [], fun xs h => match xs with
  | [a1, a2, a3] => r4 a1 a2 a3 h
  | _ => none)]) kr (fun _ _ => none) 400 58 [some (112, 0), some (0, a1), none, some (0, a3)] [(0, t0), (0, t1)] h := by rfl
set_option maxRecDepth 100000 in
theorem qe_M_usedRegisters_57 {ρ : Type} (kr : Int → zH → Option ρ) (r4 : Int → Int → Int → zH → Option ρ) (a1 a3 t0 : Int) (h : zH) : M_usedRegisters_57 kr r4 a1 a3 t0 h = zseg zPP false (zcal []) (zget (999, 0, 0, 0) zc_M_usedRegisters) (zcut zu_M_usedRegisters) (zorc [(58, [some (112, some 0), some (0, none), none, some (0, none)], [(0, none), (0, none)], fun xs h => match xs with
  | [a1, a3, t0, t1] => M_usedRegisters_58 kr r4 a1 a3 t0 t1 h
  | _ => none)]) kr (fun _ _ => none) 400 57 [some (112, 0), some (0, a1), none, some (0, a3)] [(0, t0)] h := by rfl
set_option maxRecDepth 100000 in
theorem qe_M_usedRegisters_4b {ρ : Type} (kr : Int → zH → Option ρ) (r4 : Int → Int → Int → zH → Option ρ) (a1 a2 a3 : Int) (h : zH) : M_usedRegisters_4b kr r4 a1 a2 a3 h = zseg zPP false (zcal []) (zget (999, 0, 0, 0) zc_M_usedRegisters) (zcut zu_M_usedRegisters) (zorc [(57, [some (112, some 0), some (0, none), none, some (0, none)], [(0, none)], fun xs h => match xs with
  | [a1, a3, t0] => M_usedRegisters_57 kr r4 a1 a3 t0 h
  | _ => none), (58, [some (112, some 0), some (0, none), none, some (0, none)], [(0, none), (0, none)], fun xs h => match xs with
  | [a1, a3, t0, t1] => M_usedRegisters_58 kr r4 a1 a3 t0 t1 h
  | _ => none)]) kr (fun _ _ => none) 400 4 [some (112, 0), some (0, a1), some (0, a2), some (0, a3)] [] h := by rfl
set_option maxRecDepth 100000 in
theorem qe_M_usedRegisters {ρ : Type} (kr : Int → zH → Option ρ) (a1 : Int) (h : zH) : M_usedRegisters a1 h kr = zseg zPP false (zcal []) (zget (999, 0, 0, 0) zc_M_usedRegisters) (zcut zu_M_usedRegisters) (zorc [(4, [some (112, some 0), some (0, none), some (0, none), some (0, none)], [], fun xs h => match xs with
  | [a1, a2, a3] => M_usedRegisters_4 kr a1 a2 a3 h
  | _ => none)]) kr (fun _ _ => none) 400 0 [some (112, 0), some (0, a1), none, none] [] h := by rfl
def zc_M_usedShared : List zI := [(0, 0, 0, 0), (16, 0, 2, 0), (0, 0, 0, 0), (16, 0, 3, 0), (10, 0, 3, 0), (1, 72, 0, 0), (999, 0, 0, 0), (69, 49, 56, 0), (999, 0, 0, 0), (999, 0, 0, 0), (10, 0, 2, 0), (14, 0, 0, 112), (80, 12, 97, 32), (999, 0, 0, 0), (999, 0, 0, 0), (10, 0, 3, 0), (91, 0, 0, 87), (60, 30, 47, 0), (999, 0, 0, 0), (999, 0, 0, 0), (14, 0, 0, 112), (80, 12, 100, 33), (999, 0, 0, 0), (999, 0, 0, 0), (10, 0, 3, 0), (90, 0, 0, 88), (10, 0, 1, 0), (67, 20, 47, 0), (999, 0, 0, 0), (999, 0, 0, 0), (14, 0, 0, 112), (80, 12, 20, 6), (999, 0, 0, 0), (999, 0, 0, 0), (14, 0, 0, 112), (80, 12, 46, 15), (999, 0, 0, 0), (999, 0, 0, 0), (10, 0, 3, 0), (1, 6, 0, 0), (999, 0, 0, 0), (33, 0, 0, 0), (90, 0, 0, 70), (90, 0, 0, 62), (72, 4, 48, 0), (999, 0, 0, 0), (999, 0, 0, 0), (0, 0, 0, 0), (30, 0, 0, 0), (16, 0, 2, 0), (22, 1, 3, 0), (999, 0, 0, 0), (999, 0, 0, 0), (72, (-49), 4, 0), (999, 0, 0, 0), (999, 0, 0, 0), (10, 0, 2, 0), (130, 0, 0, 0)]
def zu_M_usedShared : List (Nat × List Bool) := [(4, [true, true, true, true]), (47, [true, true, false, true]), (48, [true, true, false, true])]
set_option maxRecDepth 100000 in
theorem qe_M_usedShared_48 {ρ : Type} (kr : Int → zH → Option ρ) (r4 : Int → Int → Int → zH → Option ρ) (a1 a3 t0 t1 : Int) (h : zH) : M_usedShared_48 kr r4 a1 a3 t0 t1 h = zseg zPP false (zcal []) (zget (999, 0, 0, 0) zc_M_usedShared) (zcut zu_M_usedShared) (zorc [(4, [some (112, some 0), some (0, none), some (0, none), some (0, none)], [], fun xs h => match xs with
  | [a1, a2, a3] => r4 a1 a2 a3 h
  | _ => none)]) kr (fun _ _ => none) 400 48 [some (112, 0), some (0, a1), none, some (0, a3)] [(0, t0), (0, t1)] h := by rfl
set_option maxRecDepth 100000 in
theorem qe_M_usedShared_47 {ρ : Type} (kr : Int → zH → Option ρ) (r4 : Int → Int → Int → zH → Option ρ) (a1 a3 t0 : Int) (h : zH) : M_usedShared_47 kr r4 a1 a3 t0 h = zseg zPP false (zcal []) (zget (999, 0, 0, 0) zc_M_usedShared) (zcut zu_M_usedShared) (zorc [(48, [some (112, some 0), some (0, none), none, some (0, none)], [(0, none), (0, none)], fun xs h => match xs with
  | [a1, a3, t0, t1] => M_usedShared_48 kr r4 a1 a3 t0 t1 h
  | _ => none)]) kr (fun _ _ => none) 400 47 [some (112, 0), some (0, a1), none, some (0, a3)] [(0, t0)] h := by rfl
set_option maxRecDepth 100000 in
theorem qe_M_usedShared_4b {ρ : Type} (kr : Int → zH → Option ρ) (r4 : Int → Int → Int → zH → Option ρ) (a1 a2 a3 : Int) (h : zH) : M_usedShared_4b kr r4 a1 a2 a3 h = zseg zPP false (zcal []) (zget (999, 0, 0, 0) zc_M_usedShared) (zcut zu_M_usedShared) (zorc [(47, [some (112, some 0), some (0, none), none, some (0, none)], [(0, none)], fun xs h => match xs with
  | [a1, a3, t0] => M_usedShared_47 kr r4 a1 a3 t0 h
  | _ => none), (48, [some (112, some 0), some (0, none), none, some (0, none)], [(0, none), (0, none)], fun xs h => match xs with
  | [a1, a3, t0, t1] => M_usedShared_48 kr r4 a1 a3 t0 t1 h
  | _ => none)]) kr (fun _ _ => none) 400 4 [some (112, 0), some (0, a1), some (0, a2), some (0, a3)] [] h := by rfl
set_option maxRecDepth 100000 in
theorem qe_M_usedShared {ρ : Type} (kr : Int → zH → Option ρ) (a1 : Int) (h : zH) : M_usedShared a1 h kr = zseg zPP false (zcal []) (zget (999, 0, 0, 0) zc_M_usedShared) (zcut zu_M_usedShared) (zorc [(4, [some (112, some 0), some (0, none), some (0, none), some (0, none)], [], fun xs h => match xs with
  | [a1, a2, a3] => M_usedShared_4 kr a1 a2 a3 h
  | _ => none)]) kr (fun _ _ => none) 400 0 [some (112, 0), some (0, a1), none, none] [] h := by rfl
def zc_M_hasRoom : List zI := [(14, 0, 0, 112), (80, 12, 115, 38), (999, 0, 0, 0), (999, 0, 0, 0), (10, 0, 1, 0), (90, 0, 0, 93), (14, 0, 0, 112), (10, 0, 2, 0), (110, 0, 405, 89), (999, 0, 0, 0), (999, 0, 0, 0), (30, 0, 0, 0), (0, 4, 0, 0), (70, 58, 71, 0), (999, 0, 0, 0), (999, 0, 0, 0), (14, 0, 0, 112), (10, 0, 1, 0), (110, 0, 408, 129), (999, 0, 0, 0), (999, 0, 0, 0), (14, 0, 0, 112), (80, 12, 55, 18), (999, 0, 0, 0), (999, 0, 0, 0), (10, 0, 2, 0), (90, 0, 0, 73), (14, 0, 0, 112), (80, 12, 17, 5), (999, 0, 0, 0), (999, 0, 0, 0), (14, 0, 0, 112), (80, 12, 46, 15), (999, 0, 0, 0), (999, 0, 0, 0), (10, 0, 2, 0), (90, 0, 0, 70), (90, 0, 0, 61), (32, 0, 0, 0), (30, 0, 0, 0), (1, 64, 0, 0), (999, 0, 0, 0), (70, 29, 71, 0), (999, 0, 0, 0), (999, 0, 0, 0), (14, 0, 0, 112), (10, 0, 1, 0), (110, 0, 411, 130), (999, 0, 0, 0), (999, 0, 0, 0), (14, 0, 0, 112), (80, 12, 20, 6), (999, 0, 0, 0), (999, 0, 0, 0), (14, 0, 0, 112), (80, 12, 46, 15), (999, 0, 0, 0), (999, 0, 0, 0), (10, 0, 2, 0), (90, 0, 0, 70), (90, 0, 0, 62), (30, 0, 0, 0), (1, 32, 0, 0), (999, 0, 0, 0), (70, 7, 71, 0), (999, 0, 0, 0), (999, 0, 0, 0), (0, 1, 0, 0), (72, 4, 72, 0), (999, 0, 0, 0), (999, 0, 0, 0), (0, 0, 0, 0), (130, 0, 1, 0)]
def zu_M_hasRoom : List (Nat × List Bool) := [(71, [false, false, false]), (72, [false, false, false])]
set_option maxRecDepth 100000 in
theorem qe_M_hasRoom_72 {ρ : Type} (kr : Int → zH → Option ρ) (t0 : Int) (h : zH) : M_hasRoom_72 kr t0 h = zseg zPP false (zcal []) (zget (999, 0, 0, 0) zc_M_hasRoom) (zcut zu_M_hasRoom) (zorc []) kr (fun _ _ => none) 400 72 [none, none, none] [(0, t0)] h := by rfl
set_option maxRecDepth 100000 in
theorem qe_M_hasRoom_71 {ρ : Type} (kr : Int → zH → Option ρ) (h : zH) : M_hasRoom_71 kr h = zseg zPP false (zcal []) (zget (999, 0, 0, 0) zc_M_hasRoom) (zcut zu_M_hasRoom) (zorc [(72, [none, none, none], [(0, none)], fun xs h => match xs with
  | [t0] => M_hasRoom_72 kr t0 h
  | _ => none)]) kr (fun _ _ => none) 400 71 [none, none, none] [] h := by rfl
set_option maxRecDepth 100000 in
theorem qe_M_hasRoom {ρ : Type} (kr : Int → zH → Option ρ) (a1 a2 : Int) (h : zH) : M_hasRoom a1 a2 h kr = zseg zPP false (zcal [(89, [some 0, none], fun xs h kr kt => match xs with
  | [x1] => M_groupsOf x1 h kr
  | _ => none), (129, [some 0, none], fun xs h kr kt => match xs with
  | [x1] => M_usedRegisters x1 h kr
  | _ => none), (130, [some 0, none], fun xs h kr kt => match xs with
  | [x1] => M_usedShared x1 h kr
  | _ => none)]) (zget (999, 0, 0, 0) zc_M_hasRoom) (zcut zu_M_hasRoom) (zorc [(71, [none, none, none], [], fun xs h => match xs with
  | [] => M_hasRoom_71 kr h
  | _ => none), (72, [none, none, none], [(0, none)], fun xs h => match xs with
  | [t0] => M_hasRoom_72 kr t0 h
  | _ => none)]) kr (fun _ _ => none) 400 0 [some (112, 0), some (0, a1), some (0, a2)] [] h := by rfl
def zc_M_unitFor : List zI := [(14, 0, 0, 112), (0, 0, 0, 0), (10, 0, 1, 0), (110, 0, 414, 131), (999, 0, 0, 0), (999, 0, 0, 0), (16, 0, 2, 0), (14, 0, 0, 112), (0, 1, 0, 0), (10, 0, 1, 0), (110, 0, 414, 131), (999, 0, 0, 0), (999, 0, 0, 0), (16, 0, 3, 0), (10, 0, 2, 0), (60, 26, 41, 0), (999, 0, 0, 0), (999, 0, 0, 0), (10, 0, 3, 0), (60, 18, 37, 0), (999, 0, 0, 0), (999, 0, 0, 0), (14, 0, 0, 112), (80, 12, 115, 38), (999, 0, 0, 0), (999, 0, 0, 0), (0, 0, 0, 0), (90, 0, 0, 93), (14, 0, 0, 112), (80, 12, 115, 38), (999, 0, 0, 0), (999, 0, 0, 0), (0, 1, 0, 0), (90, 0, 0, 93), (70, 7, 41, 0), (999, 0, 0, 0), (999, 0, 0, 0), (0, 0, 0, 0), (72, 12, 50, 0), (999, 0, 0, 0), (999, 0, 0, 0), (10, 0, 3, 0), (60, 7, 49, 0), (999, 0, 0, 0), (999, 0, 0, 0), (0, 1, 0, 0), (72, 4, 50, 0), (999, 0, 0, 0), (999, 0, 0, 0), (0, (-1), 0, 0), (130, 0, 0, 0)]
def zu_M_unitFor : List (Nat × List Bool) := [(37, [false, false, false, false]), (41, [false, false, false, true]), (50, [false, false, false, false])]
set_option maxRecDepth 100000 in
theorem qe_M_unitFor_50 {ρ : Type} (kr : Int → zH → Option ρ) (t0 : Int) (h : zH) : M_unitFor_50 kr t0 h = zseg zPP false (zcal []) (zget (999, 0, 0, 0) zc_M_unitFor) (zcut zu_M_unitFor) (zorc []) kr (fun _ _ => none) 400 50 [none, none, none, none] [(0, t0)] h := by rfl
set_option maxRecDepth 100000 in
theorem qe_M_unitFor_37 {ρ : Type} (kr : Int → zH → Option ρ) (h : zH) : M_unitFor_37 kr h = zseg zPP false (zcal []) (zget (999, 0, 0, 0) zc_M_unitFor) (zcut zu_M_unitFor) (zorc [(50, [none, none, none, none], [(0, none)], fun xs h => match xs with
  | [t0] => M_unitFor_50 kr t0 h
  | _ => none)]) kr (fun _ _ => none) 400 37 [none, none, none, none] [] h := by rfl
set_option maxRecDepth 100000 in
theorem qe_M_unitFor_41 {ρ : Type} (kr : Int → zH → Option ρ) (a3 : Int) (h : zH) : M_unitFor_41 kr a3 h = zseg zPP false (zcal []) (zget (999, 0, 0, 0) zc_M_unitFor) (zcut zu_M_unitFor) (zorc [(50, [none, none, none, none], [(0, none)], fun xs h => match xs with
  | [t0] => M_unitFor_50 kr t0 h
  | _ => none)]) kr (fun _ _ => none) 400 41 [none, none, none, some (0, a3)] [] h := by rfl
set_option maxRecDepth 100000 in
theorem qe_M_unitFor {ρ : Type} (kr : Int → zH → Option ρ) (a1 : Int) (h : zH) : M_unitFor a1 h kr = zseg zPP false (zcal [(131, [some 0, none, none], fun xs h kr kt => match xs with
  | [x1, x2] => M_hasRoom x1 x2 h kr
  | _ => none)]) (zget (999, 0, 0, 0) zc_M_unitFor) (zcut zu_M_unitFor) (zorc [(37, [none, none, none, none], [], fun xs h => match xs with
  | [] => M_unitFor_37 kr h
  | _ => none), (41, [none, none, none, some (0, none)], [], fun xs h => match xs with
  | [a3] => M_unitFor_41 kr a3 h
  | _ => none)]) kr (fun _ _ => none) 400 0 [some (112, 0), some (0, a1), none, none] [] h := by rfl
def zc_M_give : List zI := [(10, 0, 1, 0), (14, 0, 0, 112), (80, 12, 70, 23), (999, 0, 0, 0), (999, 0, 0, 0), (10, 0, 1, 0), (90, 0, 0, 78), (113, 0, 242, 88), (999, 0, 0, 0), (999, 0, 0, 0), (16, 0, 3, 0), (14, 0, 0, 112), (80, 12, 70, 23), (999, 0, 0, 0), (999, 0, 0, 0), (10, 0, 1, 0), (51, 0, 0, 0), (90, 0, 0, 78), (0, 1, 0, 0), (30, 0, 0, 0), (95, 0, 0, 78), (14, 0, 0, 112), (80, 12, 97, 32), (999, 0, 0, 0), (999, 0, 0, 0), (10, 0, 3, 0), (0, 1, 0, 0), (96, 0, 0, 87), (14, 0, 0, 112), (80, 12, 100, 33), (999, 0, 0, 0), (999, 0, 0, 0), (10, 0, 3, 0), (10, 0, 2, 0), (95, 0, 0, 88), (14, 0, 0, 112), (80, 12, 94, 31), (999, 0, 0, 0), (999, 0, 0, 0), (10, 0, 3, 0), (0, 0, 0, 0), (95, 0, 0, 86), (0, 0, 0, 0), (17, 0, 4, 0), (999, 0, 0, 0), (11, 0, 4, 0), (999, 0, 0, 0), (1, 16, 0, 0), (999, 0, 0, 0), (69, 22, 71, 0), (999, 0, 0, 0), (999, 0, 0, 0), (14, 0, 0, 112), (80, 12, 112, 37), (999, 0, 0, 0), (999, 0, 0, 0), (1, 16, 0, 0), (999, 0, 0, 0), (10, 0, 3, 0), (32, 0, 0, 0), (11, 0, 4, 0), (999, 0, 0, 0), (30, 0, 0, 0), (0, 0, 0, 0), (95, 0, 0, 92), (22, 1, 4, 0), (999, 0, 0, 0), (999, 0, 0, 0), (72, (-23), 45, 0), (999, 0, 0, 0), (999, 0, 0, 0), (0, 0, 0, 0), (17, 0, 4, 0), (999, 0, 0, 0), (11, 0, 4, 0), (999, 0, 0, 0), (14, 0, 0, 112), (80, 12, 55, 18), (999, 0, 0, 0), (999, 0, 0, 0), (10, 0, 1, 0), (90, 0, 0, 73), (69, 84, 166, 0), (999, 0, 0, 0), (999, 0, 0, 0), (14, 0, 0, 112), (10, 0, 3, 0), (11, 0, 4, 0), (999, 0, 0, 0), (110, 0, 249, 93), (999, 0, 0, 0), (999, 0, 0, 0), (17, 0, 5, 0), (999, 0, 0, 0), (14, 0, 0, 112), (80, 12, 106, 35), (999, 0, 0, 0), (999, 0, 0, 0), (11, 0, 5, 0), (999, 0, 0, 0), (0, 0, 0, 0), (95, 0, 0, 90), (14, 0, 0, 112), (80, 12, 103, 34), (999, 0, 0, 0), (999, 0, 0, 0), (11, 0, 5, 0), (999, 0, 0, 0), (14, 0, 0, 112), (80, 12, 23, 7), (999, 0, 0, 0), (999, 0, 0, 0), (14, 0, 0, 112), (80, 12, 46, 15), (999, 0, 0, 0), (999, 0, 0, 0), (10, 0, 1, 0), (90, 0, 0, 70), (90, 0, 0, 63), (61, 8, 127, 0), (999, 0, 0, 0), (999, 0, 0, 0), (1, 101, 0, 0), (999, 0, 0, 0), (72, 5, 129, 0), (999, 0, 0, 0), (999, 0, 0, 0), (1, 114, 0, 0), (999, 0, 0, 0), (97, 0, 0, 89), (0, 0, 0, 0), (17, 0, 6, 0), (999, 0, 0, 0), (11, 0, 6, 0), (999, 0, 0, 0), (1, 8, 0, 0), (999, 0, 0, 0), (69, 23, 160, 0), (999, 0, 0, 0), (999, 0, 0, 0), (14, 0, 0, 112), (80, 12, 109, 36), (999, 0, 0, 0), (999, 0, 0, 0), (1, 8, 0, 0), (999, 0, 0, 0), (11, 0, 5, 0), (999, 0, 0, 0), (32, 0, 0, 0), (11, 0, 6, 0), (999, 0, 0, 0), (30, 0, 0, 0), (0, 0, 0, 0), (95, 0, 0, 91), (22, 1, 6, 0), (999, 0, 0, 0), (999, 0, 0, 0), (72, (-24), 133, 0), (999, 0, 0, 0), (999, 0, 0, 0), (22, 1, 4, 0), (999, 0, 0, 0), (999, 0, 0, 0), (72, (-89), 74, 0), (999, 0, 0, 0), (999, 0, 0, 0), (0, 0, 0, 0), (17, 0, 4, 0), (999, 0, 0, 0), (11, 0, 4, 0), (999, 0, 0, 0), (14, 0, 0, 112), (10, 0, 1, 0), (110, 0, 405, 89), (999, 0, 0, 0), (999, 0, 0, 0), (69, 67, 243, 0), (999, 0, 0, 0), (999, 0, 0, 0), (0, 4, 0, 0), (10, 0, 2, 0), (32, 0, 0, 0), (14, 0, 0, 112), (80, 12, 115, 38), (999, 0, 0, 0), (999, 0, 0, 0), (10, 0, 2, 0), (90, 0, 0, 93), (30, 0, 0, 0), (17, 0, 5, 0), (999, 0, 0, 0), (14, 0, 0, 112), (80, 12, 118, 39), (999, 0, 0, 0), (999, 0, 0, 0), (11, 0, 5, 0), (999, 0, 0, 0), (10, 0, 3, 0), (95, 0, 0, 94), (14, 0, 0, 112), (80, 12, 121, 40), (999, 0, 0, 0), (999, 0, 0, 0), (11, 0, 5, 0), (999, 0, 0, 0), (11, 0, 4, 0), (999, 0, 0, 0), (95, 0, 0, 95), (14, 0, 0, 112), (80, 12, 124, 41), (999, 0, 0, 0), (999, 0, 0, 0), (11, 0, 5, 0), (999, 0, 0, 0), (14, 0, 0, 112), (80, 12, 390, 1), (999, 0, 0, 0), (999, 0, 0, 0), (95, 0, 0, 96), (14, 0, 0, 112), (80, 12, 127, 42), (999, 0, 0, 0), (999, 0, 0, 0), (11, 0, 5, 0), (999, 0, 0, 0), (0, 0, 0, 0), (95, 0, 0, 97), (14, 0, 0, 112), (80, 12, 115, 38), (999, 0, 0, 0), (999, 0, 0, 0), (10, 0, 2, 0), (51, 0, 0, 0), (90, 0, 0, 93), (0, 1, 0, 0), (30, 0, 0, 0), (95, 0, 0, 93), (22, 1, 4, 0), (999, 0, 0, 0), (999, 0, 0, 0), (72, (-71), 169, 0), (999, 0, 0, 0), (999, 0, 0, 0), (14, 0, 0, 112), (10, 0, 3, 0), (110, 0, 393, 100), (999, 0, 0, 0), (999, 0, 0, 0), (133, 0, 0, 0)]
def zu_M_give : List (Nat × List Bool) := [(45, [true, true, true, true, true, false, false]), (74, [true, true, true, true, true, false, false]), (129, [true, true, true, true, true, true, false]), (133, [true, true, true, true, true, true, true]), (169, [true, true, true, true, true, false, false])]
set_option maxRecDepth 100000 in
theorem qe_M_give_133b {ρ : Type} (kr : Int → zH → Option ρ) (r74 : Int → Int → Int → Int → zH → Option ρ) (r133 : Int → Int → Int → Int → Int → Int → zH → Option ρ) (a1 a2 a3 a4 a5 a6 : Int) (h : zH) : M_give_133b kr r74 r133 a1 a2 a3 a4 a5 a6 h = zseg zPP false (zcal []) (zget (999, 0, 0, 0) zc_M_give) (zcut zu_M_give) (zorc [(74, [some (112, some 0), some (0, none), some (0, none), some (0, none), some (0, none), none, none], [], fun xs h => match xs with
  | [a1, a2, a3, a4] => r74 a1 a2 a3 a4 h
  | _ => none), (133, [some (112, some 0), some (0, none), some (0, none), some (0, none), some (0, none), some (0, none), some (0, none)], [], fun xs h => match xs with
  | [a1, a2, a3, a4, a5, a6] => r133 a1 a2 a3 a4 a5 a6 h
  | _ => none)]) kr (fun _ _ => none) 400 133 [some (112, 0), some (0, a1), some (0, a2), some (0, a3), some (0, a4), some (0, a5), some (0, a6)] [] h := by rfl
set_option maxRecDepth 100000 in
theorem qe_M_give_129 {ρ : Type} (kr : Int → zH → Option ρ) (r74 : Int → Int → Int → Int → zH → Option ρ) (a1 a2 a3 a4 a5 t0 t1 : Int) (h : zH) : M_give_129 kr r74 a1 a2 a3 a4 a5 t0 t1 h = zseg zPP false (zcal []) (zget (999, 0, 0, 0) zc_M_give) (zcut zu_M_give) (zorc [(133, [some (112, some 0), some (0, none), some (0, none), some (0, none), some (0, none), some (0, none), some (0, none)], [], fun xs h => match xs with
  | [a1, a2, a3, a4, a5, a6] => M_give_133 kr r74 a1 a2 a3 a4 a5 a6 h
  | _ => none)]) kr (fun _ _ => none) 400 129 [some (112, 0), some (0, a1), some (0, a2), some (0, a3), some (0, a4), some (0, a5), none] [(0, t0), (0, t1), (189, 0)] h := by rfl
set_option maxRecDepth 100000 in
theorem qe_M_give_169b {ρ : Type} (kr : Int → zH → Option ρ) (r169 : Int → Int → Int → Int → zH → Option ρ) (a1 a2 a3 a4 : Int) (h : zH) : M_give_169b kr r169 a1 a2 a3 a4 h = zseg zPP false (zcal [(89, [some 0, none], fun xs h kr kt => match xs with
  | [x1] => M_groupsOf x1 h kr
  | _ => none), (100, [some 0, none], fun xs h kr kt => match xs with
  | [x1] => M_settle x1 h kr
  | _ => none)]) (zget (999, 0, 0, 0) zc_M_give) (zcut zu_M_give) (zorc [(169, [some (112, some 0), some (0, none), some (0, none), some (0, none), some (0, none), none, none], [], fun xs h => match xs with
  | [a1, a2, a3, a4] => r169 a1 a2 a3 a4 h
  | _ => none)]) kr (fun _ _ => none) 400 169 [some (112, 0), some (0, a1), some (0, a2), some (0, a3), some (0, a4), none, none] [] h := by rfl
set_option maxRecDepth 100000 in
theorem qe_M_give_74b {ρ : Type} (kr : Int → zH → Option ρ) (r74 : Int → Int → Int → Int → zH → Option ρ) (a1 a2 a3 a4 : Int) (h : zH) : M_give_74b kr r74 a1 a2 a3 a4 h = zseg zPP false (zcal [(93, [some 0, none, none], fun xs h kr kt => match xs with
  | [x1, x2] => M_threadCell x1 x2 h kr
  | _ => none)]) (zget (999, 0, 0, 0) zc_M_give) (zcut zu_M_give) (zorc [(129, [some (112, some 0), some (0, none), some (0, none), some (0, none), some (0, none), some (0, none), none], [(0, none), (0, none), (189, some 0)], fun xs h => match xs with
  | [a1, a2, a3, a4, a5, t0, t1] => M_give_129 kr r74 a1 a2 a3 a4 a5 t0 t1 h
  | _ => none), (169, [some (112, some 0), some (0, none), some (0, none), some (0, none), some (0, none), none, none], [], fun xs h => match xs with
  | [a1, a2, a3, a4] => M_give_169 kr a1 a2 a3 a4 h
  | _ => none)]) kr (fun _ _ => none) 400 74 [some (112, 0), some (0, a1), some (0, a2), some (0, a3), some (0, a4), none, none] [] h := by rfl
set_option maxRecDepth 100000 in
theorem qe_M_give_45b {ρ : Type} (kr : Int → zH → Option ρ) (r45 : Int → Int → Int → Int → zH → Option ρ) (a1 a2 a3 a4 : Int) (h : zH) : M_give_45b kr r45 a1 a2 a3 a4 h = zseg zPP false (zcal []) (zget (999, 0, 0, 0) zc_M_give) (zcut zu_M_give) (zorc [(45, [some (112, some 0), some (0, none), some (0, none), some (0, none), some (0, none), none, none], [], fun xs h => match xs with
  | [a1, a2, a3, a4] => r45 a1 a2 a3 a4 h
  | _ => none), (74, [some (112, some 0), some (0, none), some (0, none), some (0, none), some (0, none), none, none], [], fun xs h => match xs with
  | [a1, a2, a3, a4] => M_give_74 kr a1 a2 a3 a4 h
  | _ => none)]) kr (fun _ _ => none) 400 45 [some (112, 0), some (0, a1), some (0, a2), some (0, a3), some (0, a4), none, none] [] h := by rfl
set_option maxRecDepth 100000 in
theorem qe_M_give {ρ : Type} (kr : Int → zH → Option ρ) (a1 a2 : Int) (h : zH) : M_give a1 a2 h kr = zseg zPP false (zcal [(88, [none, none], fun xs h kr kt => match xs with
  | [x0, x1] => M_blockOf x0 x1 h kr
  | _ => none)]) (zget (999, 0, 0, 0) zc_M_give) (zcut zu_M_give) (zorc [(45, [some (112, some 0), some (0, none), some (0, none), some (0, none), some (0, none), none, none], [], fun xs h => match xs with
  | [a1, a2, a3, a4] => M_give_45 kr a1 a2 a3 a4 h
  | _ => none)]) kr (fun _ _ => none) 400 0 [some (112, 0), some (0, a1), some (0, a2), none, none, none, none] [] h := by rfl
def zc_M_canGo : List zI := [(14, 0, 0, 112), (10, 0, 1, 0), (110, 0, 278, 103), (999, 0, 0, 0), (999, 0, 0, 0), (0, (-1), 0, 0), (66, 20, 26, 0), (999, 0, 0, 0), (999, 0, 0, 0), (14, 0, 0, 112), (80, 12, 124, 41), (999, 0, 0, 0), (999, 0, 0, 0), (10, 0, 1, 0), (90, 0, 0, 96), (14, 0, 0, 112), (80, 12, 390, 1), (999, 0, 0, 0), (999, 0, 0, 0), (70, 7, 26, 0), (999, 0, 0, 0), (999, 0, 0, 0), (0, 1, 0, 0), (72, 4, 27, 0), (999, 0, 0, 0), (999, 0, 0, 0), (0, 0, 0, 0), (130, 0, 1, 0)]
def zu_M_canGo : List (Nat × List Bool) := [(26, [false, false]), (27, [false, false])]
set_option maxRecDepth 100000 in
theorem qe_M_canGo_27 {ρ : Type} (kr : Int → zH → Option ρ) (t0 : Int) (h : zH) : M_canGo_27 kr t0 h = zseg zPP false (zcal []) (zget (999, 0, 0, 0) zc_M_canGo) (zcut zu_M_canGo) (zorc []) kr (fun _ _ => none) 400 27 [none, none] [(0, t0)] h := by rfl
set_option maxRecDepth 100000 in
theorem qe_M_canGo_26 {ρ : Type} (kr : Int → zH → Option ρ) (h : zH) : M_canGo_26 kr h = zseg zPP false (zcal []) (zget (999, 0, 0, 0) zc_M_canGo) (zcut zu_M_canGo) (zorc [(27, [none, none], [(0, none)], fun xs h => match xs with
  | [t0] => M_canGo_27 kr t0 h
  | _ => none)]) kr (fun _ _ => none) 400 26 [none, none] [] h := by rfl
set_option maxRecDepth 100000 in
theorem qe_M_canGo {ρ : Type} (kr : Int → zH → Option ρ) (a1 : Int) (h : zH) : M_canGo a1 h kr = zseg zPP false (zcal [(103, [some 0, none], fun xs h kr kt => match xs with
  | [x1] => M_placeOf x1 h kr
  | _ => none)]) (zget (999, 0, 0, 0) zc_M_canGo) (zcut zu_M_canGo) (zorc [(26, [none, none], [], fun xs h => match xs with
  | [] => M_canGo_26 kr h
  | _ => none), (27, [none, none], [(0, none)], fun xs h => match xs with
  | [t0] => M_canGo_27 kr t0 h
  | _ => none)]) kr (fun _ _ => none) 400 0 [some (112, 0), some (0, a1)] [] h := by rfl
def zc_M_choose : List zI := [(0, 0, 0, 0), (16, 0, 2, 0), (14, 0, 0, 112), (80, 12, 7, 2), (999, 0, 0, 0), (999, 0, 0, 0), (1, 97, 0, 0), (999, 0, 0, 0), (67, 77, 85, 0), (999, 0, 0, 0), (999, 0, 0, 0), (14, 0, 0, 112), (80, 12, 136, 45), (999, 0, 0, 0), (999, 0, 0, 0), (10, 0, 1, 0), (90, 0, 0, 100), (0, (-1), 0, 0), (66, 67, 85, 0), (999, 0, 0, 0), (999, 0, 0, 0), (0, 0, 0, 0), (16, 0, 3, 0), (10, 0, 3, 0), (14, 0, 0, 112), (80, 12, 115, 38), (999, 0, 0, 0), (999, 0, 0, 0), (10, 0, 1, 0), (90, 0, 0, 93), (69, 55, 85, 0), (999, 0, 0, 0), (999, 0, 0, 0), (14, 0, 0, 112), (80, 12, 118, 39), (999, 0, 0, 0), (999, 0, 0, 0), (0, 4, 0, 0), (10, 0, 1, 0), (32, 0, 0, 0), (10, 0, 3, 0), (30, 0, 0, 0), (90, 0, 0, 94), (14, 0, 0, 112), (80, 12, 136, 45), (999, 0, 0, 0), (999, 0, 0, 0), (10, 0, 1, 0), (90, 0, 0, 100), (67, 28, 77, 0), (999, 0, 0, 0), (999, 0, 0, 0), (14, 0, 0, 112), (80, 12, 121, 40), (999, 0, 0, 0), (999, 0, 0, 0), (0, 4, 0, 0), (10, 0, 1, 0), (32, 0, 0, 0), (10, 0, 3, 0), (30, 0, 0, 0), (90, 0, 0, 95), (14, 0, 0, 112), (80, 12, 139, 46), (999, 0, 0, 0), (999, 0, 0, 0), (10, 0, 1, 0), (90, 0, 0, 101), (67, 9, 77, 0), (999, 0, 0, 0), (999, 0, 0, 0), (10, 0, 3, 0), (0, 1, 0, 0), (30, 0, 0, 0), (72, 4, 78, 0), (999, 0, 0, 0), (999, 0, 0, 0), (10, 0, 2, 0), (16, 0, 2, 0), (22, 1, 3, 0), (999, 0, 0, 0), (999, 0, 0, 0), (72, (-59), 23, 0), (999, 0, 0, 0), (999, 0, 0, 0), (0, (-1), 0, 0), (16, 0, 3, 0), (0, 0, 0, 0), (17, 0, 4, 0), (999, 0, 0, 0), (11, 0, 4, 0), (999, 0, 0, 0), (14, 0, 0, 112), (80, 12, 115, 38), (999, 0, 0, 0), (999, 0, 0, 0), (10, 0, 1, 0), (90, 0, 0, 93), (69, 60, 158, 0), (999, 0, 0, 0), (999, 0, 0, 0), (10, 0, 2, 0), (11, 0, 4, 0), (999, 0, 0, 0), (30, 0, 0, 0), (14, 0, 0, 112), (80, 12, 115, 38), (999, 0, 0, 0), (999, 0, 0, 0), (10, 0, 1, 0), (90, 0, 0, 93), (34, 0, 0, 0), (17, 0, 5, 0), (999, 0, 0, 0), (14, 0, 0, 112), (0, 4, 0, 0), (10, 0, 1, 0), (32, 0, 0, 0), (11, 0, 5, 0), (999, 0, 0, 0), (30, 0, 0, 0), (110, 0, 418, 134), (999, 0, 0, 0), (999, 0, 0, 0), (17, 0, 6, 0), (999, 0, 0, 0), (11, 0, 6, 0), (999, 0, 0, 0), (60, 22, 150, 0), (999, 0, 0, 0), (999, 0, 0, 0), (10, 0, 3, 0), (0, (-1), 0, 0), (66, 12, 145, 0), (999, 0, 0, 0), (999, 0, 0, 0), (14, 0, 0, 112), (80, 12, 7, 2), (999, 0, 0, 0), (999, 0, 0, 0), (1, 121, 0, 0), (999, 0, 0, 0), (67, 8, 150, 0), (999, 0, 0, 0), (999, 0, 0, 0), (11, 0, 5, 0), (999, 0, 0, 0), (72, 4, 151, 0), (999, 0, 0, 0), (999, 0, 0, 0), (10, 0, 3, 0), (16, 0, 3, 0), (22, 1, 4, 0), (999, 0, 0, 0), (999, 0, 0, 0), (72, (-65), 90, 0), (999, 0, 0, 0), (999, 0, 0, 0), (10, 0, 3, 0), (130, 0, 0, 0)]
def zu_M_choose : List (Nat × List Bool) := [(23, [true, true, true, true, false, false, false]), (77, [true, true, true, true, false, false, false]), (78, [true, true, false, true, false, false, false]), (85, [true, true, true, false, false, false, false]), (90, [true, true, true, true, true, false, false]), (145, [true, true, true, false, true, true, false]), (150, [true, true, true, true, true, false, false]), (151, [true, true, true, false, true, false, false])]
set_option maxRecDepth 100000 in
theorem qe_M_choose_78 {ρ : Type} (kr : Int → zH → Option ρ) (r23 : Int → Int → Int → zH → Option ρ) (a1 a3 t0 : Int) (h : zH) : M_choose_78 kr r23 a1 a3 t0 h = zseg zPP false (zcal []) (zget (999, 0, 0, 0) zc_M_choose) (zcut zu_M_choose) (zorc [(23, [some (112, some 0), some (0, none), some (0, none), some (0, none), none, none, none], [], fun xs h => match xs with
  | [a1, a2, a3] => r23 a1 a2 a3 h
  | _ => none)]) kr (fun _ _ => none) 400 78 [some (112, 0), some (0, a1), none, some (0, a3), none, none, none] [(0, t0)] h := by rfl
set_option maxRecDepth 100000 in
theorem qe_M_choose_77 {ρ : Type} (kr : Int → zH → Option ρ) (r23 : Int → Int → Int → zH → Option ρ) (a1 a2 a3 : Int) (h : zH) : M_choose_77 kr r23 a1 a2 a3 h = zseg zPP false (zcal []) (zget (999, 0, 0, 0) zc_M_choose) (zcut zu_M_choose) (zorc [(78, [some (112, some 0), some (0, none), none, some (0, none), none, none, none], [(0, none)], fun xs h => match xs with
  | [a1, a3, t0] => M_choose_78 kr r23 a1 a3 t0 h
  | _ => none)]) kr (fun _ _ => none) 400 77 [some (112, 0), some (0, a1), some (0, a2), some (0, a3), none, none, none] [] h := by rfl
set_option maxRecDepth 100000 in
theorem qe_M_choose_151 {ρ : Type} (kr : Int → zH → Option ρ) (r90 : Int → Int → Int → Int → zH → Option ρ) (a1 a2 a4 t0 : Int) (h : zH) : M_choose_151 kr r90 a1 a2 a4 t0 h = zseg zPP false (zcal []) (zget (999, 0, 0, 0) zc_M_choose) (zcut zu_M_choose) (zorc [(90, [some (112, some 0), some (0, none), some (0, none), some (0, none), some (0, none), none, none], [], fun xs h => match xs with
  | [a1, a2, a3, a4] => r90 a1 a2 a3 a4 h
  | _ => none)]) kr (fun _ _ => none) 400 151 [some (112, 0), some (0, a1), some (0, a2), none, some (0, a4), none, none] [(0, t0)] h := by rfl
set_option maxRecDepth 100000 in
theorem qe_M_choose_145 {ρ : Type} (kr : Int → zH → Option ρ) (r90 : Int → Int → Int → Int → zH → Option ρ) (a1 a2 a4 a5 : Int) (h : zH) : M_choose_145 kr r90 a1 a2 a4 a5 h = zseg zPP false (zcal []) (zget (999, 0, 0, 0) zc_M_choose) (zcut zu_M_choose) (zorc [(151, [some (112, some 0), some (0, none), some (0, none), none, some (0, none), none, none], [(0, none)], fun xs h => match xs with
  | [a1, a2, a4, t0] => M_choose_151 kr r90 a1 a2 a4 t0 h
  | _ => none)]) kr (fun _ _ => none) 400 145 [some (112, 0), some (0, a1), some (0, a2), none, some (0, a4), some (0, a5), none] [] h := by rfl
set_option maxRecDepth 100000 in
theorem qe_M_choose_150 {ρ : Type} (kr : Int → zH → Option ρ) (r90 : Int → Int → Int → Int → zH → Option ρ) (a1 a2 a3 a4 : Int) (h : zH) : M_choose_150 kr r90 a1 a2 a3 a4 h = zseg zPP false (zcal []) (zget (999, 0, 0, 0) zc_M_choose) (zcut zu_M_choose) (zorc [(151, [some (112, some 0), some (0, none), some (0, none), none, some (0, none), none, none], [(0, none)], fun xs h => match xs with
  | [a1, a2, a4, t0] => M_choose_151 kr r90 a1 a2 a4 t0 h
  | _ => none)]) kr (fun _ _ => none) 400 150 [some (112, 0), some (0, a1), some (0, a2), some (0, a3), some (0, a4), none, none] [] h := by rfl
set_option maxRecDepth 100000 in
theorem qe_M_choose_90b {ρ : Type} (kr : Int → zH → Option ρ) (r90 : Int → Int → Int → Int → zH → Option ρ) (a1 a2 a3 a4 : Int) (h : zH) : M_choose_90b kr r90 a1 a2 a3 a4 h = zseg zPP false (zcal [(134, [some 0, none], fun xs h kr kt => match xs with
  | [x1] => M_canGo x1 h kr
  | _ => none)]) (zget (999, 0, 0, 0) zc_M_choose) (zcut zu_M_choose) (zorc [(145, [some (112, some 0), some (0, none), some (0, none), none, some (0, none), some (0, none), none], [], fun xs h => match xs with
  | [a1, a2, a4, a5] => M_choose_145 kr r90 a1 a2 a4 a5 h
  | _ => none), (150, [some (112, some 0), some (0, none), some (0, none), some (0, none), some (0, none), none, none], [], fun xs h => match xs with
  | [a1, a2, a3, a4] => M_choose_150 kr r90 a1 a2 a3 a4 h
  | _ => none)]) kr (fun _ _ => none) 400 90 [some (112, 0), some (0, a1), some (0, a2), some (0, a3), some (0, a4), none, none] [] h := by rfl
set_option maxRecDepth 100000 in
theorem qe_M_choose_85 {ρ : Type} (kr : Int → zH → Option ρ) (a1 a2 : Int) (h : zH) : M_choose_85 kr a1 a2 h = zseg zPP false (zcal []) (zget (999, 0, 0, 0) zc_M_choose) (zcut zu_M_choose) (zorc [(90, [some (112, some 0), some (0, none), some (0, none), some (0, none), some (0, none), none, none], [], fun xs h => match xs with
  | [a1, a2, a3, a4] => M_choose_90 kr a1 a2 a3 a4 h
  | _ => none)]) kr (fun _ _ => none) 400 85 [some (112, 0), some (0, a1), some (0, a2), none, none, none, none] [] h := by rfl
set_option maxRecDepth 100000 in
theorem qe_M_choose_23b {ρ : Type} (kr : Int → zH → Option ρ) (r23 : Int → Int → Int → zH → Option ρ) (a1 a2 a3 : Int) (h : zH) : M_choose_23b kr r23 a1 a2 a3 h = zseg zPP false (zcal []) (zget (999, 0, 0, 0) zc_M_choose) (zcut zu_M_choose) (zorc [(77, [some (112, some 0), some (0, none), some (0, none), some (0, none), none, none, none], [], fun xs h => match xs with
  | [a1, a2, a3] => M_choose_77 kr r23 a1 a2 a3 h
  | _ => none), (78, [some (112, some 0), some (0, none), none, some (0, none), none, none, none], [(0, none)], fun xs h => match xs with
  | [a1, a3, t0] => M_choose_78 kr r23 a1 a3 t0 h
  | _ => none), (85, [some (112, some 0), some (0, none), some (0, none), none, none, none, none], [], fun xs h => match xs with
  | [a1, a2] => M_choose_85 kr a1 a2 h
  | _ => none)]) kr (fun _ _ => none) 400 23 [some (112, 0), some (0, a1), some (0, a2), some (0, a3), none, none, none] [] h := by rfl
set_option maxRecDepth 100000 in
theorem qe_M_choose {ρ : Type} (kr : Int → zH → Option ρ) (a1 : Int) (h : zH) : M_choose a1 h kr = zseg zPP false (zcal []) (zget (999, 0, 0, 0) zc_M_choose) (zcut zu_M_choose) (zorc [(23, [some (112, some 0), some (0, none), some (0, none), some (0, none), none, none, none], [], fun xs h => match xs with
  | [a1, a2, a3] => M_choose_23 kr a1 a2 a3 h
  | _ => none), (85, [some (112, some 0), some (0, none), some (0, none), none, none, none, none], [], fun xs h => match xs with
  | [a1, a2] => M_choose_85 kr a1 a2 h
  | _ => none)]) kr (fun _ _ => none) 400 0 [some (112, 0), some (0, a1), none, none, none, none, none] [] h := by rfl
