def zc_M_placeOf : List zI := [(14, 0, 0, 112), (80, 12, 118, 39), (999, 0, 0, 0), (999, 0, 0, 0), (10, 0, 1, 0), (90, 0, 0, 94), (16, 0, 2, 0), (0, (-1), 0, 0), (16, 0, 3, 0), (0, 4, 0, 0), (14, 0, 0, 112), (80, 12, 121, 40), (999, 0, 0, 0), (999, 0, 0, 0), (10, 0, 1, 0), (90, 0, 0, 95), (32, 0, 0, 0), (17, 0, 4, 0), (999, 0, 0, 0), (11, 0, 4, 0), (999, 0, 0, 0), (0, 4, 0, 0), (14, 0, 0, 112), (80, 12, 121, 40), (999, 0, 0, 0), (999, 0, 0, 0), (10, 0, 1, 0), (90, 0, 0, 95), (32, 0, 0, 0), (0, 4, 0, 0), (30, 0, 0, 0), (69, 72, 103, 0), (999, 0, 0, 0), (999, 0, 0, 0), (11, 0, 4, 0), (999, 0, 0, 0), (14, 0, 0, 112), (80, 12, 55, 18), (999, 0, 0, 0), (999, 0, 0, 0), (10, 0, 2, 0), (1, 6, 0, 0), (999, 0, 0, 0), (33, 0, 0, 0), (90, 0, 0, 73), (69, 58, 103, 0), (999, 0, 0, 0), (999, 0, 0, 0), (14, 0, 0, 112), (10, 0, 2, 0), (11, 0, 4, 0), (999, 0, 0, 0), (110, 0, 249, 93), (999, 0, 0, 0), (999, 0, 0, 0), (17, 0, 5, 0), (999, 0, 0, 0), (14, 0, 0, 112), (80, 12, 103, 34), (999, 0, 0, 0), (999, 0, 0, 0), (11, 0, 5, 0), (999, 0, 0, 0), (92, 0, 0, 89), (1, 114, 0, 0), (999, 0, 0, 0), (67, 29, 95, 0), (999, 0, 0, 0), (999, 0, 0, 0), (10, 0, 3, 0), (0, (-1), 0, 0), (66, 14, 85, 0), (999, 0, 0, 0), (999, 0, 0, 0), (14, 0, 0, 112), (80, 12, 106, 35), (999, 0, 0, 0), (999, 0, 0, 0), (11, 0, 5, 0), (999, 0, 0, 0), (90, 0, 0, 90), (10, 0, 3, 0), (69, 13, 95, 0), (999, 0, 0, 0), (999, 0, 0, 0), (14, 0, 0, 112), (80, 12, 106, 35), (999, 0, 0, 0), (999, 0, 0, 0), (11, 0, 5, 0), (999, 0, 0, 0), (90, 0, 0, 90), (72, 4, 96, 0), (999, 0, 0, 0), (999, 0, 0, 0), (10, 0, 3, 0), (16, 0, 3, 0), (22, 1, 4, 0), (999, 0, 0, 0), (999, 0, 0, 0), (72, (-81), 19, 0), (999, 0, 0, 0), (999, 0, 0, 0), (10, 0, 3, 0), (130, 0, 0, 0)]
def zu_M_placeOf : List (Nat × List Bool) := [(19, [true, true, true, true, true, false]), (85, [true, true, true, false, true, true]), (95, [true, true, true, true, true, false]), (96, [true, true, true, false, true, false]), (103, [false, false, false, true, false, false])]
set_option maxRecDepth 100000 in
theorem qg_M_placeOf_96 {ρ : Type} (kr : Int → zH → Option ρ) (r19 : Int → Int → Int → Int → zH → Option ρ) (a1 a2 a4 t0 : Int) (h : zH) : (r19 a1 a2 t0 (wr (a4 + 1)) h) = zseg zPP false (zcal []) (zget (999, 0, 0, 0) zc_M_placeOf) (zcut zu_M_placeOf) (zorc [(19, [some (112, some 0), some (0, none), some (0, none), some (0, none), some (0, none), none], [], fun xs h => match xs with
  | [a1, a2, a3, a4] => r19 a1 a2 a3 a4 h
  | _ => none)]) kr (fun _ _ => none) 400 96 [some (112, 0), some (0, a1), some (0, a2), none, some (0, a4), none] [(0, t0)] h := by rfl
set_option maxRecDepth 100000 in
theorem qe_M_placeOf_96 {ρ : Type} (kr : Int → zH → Option ρ) (r19 : Int → Int → Int → Int → zH → Option ρ) (a1 a2 a4 t0 : Int) (h : zH) : M_placeOf_96 kr r19 a1 a2 a4 t0 h = zseg zPP false (zcal []) (zget (999, 0, 0, 0) zc_M_placeOf) (zcut zu_M_placeOf) (zorc [(19, [some (112, some 0), some (0, none), some (0, none), some (0, none), some (0, none), none], [], fun xs h => match xs with
  | [a1, a2, a3, a4] => r19 a1 a2 a3 a4 h
  | _ => none)]) kr (fun _ _ => none) 400 96 [some (112, 0), some (0, a1), some (0, a2), none, some (0, a4), none] [(0, t0)] h := qg_M_placeOf_96 kr r19 a1 a2 a4 t0 h
set_option maxRecDepth 100000 in
theorem qg_M_placeOf_85 {ρ : Type} (kr : Int → zH → Option ρ) (r19 : Int → Int → Int → Int → zH → Option ρ) (c96 : Int → Int → Int → Int → zH → Option ρ) (a1 a2 a4 a5 : Int) (h : zH) : (zix 1152 a5 fun j1 =>
c96 a1 a2 a4 (zhD h 90 0 j1) h) = zseg zPP false (zcal []) (zget (999, 0, 0, 0) zc_M_placeOf) (zcut zu_M_placeOf) (zorc [(96, [some (112, some 0), some (0, none), some (0, none), none, some (0, none), none], [(0, none)], fun xs h => match xs with
  | [a1, a2, a4, t0] => c96 a1 a2 a4 t0 h
  | _ => none)]) kr (fun _ _ => none) 400 85 [some (112, 0), some (0, a1), some (0, a2), none, some (0, a4), some (0, a5)] [] h := by rfl
set_option maxRecDepth 100000 in
theorem qe_M_placeOf_85 {ρ : Type} (kr : Int → zH → Option ρ) (r19 : Int → Int → Int → Int → zH → Option ρ) (a1 a2 a4 a5 : Int) (h : zH) : M_placeOf_85 kr r19 a1 a2 a4 a5 h = zseg zPP false (zcal []) (zget (999, 0, 0, 0) zc_M_placeOf) (zcut zu_M_placeOf) (zorc [(96, [some (112, some 0), some (0, none), some (0, none), none, some (0, none), none], [(0, none)], fun xs h => match xs with
  | [a1, a2, a4, t0] => M_placeOf_96 kr r19 a1 a2 a4 t0 h
  | _ => none)]) kr (fun _ _ => none) 400 85 [some (112, 0), some (0, a1), some (0, a2), none, some (0, a4), some (0, a5)] [] h := qg_M_placeOf_85 kr r19 (M_placeOf_96 kr r19) a1 a2 a4 a5 h
set_option maxRecDepth 100000 in
theorem qg_M_placeOf_95 {ρ : Type} (kr : Int → zH → Option ρ) (r19 : Int → Int → Int → Int → zH → Option ρ) (c96 : Int → Int → Int → Int → zH → Option ρ) (a1 a2 a3 a4 : Int) (h : zH) : (c96 a1 a2 a4 a3 h) = zseg zPP false (zcal []) (zget (999, 0, 0, 0) zc_M_placeOf) (zcut zu_M_placeOf) (zorc [(96, [some (112, some 0), some (0, none), some (0, none), none, some (0, none), none], [(0, none)], fun xs h => match xs with
  | [a1, a2, a4, t0] => c96 a1 a2 a4 t0 h
  | _ => none)]) kr (fun _ _ => none) 400 95 [some (112, 0), some (0, a1), some (0, a2), some (0, a3), some (0, a4), none] [] h := by rfl
set_option maxRecDepth 100000 in
theorem qe_M_placeOf_95 {ρ : Type} (kr : Int → zH → Option ρ) (r19 : Int → Int → Int → Int → zH → Option ρ) (a1 a2 a3 a4 : Int) (h : zH) : M_placeOf_95 kr r19 a1 a2 a3 a4 h = zseg zPP false (zcal []) (zget (999, 0, 0, 0) zc_M_placeOf) (zcut zu_M_placeOf) (zorc [(96, [some (112, some 0), some (0, none), some (0, none), none, some (0, none), none], [(0, none)], fun xs h => match xs with
  | [a1, a2, a4, t0] => M_placeOf_96 kr r19 a1 a2 a4 t0 h
  | _ => none)]) kr (fun _ _ => none) 400 95 [some (112, 0), some (0, a1), some (0, a2), some (0, a3), some (0, a4), none] [] h := qg_M_placeOf_95 kr r19 (M_placeOf_96 kr r19) a1 a2 a3 a4 h
set_option maxRecDepth 100000 in
theorem qg_M_placeOf_103 {ρ : Type} (kr : Int → zH → Option ρ) (a3 : Int) (h : zH) : (kr a3 h) = zseg zPP false (zcal []) (zget (999, 0, 0, 0) zc_M_placeOf) (zcut zu_M_placeOf) (zorc []) kr (fun _ _ => none) 400 103 [none, none, none, some (0, a3), none, none] [] h := by rfl
set_option maxRecDepth 100000 in
theorem qe_M_placeOf_103 {ρ : Type} (kr : Int → zH → Option ρ) (a3 : Int) (h : zH) : M_placeOf_103 kr a3 h = zseg zPP false (zcal []) (zget (999, 0, 0, 0) zc_M_placeOf) (zcut zu_M_placeOf) (zorc []) kr (fun _ _ => none) 400 103 [none, none, none, some (0, a3), none, none] [] h := qg_M_placeOf_103 kr a3 h
set_option maxRecDepth 100000 in
theorem qg_M_placeOf_19b {ρ : Type} (kr : Int → zH → Option ρ) (r19 : Int → Int → Int → Int → zH → Option ρ) (F_M_threadCell : Int → Int → zH → (Int → zH → Option ρ) → Option ρ) (c85 : Int → Int → Int → Int → zH → Option ρ) (c95 : Int → Int → Int → Int → zH → Option ρ) (c103 : Int → zH → Option ρ) (a1 a2 a3 a4 : Int) (h : zH) : (zix 8 a1 fun j1 =>
if a4 < (wr ((wr (4 * (zhD h 95 0 j1))) + 4)) then (zix 12 (wr (Int.tdiv a2 6)) fun j2 =>
if a4 < (zhD h 73 0 j2) then (F_M_threadCell a2 a4 h  fun v3 h4 =>
zix 1152 v3 fun j5 =>
if (zhD h4 89 0 j5) = 114 then (if a3 = (-1) then c85 a1 a2 a4 v3 h4
else zix 1152 v3 fun j6 =>
if (zhD h4 90 0 j6) < a3 then c85 a1 a2 a4 v3 h4
else c95 a1 a2 a3 a4 h4)
else c95 a1 a2 a3 a4 h4)
else c103 a3 h)
else c103 a3 h) = zseg zPP false (zcal [(93, [some 0, none, none], fun xs h kr kt => match xs with
  | [x1, x2] => F_M_threadCell x1 x2 h kr
  | _ => none)]) (zget (999, 0, 0, 0) zc_M_placeOf) (zcut zu_M_placeOf) (zorc [(85, [some (112, some 0), some (0, none), some (0, none), none, some (0, none), some (0, none)], [], fun xs h => match xs with
  | [a1, a2, a4, a5] => c85 a1 a2 a4 a5 h
  | _ => none), (95, [some (112, some 0), some (0, none), some (0, none), some (0, none), some (0, none), none], [], fun xs h => match xs with
  | [a1, a2, a3, a4] => c95 a1 a2 a3 a4 h
  | _ => none), (103, [none, none, none, some (0, none), none, none], [], fun xs h => match xs with
  | [a3] => c103 a3 h
  | _ => none)]) kr (fun _ _ => none) 400 19 [some (112, 0), some (0, a1), some (0, a2), some (0, a3), some (0, a4), none] [] h := by rfl
set_option maxRecDepth 100000 in
theorem qe_M_placeOf_19b {ρ : Type} (kr : Int → zH → Option ρ) (r19 : Int → Int → Int → Int → zH → Option ρ) (a1 a2 a3 a4 : Int) (h : zH) : M_placeOf_19b kr r19 a1 a2 a3 a4 h = zseg zPP false (zcal [(93, [some 0, none, none], fun xs h kr kt => match xs with
  | [x1, x2] => M_threadCell x1 x2 h kr
  | _ => none)]) (zget (999, 0, 0, 0) zc_M_placeOf) (zcut zu_M_placeOf) (zorc [(85, [some (112, some 0), some (0, none), some (0, none), none, some (0, none), some (0, none)], [], fun xs h => match xs with
  | [a1, a2, a4, a5] => M_placeOf_85 kr r19 a1 a2 a4 a5 h
  | _ => none), (95, [some (112, some 0), some (0, none), some (0, none), some (0, none), some (0, none), none], [], fun xs h => match xs with
  | [a1, a2, a3, a4] => M_placeOf_95 kr r19 a1 a2 a3 a4 h
  | _ => none), (103, [none, none, none, some (0, none), none, none], [], fun xs h => match xs with
  | [a3] => M_placeOf_103 kr a3 h
  | _ => none)]) kr (fun _ _ => none) 400 19 [some (112, 0), some (0, a1), some (0, a2), some (0, a3), some (0, a4), none] [] h := qg_M_placeOf_19b kr r19 M_threadCell (M_placeOf_85 kr r19) (M_placeOf_95 kr r19) (M_placeOf_103 kr) a1 a2 a3 a4 h
set_option maxRecDepth 100000 in
theorem qg_M_placeOf {ρ : Type} (kr : Int → zH → Option ρ) (c19 : Int → Int → Int → Int → zH → Option ρ) (a1 : Int) (h : zH) : (zix 8 a1 fun j1 =>
zix 8 a1 fun j2 =>
c19 a1 (zhD h 94 0 j1) (-1) (wr (4 * (zhD h 95 0 j2))) h) = zseg zPP false (zcal []) (zget (999, 0, 0, 0) zc_M_placeOf) (zcut zu_M_placeOf) (zorc [(19, [some (112, some 0), some (0, none), some (0, none), some (0, none), some (0, none), none], [], fun xs h => match xs with
  | [a1, a2, a3, a4] => c19 a1 a2 a3 a4 h
  | _ => none)]) kr (fun _ _ => none) 400 0 [some (112, 0), some (0, a1), none, none, none, none] [] h := by rfl
set_option maxRecDepth 100000 in
theorem qe_M_placeOf {ρ : Type} (kr : Int → zH → Option ρ) (a1 : Int) (h : zH) : M_placeOf a1 h kr = zseg zPP false (zcal []) (zget (999, 0, 0, 0) zc_M_placeOf) (zcut zu_M_placeOf) (zorc [(19, [some (112, some 0), some (0, none), some (0, none), some (0, none), some (0, none), none], [], fun xs h => match xs with
  | [a1, a2, a3, a4] => M_placeOf_19 kr a1 a2 a3 a4 h
  | _ => none)]) kr (fun _ _ => none) 400 0 [some (112, 0), some (0, a1), none, none, none, none] [] h := qg_M_placeOf kr (M_placeOf_19 kr) a1 h
def zc_M_maskOf : List zI := [(14, 0, 0, 112), (80, 12, 118, 39), (999, 0, 0, 0), (999, 0, 0, 0), (10, 0, 1, 0), (90, 0, 0, 94), (16, 0, 2, 0), (14, 0, 0, 112), (10, 0, 1, 0), (110, 0, 278, 103), (999, 0, 0, 0), (999, 0, 0, 0), (16, 0, 3, 0), (0, 0, 0, 0), (17, 0, 4, 0), (999, 0, 0, 0), (0, 0, 0, 0), (17, 0, 5, 0), (999, 0, 0, 0), (11, 0, 5, 0), (999, 0, 0, 0), (0, 4, 0, 0), (69, 86, 108, 0), (999, 0, 0, 0), (999, 0, 0, 0), (0, 4, 0, 0), (14, 0, 0, 112), (80, 12, 121, 40), (999, 0, 0, 0), (999, 0, 0, 0), (10, 0, 1, 0), (90, 0, 0, 95), (32, 0, 0, 0), (11, 0, 5, 0), (999, 0, 0, 0), (30, 0, 0, 0), (14, 0, 0, 112), (80, 12, 55, 18), (999, 0, 0, 0), (999, 0, 0, 0), (10, 0, 2, 0), (1, 6, 0, 0), (999, 0, 0, 0), (33, 0, 0, 0), (90, 0, 0, 73), (69, 63, 108, 0), (999, 0, 0, 0), (999, 0, 0, 0), (14, 0, 0, 112), (10, 0, 2, 0), (0, 4, 0, 0), (14, 0, 0, 112), (80, 12, 121, 40), (999, 0, 0, 0), (999, 0, 0, 0), (10, 0, 1, 0), (90, 0, 0, 95), (32, 0, 0, 0), (11, 0, 5, 0), (999, 0, 0, 0), (30, 0, 0, 0), (110, 0, 249, 93), (999, 0, 0, 0), (999, 0, 0, 0), (17, 0, 6, 0), (999, 0, 0, 0), (11, 0, 4, 0), (999, 0, 0, 0), (14, 0, 0, 112), (80, 12, 103, 34), (999, 0, 0, 0), (999, 0, 0, 0), (11, 0, 6, 0), (999, 0, 0, 0), (92, 0, 0, 89), (1, 114, 0, 0), (999, 0, 0, 0), (67, 21, 98, 0), (999, 0, 0, 0), (999, 0, 0, 0), (14, 0, 0, 112), (80, 12, 106, 35), (999, 0, 0, 0), (999, 0, 0, 0), (11, 0, 6, 0), (999, 0, 0, 0), (90, 0, 0, 90), (10, 0, 3, 0), (67, 10, 98, 0), (999, 0, 0, 0), (999, 0, 0, 0), (0, 1, 0, 0), (11, 0, 5, 0), (999, 0, 0, 0), (39, 0, 0, 0), (72, 4, 99, 0), (999, 0, 0, 0), (999, 0, 0, 0), (0, 0, 0, 0), (37, 0, 0, 0), (17, 0, 4, 0), (999, 0, 0, 0), (22, 1, 5, 0), (999, 0, 0, 0), (999, 0, 0, 0), (72, (-86), 19, 0), (999, 0, 0, 0), (999, 0, 0, 0), (11, 0, 4, 0), (999, 0, 0, 0), (130, 0, 0, 0)]
def zu_M_maskOf : List (Nat × List Bool) := [(19, [true, true, true, true, true, true, false]), (98, [true, true, true, true, false, true, false]), (99, [true, true, true, true, false, true, false]), (108, [false, false, false, false, true, false, false])]
set_option maxRecDepth 100000 in
theorem qg_M_maskOf_99 {ρ : Type} (kr : Int → zH → Option ρ) (r19 : Int → Int → Int → Int → Int → zH → Option ρ) (a1 a2 a3 a5 t0 t1 : Int) (h : zH) : (r19 a1 a2 a3 (zor t1 t0) (wr (a5 + 1)) h) = zseg zPP false (zcal []) (zget (999, 0, 0, 0) zc_M_maskOf) (zcut zu_M_maskOf) (zorc [(19, [some (112, some 0), some (0, none), some (0, none), some (0, none), some (0, none), some (0, none), none], [], fun xs h => match xs with
  | [a1, a2, a3, a4, a5] => r19 a1 a2 a3 a4 a5 h
  | _ => none)]) kr (fun _ _ => none) 400 99 [some (112, 0), some (0, a1), some (0, a2), some (0, a3), none, some (0, a5), none] [(0, t0), (0, t1)] h := by rfl
set_option maxRecDepth 100000 in
theorem qe_M_maskOf_99 {ρ : Type} (kr : Int → zH → Option ρ) (r19 : Int → Int → Int → Int → Int → zH → Option ρ) (a1 a2 a3 a5 t0 t1 : Int) (h : zH) : M_maskOf_99 kr r19 a1 a2 a3 a5 t0 t1 h = zseg zPP false (zcal []) (zget (999, 0, 0, 0) zc_M_maskOf) (zcut zu_M_maskOf) (zorc [(19, [some (112, some 0), some (0, none), some (0, none), some (0, none), some (0, none), some (0, none), none], [], fun xs h => match xs with
  | [a1, a2, a3, a4, a5] => r19 a1 a2 a3 a4 a5 h
  | _ => none)]) kr (fun _ _ => none) 400 99 [some (112, 0), some (0, a1), some (0, a2), some (0, a3), none, some (0, a5), none] [(0, t0), (0, t1)] h := qg_M_maskOf_99 kr r19 a1 a2 a3 a5 t0 t1 h
set_option maxRecDepth 100000 in
theorem qg_M_maskOf_98 {ρ : Type} (kr : Int → zH → Option ρ) (r19 : Int → Int → Int → Int → Int → zH → Option ρ) (c99 : Int → Int → Int → Int → Int → Int → zH → Option ρ) (a1 a2 a3 a5 t0 : Int) (h : zH) : (c99 a1 a2 a3 a5 0 t0 h) = zseg zPP false (zcal []) (zget (999, 0, 0, 0) zc_M_maskOf) (zcut zu_M_maskOf) (zorc [(99, [some (112, some 0), some (0, none), some (0, none), some (0, none), none, some (0, none), none], [(0, none), (0, none)], fun xs h => match xs with
  | [a1, a2, a3, a5, t0, t1] => c99 a1 a2 a3 a5 t0 t1 h
  | _ => none)]) kr (fun _ _ => none) 400 98 [some (112, 0), some (0, a1), some (0, a2), some (0, a3), none, some (0, a5), none] [(0, t0)] h := by rfl
set_option maxRecDepth 100000 in
theorem qe_M_maskOf_98 {ρ : Type} (kr : Int → zH → Option ρ) (r19 : Int → Int → Int → Int → Int → zH → Option ρ) (a1 a2 a3 a5 t0 : Int) (h : zH) : M_maskOf_98 kr r19 a1 a2 a3 a5 t0 h = zseg zPP false (zcal []) (zget (999, 0, 0, 0) zc_M_maskOf) (zcut zu_M_maskOf) (zorc [(99, [some (112, some 0), some (0, none), some (0, none), some (0, none), none, some (0, none), none], [(0, none), (0, none)], fun xs h => match xs with
  | [a1, a2, a3, a5, t0, t1] => M_maskOf_99 kr r19 a1 a2 a3 a5 t0 t1 h
  | _ => none)]) kr (fun _ _ => none) 400 98 [some (112, 0), some (0, a1), some (0, a2), some (0, a3), none, some (0, a5), none] [(0, t0)] h := qg_M_maskOf_98 kr r19 (M_maskOf_99 kr r19) a1 a2 a3 a5 t0 h
set_option maxRecDepth 100000 in
theorem qg_M_maskOf_108 {ρ : Type} (kr : Int → zH → Option ρ) (a4 : Int) (h : zH) : (kr a4 h) = zseg zPP false (zcal []) (zget (999, 0, 0, 0) zc_M_maskOf) (zcut zu_M_maskOf) (zorc []) kr (fun _ _ => none) 400 108 [none, none, none, none, some (0, a4), none, none] [] h := by rfl
set_option maxRecDepth 100000 in
theorem qe_M_maskOf_108 {ρ : Type} (kr : Int → zH → Option ρ) (a4 : Int) (h : zH) : M_maskOf_108 kr a4 h = zseg zPP false (zcal []) (zget (999, 0, 0, 0) zc_M_maskOf) (zcut zu_M_maskOf) (zorc []) kr (fun _ _ => none) 400 108 [none, none, none, none, some (0, a4), none, none] [] h := qg_M_maskOf_108 kr a4 h
set_option maxRecDepth 100000 in
theorem qg_M_maskOf_19b {ρ : Type} (kr : Int → zH → Option ρ) (r19 : Int → Int → Int → Int → Int → zH → Option ρ) (F_M_threadCell : Int → Int → zH → (Int → zH → Option ρ) → Option ρ) (c98 : Int → Int → Int → Int → Int → zH → Option ρ) (c99 : Int → Int → Int → Int → Int → Int → zH → Option ρ) (c108 : Int → zH → Option ρ) (a1 a2 a3 a4 a5 : Int) (h : zH) : (if a5 < 4 then (zix 8 a1 fun j1 =>
zix 12 (wr (Int.tdiv a2 6)) fun j2 =>
if (wr ((wr (4 * (zhD h 95 0 j1))) + a5)) < (zhD h 73 0 j2) then (zix 8 a1 fun j3 =>
F_M_threadCell a2 (wr ((wr (4 * (zhD h 95 0 j3))) + a5)) h  fun v4 h5 =>
zix 1152 v4 fun j6 =>
if (zhD h5 89 0 j6) = 114 then (zix 1152 v4 fun j7 =>
if (zhD h5 90 0 j7) = a3 then c99 a1 a2 a3 a5 (zshl 1 a5) a4 h5
else c98 a1 a2 a3 a5 a4 h5)
else c98 a1 a2 a3 a5 a4 h5)
else c108 a4 h)
else c108 a4 h) = zseg zPP false (zcal [(93, [some 0, none, none], fun xs h kr kt => match xs with
  | [x1, x2] => F_M_threadCell x1 x2 h kr
  | _ => none)]) (zget (999, 0, 0, 0) zc_M_maskOf) (zcut zu_M_maskOf) (zorc [(98, [some (112, some 0), some (0, none), some (0, none), some (0, none), none, some (0, none), none], [(0, none)], fun xs h => match xs with
  | [a1, a2, a3, a5, t0] => c98 a1 a2 a3 a5 t0 h
  | _ => none), (99, [some (112, some 0), some (0, none), some (0, none), some (0, none), none, some (0, none), none], [(0, none), (0, none)], fun xs h => match xs with
  | [a1, a2, a3, a5, t0, t1] => c99 a1 a2 a3 a5 t0 t1 h
  | _ => none), (108, [none, none, none, none, some (0, none), none, none], [], fun xs h => match xs with
  | [a4] => c108 a4 h
  | _ => none)]) kr (fun _ _ => none) 400 19 [some (112, 0), some (0, a1), some (0, a2), some (0, a3), some (0, a4), some (0, a5), none] [] h := by rfl
set_option maxRecDepth 100000 in
theorem qe_M_maskOf_19b {ρ : Type} (kr : Int → zH → Option ρ) (r19 : Int → Int → Int → Int → Int → zH → Option ρ) (a1 a2 a3 a4 a5 : Int) (h : zH) : M_maskOf_19b kr r19 a1 a2 a3 a4 a5 h = zseg zPP false (zcal [(93, [some 0, none, none], fun xs h kr kt => match xs with
  | [x1, x2] => M_threadCell x1 x2 h kr
  | _ => none)]) (zget (999, 0, 0, 0) zc_M_maskOf) (zcut zu_M_maskOf) (zorc [(98, [some (112, some 0), some (0, none), some (0, none), some (0, none), none, some (0, none), none], [(0, none)], fun xs h => match xs with
  | [a1, a2, a3, a5, t0] => M_maskOf_98 kr r19 a1 a2 a3 a5 t0 h
  | _ => none), (99, [some (112, some 0), some (0, none), some (0, none), some (0, none), none, some (0, none), none], [(0, none), (0, none)], fun xs h => match xs with
  | [a1, a2, a3, a5, t0, t1] => M_maskOf_99 kr r19 a1 a2 a3 a5 t0 t1 h
  | _ => none), (108, [none, none, none, none, some (0, none), none, none], [], fun xs h => match xs with
  | [a4] => M_maskOf_108 kr a4 h
  | _ => none)]) kr (fun _ _ => none) 400 19 [some (112, 0), some (0, a1), some (0, a2), some (0, a3), some (0, a4), some (0, a5), none] [] h := qg_M_maskOf_19b kr r19 M_threadCell (M_maskOf_98 kr r19) (M_maskOf_99 kr r19) (M_maskOf_108 kr) a1 a2 a3 a4 a5 h
set_option maxRecDepth 100000 in
theorem qg_M_maskOf {ρ : Type} (kr : Int → zH → Option ρ) (F_M_placeOf : Int → zH → (Int → zH → Option ρ) → Option ρ) (c19 : Int → Int → Int → Int → Int → zH → Option ρ) (a1 : Int) (h : zH) : (zix 8 a1 fun j1 =>
F_M_placeOf a1 h  fun v2 h3 =>
c19 a1 (zhD h 94 0 j1) v2 0 0 h3) = zseg zPP false (zcal [(103, [some 0, none], fun xs h kr kt => match xs with
  | [x1] => F_M_placeOf x1 h kr
  | _ => none)]) (zget (999, 0, 0, 0) zc_M_maskOf) (zcut zu_M_maskOf) (zorc [(19, [some (112, some 0), some (0, none), some (0, none), some (0, none), some (0, none), some (0, none), none], [], fun xs h => match xs with
  | [a1, a2, a3, a4, a5] => c19 a1 a2 a3 a4 a5 h
  | _ => none)]) kr (fun _ _ => none) 400 0 [some (112, 0), some (0, a1), none, none, none, none, none] [] h := by rfl
set_option maxRecDepth 100000 in
theorem qe_M_maskOf {ρ : Type} (kr : Int → zH → Option ρ) (a1 : Int) (h : zH) : M_maskOf a1 h kr = zseg zPP false (zcal [(103, [some 0, none], fun xs h kr kt => match xs with
  | [x1] => M_placeOf x1 h kr
  | _ => none)]) (zget (999, 0, 0, 0) zc_M_maskOf) (zcut zu_M_maskOf) (zorc [(19, [some (112, some 0), some (0, none), some (0, none), some (0, none), some (0, none), some (0, none), none], [], fun xs h => match xs with
  | [a1, a2, a3, a4, a5] => M_maskOf_19 kr a1 a2 a3 a4 a5 h
  | _ => none)]) kr (fun _ _ => none) 400 0 [some (112, 0), some (0, a1), none, none, none, none, none] [] h := qg_M_maskOf kr M_placeOf (M_maskOf_19 kr) a1 h
def zc_M_registerCell : List zI := [(1, 8, 0, 0), (999, 0, 0, 0), (14, 0, 0, 112), (14, 0, 0, 112), (80, 12, 118, 39), (999, 0, 0, 0), (999, 0, 0, 0), (10, 0, 1, 0), (90, 0, 0, 94), (0, 4, 0, 0), (14, 0, 0, 112), (80, 12, 121, 40), (999, 0, 0, 0), (999, 0, 0, 0), (10, 0, 1, 0), (90, 0, 0, 95), (32, 0, 0, 0), (10, 0, 2, 0), (30, 0, 0, 0), (110, 0, 249, 93), (999, 0, 0, 0), (999, 0, 0, 0), (32, 0, 0, 0), (10, 0, 3, 0), (30, 0, 0, 0), (130, 0, 0, 0)]
def zu_M_registerCell : List (Nat × List Bool) := []
set_option maxRecDepth 100000 in
theorem qg_M_registerCell {ρ : Type} (kr : Int → zH → Option ρ) (F_M_threadCell : Int → Int → zH → (Int → zH → Option ρ) → Option ρ) (a1 a2 a3 : Int) (h : zH) : (zix 8 a1 fun j1 =>
zix 8 a1 fun j2 =>
F_M_threadCell (zhD h 94 0 j1) (wr ((wr (4 * (zhD h 95 0 j2))) + a2)) h  fun v3 h4 =>
kr (wr ((wr (8 * v3)) + a3)) h4) = zseg zPP false (zcal [(93, [some 0, none, none], fun xs h kr kt => match xs with
  | [x1, x2] => F_M_threadCell x1 x2 h kr
  | _ => none)]) (zget (999, 0, 0, 0) zc_M_registerCell) (zcut zu_M_registerCell) (zorc []) kr (fun _ _ => none) 400 0 [some (112, 0), some (0, a1), some (0, a2), some (0, a3)] [] h := by rfl
set_option maxRecDepth 100000 in
theorem qe_M_registerCell {ρ : Type} (kr : Int → zH → Option ρ) (a1 a2 a3 : Int) (h : zH) : M_registerCell a1 a2 a3 h kr = zseg zPP false (zcal [(93, [some 0, none, none], fun xs h kr kt => match xs with
  | [x1, x2] => M_threadCell x1 x2 h kr
  | _ => none)]) (zget (999, 0, 0, 0) zc_M_registerCell) (zcut zu_M_registerCell) (zorc []) kr (fun _ _ => none) 400 0 [some (112, 0), some (0, a1), some (0, a2), some (0, a3)] [] h := qg_M_registerCell kr M_threadCell a1 a2 a3 h
def zc_M_lane : List zI := [(14, 0, 0, 112), (80, 12, 164, 62), (999, 0, 0, 0), (999, 0, 0, 0), (1, 8, 0, 0), (999, 0, 0, 0), (10, 0, 1, 0), (32, 0, 0, 0), (10, 0, 2, 0), (30, 0, 0, 0), (90, 0, 0, 109), (130, 0, 0, 0)]
def zu_M_lane : List (Nat × List Bool) := []
set_option maxRecDepth 100000 in
theorem qg_M_lane {ρ : Type} (kr : Int → zH → Option ρ) (a1 a2 : Int) (h : zH) : (zix 32 (wr ((wr (8 * a1)) + a2)) fun j1 =>
kr (zhD h 109 0 j1) h) = zseg zPP false (zcal []) (zget (999, 0, 0, 0) zc_M_lane) (zcut zu_M_lane) (zorc []) kr (fun _ _ => none) 400 0 [some (112, 0), some (0, a1), some (0, a2)] [] h := by rfl
set_option maxRecDepth 100000 in
theorem qe_M_lane {ρ : Type} (kr : Int → zH → Option ρ) (a1 a2 : Int) (h : zH) : M_lane a1 a2 h kr = zseg zPP false (zcal []) (zget (999, 0, 0, 0) zc_M_lane) (zcut zu_M_lane) (zorc []) kr (fun _ _ => none) 400 0 [some (112, 0), some (0, a1), some (0, a2)] [] h := qg_M_lane kr a1 a2 h
def zc_M_set : List zI := [(14, 0, 0, 112), (80, 12, 109, 36), (999, 0, 0, 0), (999, 0, 0, 0), (14, 0, 0, 112), (10, 0, 1, 0), (10, 0, 2, 0), (10, 0, 3, 0), (110, 0, 281, 105), (999, 0, 0, 0), (999, 0, 0, 0), (11, 0, 4, 0), (999, 0, 0, 0), (95, 0, 0, 91), (133, 0, 0, 0)]
def zu_M_set : List (Nat × List Bool) := []
set_option maxRecDepth 100000 in
theorem qg_M_set {ρ : Type} (kr : Int → zH → Option ρ) (F_M_registerCell : Int → Int → Int → zH → (Int → zH → Option ρ) → Option ρ) (a1 a2 a3 a4 : Int) (h : zH) : (F_M_registerCell a1 a2 a3 h  fun v1 h2 =>
zix 9216 v1 fun j3 =>
zlet (zset h2 91 0 j3 a4) fun h4 =>
kr 0 h4) = zseg zPP false (zcal [(105, [some 0, none, none, none], fun xs h kr kt => match xs with
  | [x1, x2, x3] => F_M_registerCell x1 x2 x3 h kr
  | _ => none)]) (zget (999, 0, 0, 0) zc_M_set) (zcut zu_M_set) (zorc []) kr (fun _ _ => none) 400 0 [some (112, 0), some (0, a1), some (0, a2), some (0, a3), some (0, a4)] [] h := by rfl
set_option maxRecDepth 100000 in
theorem qe_M_set {ρ : Type} (kr : Int → zH → Option ρ) (a1 a2 a3 a4 : Int) (h : zH) : M_set a1 a2 a3 a4 h kr = zseg zPP false (zcal [(105, [some 0, none, none, none], fun xs h kr kt => match xs with
  | [x1, x2, x3] => M_registerCell x1 x2 x3 h kr
  | _ => none)]) (zget (999, 0, 0, 0) zc_M_set) (zcut zu_M_set) (zorc []) kr (fun _ _ => none) 400 0 [some (112, 0), some (0, a1), some (0, a2), some (0, a3), some (0, a4)] [] h := qg_M_set kr M_registerCell a1 a2 a3 a4 h
def zc_M_isUnder : List zI := [(14, 0, 0, 112), (80, 12, 284, 63), (999, 0, 0, 0), (999, 0, 0, 0), (10, 0, 1, 0), (40, 0, 0, 0), (0, 1, 0, 0), (36, 0, 0, 0), (0, 1, 0, 0), (67, 7, 16, 0), (999, 0, 0, 0), (999, 0, 0, 0), (0, 1, 0, 0), (72, 4, 17, 0), (999, 0, 0, 0), (999, 0, 0, 0), (0, 0, 0, 0), (130, 0, 1, 0)]
def zu_M_isUnder : List (Nat × List Bool) := [(17, [false, false])]
set_option maxRecDepth 100000 in
theorem qg_M_isUnder_17 {ρ : Type} (kr : Int → zH → Option ρ) (t0 : Int) (h : zH) : (znar 1 t0 fun x1 => kr x1 h) = zseg zPP false (zcal []) (zget (999, 0, 0, 0) zc_M_isUnder) (zcut zu_M_isUnder) (zorc []) kr (fun _ _ => none) 400 17 [none, none] [(0, t0)] h := by rfl
set_option maxRecDepth 100000 in
theorem qe_M_isUnder_17 {ρ : Type} (kr : Int → zH → Option ρ) (t0 : Int) (h : zH) : M_isUnder_17 kr t0 h = zseg zPP false (zcal []) (zget (999, 0, 0, 0) zc_M_isUnder) (zcut zu_M_isUnder) (zorc []) kr (fun _ _ => none) 400 17 [none, none] [(0, t0)] h := qg_M_isUnder_17 kr t0 h
set_option maxRecDepth 100000 in
theorem qg_M_isUnder {ρ : Type} (kr : Int → zH → Option ρ) (c17 : Int → zH → Option ρ) (a1 : Int) (h : zH) : (if (zand (zshr (zhD h 12 0 63) a1) 1) = 1 then c17 1 h
else c17 0 h) = zseg zPP false (zcal []) (zget (999, 0, 0, 0) zc_M_isUnder) (zcut zu_M_isUnder) (zorc [(17, [none, none], [(0, none)], fun xs h => match xs with
  | [t0] => c17 t0 h
  | _ => none)]) kr (fun _ _ => none) 400 0 [some (112, 0), some (0, a1)] [] h := by rfl
set_option maxRecDepth 100000 in
theorem qe_M_isUnder {ρ : Type} (kr : Int → zH → Option ρ) (a1 : Int) (h : zH) : M_isUnder a1 h kr = zseg zPP false (zcal []) (zget (999, 0, 0, 0) zc_M_isUnder) (zcut zu_M_isUnder) (zorc [(17, [none, none], [(0, none)], fun xs h => match xs with
  | [t0] => M_isUnder_17 kr t0 h
  | _ => none)]) kr (fun _ _ => none) 400 0 [some (112, 0), some (0, a1)] [] h := qg_M_isUnder kr (M_isUnder_17 kr) a1 h
def zc_M_modulo : List zI := [(10, 0, 0, 0), (0, 3, 0, 0), (36, 0, 0, 0), (130, 0, 0, 0)]
def zu_M_modulo : List (Nat × List Bool) := []
set_option maxRecDepth 100000 in
theorem qg_M_modulo {ρ : Type} (kr : Int → zH → Option ρ) (a0 : Int) (h : zH) : (kr (zand a0 3) h) = zseg zPP false (zcal []) (zget (999, 0, 0, 0) zc_M_modulo) (zcut zu_M_modulo) (zorc []) kr (fun _ _ => none) 400 0 [some (0, a0)] [] h := by rfl
set_option maxRecDepth 100000 in
theorem qe_M_modulo {ρ : Type} (kr : Int → zH → Option ρ) (a0 : Int) (h : zH) : M_modulo a0 h kr = zseg zPP false (zcal []) (zget (999, 0, 0, 0) zc_M_modulo) (zcut zu_M_modulo) (zorc []) kr (fun _ _ => none) 400 0 [some (0, a0)] [] h := qg_M_modulo kr a0 h
def zc_M_vote : List zI := [(0, 0, 0, 0), (16, 0, 2, 0), (0, 0, 0, 0), (16, 0, 3, 0), (10, 0, 3, 0), (0, 4, 0, 0), (69, 36, 42, 0), (999, 0, 0, 0), (999, 0, 0, 0), (10, 0, 2, 0), (14, 0, 0, 112), (10, 0, 3, 0), (110, 0, 287, 108), (999, 0, 0, 0), (999, 0, 0, 0), (60, 18, 33, 0), (999, 0, 0, 0), (999, 0, 0, 0), (14, 0, 0, 112), (10, 0, 3, 0), (10, 0, 1, 0), (110, 0, 290, 106), (999, 0, 0, 0), (999, 0, 0, 0), (60, 9, 33, 0), (999, 0, 0, 0), (999, 0, 0, 0), (0, 1, 0, 0), (10, 0, 3, 0), (39, 0, 0, 0), (72, 4, 34, 0), (999, 0, 0, 0), (999, 0, 0, 0), (0, 0, 0, 0), (37, 0, 0, 0), (16, 0, 2, 0), (22, 1, 3, 0), (999, 0, 0, 0), (999, 0, 0, 0), (72, (-35), 4, 0), (999, 0, 0, 0), (999, 0, 0, 0), (10, 0, 2, 0), (130, 0, 0, 0)]
def zu_M_vote : List (Nat × List Bool) := [(4, [true, true, true, true]), (33, [true, true, false, true]), (34, [true, true, false, true])]
set_option maxRecDepth 100000 in
theorem qg_M_vote_34 {ρ : Type} (kr : Int → zH → Option ρ) (r4 : Int → Int → Int → zH → Option ρ) (a1 a3 t0 t1 : Int) (h : zH) : (r4 a1 (zor t1 t0) (wr (a3 + 1)) h) = zseg zPP false (zcal []) (zget (999, 0, 0, 0) zc_M_vote) (zcut zu_M_vote) (zorc [(4, [some (112, some 0), some (0, none), some (0, none), some (0, none)], [], fun xs h => match xs with
  | [a1, a2, a3] => r4 a1 a2 a3 h
  | _ => none)]) kr (fun _ _ => none) 400 34 [some (112, 0), some (0, a1), none, some (0, a3)] [(0, t0), (0, t1)] h := by rfl
set_option maxRecDepth 100000 in
theorem qe_M_vote_34 {ρ : Type} (kr : Int → zH → Option ρ) (r4 : Int → Int → Int → zH → Option ρ) (a1 a3 t0 t1 : Int) (h : zH) : M_vote_34 kr r4 a1 a3 t0 t1 h = zseg zPP false (zcal []) (zget (999, 0, 0, 0) zc_M_vote) (zcut zu_M_vote) (zorc [(4, [some (112, some 0), some (0, none), some (0, none), some (0, none)], [], fun xs h => match xs with
  | [a1, a2, a3] => r4 a1 a2 a3 h
  | _ => none)]) kr (fun _ _ => none) 400 34 [some (112, 0), some (0, a1), none, some (0, a3)] [(0, t0), (0, t1)] h := qg_M_vote_34 kr r4 a1 a3 t0 t1 h
set_option maxRecDepth 100000 in
theorem qg_M_vote_33 {ρ : Type} (kr : Int → zH → Option ρ) (r4 : Int → Int → Int → zH → Option ρ) (c34 : Int → Int → Int → Int → zH → Option ρ) (a1 a3 t0 : Int) (h : zH) : (c34 a1 a3 0 t0 h) = zseg zPP false (zcal []) (zget (999, 0, 0, 0) zc_M_vote) (zcut zu_M_vote) (zorc [(34, [some (112, some 0), some (0, none), none, some (0, none)], [(0, none), (0, none)], fun xs h => match xs with
  | [a1, a3, t0, t1] => c34 a1 a3 t0 t1 h
  | _ => none)]) kr (fun _ _ => none) 400 33 [some (112, 0), some (0, a1), none, some (0, a3)] [(0, t0)] h := by rfl
set_option maxRecDepth 100000 in
theorem qe_M_vote_33 {ρ : Type} (kr : Int → zH → Option ρ) (r4 : Int → Int → Int → zH → Option ρ) (a1 a3 t0 : Int) (h : zH) : M_vote_33 kr r4 a1 a3 t0 h = zseg zPP false (zcal []) (zget (999, 0, 0, 0) zc_M_vote) (zcut zu_M_vote) (zorc [(34, [some (112, some 0), some (0, none), none, some (0, none)], [(0, none), (0, none)], fun xs h => match xs with
  | [a1, a3, t0, t1] => M_vote_34 kr r4 a1 a3 t0 t1 h
  | _ => none)]) kr (fun _ _ => none) 400 33 [some (112, 0), some (0, a1), none, some (0, a3)] [(0, t0)] h := qg_M_vote_33 kr r4 (M_vote_34 kr r4) a1 a3 t0 h
set_option maxRecDepth 100000 in
theorem qg_M_vote_4b {ρ : Type} (kr : Int → zH → Option ρ) (r4 : Int → Int → Int → zH → Option ρ) (F_M_lane : Int → Int → zH → (Int → zH → Option ρ) → Option ρ) (F_M_isUnder : Int → zH → (Int → zH → Option ρ) → Option ρ) (c33 : Int → Int → Int → zH → Option ρ) (c34 : Int → Int → Int → Int → zH → Option ρ) (a1 a2 a3 : Int) (h : zH) : (if a3 < 4 then (F_M_isUnder a3 h  fun v1 h2 =>
if v1 = 0 then c33 a1 a3 a2 h2
else F_M_lane a3 a1 h2  fun v3 h4 =>
if v3 = 0 then c33 a1 a3 a2 h4
else c34 a1 a3 (zshl 1 a3) a2 h4)
else kr a2 h) = zseg zPP false (zcal [(106, [some 0, none, none], fun xs h kr kt => match xs with
  | [x1, x2] => F_M_lane x1 x2 h kr
  | _ => none), (108, [some 0, none], fun xs h kr kt => match xs with
  | [x1] => F_M_isUnder x1 h kr
  | _ => none)]) (zget (999, 0, 0, 0) zc_M_vote) (zcut zu_M_vote) (zorc [(33, [some (112, some 0), some (0, none), none, some (0, none)], [(0, none)], fun xs h => match xs with
  | [a1, a3, t0] => c33 a1 a3 t0 h
  | _ => none), (34, [some (112, some 0), some (0, none), none, some (0, none)], [(0, none), (0, none)], fun xs h => match xs with
  | [a1, a3, t0, t1] => c34 a1 a3 t0 t1 h
  | _ => none)]) kr (fun _ _ => none) 400 4 [some (112, 0), some (0, a1), some (0, a2), some (0, a3)] [] h := by rfl
set_option maxRecDepth 100000 in
theorem qe_M_vote_4b {ρ : Type} (kr : Int → zH → Option ρ) (r4 : Int → Int → Int → zH → Option ρ) (a1 a2 a3 : Int) (h : zH) : M_vote_4b kr r4 a1 a2 a3 h = zseg zPP false (zcal [(106, [some 0, none, none], fun xs h kr kt => match xs with
  | [x1, x2] => M_lane x1 x2 h kr
  | _ => none), (108, [some 0, none], fun xs h kr kt => match xs with
  | [x1] => M_isUnder x1 h kr
  | _ => none)]) (zget (999, 0, 0, 0) zc_M_vote) (zcut zu_M_vote) (zorc [(33, [some (112, some 0), some (0, none), none, some (0, none)], [(0, none)], fun xs h => match xs with
  | [a1, a3, t0] => M_vote_33 kr r4 a1 a3 t0 h
  | _ => none), (34, [some (112, some 0), some (0, none), none, some (0, none)], [(0, none), (0, none)], fun xs h => match xs with
  | [a1, a3, t0, t1] => M_vote_34 kr r4 a1 a3 t0 t1 h
  | _ => none)]) kr (fun _ _ => none) 400 4 [some (112, 0), some (0, a1), some (0, a2), some (0, a3)] [] h := qg_M_vote_4b kr r4 M_lane M_isUnder (M_vote_33 kr r4) (M_vote_34 kr r4) a1 a2 a3 h
set_option maxRecDepth 100000 in
theorem qg_M_vote {ρ : Type} (kr : Int → zH → Option ρ) (c4 : Int → Int → Int → zH → Option ρ) (a1 : Int) (h : zH) : (c4 a1 0 0 h) = zseg zPP false (zcal []) (zget (999, 0, 0, 0) zc_M_vote) (zcut zu_M_vote) (zorc [(4, [some (112, some 0), some (0, none), some (0, none), some (0, none)], [], fun xs h => match xs with
  | [a1, a2, a3] => c4 a1 a2 a3 h
  | _ => none)]) kr (fun _ _ => none) 400 0 [some (112, 0), some (0, a1), none, none] [] h := by rfl
set_option maxRecDepth 100000 in
theorem qe_M_vote {ρ : Type} (kr : Int → zH → Option ρ) (a1 : Int) (h : zH) : M_vote a1 h kr = zseg zPP false (zcal []) (zget (999, 0, 0, 0) zc_M_vote) (zcut zu_M_vote) (zorc [(4, [some (112, some 0), some (0, none), some (0, none), some (0, none)], [], fun xs h => match xs with
  | [a1, a2, a3] => M_vote_4 kr a1 a2 a3 h
  | _ => none)]) kr (fun _ _ => none) 400 0 [some (112, 0), some (0, a1), none, none] [] h := qg_M_vote kr (M_vote_4 kr) a1 h
def zc_M_seen : List zI := [(14, 0, 0, 112), (80, 12, 13, 3), (999, 0, 0, 0), (999, 0, 0, 0), (10, 0, 2, 0), (90, 0, 0, 60), (16, 0, 3, 0), (0, 4, 0, 0), (10, 0, 1, 0), (32, 0, 0, 0), (17, 0, 4, 0), (999, 0, 0, 0), (11, 0, 4, 0), (999, 0, 0, 0), (0, 4, 0, 0), (10, 0, 1, 0), (32, 0, 0, 0), (14, 0, 0, 112), (80, 12, 127, 42), (999, 0, 0, 0), (999, 0, 0, 0), (10, 0, 1, 0), (90, 0, 0, 97), (30, 0, 0, 0), (69, 32, 56, 0), (999, 0, 0, 0), (999, 0, 0, 0), (14, 0, 0, 112), (80, 12, 130, 43), (999, 0, 0, 0), (999, 0, 0, 0), (11, 0, 4, 0), (999, 0, 0, 0), (90, 0, 0, 98), (10, 0, 2, 0), (67, 13, 48, 0), (999, 0, 0, 0), (999, 0, 0, 0), (14, 0, 0, 112), (80, 12, 133, 44), (999, 0, 0, 0), (999, 0, 0, 0), (11, 0, 4, 0), (999, 0, 0, 0), (90, 0, 0, 99), (72, 4, 49, 0), (999, 0, 0, 0), (999, 0, 0, 0), (10, 0, 3, 0), (16, 0, 3, 0), (22, 1, 4, 0), (999, 0, 0, 0), (999, 0, 0, 0), (72, (-41), 12, 0), (999, 0, 0, 0), (999, 0, 0, 0), (10, 0, 3, 0), (130, 0, 0, 0)]
def zu_M_seen : List (Nat × List Bool) := [(12, [true, true, true, true, true]), (49, [true, true, true, false, true])]
set_option maxRecDepth 100000 in
theorem qg_M_seen_49 {ρ : Type} (kr : Int → zH → Option ρ) (r12 : Int → Int → Int → Int → zH → Option ρ) (a1 a2 a4 t0 : Int) (h : zH) : (r12 a1 a2 t0 (wr (a4 + 1)) h) = zseg zPP false (zcal []) (zget (999, 0, 0, 0) zc_M_seen) (zcut zu_M_seen) (zorc [(12, [some (112, some 0), some (0, none), some (0, none), some (0, none), some (0, none)], [], fun xs h => match xs with
  | [a1, a2, a3, a4] => r12 a1 a2 a3 a4 h
  | _ => none)]) kr (fun _ _ => none) 400 49 [some (112, 0), some (0, a1), some (0, a2), none, some (0, a4)] [(0, t0)] h := by rfl
set_option maxRecDepth 100000 in
theorem qe_M_seen_49 {ρ : Type} (kr : Int → zH → Option ρ) (r12 : Int → Int → Int → Int → zH → Option ρ) (a1 a2 a4 t0 : Int) (h : zH) : M_seen_49 kr r12 a1 a2 a4 t0 h = zseg zPP false (zcal []) (zget (999, 0, 0, 0) zc_M_seen) (zcut zu_M_seen) (zorc [(12, [some (112, some 0), some (0, none), some (0, none), some (0, none), some (0, none)], [], fun xs h => match xs with
  | [a1, a2, a3, a4] => r12 a1 a2 a3 a4 h
  | _ => none)]) kr (fun _ _ => none) 400 49 [some (112, 0), some (0, a1), some (0, a2), none, some (0, a4)] [(0, t0)] h := qg_M_seen_49 kr r12 a1 a2 a4 t0 h
set_option maxRecDepth 100000 in
theorem qg_M_seen_12b {ρ : Type} (kr : Int → zH → Option ρ) (r12 : Int → Int → Int → Int → zH → Option ρ) (c49 : Int → Int → Int → Int → zH → Option ρ) (a1 a2 a3 a4 : Int) (h : zH) : (zix 8 a1 fun j1 =>
if a4 < (wr ((wr (4 * a1)) + (zhD h 97 0 j1))) then (zix 32 a4 fun j2 =>
if (zhD h 98 0 j2) = a2 then (zix 32 a4 fun j3 =>
c49 a1 a2 a4 (zhD h 99 0 j3) h)
else c49 a1 a2 a4 a3 h)
else kr a3 h) = zseg zPP false (zcal []) (zget (999, 0, 0, 0) zc_M_seen) (zcut zu_M_seen) (zorc [(49, [some (112, some 0), some (0, none), some (0, none), none, some (0, none)], [(0, none)], fun xs h => match xs with
  | [a1, a2, a4, t0] => c49 a1 a2 a4 t0 h
  | _ => none)]) kr (fun _ _ => none) 400 12 [some (112, 0), some (0, a1), some (0, a2), some (0, a3), some (0, a4)] [] h := by rfl
set_option maxRecDepth 100000 in
theorem qe_M_seen_12b {ρ : Type} (kr : Int → zH → Option ρ) (r12 : Int → Int → Int → Int → zH → Option ρ) (a1 a2 a3 a4 : Int) (h : zH) : M_seen_12b kr r12 a1 a2 a3 a4 h = zseg zPP false (zcal []) (zget (999, 0, 0, 0) zc_M_seen) (zcut zu_M_seen) (zorc [(49, [some (112, some 0), some (0, none), some (0, none), none, some (0, none)], [(0, none)], fun xs h => match xs with
  | [a1, a2, a4, t0] => M_seen_49 kr r12 a1 a2 a4 t0 h
  | _ => none)]) kr (fun _ _ => none) 400 12 [some (112, 0), some (0, a1), some (0, a2), some (0, a3), some (0, a4)] [] h := qg_M_seen_12b kr r12 (M_seen_49 kr r12) a1 a2 a3 a4 h
set_option maxRecDepth 100000 in
theorem qg_M_seen {ρ : Type} (kr : Int → zH → Option ρ) (c12 : Int → Int → Int → Int → zH → Option ρ) (a1 a2 : Int) (h : zH) : (zix 64 a2 fun j1 =>
c12 a1 a2 (zhD h 60 0 j1) (wr (4 * a1)) h) = zseg zPP false (zcal []) (zget (999, 0, 0, 0) zc_M_seen) (zcut zu_M_seen) (zorc [(12, [some (112, some 0), some (0, none), some (0, none), some (0, none), some (0, none)], [], fun xs h => match xs with
  | [a1, a2, a3, a4] => c12 a1 a2 a3 a4 h
  | _ => none)]) kr (fun _ _ => none) 400 0 [some (112, 0), some (0, a1), some (0, a2), none, none] [] h := by rfl
set_option maxRecDepth 100000 in
theorem qe_M_seen {ρ : Type} (kr : Int → zH → Option ρ) (a1 a2 : Int) (h : zH) : M_seen a1 a2 h kr = zseg zPP false (zcal []) (zget (999, 0, 0, 0) zc_M_seen) (zcut zu_M_seen) (zorc [(12, [some (112, some 0), some (0, none), some (0, none), some (0, none), some (0, none)], [], fun xs h => match xs with
  | [a1, a2, a3, a4] => M_seen_12 kr a1 a2 a3 a4 h
  | _ => none)]) kr (fun _ _ => none) 400 0 [some (112, 0), some (0, a1), some (0, a2), none, none] [] h := qg_M_seen kr (M_seen_12 kr) a1 a2 h
def zc_M_cellOf : List zI := [(10, 0, 1, 0), (1, 119, 0, 0), (999, 0, 0, 0), (66, 9, 12, 0), (999, 0, 0, 0), (999, 0, 0, 0), (10, 0, 1, 0), (1, 87, 0, 0), (999, 0, 0, 0), (67, 17, 26, 0), (999, 0, 0, 0), (999, 0, 0, 0), (14, 0, 0, 112), (10, 0, 3, 0), (14, 0, 0, 112), (80, 12, 34, 10), (999, 0, 0, 0), (999, 0, 0, 0), (10, 0, 2, 0), (90, 0, 0, 66), (110, 0, 290, 106), (999, 0, 0, 0), (999, 0, 0, 0), (72, 14, 37, 0), (999, 0, 0, 0), (999, 0, 0, 0), (14, 0, 0, 112), (10, 0, 3, 0), (14, 0, 0, 112), (80, 12, 37, 11), (999, 0, 0, 0), (999, 0, 0, 0), (10, 0, 2, 0), (90, 0, 0, 67), (110, 0, 290, 106), (999, 0, 0, 0), (999, 0, 0, 0), (130, 0, 0, 0)]
def zu_M_cellOf : List (Nat × List Bool) := [(12, [true, false, true, true]), (37, [false, false, false, false])]
set_option maxRecDepth 100000 in
theorem qg_M_cellOf_37 {ρ : Type} (kr : Int → zH → Option ρ) (t0 : Int) (h : zH) : (kr t0 h) = zseg zPP false (zcal []) (zget (999, 0, 0, 0) zc_M_cellOf) (zcut zu_M_cellOf) (zorc []) kr (fun _ _ => none) 400 37 [none, none, none, none] [(0, t0)] h := by rfl
set_option maxRecDepth 100000 in
theorem qe_M_cellOf_37 {ρ : Type} (kr : Int → zH → Option ρ) (t0 : Int) (h : zH) : M_cellOf_37 kr t0 h = zseg zPP false (zcal []) (zget (999, 0, 0, 0) zc_M_cellOf) (zcut zu_M_cellOf) (zorc []) kr (fun _ _ => none) 400 37 [none, none, none, none] [(0, t0)] h := qg_M_cellOf_37 kr t0 h
set_option maxRecDepth 100000 in
theorem qg_M_cellOf_12 {ρ : Type} (kr : Int → zH → Option ρ) (F_M_lane : Int → Int → zH → (Int → zH → Option ρ) → Option ρ) (c37 : Int → zH → Option ρ) (a2 a3 : Int) (h : zH) : (zix 160 a2 fun j1 =>
F_M_lane a3 (zhD h 66 0 j1) h  fun v2 h3 =>
c37 v2 h3) = zseg zPP false (zcal [(106, [some 0, none, none], fun xs h kr kt => match xs with
  | [x1, x2] => F_M_lane x1 x2 h kr
  | _ => none)]) (zget (999, 0, 0, 0) zc_M_cellOf) (zcut zu_M_cellOf) (zorc [(37, [none, none, none, none], [(0, none)], fun xs h => match xs with
  | [t0] => c37 t0 h
  | _ => none)]) kr (fun _ _ => none) 400 12 [some (112, 0), none, some (0, a2), some (0, a3)] [] h := by rfl
set_option maxRecDepth 100000 in
theorem qe_M_cellOf_12 {ρ : Type} (kr : Int → zH → Option ρ) (a2 a3 : Int) (h : zH) : M_cellOf_12 kr a2 a3 h = zseg zPP false (zcal [(106, [some 0, none, none], fun xs h kr kt => match xs with
  | [x1, x2] => M_lane x1 x2 h kr
  | _ => none)]) (zget (999, 0, 0, 0) zc_M_cellOf) (zcut zu_M_cellOf) (zorc [(37, [none, none, none, none], [(0, none)], fun xs h => match xs with
  | [t0] => M_cellOf_37 kr t0 h
  | _ => none)]) kr (fun _ _ => none) 400 12 [some (112, 0), none, some (0, a2), some (0, a3)] [] h := qg_M_cellOf_12 kr M_lane (M_cellOf_37 kr) a2 a3 h
set_option maxRecDepth 100000 in
theorem qg_M_cellOf {ρ : Type} (kr : Int → zH → Option ρ) (F_M_lane : Int → Int → zH → (Int → zH → Option ρ) → Option ρ) (c12 : Int → Int → zH → Option ρ) (c37 : Int → zH → Option ρ) (a1 a2 a3 : Int) (h : zH) : (if a1 = 119 then c12 a2 a3 h
else if a1 = 87 then c12 a2 a3 h
else zix 160 a2 fun j1 =>
F_M_lane a3 (zhD h 67 0 j1) h  fun v2 h3 =>
c37 v2 h3) = zseg zPP false (zcal [(106, [some 0, none, none], fun xs h kr kt => match xs with
  | [x1, x2] => F_M_lane x1 x2 h kr
  | _ => none)]) (zget (999, 0, 0, 0) zc_M_cellOf) (zcut zu_M_cellOf) (zorc [(12, [some (112, some 0), none, some (0, none), some (0, none)], [], fun xs h => match xs with
  | [a2, a3] => c12 a2 a3 h
  | _ => none), (37, [none, none, none, none], [(0, none)], fun xs h => match xs with
  | [t0] => c37 t0 h
  | _ => none)]) kr (fun _ _ => none) 400 0 [some (112, 0), some (0, a1), some (0, a2), some (0, a3)] [] h := by rfl
set_option maxRecDepth 100000 in
theorem qe_M_cellOf {ρ : Type} (kr : Int → zH → Option ρ) (a1 a2 a3 : Int) (h : zH) : M_cellOf a1 a2 a3 h kr = zseg zPP false (zcal [(106, [some 0, none, none], fun xs h kr kt => match xs with
  | [x1, x2] => M_lane x1 x2 h kr
  | _ => none)]) (zget (999, 0, 0, 0) zc_M_cellOf) (zcut zu_M_cellOf) (zorc [(12, [some (112, some 0), none, some (0, none), some (0, none)], [], fun xs h => match xs with
  | [a2, a3] => M_cellOf_12 kr a2 a3 h
  | _ => none), (37, [none, none, none, none], [(0, none)], fun xs h => match xs with
  | [t0] => M_cellOf_37 kr t0 h
  | _ => none)]) kr (fun _ _ => none) 400 0 [some (112, 0), some (0, a1), some (0, a2), some (0, a3)] [] h := qg_M_cellOf kr M_lane (M_cellOf_12 kr) (M_cellOf_37 kr) a1 a2 a3 h
def zc_M_isGlobal : List zI := [(10, 0, 0, 0), (1, 114, 0, 0), (999, 0, 0, 0), (66, 21, 24, 0), (999, 0, 0, 0), (999, 0, 0, 0), (10, 0, 0, 0), (1, 119, 0, 0), (999, 0, 0, 0), (66, 15, 24, 0), (999, 0, 0, 0), (999, 0, 0, 0), (10, 0, 0, 0), (1, 97, 0, 0), (999, 0, 0, 0), (66, 9, 24, 0), (999, 0, 0, 0), (999, 0, 0, 0), (10, 0, 0, 0), (1, 120, 0, 0), (999, 0, 0, 0), (67, 7, 28, 0), (999, 0, 0, 0), (999, 0, 0, 0), (0, 1, 0, 0), (72, 4, 29, 0), (999, 0, 0, 0), (999, 0, 0, 0), (0, 0, 0, 0), (130, 0, 1, 0)]
def zu_M_isGlobal : List (Nat × List Bool) := [(24, [false]), (29, [false])]
set_option maxRecDepth 100000 in
theorem qg_M_isGlobal_29 {ρ : Type} (kr : Int → zH → Option ρ) (t0 : Int) (h : zH) : (znar 1 t0 fun x1 => kr x1 h) = zseg zPP false (zcal []) (zget (999, 0, 0, 0) zc_M_isGlobal) (zcut zu_M_isGlobal) (zorc []) kr (fun _ _ => none) 400 29 [none] [(0, t0)] h := by rfl
set_option maxRecDepth 100000 in
theorem qe_M_isGlobal_29 {ρ : Type} (kr : Int → zH → Option ρ) (t0 : Int) (h : zH) : M_isGlobal_29 kr t0 h = zseg zPP false (zcal []) (zget (999, 0, 0, 0) zc_M_isGlobal) (zcut zu_M_isGlobal) (zorc []) kr (fun _ _ => none) 400 29 [none] [(0, t0)] h := qg_M_isGlobal_29 kr t0 h
set_option maxRecDepth 100000 in
theorem qg_M_isGlobal_24 {ρ : Type} (kr : Int → zH → Option ρ) (c29 : Int → zH → Option ρ) (h : zH) : (c29 1 h) = zseg zPP false (zcal []) (zget (999, 0, 0, 0) zc_M_isGlobal) (zcut zu_M_isGlobal) (zorc [(29, [none], [(0, none)], fun xs h => match xs with
  | [t0] => c29 t0 h
  | _ => none)]) kr (fun _ _ => none) 400 24 [none] [] h := by rfl
set_option maxRecDepth 100000 in
theorem qe_M_isGlobal_24 {ρ : Type} (kr : Int → zH → Option ρ) (h : zH) : M_isGlobal_24 kr h = zseg zPP false (zcal []) (zget (999, 0, 0, 0) zc_M_isGlobal) (zcut zu_M_isGlobal) (zorc [(29, [none], [(0, none)], fun xs h => match xs with
  | [t0] => M_isGlobal_29 kr t0 h
  | _ => none)]) kr (fun _ _ => none) 400 24 [none] [] h := qg_M_isGlobal_24 kr (M_isGlobal_29 kr) h
set_option maxRecDepth 100000 in
theorem qg_M_isGlobal {ρ : Type} (kr : Int → zH → Option ρ) (c24 : zH → Option ρ) (c29 : Int → zH → Option ρ) (a0 : Int) (h : zH) : (if a0 = 114 then c24 h
else if a0 = 119 then c24 h
else if a0 = 97 then c24 h
else if a0 = 120 then c24 h
else c29 0 h) = zseg zPP false (zcal []) (zget (999, 0, 0, 0) zc_M_isGlobal) (zcut zu_M_isGlobal) (zorc [(24, [none], [], fun xs h => match xs with
  | [] => c24 h
  | _ => none), (29, [none], [(0, none)], fun xs h => match xs with
  | [t0] => c29 t0 h
  | _ => none)]) kr (fun _ _ => none) 400 0 [some (0, a0)] [] h := by rfl
set_option maxRecDepth 100000 in
theorem qe_M_isGlobal {ρ : Type} (kr : Int → zH → Option ρ) (a0 : Int) (h : zH) : M_isGlobal a0 h kr = zseg zPP false (zcal []) (zget (999, 0, 0, 0) zc_M_isGlobal) (zcut zu_M_isGlobal) (zorc [(24, [none], [], fun xs h => match xs with
  | [] => M_isGlobal_24 kr h
  | _ => none), (29, [none], [(0, none)], fun xs h => match xs with
  | [t0] => M_isGlobal_29 kr t0 h
  | _ => none)]) kr (fun _ _ => none) 400 0 [some (0, a0)] [] h := qg_M_isGlobal kr (M_isGlobal_24 kr) (M_isGlobal_29 kr) a0 h
def zc_M_isShared : List zI := [(10, 0, 0, 0), (1, 82, 0, 0), (999, 0, 0, 0), (66, 9, 12, 0), (999, 0, 0, 0), (999, 0, 0, 0), (10, 0, 0, 0), (1, 87, 0, 0), (999, 0, 0, 0), (67, 7, 16, 0), (999, 0, 0, 0), (999, 0, 0, 0), (0, 1, 0, 0), (72, 4, 17, 0), (999, 0, 0, 0), (999, 0, 0, 0), (0, 0, 0, 0), (130, 0, 1, 0)]
def zu_M_isShared : List (Nat × List Bool) := [(12, [false]), (17, [false])]
set_option maxRecDepth 100000 in
theorem qg_M_isShared_17 {ρ : Type} (kr : Int → zH → Option ρ) (t0 : Int) (h : zH) : (znar 1 t0 fun x1 => kr x1 h) = zseg zPP false (zcal []) (zget (999, 0, 0, 0) zc_M_isShared) (zcut zu_M_isShared) (zorc []) kr (fun _ _ => none) 400 17 [none] [(0, t0)] h := by rfl
set_option maxRecDepth 100000 in
theorem qe_M_isShared_17 {ρ : Type} (kr : Int → zH → Option ρ) (t0 : Int) (h : zH) : M_isShared_17 kr t0 h = zseg zPP false (zcal []) (zget (999, 0, 0, 0) zc_M_isShared) (zcut zu_M_isShared) (zorc []) kr (fun _ _ => none) 400 17 [none] [(0, t0)] h := qg_M_isShared_17 kr t0 h
set_option maxRecDepth 100000 in
theorem qg_M_isShared_12 {ρ : Type} (kr : Int → zH → Option ρ) (c17 : Int → zH → Option ρ) (h : zH) : (c17 1 h) = zseg zPP false (zcal []) (zget (999, 0, 0, 0) zc_M_isShared) (zcut zu_M_isShared) (zorc [(17, [none], [(0, none)], fun xs h => match xs with
  | [t0] => c17 t0 h
  | _ => none)]) kr (fun _ _ => none) 400 12 [none] [] h := by rfl
set_option maxRecDepth 100000 in
theorem qe_M_isShared_12 {ρ : Type} (kr : Int → zH → Option ρ) (h : zH) : M_isShared_12 kr h = zseg zPP false (zcal []) (zget (999, 0, 0, 0) zc_M_isShared) (zcut zu_M_isShared) (zorc [(17, [none], [(0, none)], fun xs h => match xs with
  | [t0] => M_isShared_17 kr t0 h
  | _ => none)]) kr (fun _ _ => none) 400 12 [none] [] h := qg_M_isShared_12 kr (M_isShared_17 kr) h
set_option maxRecDepth 100000 in
theorem qg_M_isShared {ρ : Type} (kr : Int → zH → Option ρ) (c12 : zH → Option ρ) (c17 : Int → zH → Option ρ) (a0 : Int) (h : zH) : (if a0 = 82 then c12 h
else if a0 = 87 then c12 h
else c17 0 h) = zseg zPP false (zcal []) (zget (999, 0, 0, 0) zc_M_isShared) (zcut zu_M_isShared) (zorc [(12, [none], [], fun xs h => match xs with
  | [] => c12 h
  | _ => none), (17, [none], [(0, none)], fun xs h => match xs with
  | [t0] => c17 t0 h
  | _ => none)]) kr (fun _ _ => none) 400 0 [some (0, a0)] [] h := by rfl
set_option maxRecDepth 100000 in
theorem qe_M_isShared {ρ : Type} (kr : Int → zH → Option ρ) (a0 : Int) (h : zH) : M_isShared a0 h kr = zseg zPP false (zcal []) (zget (999, 0, 0, 0) zc_M_isShared) (zcut zu_M_isShared) (zorc [(12, [none], [], fun xs h => match xs with
  | [] => M_isShared_12 kr h
  | _ => none), (17, [none], [(0, none)], fun xs h => match xs with
  | [t0] => M_isShared_17 kr t0 h
  | _ => none)]) kr (fun _ _ => none) 400 0 [some (0, a0)] [] h := qg_M_isShared kr (M_isShared_12 kr) (M_isShared_17 kr) a0 h
def zc_M_compute : List zI := [(10, 0, 0, 0), (1, 43, 0, 0), (999, 0, 0, 0), (67, 7, 10, 0), (999, 0, 0, 0), (999, 0, 0, 0), (10, 0, 1, 0), (10, 0, 2, 0), (30, 0, 0, 0), (130, 0, 0, 0), (10, 0, 0, 0), (1, 45, 0, 0), (999, 0, 0, 0), (67, 7, 20, 0), (999, 0, 0, 0), (999, 0, 0, 0), (10, 0, 1, 0), (10, 0, 2, 0), (31, 0, 0, 0), (130, 0, 0, 0), (10, 0, 0, 0), (1, 42, 0, 0), (999, 0, 0, 0), (67, 9, 32, 0), (999, 0, 0, 0), (999, 0, 0, 0), (10, 0, 1, 0), (10, 0, 2, 0), (32, 0, 0, 0), (72, 32, 61, 0), (999, 0, 0, 0), (999, 0, 0, 0), (10, 0, 0, 0), (1, 60, 0, 0), (999, 0, 0, 0), (67, 16, 51, 0), (999, 0, 0, 0), (999, 0, 0, 0), (10, 0, 1, 0), (10, 0, 2, 0), (69, 7, 47, 0), (999, 0, 0, 0), (999, 0, 0, 0), (0, 1, 0, 0), (72, 17, 61, 0), (999, 0, 0, 0), (999, 0, 0, 0), (0, 0, 0, 0), (72, 13, 61, 0), (999, 0, 0, 0), (999, 0, 0, 0), (10, 0, 1, 0), (10, 0, 2, 0), (67, 7, 60, 0), (999, 0, 0, 0), (999, 0, 0, 0), (0, 1, 0, 0), (72, 4, 61, 0), (999, 0, 0, 0), (999, 0, 0, 0), (0, 0, 0, 0), (130, 0, 0, 0)]
def zu_M_compute : List (Nat × List Bool) := [(61, [false, false, false])]
set_option maxRecDepth 100000 in
theorem qg_M_compute_61 {ρ : Type} (kr : Int → zH → Option ρ) (t0 : Int) (h : zH) : (kr t0 h) = zseg zPP false (zcal []) (zget (999, 0, 0, 0) zc_M_compute) (zcut zu_M_compute) (zorc []) kr (fun _ _ => none) 400 61 [none, none, none] [(0, t0)] h := by rfl
set_option maxRecDepth 100000 in
theorem qe_M_compute_61 {ρ : Type} (kr : Int → zH → Option ρ) (t0 : Int) (h : zH) : M_compute_61 kr t0 h = zseg zPP false (zcal []) (zget (999, 0, 0, 0) zc_M_compute) (zcut zu_M_compute) (zorc []) kr (fun _ _ => none) 400 61 [none, none, none] [(0, t0)] h := qg_M_compute_61 kr t0 h
set_option maxRecDepth 100000 in
theorem qg_M_compute {ρ : Type} (kr : Int → zH → Option ρ) (c61 : Int → zH → Option ρ) (a0 a1 a2 : Int) (h : zH) : (if a0 = 43 then kr (wr (a1 + a2)) h
else if a0 = 45 then kr (wr (a1 - a2)) h
else if a0 = 42 then c61 (wr (a1 * a2)) h
else if a0 = 60 then (if a1 < a2 then c61 1 h
else c61 0 h)
else if a1 = a2 then c61 1 h
else c61 0 h) = zseg zPP false (zcal []) (zget (999, 0, 0, 0) zc_M_compute) (zcut zu_M_compute) (zorc [(61, [none, none, none], [(0, none)], fun xs h => match xs with
  | [t0] => c61 t0 h
  | _ => none)]) kr (fun _ _ => none) 400 0 [some (0, a0), some (0, a1), some (0, a2)] [] h := by rfl
set_option maxRecDepth 100000 in
theorem qe_M_compute {ρ : Type} (kr : Int → zH → Option ρ) (a0 a1 a2 : Int) (h : zH) : M_compute a0 a1 a2 h kr = zseg zPP false (zcal []) (zget (999, 0, 0, 0) zc_M_compute) (zcut zu_M_compute) (zorc [(61, [none, none, none], [(0, none)], fun xs h => match xs with
  | [t0] => M_compute_61 kr t0 h
  | _ => none)]) kr (fun _ _ => none) 400 0 [some (0, a0), some (0, a1), some (0, a2)] [] h := qg_M_compute kr (M_compute_61 kr) a0 a1 a2 h
def zc_M_doCell : List zI := [(14, 0, 0, 112), (80, 12, 118, 39), (999, 0, 0, 0), (999, 0, 0, 0), (10, 0, 1, 0), (90, 0, 0, 94), (17, 0, 5, 0), (999, 0, 0, 0), (0, 4, 0, 0), (14, 0, 0, 112), (80, 12, 121, 40), (999, 0, 0, 0), (999, 0, 0, 0), (10, 0, 1, 0), (90, 0, 0, 95), (32, 0, 0, 0), (10, 0, 2, 0), (30, 0, 0, 0), (17, 0, 6, 0), (999, 0, 0, 0), (14, 0, 0, 112), (10, 0, 3, 0), (11, 0, 4, 0), (999, 0, 0, 0), (10, 0, 2, 0), (110, 0, 293, 112), (999, 0, 0, 0), (999, 0, 0, 0), (17, 0, 7, 0), (999, 0, 0, 0), (10, 0, 3, 0), (113, 0, 297, 114), (999, 0, 0, 0), (999, 0, 0, 0), (60, 85, 119, 0), (999, 0, 0, 0), (999, 0, 0, 0), (14, 0, 0, 112), (11, 0, 5, 0), (999, 0, 0, 0), (11, 0, 6, 0), (999, 0, 0, 0), (11, 0, 7, 0), (999, 0, 0, 0), (10, 0, 3, 0), (1, 87, 0, 0), (999, 0, 0, 0), (67, 7, 54, 0), (999, 0, 0, 0), (999, 0, 0, 0), (0, 1, 0, 0), (72, 4, 55, 0), (999, 0, 0, 0), (999, 0, 0, 0), (0, 0, 0, 0), (110, 0, 301, 102), (999, 0, 0, 0), (999, 0, 0, 0), (10, 0, 3, 0), (1, 87, 0, 0), (999, 0, 0, 0), (67, 31, 92, 0), (999, 0, 0, 0), (999, 0, 0, 0), (14, 0, 0, 112), (80, 12, 112, 37), (999, 0, 0, 0), (999, 0, 0, 0), (1, 16, 0, 0), (999, 0, 0, 0), (11, 0, 5, 0), (999, 0, 0, 0), (32, 0, 0, 0), (11, 0, 7, 0), (999, 0, 0, 0), (30, 0, 0, 0), (14, 0, 0, 112), (10, 0, 2, 0), (14, 0, 0, 112), (80, 12, 37, 11), (999, 0, 0, 0), (999, 0, 0, 0), (11, 0, 4, 0), (999, 0, 0, 0), (90, 0, 0, 67), (110, 0, 290, 106), (999, 0, 0, 0), (999, 0, 0, 0), (95, 0, 0, 92), (72, 29, 118, 0), (999, 0, 0, 0), (999, 0, 0, 0), (14, 0, 0, 112), (10, 0, 1, 0), (10, 0, 2, 0), (14, 0, 0, 112), (80, 12, 34, 10), (999, 0, 0, 0), (999, 0, 0, 0), (11, 0, 4, 0), (999, 0, 0, 0), (90, 0, 0, 66), (14, 0, 0, 112), (80, 12, 112, 37), (999, 0, 0, 0), (999, 0, 0, 0), (1, 16, 0, 0), (999, 0, 0, 0), (11, 0, 5, 0), (999, 0, 0, 0), (32, 0, 0, 0), (11, 0, 7, 0), (999, 0, 0, 0), (30, 0, 0, 0), (90, 0, 0, 92), (110, 0, 305, 107), (999, 0, 0, 0), (999, 0, 0, 0), (133, 0, 0, 0), (14, 0, 0, 112), (11, 0, 5, 0), (999, 0, 0, 0), (11, 0, 6, 0), (999, 0, 0, 0), (11, 0, 7, 0), (999, 0, 0, 0), (10, 0, 3, 0), (1, 119, 0, 0), (999, 0, 0, 0), (67, 7, 136, 0), (999, 0, 0, 0), (999, 0, 0, 0), (0, 1, 0, 0), (72, 4, 137, 0), (999, 0, 0, 0), (999, 0, 0, 0), (0, 0, 0, 0), (110, 0, 309, 101), (999, 0, 0, 0), (999, 0, 0, 0), (10, 0, 3, 0), (1, 114, 0, 0), (999, 0, 0, 0), (67, 26, 169, 0), (999, 0, 0, 0), (999, 0, 0, 0), (14, 0, 0, 112), (10, 0, 1, 0), (10, 0, 2, 0), (14, 0, 0, 112), (80, 12, 34, 10), (999, 0, 0, 0), (999, 0, 0, 0), (11, 0, 4, 0), (999, 0, 0, 0), (90, 0, 0, 66), (14, 0, 0, 112), (10, 0, 1, 0), (11, 0, 7, 0), (999, 0, 0, 0), (110, 0, 312, 111), (999, 0, 0, 0), (999, 0, 0, 0), (110, 0, 305, 107), (999, 0, 0, 0), (999, 0, 0, 0), (72, 158, 324, 0), (999, 0, 0, 0), (999, 0, 0, 0), (10, 0, 3, 0), (1, 119, 0, 0), (999, 0, 0, 0), (67, 85, 257, 0), (999, 0, 0, 0), (999, 0, 0, 0), (14, 0, 0, 112), (80, 12, 127, 42), (999, 0, 0, 0), (999, 0, 0, 0), (10, 0, 1, 0), (90, 0, 0, 97), (0, 4, 0, 0), (67, 18, 200, 0), (999, 0, 0, 0), (999, 0, 0, 0), (14, 0, 0, 112), (10, 0, 1, 0), (110, 0, 263, 97), (999, 0, 0, 0), (999, 0, 0, 0), (14, 0, 0, 112), (50, 0, 0, 0), (80, 12, 315, 65), (999, 0, 0, 0), (999, 0, 0, 0), (0, 1, 0, 0), (30, 0, 0, 0), (82, 12, 315, 65), (999, 0, 0, 0), (999, 0, 0, 0), (14, 0, 0, 112), (80, 12, 130, 43), (999, 0, 0, 0), (999, 0, 0, 0), (0, 4, 0, 0), (10, 0, 1, 0), (32, 0, 0, 0), (14, 0, 0, 112), (80, 12, 127, 42), (999, 0, 0, 0), (999, 0, 0, 0), (10, 0, 1, 0), (90, 0, 0, 97), (30, 0, 0, 0), (11, 0, 7, 0), (999, 0, 0, 0), (95, 0, 0, 98), (14, 0, 0, 112), (80, 12, 133, 44), (999, 0, 0, 0), (999, 0, 0, 0), (0, 4, 0, 0), (10, 0, 1, 0), (32, 0, 0, 0), (14, 0, 0, 112), (80, 12, 127, 42), (999, 0, 0, 0), (999, 0, 0, 0), (10, 0, 1, 0), (90, 0, 0, 97), (30, 0, 0, 0), (14, 0, 0, 112), (10, 0, 2, 0), (14, 0, 0, 112), (80, 12, 37, 11), (999, 0, 0, 0), (999, 0, 0, 0), (11, 0, 4, 0), (999, 0, 0, 0), (90, 0, 0, 67), (110, 0, 290, 106), (999, 0, 0, 0), (999, 0, 0, 0), (95, 0, 0, 99), (14, 0, 0, 112), (80, 12, 127, 42), (999, 0, 0, 0), (999, 0, 0, 0), (10, 0, 1, 0), (51, 0, 0, 0), (90, 0, 0, 97), (0, 1, 0, 0), (30, 0, 0, 0), (95, 0, 0, 97), (72, 70, 324, 0), (999, 0, 0, 0), (999, 0, 0, 0), (14, 0, 0, 112), (80, 12, 13, 3), (999, 0, 0, 0), (999, 0, 0, 0), (11, 0, 7, 0), (999, 0, 0, 0), (90, 0, 0, 60), (17, 0, 8, 0), (999, 0, 0, 0), (14, 0, 0, 112), (80, 12, 13, 3), (999, 0, 0, 0), (999, 0, 0, 0), (11, 0, 7, 0), (999, 0, 0, 0), (10, 0, 3, 0), (1, 97, 0, 0), (999, 0, 0, 0), (67, 21, 296, 0), (999, 0, 0, 0), (999, 0, 0, 0), (11, 0, 8, 0), (999, 0, 0, 0), (14, 0, 0, 112), (10, 0, 2, 0), (14, 0, 0, 112), (80, 12, 40, 12), (999, 0, 0, 0), (999, 0, 0, 0), (11, 0, 4, 0), (999, 0, 0, 0), (90, 0, 0, 68), (110, 0, 290, 106), (999, 0, 0, 0), (999, 0, 0, 0), (30, 0, 0, 0), (72, 15, 308, 0), (999, 0, 0, 0), (999, 0, 0, 0), (14, 0, 0, 112), (10, 0, 2, 0), (14, 0, 0, 112), (80, 12, 40, 12), (999, 0, 0, 0), (999, 0, 0, 0), (11, 0, 4, 0), (999, 0, 0, 0), (90, 0, 0, 68), (110, 0, 290, 106), (999, 0, 0, 0), (999, 0, 0, 0), (95, 0, 0, 60), (14, 0, 0, 112), (10, 0, 1, 0), (10, 0, 2, 0), (14, 0, 0, 112), (80, 12, 34, 10), (999, 0, 0, 0), (999, 0, 0, 0), (11, 0, 4, 0), (999, 0, 0, 0), (90, 0, 0, 66), (11, 0, 8, 0), (999, 0, 0, 0), (110, 0, 305, 107), (999, 0, 0, 0), (999, 0, 0, 0), (133, 0, 0, 0)]
def zu_M_doCell : List (Nat × List Bool) := [(55, [true, true, true, true, true, true, false, true, false]), (118, [false, false, false, false, false, false, false, false, false]), (137, [true, true, true, true, true, false, false, true, false]), (200, [true, true, true, false, true, false, false, true, false]), (308, [true, true, true, false, true, false, false, false, true]), (324, [false, false, false, false, false, false, false, false, false])]
set_option maxRecDepth 100000 in
theorem qg_M_doCell_118 {ρ : Type} (kr : Int → zH → Option ρ) (h : zH) : (kr 0 h) = zseg zPP false (zcal []) (zget (999, 0, 0, 0) zc_M_doCell) (zcut zu_M_doCell) (zorc []) kr (fun _ _ => none) 400 118 [none, none, none, none, none, none, none, none, none] [] h := by rfl
set_option maxRecDepth 100000 in
theorem qe_M_doCell_118 {ρ : Type} (kr : Int → zH → Option ρ) (h : zH) : M_doCell_118 kr h = zseg zPP false (zcal []) (zget (999, 0, 0, 0) zc_M_doCell) (zcut zu_M_doCell) (zorc []) kr (fun _ _ => none) 400 118 [none, none, none, none, none, none, none, none, none] [] h := qg_M_doCell_118 kr h
set_option maxRecDepth 100000 in
theorem qg_M_doCell_55 {ρ : Type} (kr : Int → zH → Option ρ) (F_M_accessShared : Int → Int → Int → Int → zH → (Int → zH → Option ρ) → Option ρ) (F_M_lane : Int → Int → zH → (Int → zH → Option ρ) → Option ρ) (F_M_set : Int → Int → Int → Int → zH → (Int → zH → Option ρ) → Option ρ) (c118 : zH → Option ρ) (a1 a2 a3 a4 a5 a7 t0 t1 t2 t3 : Int) (h : zH) : (F_M_accessShared t3 t2 t1 t0 h  fun _ h2 =>
if a3 = 87 then (zix 160 a4 fun j7 =>
F_M_lane a2 (zhD h2 67 0 j7) h2  fun v8 h9 =>
zix 1152 (wr ((wr (16 * a5)) + a7)) fun j10 =>
zlet (zset h9 92 0 j10 v8) fun h11 =>
c118 h11)
else zix 160 a4 fun j3 =>
zix 1152 (wr ((wr (16 * a5)) + a7)) fun j4 =>
F_M_set a1 a2 (zhD h2 66 0 j3) (zhD h2 92 0 j4) h2  fun _ h6 =>
c118 h6) = zseg zPP false (zcal [(102, [some 0, none, none, none, none], fun xs h kr kt => match xs with
  | [x1, x2, x3, x4] => F_M_accessShared x1 x2 x3 x4 h kr
  | _ => none), (106, [some 0, none, none], fun xs h kr kt => match xs with
  | [x1, x2] => F_M_lane x1 x2 h kr
  | _ => none), (107, [some 0, none, none, none, none], fun xs h kr kt => match xs with
  | [x1, x2, x3, x4] => F_M_set x1 x2 x3 x4 h kr
  | _ => none)]) (zget (999, 0, 0, 0) zc_M_doCell) (zcut zu_M_doCell) (zorc [(118, [none, none, none, none, none, none, none, none, none], [], fun xs h => match xs with
  | [] => c118 h
  | _ => none)]) kr (fun _ _ => none) 400 55 [some (112, 0), some (0, a1), some (0, a2), some (0, a3), some (0, a4), some (0, a5), none, some (0, a7), none] [(0, t0), (0, t1), (0, t2), (0, t3), (112, 0)] h := by rfl
set_option maxRecDepth 100000 in
theorem qe_M_doCell_55 {ρ : Type} (kr : Int → zH → Option ρ) (a1 a2 a3 a4 a5 a7 t0 t1 t2 t3 : Int) (h : zH) : M_doCell_55 kr a1 a2 a3 a4 a5 a7 t0 t1 t2 t3 h = zseg zPP false (zcal [(102, [some 0, none, none, none, none], fun xs h kr kt => match xs with
  | [x1, x2, x3, x4] => M_accessShared x1 x2 x3 x4 h kr
  | _ => none), (106, [some 0, none, none], fun xs h kr kt => match xs with
  | [x1, x2] => M_lane x1 x2 h kr
  | _ => none), (107, [some 0, none, none, none, none], fun xs h kr kt => match xs with
  | [x1, x2, x3, x4] => M_set x1 x2 x3 x4 h kr
  | _ => none)]) (zget (999, 0, 0, 0) zc_M_doCell) (zcut zu_M_doCell) (zorc [(118, [none, none, none, none, none, none, none, none, none], [], fun xs h => match xs with
  | [] => M_doCell_118 kr h
  | _ => none)]) kr (fun _ _ => none) 400 55 [some (112, 0), some (0, a1), some (0, a2), some (0, a3), some (0, a4), some (0, a5), none, some (0, a7), none] [(0, t0), (0, t1), (0, t2), (0, t3), (112, 0)] h := qg_M_doCell_55 kr M_accessShared M_lane M_set (M_doCell_118 kr) a1 a2 a3 a4 a5 a7 t0 t1 t2 t3 h
set_option maxRecDepth 100000 in
theorem qg_M_doCell_324 {ρ : Type} (kr : Int → zH → Option ρ) (h : zH) : (kr 0 h) = zseg zPP false (zcal []) (zget (999, 0, 0, 0) zc_M_doCell) (zcut zu_M_doCell) (zorc []) kr (fun _ _ => none) 400 324 [none, none, none, none, none, none, none, none, none] [] h := by rfl
set_option maxRecDepth 100000 in
theorem qe_M_doCell_324 {ρ : Type} (kr : Int → zH → Option ρ) (h : zH) : M_doCell_324 kr h = zseg zPP false (zcal []) (zget (999, 0, 0, 0) zc_M_doCell) (zcut zu_M_doCell) (zorc []) kr (fun _ _ => none) 400 324 [none, none, none, none, none, none, none, none, none] [] h := qg_M_doCell_324 kr h
set_option maxRecDepth 100000 in
theorem qg_M_doCell_200 {ρ : Type} (kr : Int → zH → Option ρ) (F_M_lane : Int → Int → zH → (Int → zH → Option ρ) → Option ρ) (c324 : zH → Option ρ) (a1 a2 a4 a7 : Int) (h : zH) : (zix 8 a1 fun j1 =>
zix 32 (wr ((wr (4 * a1)) + (zhD h 97 0 j1))) fun j2 =>
zlet (zset h 98 0 j2 a7) fun h3 =>
zix 8 a1 fun j4 =>
zix 160 a4 fun j5 =>
F_M_lane a2 (zhD h3 67 0 j5) h3  fun v6 h7 =>
zix 32 (wr ((wr (4 * a1)) + (zhD h3 97 0 j4))) fun j8 =>
zlet (zset h7 99 0 j8 v6) fun h9 =>
zix 8 a1 fun j10 =>
zix 8 a1 fun j11 =>
zlet (zset h9 97 0 j11 (wr ((zhD h9 97 0 j10) + 1))) fun h12 =>
c324 h12) = zseg zPP false (zcal [(106, [some 0, none, none], fun xs h kr kt => match xs with
  | [x1, x2] => F_M_lane x1 x2 h kr
  | _ => none)]) (zget (999, 0, 0, 0) zc_M_doCell) (zcut zu_M_doCell) (zorc [(324, [none, none, none, none, none, none, none, none, none], [], fun xs h => match xs with
  | [] => c324 h
  | _ => none)]) kr (fun _ _ => none) 400 200 [some (112, 0), some (0, a1), some (0, a2), none, some (0, a4), none, none, some (0, a7), none] [] h := by rfl
set_option maxRecDepth 100000 in
theorem qe_M_doCell_200 {ρ : Type} (kr : Int → zH → Option ρ) (a1 a2 a4 a7 : Int) (h : zH) : M_doCell_200 kr a1 a2 a4 a7 h = zseg zPP false (zcal [(106, [some 0, none, none], fun xs h kr kt => match xs with
  | [x1, x2] => M_lane x1 x2 h kr
  | _ => none)]) (zget (999, 0, 0, 0) zc_M_doCell) (zcut zu_M_doCell) (zorc [(324, [none, none, none, none, none, none, none, none, none], [], fun xs h => match xs with
  | [] => M_doCell_324 kr h
  | _ => none)]) kr (fun _ _ => none) 400 200 [some (112, 0), some (0, a1), some (0, a2), none, some (0, a4), none, none, some (0, a7), none] [] h := qg_M_doCell_200 kr M_lane (M_doCell_324 kr) a1 a2 a4 a7 h
set_option maxRecDepth 100000 in
theorem qg_M_doCell_308 {ρ : Type} (kr : Int → zH → Option ρ) (F_M_set : Int → Int → Int → Int → zH → (Int → zH → Option ρ) → Option ρ) (c324 : zH → Option ρ) (a1 a2 a4 a8 t0 t1 : Int) (h : zH) : (zix 64 t1 fun j1 =>
zlet (zset h 60 0 j1 t0) fun h2 =>
zix 160 a4 fun j3 =>
F_M_set a1 a2 (zhD h2 66 0 j3) a8 h2  fun _ h5 =>
c324 h5) = zseg zPP false (zcal [(107, [some 0, none, none, none, none], fun xs h kr kt => match xs with
  | [x1, x2, x3, x4] => F_M_set x1 x2 x3 x4 h kr
  | _ => none)]) (zget (999, 0, 0, 0) zc_M_doCell) (zcut zu_M_doCell) (zorc [(324, [none, none, none, none, none, none, none, none, none], [], fun xs h => match xs with
  | [] => c324 h
  | _ => none)]) kr (fun _ _ => none) 400 308 [some (112, 0), some (0, a1), some (0, a2), none, some (0, a4), none, none, none, some (0, a8)] [(0, t0), (0, t1), (160, 0)] h := by rfl
set_option maxRecDepth 100000 in
theorem qe_M_doCell_308 {ρ : Type} (kr : Int → zH → Option ρ) (a1 a2 a4 a8 t0 t1 : Int) (h : zH) : M_doCell_308 kr a1 a2 a4 a8 t0 t1 h = zseg zPP false (zcal [(107, [some 0, none, none, none, none], fun xs h kr kt => match xs with
  | [x1, x2, x3, x4] => M_set x1 x2 x3 x4 h kr
  | _ => none)]) (zget (999, 0, 0, 0) zc_M_doCell) (zcut zu_M_doCell) (zorc [(324, [none, none, none, none, none, none, none, none, none], [], fun xs h => match xs with
  | [] => M_doCell_324 kr h
  | _ => none)]) kr (fun _ _ => none) 400 308 [some (112, 0), some (0, a1), some (0, a2), none, some (0, a4), none, none, none, some (0, a8)] [(0, t0), (0, t1), (160, 0)] h := qg_M_doCell_308 kr M_set (M_doCell_324 kr) a1 a2 a4 a8 t0 t1 h
set_option maxRecDepth 100000 in
theorem qg_M_doCell_137 {ρ : Type} (kr : Int → zH → Option ρ) (F_M_writeFirst : Int → zH → (Int → zH → Option ρ) → Option ρ) (F_M_access : Int → Int → Int → Int → zH → (Int → zH → Option ρ) → Option ρ) (F_M_lane : Int → Int → zH → (Int → zH → Option ρ) → Option ρ) (F_M_set : Int → Int → Int → Int → zH → (Int → zH → Option ρ) → Option ρ) (F_M_seen : Int → Int → zH → (Int → zH → Option ρ) → Option ρ) (c200 : Int → Int → Int → Int → zH → Option ρ) (c308 : Int → Int → Int → Int → Int → Int → zH → Option ρ) (c324 : zH → Option ρ) (a1 a2 a3 a4 a7 t0 t1 t2 t3 : Int) (h : zH) : (F_M_access t3 t2 t1 t0 h  fun _ h2 =>
if a3 = 114 then (zix 160 a4 fun j14 =>
F_M_seen a1 a7 h2  fun v15 h16 =>
F_M_set a1 a2 (zhD h2 66 0 j14) v15 h16  fun _ h18 =>
c324 h18)
else if a3 = 119 then (zix 8 a1 fun j10 =>
if (zhD h2 97 0 j10) = 4 then (F_M_writeFirst a1 h2  fun _ h12 =>
zlet (zset h12 12 0 65 (wr ((zhD h12 12 0 65) + 1))) fun h13 =>
c200 a1 a2 a4 a7 h13)
else c200 a1 a2 a4 a7 h2)
else zix 64 a7 fun j3 =>
if a3 = 97 then (zix 160 a4 fun j7 =>
F_M_lane a2 (zhD h2 68 0 j7) h2  fun v8 h9 =>
c308 a1 a2 a4 (zhD h2 60 0 j3) (wr ((zhD h2 60 0 j3) + v8)) a7 h9)
else zix 160 a4 fun j4 =>
F_M_lane a2 (zhD h2 68 0 j4) h2  fun v5 h6 =>
c308 a1 a2 a4 (zhD h2 60 0 j3) v5 a7 h6) = zseg zPP false (zcal [(97, [some 0, none], fun xs h kr kt => match xs with
  | [x1] => F_M_writeFirst x1 h kr
  | _ => none), (101, [some 0, none, none, none, none], fun xs h kr kt => match xs with
  | [x1, x2, x3, x4] => F_M_access x1 x2 x3 x4 h kr
  | _ => none), (106, [some 0, none, none], fun xs h kr kt => match xs with
  | [x1, x2] => F_M_lane x1 x2 h kr
  | _ => none), (107, [some 0, none, none, none, none], fun xs h kr kt => match xs with
  | [x1, x2, x3, x4] => F_M_set x1 x2 x3 x4 h kr
  | _ => none), (111, [some 0, none, none], fun xs h kr kt => match xs with
  | [x1, x2] => F_M_seen x1 x2 h kr
  | _ => none)]) (zget (999, 0, 0, 0) zc_M_doCell) (zcut zu_M_doCell) (zorc [(200, [some (112, some 0), some (0, none), some (0, none), none, some (0, none), none, none, some (0, none), none], [], fun xs h => match xs with
  | [a1, a2, a4, a7] => c200 a1 a2 a4 a7 h
  | _ => none), (308, [some (112, some 0), some (0, none), some (0, none), none, some (0, none), none, none, none, some (0, none)], [(0, none), (0, none), (160, some 0)], fun xs h => match xs with
  | [a1, a2, a4, a8, t0, t1] => c308 a1 a2 a4 a8 t0 t1 h
  | _ => none), (324, [none, none, none, none, none, none, none, none, none], [], fun xs h => match xs with
  | [] => c324 h
  | _ => none)]) kr (fun _ _ => none) 400 137 [some (112, 0), some (0, a1), some (0, a2), some (0, a3), some (0, a4), none, none, some (0, a7), none] [(0, t0), (0, t1), (0, t2), (0, t3), (112, 0)] h := by rfl
set_option maxRecDepth 100000 in
theorem qe_M_doCell_137 {ρ : Type} (kr : Int → zH → Option ρ) (a1 a2 a3 a4 a7 t0 t1 t2 t3 : Int) (h : zH) : M_doCell_137 kr a1 a2 a3 a4 a7 t0 t1 t2 t3 h = zseg zPP false (zcal [(97, [some 0, none], fun xs h kr kt => match xs with
  | [x1] => M_writeFirst x1 h kr
  | _ => none), (101, [some 0, none, none, none, none], fun xs h kr kt => match xs with
  | [x1, x2, x3, x4] => M_access x1 x2 x3 x4 h kr
  | _ => none), (106, [some 0, none, none], fun xs h kr kt => match xs with
  | [x1, x2] => M_lane x1 x2 h kr
  | _ => none), (107, [some 0, none, none, none, none], fun xs h kr kt => match xs with
  | [x1, x2, x3, x4] => M_set x1 x2 x3 x4 h kr
  | _ => none), (111, [some 0, none, none], fun xs h kr kt => match xs with
  | [x1, x2] => M_seen x1 x2 h kr
  | _ => none)]) (zget (999, 0, 0, 0) zc_M_doCell) (zcut zu_M_doCell) (zorc [(200, [some (112, some 0), some (0, none), some (0, none), none, some (0, none), none, none, some (0, none), none], [], fun xs h => match xs with
  | [a1, a2, a4, a7] => M_doCell_200 kr a1 a2 a4 a7 h
  | _ => none), (308, [some (112, some 0), some (0, none), some (0, none), none, some (0, none), none, none, none, some (0, none)], [(0, none), (0, none), (160, some 0)], fun xs h => match xs with
  | [a1, a2, a4, a8, t0, t1] => M_doCell_308 kr a1 a2 a4 a8 t0 t1 h
  | _ => none), (324, [none, none, none, none, none, none, none, none, none], [], fun xs h => match xs with
  | [] => M_doCell_324 kr h
  | _ => none)]) kr (fun _ _ => none) 400 137 [some (112, 0), some (0, a1), some (0, a2), some (0, a3), some (0, a4), none, none, some (0, a7), none] [(0, t0), (0, t1), (0, t2), (0, t3), (112, 0)] h := qg_M_doCell_137 kr M_writeFirst M_access M_lane M_set M_seen (M_doCell_200 kr) (M_doCell_308 kr) (M_doCell_324 kr) a1 a2 a3 a4 a7 t0 t1 t2 t3 h
set_option maxRecDepth 100000 in
theorem qg_M_doCell {ρ : Type} (kr : Int → zH → Option ρ) (F_M_cellOf : Int → Int → Int → zH → (Int → zH → Option ρ) → Option ρ) (F_M_isShared : Int → zH → (Int → zH → Option ρ) → Option ρ) (c55 : Int → Int → Int → Int → Int → Int → Int → Int → Int → Int → zH → Option ρ) (c137 : Int → Int → Int → Int → Int → Int → Int → Int → Int → zH → Option ρ) (a1 a2 a3 a4 : Int) (h : zH) : (zix 8 a1 fun j1 =>
zix 8 a1 fun j2 =>
F_M_cellOf a3 a4 a2 h  fun v3 h4 =>
F_M_isShared a3 h4  fun v5 h6 =>
if v5 = 0 then (if a3 = 119 then c137 a1 a2 a3 a4 v3 1 v3 (wr ((wr (4 * (zhD h 95 0 j2))) + a2)) (zhD h 94 0 j1) h6
else c137 a1 a2 a3 a4 v3 0 v3 (wr ((wr (4 * (zhD h 95 0 j2))) + a2)) (zhD h 94 0 j1) h6)
else if a3 = 87 then c55 a1 a2 a3 a4 (zhD h 94 0 j1) v3 1 v3 (wr ((wr (4 * (zhD h 95 0 j2))) + a2)) (zhD h 94 0 j1) h6
else c55 a1 a2 a3 a4 (zhD h 94 0 j1) v3 0 v3 (wr ((wr (4 * (zhD h 95 0 j2))) + a2)) (zhD h 94 0 j1) h6) = zseg zPP false (zcal [(112, [some 0, none, none, none], fun xs h kr kt => match xs with
  | [x1, x2, x3] => F_M_cellOf x1 x2 x3 h kr
  | _ => none), (114, [none], fun xs h kr kt => match xs with
  | [x0] => F_M_isShared x0 h kr
  | _ => none)]) (zget (999, 0, 0, 0) zc_M_doCell) (zcut zu_M_doCell) (zorc [(55, [some (112, some 0), some (0, none), some (0, none), some (0, none), some (0, none), some (0, none), none, some (0, none), none], [(0, none), (0, none), (0, none), (0, none), (112, some 0)], fun xs h => match xs with
  | [a1, a2, a3, a4, a5, a7, t0, t1, t2, t3] => c55 a1 a2 a3 a4 a5 a7 t0 t1 t2 t3 h
  | _ => none), (137, [some (112, some 0), some (0, none), some (0, none), some (0, none), some (0, none), none, none, some (0, none), none], [(0, none), (0, none), (0, none), (0, none), (112, some 0)], fun xs h => match xs with
  | [a1, a2, a3, a4, a7, t0, t1, t2, t3] => c137 a1 a2 a3 a4 a7 t0 t1 t2 t3 h
  | _ => none)]) kr (fun _ _ => none) 400 0 [some (112, 0), some (0, a1), some (0, a2), some (0, a3), some (0, a4), none, none, none, none] [] h := by rfl
set_option maxRecDepth 100000 in
theorem qe_M_doCell {ρ : Type} (kr : Int → zH → Option ρ) (a1 a2 a3 a4 : Int) (h : zH) : M_doCell a1 a2 a3 a4 h kr = zseg zPP false (zcal [(112, [some 0, none, none, none], fun xs h kr kt => match xs with
  | [x1, x2, x3] => M_cellOf x1 x2 x3 h kr
  | _ => none), (114, [none], fun xs h kr kt => match xs with
  | [x0] => M_isShared x0 h kr
  | _ => none)]) (zget (999, 0, 0, 0) zc_M_doCell) (zcut zu_M_doCell) (zorc [(55, [some (112, some 0), some (0, none), some (0, none), some (0, none), some (0, none), some (0, none), none, some (0, none), none], [(0, none), (0, none), (0, none), (0, none), (112, some 0)], fun xs h => match xs with
  | [a1, a2, a3, a4, a5, a7, t0, t1, t2, t3] => M_doCell_55 kr a1 a2 a3 a4 a5 a7 t0 t1 t2 t3 h
  | _ => none), (137, [some (112, some 0), some (0, none), some (0, none), some (0, none), some (0, none), none, none, some (0, none), none], [(0, none), (0, none), (0, none), (0, none), (112, some 0)], fun xs h => match xs with
  | [a1, a2, a3, a4, a7, t0, t1, t2, t3] => M_doCell_137 kr a1 a2 a3 a4 a7 t0 t1 t2 t3 h
  | _ => none)]) kr (fun _ _ => none) 400 0 [some (112, 0), some (0, a1), some (0, a2), some (0, a3), some (0, a4), none, none, none, none] [] h := qg_M_doCell kr M_cellOf M_isShared (M_doCell_55 kr) (M_doCell_137 kr) a1 a2 a3 a4 h
def zc_M_doLane : List zI := [(14, 0, 0, 112), (80, 12, 118, 39), (999, 0, 0, 0), (999, 0, 0, 0), (10, 0, 1, 0), (90, 0, 0, 94), (17, 0, 5, 0), (999, 0, 0, 0), (0, 4, 0, 0), (14, 0, 0, 112), (80, 12, 121, 40), (999, 0, 0, 0), (999, 0, 0, 0), (10, 0, 1, 0), (90, 0, 0, 95), (32, 0, 0, 0), (10, 0, 2, 0), (30, 0, 0, 0), (17, 0, 6, 0), (999, 0, 0, 0), (14, 0, 0, 112), (11, 0, 5, 0), (999, 0, 0, 0), (11, 0, 6, 0), (999, 0, 0, 0), (110, 0, 249, 93), (999, 0, 0, 0), (999, 0, 0, 0), (17, 0, 7, 0), (999, 0, 0, 0), (14, 0, 0, 112), (80, 12, 106, 35), (999, 0, 0, 0), (999, 0, 0, 0), (11, 0, 7, 0), (999, 0, 0, 0), (90, 0, 0, 90), (0, 1, 0, 0), (30, 0, 0, 0), (17, 0, 8, 0), (999, 0, 0, 0), (10, 0, 3, 0), (1, 107, 0, 0), (999, 0, 0, 0), (67, 26, 70, 0), (999, 0, 0, 0), (999, 0, 0, 0), (14, 0, 0, 112), (10, 0, 1, 0), (10, 0, 2, 0), (14, 0, 0, 112), (80, 12, 34, 10), (999, 0, 0, 0), (999, 0, 0, 0), (11, 0, 4, 0), (999, 0, 0, 0), (90, 0, 0, 66), (14, 0, 0, 112), (80, 12, 37, 11), (999, 0, 0, 0), (999, 0, 0, 0), (11, 0, 4, 0), (999, 0, 0, 0), (90, 0, 0, 67), (110, 0, 305, 107), (999, 0, 0, 0), (999, 0, 0, 0), (72, 346, 413, 0), (999, 0, 0, 0), (999, 0, 0, 0), (10, 0, 3, 0), (1, 116, 0, 0), (999, 0, 0, 0), (66, 15, 88, 0), (999, 0, 0, 0), (999, 0, 0, 0), (10, 0, 3, 0), (1, 110, 0, 0), (999, 0, 0, 0), (66, 9, 88, 0), (999, 0, 0, 0), (999, 0, 0, 0), (10, 0, 3, 0), (1, 108, 0, 0), (999, 0, 0, 0), (67, 45, 130, 0), (999, 0, 0, 0), (999, 0, 0, 0), (14, 0, 0, 112), (10, 0, 1, 0), (10, 0, 2, 0), (14, 0, 0, 112), (80, 12, 34, 10), (999, 0, 0, 0), (999, 0, 0, 0), (11, 0, 4, 0), (999, 0, 0, 0), (90, 0, 0, 66), (10, 0, 3, 0), (1, 116, 0, 0), (999, 0, 0, 0), (67, 8, 109, 0), (999, 0, 0, 0), (999, 0, 0, 0), (11, 0, 6, 0), (999, 0, 0, 0), (72, 18, 124, 0), (999, 0, 0, 0), (999, 0, 0, 0), (10, 0, 3, 0), (1, 110, 0, 0), (999, 0, 0, 0), (67, 11, 123, 0), (999, 0, 0, 0), (999, 0, 0, 0), (11, 0, 5, 0), (999, 0, 0, 0), (1, 6, 0, 0), (999, 0, 0, 0), (34, 0, 0, 0), (72, 4, 124, 0), (999, 0, 0, 0), (999, 0, 0, 0), (10, 0, 2, 0), (110, 0, 305, 107), (999, 0, 0, 0), (999, 0, 0, 0), (72, 286, 413, 0), (999, 0, 0, 0), (999, 0, 0, 0), (10, 0, 3, 0), (1, 118, 0, 0), (999, 0, 0, 0), (67, 30, 163, 0), (999, 0, 0, 0), (999, 0, 0, 0), (14, 0, 0, 112), (10, 0, 1, 0), (10, 0, 2, 0), (14, 0, 0, 112), (80, 12, 34, 10), (999, 0, 0, 0), (999, 0, 0, 0), (11, 0, 4, 0), (999, 0, 0, 0), (90, 0, 0, 66), (14, 0, 0, 112), (14, 0, 0, 112), (80, 12, 37, 11), (999, 0, 0, 0), (999, 0, 0, 0), (11, 0, 4, 0), (999, 0, 0, 0), (90, 0, 0, 67), (110, 0, 318, 110), (999, 0, 0, 0), (999, 0, 0, 0), (110, 0, 305, 107), (999, 0, 0, 0), (999, 0, 0, 0), (72, 253, 413, 0), (999, 0, 0, 0), (999, 0, 0, 0), (10, 0, 3, 0), (1, 115, 0, 0), (999, 0, 0, 0), (67, 62, 228, 0), (999, 0, 0, 0), (999, 0, 0, 0), (14, 0, 0, 112), (10, 0, 2, 0), (14, 0, 0, 112), (80, 12, 40, 12), (999, 0, 0, 0), (999, 0, 0, 0), (11, 0, 4, 0), (999, 0, 0, 0), (90, 0, 0, 68), (110, 0, 290, 106), (999, 0, 0, 0), (999, 0, 0, 0), (113, 0, 321, 109), (999, 0, 0, 0), (999, 0, 0, 0), (17, 0, 9, 0), (999, 0, 0, 0), (14, 0, 0, 112), (10, 0, 1, 0), (10, 0, 2, 0), (14, 0, 0, 112), (80, 12, 34, 10), (999, 0, 0, 0), (999, 0, 0, 0), (11, 0, 4, 0), (999, 0, 0, 0), (90, 0, 0, 66), (14, 0, 0, 112), (14, 0, 0, 112), (11, 0, 9, 0), (999, 0, 0, 0), (110, 0, 287, 108), (999, 0, 0, 0), (999, 0, 0, 0), (60, 8, 211, 0), (999, 0, 0, 0), (999, 0, 0, 0), (11, 0, 9, 0), (999, 0, 0, 0), (72, 4, 212, 0), (999, 0, 0, 0), (999, 0, 0, 0), (10, 0, 2, 0), (14, 0, 0, 112), (80, 12, 37, 11), (999, 0, 0, 0), (999, 0, 0, 0), (11, 0, 4, 0), (999, 0, 0, 0), (90, 0, 0, 67), (110, 0, 290, 106), (999, 0, 0, 0), (999, 0, 0, 0), (110, 0, 305, 107), (999, 0, 0, 0), (999, 0, 0, 0), (72, 188, 413, 0), (999, 0, 0, 0), (999, 0, 0, 0), (10, 0, 3, 0), (1, 122, 0, 0), (999, 0, 0, 0), (67, 35, 266, 0), (999, 0, 0, 0), (999, 0, 0, 0), (14, 0, 0, 112), (10, 0, 2, 0), (14, 0, 0, 112), (80, 12, 34, 10), (999, 0, 0, 0), (999, 0, 0, 0), (11, 0, 4, 0), (999, 0, 0, 0), (90, 0, 0, 66), (110, 0, 290, 106), (999, 0, 0, 0), (999, 0, 0, 0), (61, 13, 259, 0), (999, 0, 0, 0), (999, 0, 0, 0), (14, 0, 0, 112), (80, 12, 37, 11), (999, 0, 0, 0), (999, 0, 0, 0), (11, 0, 4, 0), (999, 0, 0, 0), (90, 0, 0, 67), (72, 5, 261, 0), (999, 0, 0, 0), (999, 0, 0, 0), (11, 0, 8, 0), (999, 0, 0, 0), (17, 0, 8, 0), (999, 0, 0, 0), (72, 150, 413, 0), (999, 0, 0, 0), (999, 0, 0, 0), (10, 0, 3, 0), (1, 106, 0, 0), (999, 0, 0, 0), (67, 15, 284, 0), (999, 0, 0, 0), (999, 0, 0, 0), (14, 0, 0, 112), (80, 12, 37, 11), (999, 0, 0, 0), (999, 0, 0, 0), (11, 0, 4, 0), (999, 0, 0, 0), (90, 0, 0, 67), (17, 0, 8, 0), (999, 0, 0, 0), (72, 132, 413, 0), (999, 0, 0, 0), (999, 0, 0, 0), (10, 0, 3, 0), (1, 99, 0, 0), (999, 0, 0, 0), (67, 55, 342, 0), (999, 0, 0, 0), (999, 0, 0, 0), (14, 0, 0, 112), (10, 0, 1, 0), (10, 0, 2, 0), (14, 0, 0, 112), (80, 12, 34, 10), (999, 0, 0, 0), (999, 0, 0, 0), (11, 0, 4, 0), (999, 0, 0, 0), (90, 0, 0, 66), (14, 0, 0, 112), (11, 0, 5, 0), (999, 0, 0, 0), (1, 6, 0, 0), (999, 0, 0, 0), (33, 0, 0, 0), (14, 0, 0, 112), (80, 12, 37, 11), (999, 0, 0, 0), (999, 0, 0, 0), (11, 0, 4, 0), (999, 0, 0, 0), (90, 0, 0, 67), (14, 0, 0, 112), (10, 0, 2, 0), (14, 0, 0, 112), (80, 12, 40, 12), (999, 0, 0, 0), (999, 0, 0, 0), (11, 0, 4, 0), (999, 0, 0, 0), (90, 0, 0, 68), (110, 0, 290, 106), (999, 0, 0, 0), (999, 0, 0, 0), (110, 0, 324, 82), (999, 0, 0, 0), (999, 0, 0, 0), (60, 7, 335, 0), (999, 0, 0, 0), (999, 0, 0, 0), (0, 1, 0, 0), (72, 4, 336, 0), (999, 0, 0, 0), (999, 0, 0, 0), (0, 0, 0, 0), (110, 0, 305, 107), (999, 0, 0, 0), (999, 0, 0, 0), (72, 74, 413, 0), (999, 0, 0, 0), (999, 0, 0, 0), (10, 0, 3, 0), (1, 43, 0, 0), (999, 0, 0, 0), (66, 27, 372, 0), (999, 0, 0, 0), (999, 0, 0, 0), (10, 0, 3, 0), (1, 45, 0, 0), (999, 0, 0, 0), (66, 21, 372, 0), (999, 0, 0, 0), (999, 0, 0, 0), (10, 0, 3, 0), (1, 42, 0, 0), (999, 0, 0, 0), (66, 15, 372, 0), (999, 0, 0, 0), (999, 0, 0, 0), (10, 0, 3, 0), (1, 60, 0, 0), (999, 0, 0, 0), (66, 9, 372, 0), (999, 0, 0, 0), (999, 0, 0, 0), (10, 0, 3, 0), (1, 61, 0, 0), (999, 0, 0, 0), (67, 44, 413, 0), (999, 0, 0, 0), (999, 0, 0, 0), (14, 0, 0, 112), (10, 0, 1, 0), (10, 0, 2, 0), (14, 0, 0, 112), (80, 12, 34, 10), (999, 0, 0, 0), (999, 0, 0, 0), (11, 0, 4, 0), (999, 0, 0, 0), (90, 0, 0, 66), (10, 0, 3, 0), (14, 0, 0, 112), (10, 0, 2, 0), (14, 0, 0, 112), (80, 12, 37, 11), (999, 0, 0, 0), (999, 0, 0, 0), (11, 0, 4, 0), (999, 0, 0, 0), (90, 0, 0, 67), (110, 0, 290, 106), (999, 0, 0, 0), (999, 0, 0, 0), (14, 0, 0, 112), (10, 0, 2, 0), (14, 0, 0, 112), (80, 12, 40, 12), (999, 0, 0, 0), (999, 0, 0, 0), (11, 0, 4, 0), (999, 0, 0, 0), (90, 0, 0, 68), (110, 0, 290, 106), (999, 0, 0, 0), (999, 0, 0, 0), (113, 0, 327, 115), (999, 0, 0, 0), (999, 0, 0, 0), (110, 0, 305, 107), (999, 0, 0, 0), (999, 0, 0, 0), (10, 0, 3, 0), (1, 98, 0, 0), (999, 0, 0, 0), (67, 15, 431, 0), (999, 0, 0, 0), (999, 0, 0, 0), (14, 0, 0, 112), (80, 12, 103, 34), (999, 0, 0, 0), (999, 0, 0, 0), (11, 0, 7, 0), (999, 0, 0, 0), (1, 119, 0, 0), (999, 0, 0, 0), (97, 0, 0, 89), (72, 52, 480, 0), (999, 0, 0, 0), (999, 0, 0, 0), (14, 0, 0, 112), (80, 12, 106, 35), (999, 0, 0, 0), (999, 0, 0, 0), (11, 0, 7, 0), (999, 0, 0, 0), (11, 0, 8, 0), (999, 0, 0, 0), (95, 0, 0, 90), (14, 0, 0, 112), (80, 12, 103, 34), (999, 0, 0, 0), (999, 0, 0, 0), (11, 0, 7, 0), (999, 0, 0, 0), (10, 0, 3, 0), (1, 101, 0, 0), (999, 0, 0, 0), (66, 23, 472, 0), (999, 0, 0, 0), (999, 0, 0, 0), (11, 0, 8, 0), (999, 0, 0, 0), (14, 0, 0, 112), (80, 12, 23, 7), (999, 0, 0, 0), (999, 0, 0, 0), (14, 0, 0, 112), (80, 12, 46, 15), (999, 0, 0, 0), (999, 0, 0, 0), (11, 0, 5, 0), (999, 0, 0, 0), (1, 6, 0, 0), (999, 0, 0, 0), (33, 0, 0, 0), (90, 0, 0, 70), (90, 0, 0, 63), (68, 8, 477, 0), (999, 0, 0, 0), (999, 0, 0, 0), (1, 101, 0, 0), (999, 0, 0, 0), (72, 5, 479, 0), (999, 0, 0, 0), (999, 0, 0, 0), (1, 114, 0, 0), (999, 0, 0, 0), (97, 0, 0, 89), (133, 0, 0, 0)]
def zu_M_doLane : List (Nat × List Bool) := [(88, [true, true, true, true, true, true, true, true, true, false]), (124, [true, false, false, true, false, true, false, true, true, false]), (212, [true, false, false, true, true, true, false, true, true, false]), (261, [true, false, false, true, false, true, false, true, false, false]), (336, [true, false, false, true, false, true, false, true, true, false]), (372, [true, true, true, true, true, true, false, true, true, false]), (413, [true, false, false, true, false, true, false, true, true, false]), (472, [false, false, false, false, false, false, false, false, false, false]), (479, [false, false, false, false, false, false, false, false, false, false]), (480, [false, false, false, false, false, false, false, false, false, false])]
set_option maxRecDepth 100000 in
theorem qg_M_doLane_480 {ρ : Type} (kr : Int → zH → Option ρ) (h : zH) : (kr 0 h) = zseg zPP false (zcal []) (zget (999, 0, 0, 0) zc_M_doLane) (zcut zu_M_doLane) (zorc []) kr (fun _ _ => none) 400 480 [none, none, none, none, none, none, none, none, none, none] [] h := by rfl
set_option maxRecDepth 100000 in
theorem qe_M_doLane_480 {ρ : Type} (kr : Int → zH → Option ρ) (h : zH) : M_doLane_480 kr h = zseg zPP false (zcal []) (zget (999, 0, 0, 0) zc_M_doLane) (zcut zu_M_doLane) (zorc []) kr (fun _ _ => none) 400 480 [none, none, none, none, none, none, none, none, none, none] [] h := qg_M_doLane_480 kr h
set_option maxRecDepth 100000 in
theorem qg_M_doLane_479 {ρ : Type} (kr : Int → zH → Option ρ) (c480 : zH → Option ρ) (t0 t1 : Int) (h : zH) : (zix 1152 t1 fun j1 =>
znar 2 t0 fun x2 =>
zlet (zset h 89 0 j1 x2) fun h3 =>
c480 h3) = zseg zPP false (zcal []) (zget (999, 0, 0, 0) zc_M_doLane) (zcut zu_M_doLane) (zorc [(480, [none, none, none, none, none, none, none, none, none, none], [], fun xs h => match xs with
  | [] => c480 h
  | _ => none)]) kr (fun _ _ => none) 400 479 [none, none, none, none, none, none, none, none, none, none] [(0, t0), (0, t1), (189, 0)] h := by rfl
set_option maxRecDepth 100000 in
theorem qe_M_doLane_479 {ρ : Type} (kr : Int → zH → Option ρ) (t0 t1 : Int) (h : zH) : M_doLane_479 kr t0 t1 h = zseg zPP false (zcal []) (zget (999, 0, 0, 0) zc_M_doLane) (zcut zu_M_doLane) (zorc [(480, [none, none, none, none, none, none, none, none, none, none], [], fun xs h => match xs with
  | [] => M_doLane_480 kr h
  | _ => none)]) kr (fun _ _ => none) 400 479 [none, none, none, none, none, none, none, none, none, none] [(0, t0), (0, t1), (189, 0)] h := qg_M_doLane_479 kr (M_doLane_480 kr) t0 t1 h
set_option maxRecDepth 100000 in
theorem qg_M_doLane_472 {ρ : Type} (kr : Int → zH → Option ρ) (c479 : Int → Int → zH → Option ρ) (t0 : Int) (h : zH) : (c479 101 t0 h) = zseg zPP false (zcal []) (zget (999, 0, 0, 0) zc_M_doLane) (zcut zu_M_doLane) (zorc [(479, [none, none, none, none, none, none, none, none, none, none], [(0, none), (0, none), (189, some 0)], fun xs h => match xs with
  | [t0, t1] => c479 t0 t1 h
  | _ => none)]) kr (fun _ _ => none) 400 472 [none, none, none, none, none, none, none, none, none, none] [(0, t0), (189, 0)] h := by rfl
set_option maxRecDepth 100000 in
theorem qe_M_doLane_472 {ρ : Type} (kr : Int → zH → Option ρ) (t0 : Int) (h : zH) : M_doLane_472 kr t0 h = zseg zPP false (zcal []) (zget (999, 0, 0, 0) zc_M_doLane) (zcut zu_M_doLane) (zorc [(479, [none, none, none, none, none, none, none, none, none, none], [(0, none), (0, none), (189, some 0)], fun xs h => match xs with
  | [t0, t1] => M_doLane_479 kr t0 t1 h
  | _ => none)]) kr (fun _ _ => none) 400 472 [none, none, none, none, none, none, none, none, none, none] [(0, t0), (189, 0)] h := qg_M_doLane_472 kr (M_doLane_479 kr) t0 h
set_option maxRecDepth 100000 in
theorem qg_M_doLane_413 {ρ : Type} (kr : Int → zH → Option ρ) (c472 : Int → zH → Option ρ) (c479 : Int → Int → zH → Option ρ) (c480 : zH → Option ρ) (a3 a5 a7 a8 : Int) (h : zH) : (if a3 = 98 then (zix 1152 a7 fun j5 =>
zlet (zset h 89 0 j5 119) fun h6 =>
c480 h6)
else zix 1152 a7 fun j1 =>
zlet (zset h 90 0 j1 a8) fun h2 =>
if a3 = 101 then c472 a7 h2
else zix 12 (wr (Int.tdiv a5 6)) fun j3 =>
zix 4 (zhD h2 70 0 j3) fun j4 =>
if a8 < (zhD h2 63 0 j4) then c479 114 a7 h2
else c472 a7 h2) = zseg zPP false (zcal []) (zget (999, 0, 0, 0) zc_M_doLane) (zcut zu_M_doLane) (zorc [(472, [none, none, none, none, none, none, none, none, none, none], [(0, none), (189, some 0)], fun xs h => match xs with
  | [t0] => c472 t0 h
  | _ => none), (479, [none, none, none, none, none, none, none, none, none, none], [(0, none), (0, none), (189, some 0)], fun xs h => match xs with
  | [t0, t1] => c479 t0 t1 h
  | _ => none), (480, [none, none, none, none, none, none, none, none, none, none], [], fun xs h => match xs with
  | [] => c480 h
  | _ => none)]) kr (fun _ _ => none) 400 413 [some (112, 0), none, none, some (0, a3), none, some (0, a5), none, some (0, a7), some (0, a8), none] [] h := by rfl
set_option maxRecDepth 100000 in
theorem qe_M_doLane_413 {ρ : Type} (kr : Int → zH → Option ρ) (a3 a5 a7 a8 : Int) (h : zH) : M_doLane_413 kr a3 a5 a7 a8 h = zseg zPP false (zcal []) (zget (999, 0, 0, 0) zc_M_doLane) (zcut zu_M_doLane) (zorc [(472, [none, none, none, none, none, none, none, none, none, none], [(0, none), (189, some 0)], fun xs h => match xs with
  | [t0] => M_doLane_472 kr t0 h
  | _ => none), (479, [none, none, none, none, none, none, none, none, none, none], [(0, none), (0, none), (189, some 0)], fun xs h => match xs with
  | [t0, t1] => M_doLane_479 kr t0 t1 h
  | _ => none), (480, [none, none, none, none, none, none, none, none, none, none], [], fun xs h => match xs with
  | [] => M_doLane_480 kr h
  | _ => none)]) kr (fun _ _ => none) 400 413 [some (112, 0), none, none, some (0, a3), none, some (0, a5), none, some (0, a7), some (0, a8), none] [] h := qg_M_doLane_413 kr (M_doLane_472 kr) (M_doLane_479 kr) (M_doLane_480 kr) a3 a5 a7 a8 h
set_option maxRecDepth 100000 in
theorem qg_M_doLane_124 {ρ : Type} (kr : Int → zH → Option ρ) (F_M_set : Int → Int → Int → Int → zH → (Int → zH → Option ρ) → Option ρ) (c413 : Int → Int → Int → Int → zH → Option ρ) (a3 a5 a7 a8 t0 t1 t2 t3 : Int) (h : zH) : (F_M_set t3 t2 t1 t0 h  fun _ h2 =>
c413 a3 a5 a7 a8 h2) = zseg zPP false (zcal [(107, [some 0, none, none, none, none], fun xs h kr kt => match xs with
  | [x1, x2, x3, x4] => F_M_set x1 x2 x3 x4 h kr
  | _ => none)]) (zget (999, 0, 0, 0) zc_M_doLane) (zcut zu_M_doLane) (zorc [(413, [some (112, some 0), none, none, some (0, none), none, some (0, none), none, some (0, none), some (0, none), none], [], fun xs h => match xs with
  | [a3, a5, a7, a8] => c413 a3 a5 a7 a8 h
  | _ => none)]) kr (fun _ _ => none) 400 124 [some (112, 0), none, none, some (0, a3), none, some (0, a5), none, some (0, a7), some (0, a8), none] [(0, t0), (0, t1), (0, t2), (0, t3), (112, 0)] h := by rfl
set_option maxRecDepth 100000 in
theorem qe_M_doLane_124 {ρ : Type} (kr : Int → zH → Option ρ) (a3 a5 a7 a8 t0 t1 t2 t3 : Int) (h : zH) : M_doLane_124 kr a3 a5 a7 a8 t0 t1 t2 t3 h = zseg zPP false (zcal [(107, [some 0, none, none, none, none], fun xs h kr kt => match xs with
  | [x1, x2, x3, x4] => M_set x1 x2 x3 x4 h kr
  | _ => none)]) (zget (999, 0, 0, 0) zc_M_doLane) (zcut zu_M_doLane) (zorc [(413, [some (112, some 0), none, none, some (0, none), none, some (0, none), none, some (0, none), some (0, none), none], [], fun xs h => match xs with
  | [a3, a5, a7, a8] => M_doLane_413 kr a3 a5 a7 a8 h
  | _ => none)]) kr (fun _ _ => none) 400 124 [some (112, 0), none, none, some (0, a3), none, some (0, a5), none, some (0, a7), some (0, a8), none] [(0, t0), (0, t1), (0, t2), (0, t3), (112, 0)] h := qg_M_doLane_124 kr M_set (M_doLane_413 kr) a3 a5 a7 a8 t0 t1 t2 t3 h
set_option maxRecDepth 100000 in
theorem qg_M_doLane_88 {ρ : Type} (kr : Int → zH → Option ρ) (c124 : Int → Int → Int → Int → Int → Int → Int → Int → zH → Option ρ) (a1 a2 a3 a4 a5 a6 a7 a8 : Int) (h : zH) : (zix 160 a4 fun j1 =>
if a3 = 116 then c124 a3 a5 a7 a8 a6 (zhD h 66 0 j1) a2 a1 h
else if a3 = 110 then c124 a3 a5 a7 a8 (Int.tmod a5 6) (zhD h 66 0 j1) a2 a1 h
else c124 a3 a5 a7 a8 a2 (zhD h 66 0 j1) a2 a1 h) = zseg zPP false (zcal []) (zget (999, 0, 0, 0) zc_M_doLane) (zcut zu_M_doLane) (zorc [(124, [some (112, some 0), none, none, some (0, none), none, some (0, none), none, some (0, none), some (0, none), none], [(0, none), (0, none), (0, none), (0, none), (112, some 0)], fun xs h => match xs with
  | [a3, a5, a7, a8, t0, t1, t2, t3] => c124 a3 a5 a7 a8 t0 t1 t2 t3 h
  | _ => none)]) kr (fun _ _ => none) 400 88 [some (112, 0), some (0, a1), some (0, a2), some (0, a3), some (0, a4), some (0, a5), some (0, a6), some (0, a7), some (0, a8), none] [] h := by rfl
set_option maxRecDepth 100000 in
theorem qe_M_doLane_88 {ρ : Type} (kr : Int → zH → Option ρ) (a1 a2 a3 a4 a5 a6 a7 a8 : Int) (h : zH) : M_doLane_88 kr a1 a2 a3 a4 a5 a6 a7 a8 h = zseg zPP false (zcal []) (zget (999, 0, 0, 0) zc_M_doLane) (zcut zu_M_doLane) (zorc [(124, [some (112, some 0), none, none, some (0, none), none, some (0, none), none, some (0, none), some (0, none), none], [(0, none), (0, none), (0, none), (0, none), (112, some 0)], fun xs h => match xs with
  | [a3, a5, a7, a8, t0, t1, t2, t3] => M_doLane_124 kr a3 a5 a7 a8 t0 t1 t2 t3 h
  | _ => none)]) kr (fun _ _ => none) 400 88 [some (112, 0), some (0, a1), some (0, a2), some (0, a3), some (0, a4), some (0, a5), some (0, a6), some (0, a7), some (0, a8), none] [] h := qg_M_doLane_88 kr (M_doLane_124 kr) a1 a2 a3 a4 a5 a6 a7 a8 h
set_option maxRecDepth 100000 in
theorem qg_M_doLane_212 {ρ : Type} (kr : Int → zH → Option ρ) (F_M_lane : Int → Int → zH → (Int → zH → Option ρ) → Option ρ) (F_M_set : Int → Int → Int → Int → zH → (Int → zH → Option ρ) → Option ρ) (c413 : Int → Int → Int → Int → zH → Option ρ) (a3 a4 a5 a7 a8 t0 t2 t3 t4 : Int) (h : zH) : (zix 160 a4 fun j1 =>
F_M_lane t0 (zhD h 67 0 j1) h  fun v2 h3 =>
F_M_set t4 t3 t2 v2 h3  fun _ h5 =>
c413 a3 a5 a7 a8 h5) = zseg zPP false (zcal [(106, [some 0, none, none], fun xs h kr kt => match xs with
  | [x1, x2] => F_M_lane x1 x2 h kr
  | _ => none), (107, [some 0, none, none, none, none], fun xs h kr kt => match xs with
  | [x1, x2, x3, x4] => F_M_set x1 x2 x3 x4 h kr
  | _ => none)]) (zget (999, 0, 0, 0) zc_M_doLane) (zcut zu_M_doLane) (zorc [(413, [some (112, some 0), none, none, some (0, none), none, some (0, none), none, some (0, none), some (0, none), none], [], fun xs h => match xs with
  | [a3, a5, a7, a8] => c413 a3 a5 a7 a8 h
  | _ => none)]) kr (fun _ _ => none) 400 212 [some (112, 0), none, none, some (0, a3), some (0, a4), some (0, a5), none, some (0, a7), some (0, a8), none] [(0, t0), (112, 0), (0, t2), (0, t3), (0, t4), (112, 0)] h := by rfl
set_option maxRecDepth 100000 in
theorem qe_M_doLane_212 {ρ : Type} (kr : Int → zH → Option ρ) (a3 a4 a5 a7 a8 t0 t2 t3 t4 : Int) (h : zH) : M_doLane_212 kr a3 a4 a5 a7 a8 t0 t2 t3 t4 h = zseg zPP false (zcal [(106, [some 0, none, none], fun xs h kr kt => match xs with
  | [x1, x2] => M_lane x1 x2 h kr
  | _ => none), (107, [some 0, none, none, none, none], fun xs h kr kt => match xs with
  | [x1, x2, x3, x4] => M_set x1 x2 x3 x4 h kr
  | _ => none)]) (zget (999, 0, 0, 0) zc_M_doLane) (zcut zu_M_doLane) (zorc [(413, [some (112, some 0), none, none, some (0, none), none, some (0, none), none, some (0, none), some (0, none), none], [], fun xs h => match xs with
  | [a3, a5, a7, a8] => M_doLane_413 kr a3 a5 a7 a8 h
  | _ => none)]) kr (fun _ _ => none) 400 212 [some (112, 0), none, none, some (0, a3), some (0, a4), some (0, a5), none, some (0, a7), some (0, a8), none] [(0, t0), (112, 0), (0, t2), (0, t3), (0, t4), (112, 0)] h := qg_M_doLane_212 kr M_lane M_set (M_doLane_413 kr) a3 a4 a5 a7 a8 t0 t2 t3 t4 h
set_option maxRecDepth 100000 in
theorem qg_M_doLane_261 {ρ : Type} (kr : Int → zH → Option ρ) (c413 : Int → Int → Int → Int → zH → Option ρ) (a3 a5 a7 t0 : Int) (h : zH) : (c413 a3 a5 a7 t0 h) = zseg zPP false (zcal []) (zget (999, 0, 0, 0) zc_M_doLane) (zcut zu_M_doLane) (zorc [(413, [some (112, some 0), none, none, some (0, none), none, some (0, none), none, some (0, none), some (0, none), none], [], fun xs h => match xs with
  | [a3, a5, a7, a8] => c413 a3 a5 a7 a8 h
  | _ => none)]) kr (fun _ _ => none) 400 261 [some (112, 0), none, none, some (0, a3), none, some (0, a5), none, some (0, a7), none, none] [(0, t0)] h := by rfl
set_option maxRecDepth 100000 in
theorem qe_M_doLane_261 {ρ : Type} (kr : Int → zH → Option ρ) (a3 a5 a7 t0 : Int) (h : zH) : M_doLane_261 kr a3 a5 a7 t0 h = zseg zPP false (zcal []) (zget (999, 0, 0, 0) zc_M_doLane) (zcut zu_M_doLane) (zorc [(413, [some (112, some 0), none, none, some (0, none), none, some (0, none), none, some (0, none), some (0, none), none], [], fun xs h => match xs with
  | [a3, a5, a7, a8] => M_doLane_413 kr a3 a5 a7 a8 h
  | _ => none)]) kr (fun _ _ => none) 400 261 [some (112, 0), none, none, some (0, a3), none, some (0, a5), none, some (0, a7), none, none] [(0, t0)] h := qg_M_doLane_261 kr (M_doLane_413 kr) a3 a5 a7 t0 h
set_option maxRecDepth 100000 in
theorem qg_M_doLane_336 {ρ : Type} (kr : Int → zH → Option ρ) (F_M_set : Int → Int → Int → Int → zH → (Int → zH → Option ρ) → Option ρ) (c413 : Int → Int → Int → Int → zH → Option ρ) (a3 a5 a7 a8 t0 t1 t2 t3 : Int) (h : zH) : (F_M_set t3 t2 t1 t0 h  fun _ h2 =>
c413 a3 a5 a7 a8 h2) = zseg zPP false (zcal [(107, [some 0, none, none, none, none], fun xs h kr kt => match xs with
  | [x1, x2, x3, x4] => F_M_set x1 x2 x3 x4 h kr
  | _ => none)]) (zget (999, 0, 0, 0) zc_M_doLane) (zcut zu_M_doLane) (zorc [(413, [some (112, some 0), none, none, some (0, none), none, some (0, none), none, some (0, none), some (0, none), none], [], fun xs h => match xs with
  | [a3, a5, a7, a8] => c413 a3 a5 a7 a8 h
  | _ => none)]) kr (fun _ _ => none) 400 336 [some (112, 0), none, none, some (0, a3), none, some (0, a5), none, some (0, a7), some (0, a8), none] [(0, t0), (0, t1), (0, t2), (0, t3), (112, 0)] h := by rfl
set_option maxRecDepth 100000 in
theorem qe_M_doLane_336 {ρ : Type} (kr : Int → zH → Option ρ) (a3 a5 a7 a8 t0 t1 t2 t3 : Int) (h : zH) : M_doLane_336 kr a3 a5 a7 a8 t0 t1 t2 t3 h = zseg zPP false (zcal [(107, [some 0, none, none, none, none], fun xs h kr kt => match xs with
  | [x1, x2, x3, x4] => M_set x1 x2 x3 x4 h kr
  | _ => none)]) (zget (999, 0, 0, 0) zc_M_doLane) (zcut zu_M_doLane) (zorc [(413, [some (112, some 0), none, none, some (0, none), none, some (0, none), none, some (0, none), some (0, none), none], [], fun xs h => match xs with
  | [a3, a5, a7, a8] => M_doLane_413 kr a3 a5 a7 a8 h
  | _ => none)]) kr (fun _ _ => none) 400 336 [some (112, 0), none, none, some (0, a3), none, some (0, a5), none, some (0, a7), some (0, a8), none] [(0, t0), (0, t1), (0, t2), (0, t3), (112, 0)] h := qg_M_doLane_336 kr M_set (M_doLane_413 kr) a3 a5 a7 a8 t0 t1 t2 t3 h
set_option maxRecDepth 100000 in
theorem qg_M_doLane_372 {ρ : Type} (kr : Int → zH → Option ρ) (F_M_lane : Int → Int → zH → (Int → zH → Option ρ) → Option ρ) (F_M_set : Int → Int → Int → Int → zH → (Int → zH → Option ρ) → Option ρ) (F_M_compute : Int → Int → Int → zH → (Int → zH → Option ρ) → Option ρ) (c413 : Int → Int → Int → Int → zH → Option ρ) (a1 a2 a3 a4 a5 a7 a8 : Int) (h : zH) : (zix 160 a4 fun j1 =>
zix 160 a4 fun j2 =>
F_M_lane a2 (zhD h 67 0 j2) h  fun v3 h4 =>
zix 160 a4 fun j5 =>
F_M_lane a2 (zhD h4 68 0 j5) h4  fun v6 h7 =>
F_M_compute a3 v3 v6 h7  fun v8 h9 =>
F_M_set a1 a2 (zhD h 66 0 j1) v8 h9  fun _ h11 =>
c413 a3 a5 a7 a8 h11) = zseg zPP false (zcal [(106, [some 0, none, none], fun xs h kr kt => match xs with
  | [x1, x2] => F_M_lane x1 x2 h kr
  | _ => none), (107, [some 0, none, none, none, none], fun xs h kr kt => match xs with
  | [x1, x2, x3, x4] => F_M_set x1 x2 x3 x4 h kr
  | _ => none), (115, [none, none, none], fun xs h kr kt => match xs with
  | [x0, x1, x2] => F_M_compute x0 x1 x2 h kr
  | _ => none)]) (zget (999, 0, 0, 0) zc_M_doLane) (zcut zu_M_doLane) (zorc [(413, [some (112, some 0), none, none, some (0, none), none, some (0, none), none, some (0, none), some (0, none), none], [], fun xs h => match xs with
  | [a3, a5, a7, a8] => c413 a3 a5 a7 a8 h
  | _ => none)]) kr (fun _ _ => none) 400 372 [some (112, 0), some (0, a1), some (0, a2), some (0, a3), some (0, a4), some (0, a5), none, some (0, a7), some (0, a8), none] [] h := by rfl
set_option maxRecDepth 100000 in
theorem qe_M_doLane_372 {ρ : Type} (kr : Int → zH → Option ρ) (a1 a2 a3 a4 a5 a7 a8 : Int) (h : zH) : M_doLane_372 kr a1 a2 a3 a4 a5 a7 a8 h = zseg zPP false (zcal [(106, [some 0, none, none], fun xs h kr kt => match xs with
  | [x1, x2] => M_lane x1 x2 h kr
  | _ => none), (107, [some 0, none, none, none, none], fun xs h kr kt => match xs with
  | [x1, x2, x3, x4] => M_set x1 x2 x3 x4 h kr
  | _ => none), (115, [none, none, none], fun xs h kr kt => match xs with
  | [x0, x1, x2] => M_compute x0 x1 x2 h kr
  | _ => none)]) (zget (999, 0, 0, 0) zc_M_doLane) (zcut zu_M_doLane) (zorc [(413, [some (112, some 0), none, none, some (0, none), none, some (0, none), none, some (0, none), some (0, none), none], [], fun xs h => match xs with
  | [a3, a5, a7, a8] => M_doLane_413 kr a3 a5 a7 a8 h
  | _ => none)]) kr (fun _ _ => none) 400 372 [some (112, 0), some (0, a1), some (0, a2), some (0, a3), some (0, a4), some (0, a5), none, some (0, a7), some (0, a8), none] [] h := qg_M_doLane_372 kr M_lane M_set M_compute (M_doLane_413 kr) a1 a2 a3 a4 a5 a7 a8 h
set_option maxRecDepth 100000 in
theorem qg_M_doLane {ρ : Type} (kr : Int → zH → Option ρ) (F_M_launchChild : Int → Int → Int → zH → (Int → zH → Option ρ) → Option ρ) (F_M_threadCell : Int → Int → zH → (Int → zH → Option ρ) → Option ρ) (F_M_lane : Int → Int → zH → (Int → zH → Option ρ) → Option ρ) (F_M_set : Int → Int → Int → Int → zH → (Int → zH → Option ρ) → Option ρ) (F_M_isUnder : Int → zH → (Int → zH → Option ρ) → Option ρ) (F_M_modulo : Int → zH → (Int → zH → Option ρ) → Option ρ) (F_M_vote : Int → zH → (Int → zH → Option ρ) → Option ρ) (c88 : Int → Int → Int → Int → Int → Int → Int → Int → zH → Option ρ) (c212 : Int → Int → Int → Int → Int → Int → Int → Int → Int → zH → Option ρ) (c261 : Int → Int → Int → Int → zH → Option ρ) (c336 : Int → Int → Int → Int → Int → Int → Int → Int → zH → Option ρ) (c372 : Int → Int → Int → Int → Int → Int → Int → zH → Option ρ) (c413 : Int → Int → Int → Int → zH → Option ρ) (a1 a2 a3 a4 : Int) (h : zH) : (zix 8 a1 fun j1 =>
zix 8 a1 fun j2 =>
F_M_threadCell (zhD h 94 0 j1) (wr ((wr (4 * (zhD h 95 0 j2))) + a2)) h  fun v3 h4 =>
zix 1152 v3 fun j5 =>
if a3 = 107 then (zix 160 a4 fun j32 =>
zix 160 a4 fun j33 =>
F_M_set a1 a2 (zhD h4 66 0 j32) (zhD h4 67 0 j33) h4  fun _ h35 =>
c413 a3 (zhD h 94 0 j1) v3 (wr ((zhD h4 90 0 j5) + 1)) h35)
else if a3 = 116 then c88 a1 a2 a3 a4 (zhD h 94 0 j1) (wr ((wr (4 * (zhD h 95 0 j2))) + a2)) v3 (wr ((zhD h4 90 0 j5) + 1)) h4
else if a3 = 110 then c88 a1 a2 a3 a4 (zhD h 94 0 j1) (wr ((wr (4 * (zhD h 95 0 j2))) + a2)) v3 (wr ((zhD h4 90 0 j5) + 1)) h4
else if a3 = 108 then c88 a1 a2 a3 a4 (zhD h 94 0 j1) (wr ((wr (4 * (zhD h 95 0 j2))) + a2)) v3 (wr ((zhD h4 90 0 j5) + 1)) h4
else if a3 = 118 then (zix 160 a4 fun j26 =>
zix 160 a4 fun j27 =>
F_M_vote (zhD h4 67 0 j27) h4  fun v28 h29 =>
F_M_set a1 a2 (zhD h4 66 0 j26) v28 h29  fun _ h31 =>
c413 a3 (zhD h 94 0 j1) v3 (wr ((zhD h4 90 0 j5) + 1)) h31)
else if a3 = 115 then (zix 160 a4 fun j18 =>
F_M_lane a2 (zhD h4 68 0 j18) h4  fun v19 h20 =>
F_M_modulo v19 h20  fun v21 h22 =>
zix 160 a4 fun j23 =>
F_M_isUnder v21 h22  fun v24 h25 =>
if v24 = 0 then c212 a3 a4 (zhD h 94 0 j1) v3 (wr ((zhD h4 90 0 j5) + 1)) a2 (zhD h22 66 0 j23) a2 a1 h25
else c212 a3 a4 (zhD h 94 0 j1) v3 (wr ((zhD h4 90 0 j5) + 1)) v21 (zhD h22 66 0 j23) a2 a1 h25)
else if a3 = 122 then (zix 160 a4 fun j14 =>
F_M_lane a2 (zhD h4 66 0 j14) h4  fun v15 h16 =>
if v15 = 0 then (zix 160 a4 fun j17 =>
c261 a3 (zhD h 94 0 j1) v3 (zhD h16 67 0 j17) h16)
else c261 a3 (zhD h 94 0 j1) v3 (wr ((zhD h4 90 0 j5) + 1)) h16)
else if a3 = 106 then (zix 160 a4 fun j13 =>
c413 a3 (zhD h 94 0 j1) v3 (zhD h4 67 0 j13) h4)
else if a3 = 99 then (zix 160 a4 fun j6 =>
zix 160 a4 fun j7 =>
zix 160 a4 fun j8 =>
F_M_lane a2 (zhD h4 68 0 j8) h4  fun v9 h10 =>
F_M_launchChild (wr (Int.tdiv (zhD h 94 0 j1) 6)) (zhD h4 67 0 j7) v9 h10  fun v11 h12 =>
if v11 = 0 then c336 a3 (zhD h 94 0 j1) v3 (wr ((zhD h4 90 0 j5) + 1)) 0 (zhD h4 66 0 j6) a2 a1 h12
else c336 a3 (zhD h 94 0 j1) v3 (wr ((zhD h4 90 0 j5) + 1)) 1 (zhD h4 66 0 j6) a2 a1 h12)
else if a3 = 43 then c372 a1 a2 a3 a4 (zhD h 94 0 j1) v3 (wr ((zhD h4 90 0 j5) + 1)) h4
else if a3 = 45 then c372 a1 a2 a3 a4 (zhD h 94 0 j1) v3 (wr ((zhD h4 90 0 j5) + 1)) h4
else if a3 = 42 then c372 a1 a2 a3 a4 (zhD h 94 0 j1) v3 (wr ((zhD h4 90 0 j5) + 1)) h4
else if a3 = 60 then c372 a1 a2 a3 a4 (zhD h 94 0 j1) v3 (wr ((zhD h4 90 0 j5) + 1)) h4
else if a3 = 61 then c372 a1 a2 a3 a4 (zhD h 94 0 j1) v3 (wr ((zhD h4 90 0 j5) + 1)) h4
else c413 a3 (zhD h 94 0 j1) v3 (wr ((zhD h4 90 0 j5) + 1)) h4) = zseg zPP false (zcal [(82, [some 0, none, none, none], fun xs h kr kt => match xs with
  | [x1, x2, x3] => F_M_launchChild x1 x2 x3 h kr
  | _ => none), (93, [some 0, none, none], fun xs h kr kt => match xs with
  | [x1, x2] => F_M_threadCell x1 x2 h kr
  | _ => none), (106, [some 0, none, none], fun xs h kr kt => match xs with
  | [x1, x2] => F_M_lane x1 x2 h kr
  | _ => none), (107, [some 0, none, none, none, none], fun xs h kr kt => match xs with
  | [x1, x2, x3, x4] => F_M_set x1 x2 x3 x4 h kr
  | _ => none), (108, [some 0, none], fun xs h kr kt => match xs with
  | [x1] => F_M_isUnder x1 h kr
  | _ => none), (109, [none], fun xs h kr kt => match xs with
  | [x0] => F_M_modulo x0 h kr
  | _ => none), (110, [some 0, none], fun xs h kr kt => match xs with
  | [x1] => F_M_vote x1 h kr
  | _ => none)]) (zget (999, 0, 0, 0) zc_M_doLane) (zcut zu_M_doLane) (zorc [(88, [some (112, some 0), some (0, none), some (0, none), some (0, none), some (0, none), some (0, none), some (0, none), some (0, none), some (0, none), none], [], fun xs h => match xs with
  | [a1, a2, a3, a4, a5, a6, a7, a8] => c88 a1 a2 a3 a4 a5 a6 a7 a8 h
  | _ => none), (212, [some (112, some 0), none, none, some (0, none), some (0, none), some (0, none), none, some (0, none), some (0, none), none], [(0, none), (112, some 0), (0, none), (0, none), (0, none), (112, some 0)], fun xs h => match xs with
  | [a3, a4, a5, a7, a8, t0, t2, t3, t4] => c212 a3 a4 a5 a7 a8 t0 t2 t3 t4 h
  | _ => none), (261, [some (112, some 0), none, none, some (0, none), none, some (0, none), none, some (0, none), none, none], [(0, none)], fun xs h => match xs with
  | [a3, a5, a7, t0] => c261 a3 a5 a7 t0 h
  | _ => none), (336, [some (112, some 0), none, none, some (0, none), none, some (0, none), none, some (0, none), some (0, none), none], [(0, none), (0, none), (0, none), (0, none), (112, some 0)], fun xs h => match xs with
  | [a3, a5, a7, a8, t0, t1, t2, t3] => c336 a3 a5 a7 a8 t0 t1 t2 t3 h
  | _ => none), (372, [some (112, some 0), some (0, none), some (0, none), some (0, none), some (0, none), some (0, none), none, some (0, none), some (0, none), none], [], fun xs h => match xs with
  | [a1, a2, a3, a4, a5, a7, a8] => c372 a1 a2 a3 a4 a5 a7 a8 h
  | _ => none), (413, [some (112, some 0), none, none, some (0, none), none, some (0, none), none, some (0, none), some (0, none), none], [], fun xs h => match xs with
  | [a3, a5, a7, a8] => c413 a3 a5 a7 a8 h
  | _ => none)]) kr (fun _ _ => none) 400 0 [some (112, 0), some (0, a1), some (0, a2), some (0, a3), some (0, a4), none, none, none, none, none] [] h := by rfl
set_option maxRecDepth 100000 in
theorem qe_M_doLane {ρ : Type} (kr : Int → zH → Option ρ) (a1 a2 a3 a4 : Int) (h : zH) : M_doLane a1 a2 a3 a4 h kr = zseg zPP false (zcal [(82, [some 0, none, none, none], fun xs h kr kt => match xs with
  | [x1, x2, x3] => M_launchChild x1 x2 x3 h kr
  | _ => none), (93, [some 0, none, none], fun xs h kr kt => match xs with
  | [x1, x2] => M_threadCell x1 x2 h kr
  | _ => none), (106, [some 0, none, none], fun xs h kr kt => match xs with
  | [x1, x2] => M_lane x1 x2 h kr
  | _ => none), (107, [some 0, none, none, none, none], fun xs h kr kt => match xs with
  | [x1, x2, x3, x4] => M_set x1 x2 x3 x4 h kr
  | _ => none), (108, [some 0, none], fun xs h kr kt => match xs with
  | [x1] => M_isUnder x1 h kr
  | _ => none), (109, [none], fun xs h kr kt => match xs with
  | [x0] => M_modulo x0 h kr
  | _ => none), (110, [some 0, none], fun xs h kr kt => match xs with
  | [x1] => M_vote x1 h kr
  | _ => none)]) (zget (999, 0, 0, 0) zc_M_doLane) (zcut zu_M_doLane) (zorc [(88, [some (112, some 0), some (0, none), some (0, none), some (0, none), some (0, none), some (0, none), some (0, none), some (0, none), some (0, none), none], [], fun xs h => match xs with
  | [a1, a2, a3, a4, a5, a6, a7, a8] => M_doLane_88 kr a1 a2 a3 a4 a5 a6 a7 a8 h
  | _ => none), (212, [some (112, some 0), none, none, some (0, none), some (0, none), some (0, none), none, some (0, none), some (0, none), none], [(0, none), (112, some 0), (0, none), (0, none), (0, none), (112, some 0)], fun xs h => match xs with
  | [a3, a4, a5, a7, a8, t0, t2, t3, t4] => M_doLane_212 kr a3 a4 a5 a7 a8 t0 t2 t3 t4 h
  | _ => none), (261, [some (112, some 0), none, none, some (0, none), none, some (0, none), none, some (0, none), none, none], [(0, none)], fun xs h => match xs with
  | [a3, a5, a7, t0] => M_doLane_261 kr a3 a5 a7 t0 h
  | _ => none), (336, [some (112, some 0), none, none, some (0, none), none, some (0, none), none, some (0, none), some (0, none), none], [(0, none), (0, none), (0, none), (0, none), (112, some 0)], fun xs h => match xs with
  | [a3, a5, a7, a8, t0, t1, t2, t3] => M_doLane_336 kr a3 a5 a7 a8 t0 t1 t2 t3 h
  | _ => none), (372, [some (112, some 0), some (0, none), some (0, none), some (0, none), some (0, none), some (0, none), none, some (0, none), some (0, none), none], [], fun xs h => match xs with
  | [a1, a2, a3, a4, a5, a7, a8] => M_doLane_372 kr a1 a2 a3 a4 a5 a7 a8 h
  | _ => none), (413, [some (112, some 0), none, none, some (0, none), none, some (0, none), none, some (0, none), some (0, none), none], [], fun xs h => match xs with
  | [a3, a5, a7, a8] => M_doLane_413 kr a3 a5 a7 a8 h
  | _ => none)]) kr (fun _ _ => none) 400 0 [some (112, 0), some (0, a1), some (0, a2), some (0, a3), some (0, a4), none, none, none, none, none] [] h := qg_M_doLane kr M_launchChild M_threadCell M_lane M_set M_isUnder M_modulo M_vote (M_doLane_88 kr) (M_doLane_212 kr) (M_doLane_261 kr) (M_doLane_336 kr) (M_doLane_372 kr) (M_doLane_413 kr) a1 a2 a3 a4 h
def zc_M_isNew : List zI := [(14, 0, 0, 112), (10, 0, 3, 0), (110, 0, 287, 108), (999, 0, 0, 0), (999, 0, 0, 0), (17, 0, 4, 0), (999, 0, 0, 0), (0, 0, 0, 0), (17, 0, 5, 0), (999, 0, 0, 0), (11, 0, 5, 0), (999, 0, 0, 0), (10, 0, 3, 0), (69, 48, 61, 0), (999, 0, 0, 0), (999, 0, 0, 0), (11, 0, 4, 0), (999, 0, 0, 0), (60, 34, 52, 0), (999, 0, 0, 0), (999, 0, 0, 0), (14, 0, 0, 112), (11, 0, 5, 0), (999, 0, 0, 0), (110, 0, 287, 108), (999, 0, 0, 0), (999, 0, 0, 0), (60, 21, 48, 0), (999, 0, 0, 0), (999, 0, 0, 0), (14, 0, 0, 112), (10, 0, 1, 0), (10, 0, 2, 0), (11, 0, 5, 0), (999, 0, 0, 0), (110, 0, 293, 112), (999, 0, 0, 0), (999, 0, 0, 0), (14, 0, 0, 112), (10, 0, 1, 0), (10, 0, 2, 0), (10, 0, 3, 0), (110, 0, 293, 112), (999, 0, 0, 0), (999, 0, 0, 0), (66, 7, 52, 0), (999, 0, 0, 0), (999, 0, 0, 0), (0, 1, 0, 0), (72, 4, 53, 0), (999, 0, 0, 0), (999, 0, 0, 0), (0, 0, 0, 0), (17, 0, 4, 0), (999, 0, 0, 0), (22, 1, 5, 0), (999, 0, 0, 0), (999, 0, 0, 0), (72, (-48), 10, 0), (999, 0, 0, 0), (999, 0, 0, 0), (11, 0, 4, 0), (999, 0, 0, 0), (130, 0, 1, 0)]
def zu_M_isNew : List (Nat × List Bool) := [(10, [true, true, true, true, true, true]), (48, [true, true, true, true, false, true]), (52, [true, true, true, true, false, true]), (53, [true, true, true, true, false, true])]
set_option maxRecDepth 100000 in
theorem qg_M_isNew_53 {ρ : Type} (kr : Int → zH → Option ρ) (r10 : Int → Int → Int → Int → Int → zH → Option ρ) (a1 a2 a3 a5 t0 : Int) (h : zH) : (r10 a1 a2 a3 t0 (wr (a5 + 1)) h) = zseg zPP false (zcal []) (zget (999, 0, 0, 0) zc_M_isNew) (zcut zu_M_isNew) (zorc [(10, [some (112, some 0), some (0, none), some (0, none), some (0, none), some (0, none), some (0, none)], [], fun xs h => match xs with
  | [a1, a2, a3, a4, a5] => r10 a1 a2 a3 a4 a5 h
  | _ => none)]) kr (fun _ _ => none) 400 53 [some (112, 0), some (0, a1), some (0, a2), some (0, a3), none, some (0, a5)] [(0, t0)] h := by rfl
set_option maxRecDepth 100000 in
theorem qe_M_isNew_53 {ρ : Type} (kr : Int → zH → Option ρ) (r10 : Int → Int → Int → Int → Int → zH → Option ρ) (a1 a2 a3 a5 t0 : Int) (h : zH) : M_isNew_53 kr r10 a1 a2 a3 a5 t0 h = zseg zPP false (zcal []) (zget (999, 0, 0, 0) zc_M_isNew) (zcut zu_M_isNew) (zorc [(10, [some (112, some 0), some (0, none), some (0, none), some (0, none), some (0, none), some (0, none)], [], fun xs h => match xs with
  | [a1, a2, a3, a4, a5] => r10 a1 a2 a3 a4 a5 h
  | _ => none)]) kr (fun _ _ => none) 400 53 [some (112, 0), some (0, a1), some (0, a2), some (0, a3), none, some (0, a5)] [(0, t0)] h := qg_M_isNew_53 kr r10 a1 a2 a3 a5 t0 h
set_option maxRecDepth 100000 in
theorem qg_M_isNew_48 {ρ : Type} (kr : Int → zH → Option ρ) (r10 : Int → Int → Int → Int → Int → zH → Option ρ) (c53 : Int → Int → Int → Int → Int → zH → Option ρ) (a1 a2 a3 a5 : Int) (h : zH) : (c53 a1 a2 a3 a5 1 h) = zseg zPP false (zcal []) (zget (999, 0, 0, 0) zc_M_isNew) (zcut zu_M_isNew) (zorc [(53, [some (112, some 0), some (0, none), some (0, none), some (0, none), none, some (0, none)], [(0, none)], fun xs h => match xs with
  | [a1, a2, a3, a5, t0] => c53 a1 a2 a3 a5 t0 h
  | _ => none)]) kr (fun _ _ => none) 400 48 [some (112, 0), some (0, a1), some (0, a2), some (0, a3), none, some (0, a5)] [] h := by rfl
set_option maxRecDepth 100000 in
theorem qe_M_isNew_48 {ρ : Type} (kr : Int → zH → Option ρ) (r10 : Int → Int → Int → Int → Int → zH → Option ρ) (a1 a2 a3 a5 : Int) (h : zH) : M_isNew_48 kr r10 a1 a2 a3 a5 h = zseg zPP false (zcal []) (zget (999, 0, 0, 0) zc_M_isNew) (zcut zu_M_isNew) (zorc [(53, [some (112, some 0), some (0, none), some (0, none), some (0, none), none, some (0, none)], [(0, none)], fun xs h => match xs with
  | [a1, a2, a3, a5, t0] => M_isNew_53 kr r10 a1 a2 a3 a5 t0 h
  | _ => none)]) kr (fun _ _ => none) 400 48 [some (112, 0), some (0, a1), some (0, a2), some (0, a3), none, some (0, a5)] [] h := qg_M_isNew_48 kr r10 (M_isNew_53 kr r10) a1 a2 a3 a5 h
set_option maxRecDepth 100000 in
theorem qg_M_isNew_52 {ρ : Type} (kr : Int → zH → Option ρ) (r10 : Int → Int → Int → Int → Int → zH → Option ρ) (c53 : Int → Int → Int → Int → Int → zH → Option ρ) (a1 a2 a3 a5 : Int) (h : zH) : (c53 a1 a2 a3 a5 0 h) = zseg zPP false (zcal []) (zget (999, 0, 0, 0) zc_M_isNew) (zcut zu_M_isNew) (zorc [(53, [some (112, some 0), some (0, none), some (0, none), some (0, none), none, some (0, none)], [(0, none)], fun xs h => match xs with
  | [a1, a2, a3, a5, t0] => c53 a1 a2 a3 a5 t0 h
  | _ => none)]) kr (fun _ _ => none) 400 52 [some (112, 0), some (0, a1), some (0, a2), some (0, a3), none, some (0, a5)] [] h := by rfl
set_option maxRecDepth 100000 in
theorem qe_M_isNew_52 {ρ : Type} (kr : Int → zH → Option ρ) (r10 : Int → Int → Int → Int → Int → zH → Option ρ) (a1 a2 a3 a5 : Int) (h : zH) : M_isNew_52 kr r10 a1 a2 a3 a5 h = zseg zPP false (zcal []) (zget (999, 0, 0, 0) zc_M_isNew) (zcut zu_M_isNew) (zorc [(53, [some (112, some 0), some (0, none), some (0, none), some (0, none), none, some (0, none)], [(0, none)], fun xs h => match xs with
  | [a1, a2, a3, a5, t0] => M_isNew_53 kr r10 a1 a2 a3 a5 t0 h
  | _ => none)]) kr (fun _ _ => none) 400 52 [some (112, 0), some (0, a1), some (0, a2), some (0, a3), none, some (0, a5)] [] h := qg_M_isNew_52 kr r10 (M_isNew_53 kr r10) a1 a2 a3 a5 h
set_option maxRecDepth 100000 in
theorem qg_M_isNew_10b {ρ : Type} (kr : Int → zH → Option ρ) (r10 : Int → Int → Int → Int → Int → zH → Option ρ) (F_M_isUnder : Int → zH → (Int → zH → Option ρ) → Option ρ) (F_M_cellOf : Int → Int → Int → zH → (Int → zH → Option ρ) → Option ρ) (c48 : Int → Int → Int → Int → zH → Option ρ) (c52 : Int → Int → Int → Int → zH → Option ρ) (a1 a2 a3 a4 a5 : Int) (h : zH) : (if a5 < a3 then (if a4 = 0 then c52 a1 a2 a3 a5 h
else F_M_isUnder a5 h  fun v2 h3 =>
if v2 = 0 then c48 a1 a2 a3 a5 h3
else F_M_cellOf a1 a2 a5 h3  fun v4 h5 =>
F_M_cellOf a1 a2 a3 h5  fun v6 h7 =>
if v4 = v6 then c52 a1 a2 a3 a5 h7
else c48 a1 a2 a3 a5 h7)
else znar 1 a4 fun x1 => kr x1 h) = zseg zPP false (zcal [(108, [some 0, none], fun xs h kr kt => match xs with
  | [x1] => F_M_isUnder x1 h kr
  | _ => none), (112, [some 0, none, none, none], fun xs h kr kt => match xs with
  | [x1, x2, x3] => F_M_cellOf x1 x2 x3 h kr
  | _ => none)]) (zget (999, 0, 0, 0) zc_M_isNew) (zcut zu_M_isNew) (zorc [(48, [some (112, some 0), some (0, none), some (0, none), some (0, none), none, some (0, none)], [], fun xs h => match xs with
  | [a1, a2, a3, a5] => c48 a1 a2 a3 a5 h
  | _ => none), (52, [some (112, some 0), some (0, none), some (0, none), some (0, none), none, some (0, none)], [], fun xs h => match xs with
  | [a1, a2, a3, a5] => c52 a1 a2 a3 a5 h
  | _ => none)]) kr (fun _ _ => none) 400 10 [some (112, 0), some (0, a1), some (0, a2), some (0, a3), some (0, a4), some (0, a5)] [] h := by rfl
set_option maxRecDepth 100000 in
theorem qe_M_isNew_10b {ρ : Type} (kr : Int → zH → Option ρ) (r10 : Int → Int → Int → Int → Int → zH → Option ρ) (a1 a2 a3 a4 a5 : Int) (h : zH) : M_isNew_10b kr r10 a1 a2 a3 a4 a5 h = zseg zPP false (zcal [(108, [some 0, none], fun xs h kr kt => match xs with
  | [x1] => M_isUnder x1 h kr
  | _ => none), (112, [some 0, none, none, none], fun xs h kr kt => match xs with
  | [x1, x2, x3] => M_cellOf x1 x2 x3 h kr
  | _ => none)]) (zget (999, 0, 0, 0) zc_M_isNew) (zcut zu_M_isNew) (zorc [(48, [some (112, some 0), some (0, none), some (0, none), some (0, none), none, some (0, none)], [], fun xs h => match xs with
  | [a1, a2, a3, a5] => M_isNew_48 kr r10 a1 a2 a3 a5 h
  | _ => none), (52, [some (112, some 0), some (0, none), some (0, none), some (0, none), none, some (0, none)], [], fun xs h => match xs with
  | [a1, a2, a3, a5] => M_isNew_52 kr r10 a1 a2 a3 a5 h
  | _ => none)]) kr (fun _ _ => none) 400 10 [some (112, 0), some (0, a1), some (0, a2), some (0, a3), some (0, a4), some (0, a5)] [] h := qg_M_isNew_10b kr r10 M_isUnder M_cellOf (M_isNew_48 kr r10) (M_isNew_52 kr r10) a1 a2 a3 a4 a5 h
set_option maxRecDepth 100000 in
theorem qg_M_isNew {ρ : Type} (kr : Int → zH → Option ρ) (F_M_isUnder : Int → zH → (Int → zH → Option ρ) → Option ρ) (c10 : Int → Int → Int → Int → Int → zH → Option ρ) (a1 a2 a3 : Int) (h : zH) : (F_M_isUnder a3 h  fun v1 h2 =>
c10 a1 a2 a3 v1 0 h2) = zseg zPP false (zcal [(108, [some 0, none], fun xs h kr kt => match xs with
  | [x1] => F_M_isUnder x1 h kr
  | _ => none)]) (zget (999, 0, 0, 0) zc_M_isNew) (zcut zu_M_isNew) (zorc [(10, [some (112, some 0), some (0, none), some (0, none), some (0, none), some (0, none), some (0, none)], [], fun xs h => match xs with
  | [a1, a2, a3, a4, a5] => c10 a1 a2 a3 a4 a5 h
  | _ => none)]) kr (fun _ _ => none) 400 0 [some (112, 0), some (0, a1), some (0, a2), some (0, a3), none, none] [] h := by rfl
set_option maxRecDepth 100000 in
theorem qe_M_isNew {ρ : Type} (kr : Int → zH → Option ρ) (a1 a2 a3 : Int) (h : zH) : M_isNew a1 a2 a3 h kr = zseg zPP false (zcal [(108, [some 0, none], fun xs h kr kt => match xs with
  | [x1] => M_isUnder x1 h kr
  | _ => none)]) (zget (999, 0, 0, 0) zc_M_isNew) (zcut zu_M_isNew) (zorc [(10, [some (112, some 0), some (0, none), some (0, none), some (0, none), some (0, none), some (0, none)], [], fun xs h => match xs with
  | [a1, a2, a3, a4, a5] => M_isNew_10 kr a1 a2 a3 a4 a5 h
  | _ => none)]) kr (fun _ _ => none) 400 0 [some (112, 0), some (0, a1), some (0, a2), some (0, a3), none, none] [] h := qg_M_isNew kr M_isUnder (M_isNew_10 kr) a1 a2 a3 h
def zc_M_banks : List zI := [(0, 0, 0, 0), (16, 0, 3, 0), (0, 0, 0, 0), (17, 0, 4, 0), (999, 0, 0, 0), (11, 0, 4, 0), (999, 0, 0, 0), (0, 4, 0, 0), (69, 76, 84, 0), (999, 0, 0, 0), (999, 0, 0, 0), (0, 0, 0, 0), (17, 0, 5, 0), (999, 0, 0, 0), (0, 0, 0, 0), (17, 0, 6, 0), (999, 0, 0, 0), (11, 0, 6, 0), (999, 0, 0, 0), (0, 4, 0, 0), (69, 45, 65, 0), (999, 0, 0, 0), (999, 0, 0, 0), (11, 0, 5, 0), (999, 0, 0, 0), (14, 0, 0, 112), (10, 0, 1, 0), (10, 0, 2, 0), (11, 0, 6, 0), (999, 0, 0, 0), (110, 0, 337, 119), (999, 0, 0, 0), (999, 0, 0, 0), (60, 22, 55, 0), (999, 0, 0, 0), (999, 0, 0, 0), (14, 0, 0, 112), (10, 0, 1, 0), (10, 0, 2, 0), (11, 0, 6, 0), (999, 0, 0, 0), (110, 0, 293, 112), (999, 0, 0, 0), (999, 0, 0, 0), (0, 4, 0, 0), (34, 0, 0, 0), (11, 0, 4, 0), (999, 0, 0, 0), (67, 7, 55, 0), (999, 0, 0, 0), (999, 0, 0, 0), (0, 1, 0, 0), (72, 4, 56, 0), (999, 0, 0, 0), (999, 0, 0, 0), (0, 0, 0, 0), (30, 0, 0, 0), (17, 0, 5, 0), (999, 0, 0, 0), (22, 1, 6, 0), (999, 0, 0, 0), (999, 0, 0, 0), (72, (-45), 17, 0), (999, 0, 0, 0), (999, 0, 0, 0), (11, 0, 5, 0), (999, 0, 0, 0), (10, 0, 3, 0), (71, 8, 76, 0), (999, 0, 0, 0), (999, 0, 0, 0), (11, 0, 5, 0), (999, 0, 0, 0), (72, 4, 77, 0), (999, 0, 0, 0), (999, 0, 0, 0), (10, 0, 3, 0), (16, 0, 3, 0), (22, 1, 4, 0), (999, 0, 0, 0), (999, 0, 0, 0), (72, (-76), 5, 0), (999, 0, 0, 0), (999, 0, 0, 0), (10, 0, 3, 0), (130, 0, 0, 0)]
def zu_M_banks : List (Nat × List Bool) := [(5, [true, true, true, true, true, false, false]), (17, [true, true, true, true, true, true, true]), (55, [true, true, true, true, true, false, true]), (56, [true, true, true, true, true, false, true]), (77, [true, true, true, false, true, false, false])]
set_option maxRecDepth 100000 in
theorem qg_M_banks_56 {ρ : Type} (kr : Int → zH → Option ρ) (r5 : Int → Int → Int → Int → zH → Option ρ) (r17 : Int → Int → Int → Int → Int → Int → zH → Option ρ) (a1 a2 a3 a4 a6 t0 t1 : Int) (h : zH) : (r17 a1 a2 a3 a4 (wr (t1 + t0)) (wr (a6 + 1)) h) = zseg zPP false (zcal []) (zget (999, 0, 0, 0) zc_M_banks) (zcut zu_M_banks) (zorc [(17, [some (112, some 0), some (0, none), some (0, none), some (0, none), some (0, none), some (0, none), some (0, none)], [], fun xs h => match xs with
  | [a1, a2, a3, a4, a5, a6] => r17 a1 a2 a3 a4 a5 a6 h
  | _ => none)]) kr (fun _ _ => none) 400 56 [some (112, 0), some (0, a1), some (0, a2), some (0, a3), some (0, a4), none, some (0, a6)] [(0, t0), (0, t1)] h := by rfl
set_option maxRecDepth 100000 in
theorem qe_M_banks_56 {ρ : Type} (kr : Int → zH → Option ρ) (r5 : Int → Int → Int → Int → zH → Option ρ) (r17 : Int → Int → Int → Int → Int → Int → zH → Option ρ) (a1 a2 a3 a4 a6 t0 t1 : Int) (h : zH) : M_banks_56 kr r5 r17 a1 a2 a3 a4 a6 t0 t1 h = zseg zPP false (zcal []) (zget (999, 0, 0, 0) zc_M_banks) (zcut zu_M_banks) (zorc [(17, [some (112, some 0), some (0, none), some (0, none), some (0, none), some (0, none), some (0, none), some (0, none)], [], fun xs h => match xs with
  | [a1, a2, a3, a4, a5, a6] => r17 a1 a2 a3 a4 a5 a6 h
  | _ => none)]) kr (fun _ _ => none) 400 56 [some (112, 0), some (0, a1), some (0, a2), some (0, a3), some (0, a4), none, some (0, a6)] [(0, t0), (0, t1)] h := qg_M_banks_56 kr r5 r17 a1 a2 a3 a4 a6 t0 t1 h
set_option maxRecDepth 100000 in
theorem qg_M_banks_55 {ρ : Type} (kr : Int → zH → Option ρ) (r5 : Int → Int → Int → Int → zH → Option ρ) (r17 : Int → Int → Int → Int → Int → Int → zH → Option ρ) (c56 : Int → Int → Int → Int → Int → Int → Int → zH → Option ρ) (a1 a2 a3 a4 a6 t0 : Int) (h : zH) : (c56 a1 a2 a3 a4 a6 0 t0 h) = zseg zPP false (zcal []) (zget (999, 0, 0, 0) zc_M_banks) (zcut zu_M_banks) (zorc [(56, [some (112, some 0), some (0, none), some (0, none), some (0, none), some (0, none), none, some (0, none)], [(0, none), (0, none)], fun xs h => match xs with
  | [a1, a2, a3, a4, a6, t0, t1] => c56 a1 a2 a3 a4 a6 t0 t1 h
  | _ => none)]) kr (fun _ _ => none) 400 55 [some (112, 0), some (0, a1), some (0, a2), some (0, a3), some (0, a4), none, some (0, a6)] [(0, t0)] h := by rfl
set_option maxRecDepth 100000 in
theorem qe_M_banks_55 {ρ : Type} (kr : Int → zH → Option ρ) (r5 : Int → Int → Int → Int → zH → Option ρ) (r17 : Int → Int → Int → Int → Int → Int → zH → Option ρ) (a1 a2 a3 a4 a6 t0 : Int) (h : zH) : M_banks_55 kr r5 r17 a1 a2 a3 a4 a6 t0 h = zseg zPP false (zcal []) (zget (999, 0, 0, 0) zc_M_banks) (zcut zu_M_banks) (zorc [(56, [some (112, some 0), some (0, none), some (0, none), some (0, none), some (0, none), none, some (0, none)], [(0, none), (0, none)], fun xs h => match xs with
  | [a1, a2, a3, a4, a6, t0, t1] => M_banks_56 kr r5 r17 a1 a2 a3 a4 a6 t0 t1 h
  | _ => none)]) kr (fun _ _ => none) 400 55 [some (112, 0), some (0, a1), some (0, a2), some (0, a3), some (0, a4), none, some (0, a6)] [(0, t0)] h := qg_M_banks_55 kr r5 r17 (M_banks_56 kr r5 r17) a1 a2 a3 a4 a6 t0 h
set_option maxRecDepth 100000 in
theorem qg_M_banks_77 {ρ : Type} (kr : Int → zH → Option ρ) (r5 : Int → Int → Int → Int → zH → Option ρ) (a1 a2 a4 t0 : Int) (h : zH) : (r5 a1 a2 t0 (wr (a4 + 1)) h) = zseg zPP false (zcal []) (zget (999, 0, 0, 0) zc_M_banks) (zcut zu_M_banks) (zorc [(5, [some (112, some 0), some (0, none), some (0, none), some (0, none), some (0, none), none, none], [], fun xs h => match xs with
  | [a1, a2, a3, a4] => r5 a1 a2 a3 a4 h
  | _ => none)]) kr (fun _ _ => none) 400 77 [some (112, 0), some (0, a1), some (0, a2), none, some (0, a4), none, none] [(0, t0)] h := by rfl
set_option maxRecDepth 100000 in
theorem qe_M_banks_77 {ρ : Type} (kr : Int → zH → Option ρ) (r5 : Int → Int → Int → Int → zH → Option ρ) (a1 a2 a4 t0 : Int) (h : zH) : M_banks_77 kr r5 a1 a2 a4 t0 h = zseg zPP false (zcal []) (zget (999, 0, 0, 0) zc_M_banks) (zcut zu_M_banks) (zorc [(5, [some (112, some 0), some (0, none), some (0, none), some (0, none), some (0, none), none, none], [], fun xs h => match xs with
  | [a1, a2, a3, a4] => r5 a1 a2 a3 a4 h
  | _ => none)]) kr (fun _ _ => none) 400 77 [some (112, 0), some (0, a1), some (0, a2), none, some (0, a4), none, none] [(0, t0)] h := qg_M_banks_77 kr r5 a1 a2 a4 t0 h
set_option maxRecDepth 100000 in
theorem qg_M_banks_17b {ρ : Type} (kr : Int → zH → Option ρ) (r5 : Int → Int → Int → Int → zH → Option ρ) (r17 : Int → Int → Int → Int → Int → Int → zH → Option ρ) (F_M_cellOf : Int → Int → Int → zH → (Int → zH → Option ρ) → Option ρ) (F_M_isNew : Int → Int → Int → zH → (Int → zH → Option ρ) → Option ρ) (c55 : Int → Int → Int → Int → Int → Int → zH → Option ρ) (c56 : Int → Int → Int → Int → Int → Int → Int → zH → Option ρ) (c77 : Int → Int → Int → Int → zH → Option ρ) (a1 a2 a3 a4 a5 a6 : Int) (h : zH) : (if a6 < 4 then (F_M_isNew a1 a2 a6 h  fun v1 h2 =>
if v1 = 0 then c55 a1 a2 a3 a4 a6 a5 h2
else F_M_cellOf a1 a2 a6 h2  fun v3 h4 =>
if (Int.tmod v3 4) = a4 then c56 a1 a2 a3 a4 a6 1 a5 h4
else c55 a1 a2 a3 a4 a6 a5 h4)
else if a3 < a5 then c77 a1 a2 a4 a5 h
else c77 a1 a2 a4 a3 h) = zseg zPP false (zcal [(112, [some 0, none, none, none], fun xs h kr kt => match xs with
  | [x1, x2, x3] => F_M_cellOf x1 x2 x3 h kr
  | _ => none), (119, [some 0, none, none, none], fun xs h kr kt => match xs with
  | [x1, x2, x3] => F_M_isNew x1 x2 x3 h kr
  | _ => none)]) (zget (999, 0, 0, 0) zc_M_banks) (zcut zu_M_banks) (zorc [(55, [some (112, some 0), some (0, none), some (0, none), some (0, none), some (0, none), none, some (0, none)], [(0, none)], fun xs h => match xs with
  | [a1, a2, a3, a4, a6, t0] => c55 a1 a2 a3 a4 a6 t0 h
  | _ => none), (56, [some (112, some 0), some (0, none), some (0, none), some (0, none), some (0, none), none, some (0, none)], [(0, none), (0, none)], fun xs h => match xs with
  | [a1, a2, a3, a4, a6, t0, t1] => c56 a1 a2 a3 a4 a6 t0 t1 h
  | _ => none), (77, [some (112, some 0), some (0, none), some (0, none), none, some (0, none), none, none], [(0, none)], fun xs h => match xs with
  | [a1, a2, a4, t0] => c77 a1 a2 a4 t0 h
  | _ => none)]) kr (fun _ _ => none) 400 17 [some (112, 0), some (0, a1), some (0, a2), some (0, a3), some (0, a4), some (0, a5), some (0, a6)] [] h := by rfl
set_option maxRecDepth 100000 in
theorem qe_M_banks_17b {ρ : Type} (kr : Int → zH → Option ρ) (r5 : Int → Int → Int → Int → zH → Option ρ) (r17 : Int → Int → Int → Int → Int → Int → zH → Option ρ) (a1 a2 a3 a4 a5 a6 : Int) (h : zH) : M_banks_17b kr r5 r17 a1 a2 a3 a4 a5 a6 h = zseg zPP false (zcal [(112, [some 0, none, none, none], fun xs h kr kt => match xs with
  | [x1, x2, x3] => M_cellOf x1 x2 x3 h kr
  | _ => none), (119, [some 0, none, none, none], fun xs h kr kt => match xs with
  | [x1, x2, x3] => M_isNew x1 x2 x3 h kr
  | _ => none)]) (zget (999, 0, 0, 0) zc_M_banks) (zcut zu_M_banks) (zorc [(55, [some (112, some 0), some (0, none), some (0, none), some (0, none), some (0, none), none, some (0, none)], [(0, none)], fun xs h => match xs with
  | [a1, a2, a3, a4, a6, t0] => M_banks_55 kr r5 r17 a1 a2 a3 a4 a6 t0 h
  | _ => none), (56, [some (112, some 0), some (0, none), some (0, none), some (0, none), some (0, none), none, some (0, none)], [(0, none), (0, none)], fun xs h => match xs with
  | [a1, a2, a3, a4, a6, t0, t1] => M_banks_56 kr r5 r17 a1 a2 a3 a4 a6 t0 t1 h
  | _ => none), (77, [some (112, some 0), some (0, none), some (0, none), none, some (0, none), none, none], [(0, none)], fun xs h => match xs with
  | [a1, a2, a4, t0] => M_banks_77 kr r5 a1 a2 a4 t0 h
  | _ => none)]) kr (fun _ _ => none) 400 17 [some (112, 0), some (0, a1), some (0, a2), some (0, a3), some (0, a4), some (0, a5), some (0, a6)] [] h := qg_M_banks_17b kr r5 r17 M_cellOf M_isNew (M_banks_55 kr r5 r17) (M_banks_56 kr r5 r17) (M_banks_77 kr r5) a1 a2 a3 a4 a5 a6 h
set_option maxRecDepth 100000 in
theorem qg_M_banks_5b {ρ : Type} (kr : Int → zH → Option ρ) (r5 : Int → Int → Int → Int → zH → Option ρ) (c17 : Int → Int → Int → Int → Int → Int → zH → Option ρ) (a1 a2 a3 a4 : Int) (h : zH) : (if a4 < 4 then c17 a1 a2 a3 a4 0 0 h
else kr a3 h) = zseg zPP false (zcal []) (zget (999, 0, 0, 0) zc_M_banks) (zcut zu_M_banks) (zorc [(17, [some (112, some 0), some (0, none), some (0, none), some (0, none), some (0, none), some (0, none), some (0, none)], [], fun xs h => match xs with
  | [a1, a2, a3, a4, a5, a6] => c17 a1 a2 a3 a4 a5 a6 h
  | _ => none)]) kr (fun _ _ => none) 400 5 [some (112, 0), some (0, a1), some (0, a2), some (0, a3), some (0, a4), none, none] [] h := by rfl
set_option maxRecDepth 100000 in
theorem qe_M_banks_5b {ρ : Type} (kr : Int → zH → Option ρ) (r5 : Int → Int → Int → Int → zH → Option ρ) (a1 a2 a3 a4 : Int) (h : zH) : M_banks_5b kr r5 a1 a2 a3 a4 h = zseg zPP false (zcal []) (zget (999, 0, 0, 0) zc_M_banks) (zcut zu_M_banks) (zorc [(17, [some (112, some 0), some (0, none), some (0, none), some (0, none), some (0, none), some (0, none), some (0, none)], [], fun xs h => match xs with
  | [a1, a2, a3, a4, a5, a6] => M_banks_17 kr r5 a1 a2 a3 a4 a5 a6 h
  | _ => none)]) kr (fun _ _ => none) 400 5 [some (112, 0), some (0, a1), some (0, a2), some (0, a3), some (0, a4), none, none] [] h := qg_M_banks_5b kr r5 (M_banks_17 kr r5) a1 a2 a3 a4 h
set_option maxRecDepth 100000 in
theorem qg_M_banks {ρ : Type} (kr : Int → zH → Option ρ) (c5 : Int → Int → Int → Int → zH → Option ρ) (a1 a2 : Int) (h : zH) : (c5 a1 a2 0 0 h) = zseg zPP false (zcal []) (zget (999, 0, 0, 0) zc_M_banks) (zcut zu_M_banks) (zorc [(5, [some (112, some 0), some (0, none), some (0, none), some (0, none), some (0, none), none, none], [], fun xs h => match xs with
  | [a1, a2, a3, a4] => c5 a1 a2 a3 a4 h
  | _ => none)]) kr (fun _ _ => none) 400 0 [some (112, 0), some (0, a1), some (0, a2), none, none, none, none] [] h := by rfl
set_option maxRecDepth 100000 in
theorem qe_M_banks {ρ : Type} (kr : Int → zH → Option ρ) (a1 a2 : Int) (h : zH) : M_banks a1 a2 h kr = zseg zPP false (zcal []) (zget (999, 0, 0, 0) zc_M_banks) (zcut zu_M_banks) (zorc [(5, [some (112, some 0), some (0, none), some (0, none), some (0, none), some (0, none), none, none], [], fun xs h => match xs with
  | [a1, a2, a3, a4] => M_banks_5 kr a1 a2 a3 a4 h
  | _ => none)]) kr (fun _ _ => none) 400 0 [some (112, 0), some (0, a1), some (0, a2), none, none, none, none] [] h := qg_M_banks kr (M_banks_5 kr) a1 a2 h
def zc_M_lines : List zI := [(0, 0, 0, 0), (16, 0, 3, 0), (0, 0, 0, 0), (17, 0, 4, 0), (999, 0, 0, 0), (0, 0, 0, 0), (17, 0, 5, 0), (999, 0, 0, 0), (11, 0, 5, 0), (999, 0, 0, 0), (0, 4, 0, 0), (69, 137, 148, 0), (999, 0, 0, 0), (999, 0, 0, 0), (14, 0, 0, 112), (11, 0, 5, 0), (999, 0, 0, 0), (110, 0, 287, 108), (999, 0, 0, 0), (999, 0, 0, 0), (60, 21, 41, 0), (999, 0, 0, 0), (999, 0, 0, 0), (14, 0, 0, 112), (11, 0, 5, 0), (999, 0, 0, 0), (14, 0, 0, 112), (80, 12, 37, 11), (999, 0, 0, 0), (999, 0, 0, 0), (10, 0, 2, 0), (90, 0, 0, 67), (110, 0, 290, 106), (999, 0, 0, 0), (999, 0, 0, 0), (1, 8, 0, 0), (999, 0, 0, 0), (33, 0, 0, 0), (72, 4, 42, 0), (999, 0, 0, 0), (999, 0, 0, 0), (0, (-1), 0, 0), (17, 0, 6, 0), (999, 0, 0, 0), (11, 0, 6, 0), (999, 0, 0, 0), (0, (-1), 0, 0), (66, 95, 142, 0), (999, 0, 0, 0), (999, 0, 0, 0), (11, 0, 4, 0), (999, 0, 0, 0), (11, 0, 6, 0), (999, 0, 0, 0), (40, 0, 0, 0), (0, 1, 0, 0), (36, 0, 0, 0), (61, 85, 142, 0), (999, 0, 0, 0), (999, 0, 0, 0), (11, 0, 4, 0), (999, 0, 0, 0), (0, 1, 0, 0), (11, 0, 6, 0), (999, 0, 0, 0), (39, 0, 0, 0), (37, 0, 0, 0), (17, 0, 4, 0), (999, 0, 0, 0), (14, 0, 0, 112), (80, 12, 142, 47), (999, 0, 0, 0), (999, 0, 0, 0), (0, 2, 0, 0), (10, 0, 1, 0), (32, 0, 0, 0), (11, 0, 6, 0), (999, 0, 0, 0), (0, 2, 0, 0), (34, 0, 0, 0), (30, 0, 0, 0), (90, 0, 0, 102), (11, 0, 6, 0), (999, 0, 0, 0), (67, 7, 91, 0), (999, 0, 0, 0), (999, 0, 0, 0), (0, 1, 0, 0), (72, 4, 92, 0), (999, 0, 0, 0), (999, 0, 0, 0), (0, 0, 0, 0), (17, 0, 7, 0), (999, 0, 0, 0), (10, 0, 3, 0), (11, 0, 7, 0), (999, 0, 0, 0), (60, 7, 104, 0), (999, 0, 0, 0), (999, 0, 0, 0), (0, 2, 0, 0), (72, 5, 106, 0), (999, 0, 0, 0), (999, 0, 0, 0), (1, 6, 0, 0), (999, 0, 0, 0), (30, 0, 0, 0), (16, 0, 3, 0), (14, 0, 0, 112), (50, 0, 0, 0), (80, 12, 341, 58), (999, 0, 0, 0), (999, 0, 0, 0), (11, 0, 7, 0), (999, 0, 0, 0), (60, 7, 122, 0), (999, 0, 0, 0), (999, 0, 0, 0), (0, 0, 0, 0), (72, 4, 123, 0), (999, 0, 0, 0), (999, 0, 0, 0), (0, 1, 0, 0), (30, 0, 0, 0), (82, 12, 341, 58), (999, 0, 0, 0), (999, 0, 0, 0), (14, 0, 0, 112), (80, 12, 142, 47), (999, 0, 0, 0), (999, 0, 0, 0), (0, 2, 0, 0), (10, 0, 1, 0), (32, 0, 0, 0), (11, 0, 6, 0), (999, 0, 0, 0), (0, 2, 0, 0), (34, 0, 0, 0), (30, 0, 0, 0), (11, 0, 6, 0), (999, 0, 0, 0), (95, 0, 0, 102), (22, 1, 5, 0), (999, 0, 0, 0), (999, 0, 0, 0), (72, (-137), 8, 0), (999, 0, 0, 0), (999, 0, 0, 0), (10, 0, 3, 0), (130, 0, 0, 0)]
def zu_M_lines : List (Nat × List Bool) := [(8, [true, true, true, true, true, true, false, false]), (42, [true, true, true, true, true, true, false, false]), (92, [true, true, true, true, true, true, true, false]), (106, [true, true, true, false, true, true, true, true]), (123, [true, true, true, true, true, true, true, false]), (142, [true, true, true, true, true, true, false, false])]
set_option maxRecDepth 100000 in
theorem qg_M_lines_142 {ρ : Type} (kr : Int → zH → Option ρ) (r8 : Int → Int → Int → Int → Int → zH → Option ρ) (a1 a2 a3 a4 a5 : Int) (h : zH) : (r8 a1 a2 a3 a4 (wr (a5 + 1)) h) = zseg zPP false (zcal []) (zget (999, 0, 0, 0) zc_M_lines) (zcut zu_M_lines) (zorc [(8, [some (112, some 0), some (0, none), some (0, none), some (0, none), some (0, none), some (0, none), none, none], [], fun xs h => match xs with
  | [a1, a2, a3, a4, a5] => r8 a1 a2 a3 a4 a5 h
  | _ => none)]) kr (fun _ _ => none) 400 142 [some (112, 0), some (0, a1), some (0, a2), some (0, a3), some (0, a4), some (0, a5), none, none] [] h := by rfl
set_option maxRecDepth 100000 in
theorem qe_M_lines_142 {ρ : Type} (kr : Int → zH → Option ρ) (r8 : Int → Int → Int → Int → Int → zH → Option ρ) (a1 a2 a3 a4 a5 : Int) (h : zH) : M_lines_142 kr r8 a1 a2 a3 a4 a5 h = zseg zPP false (zcal []) (zget (999, 0, 0, 0) zc_M_lines) (zcut zu_M_lines) (zorc [(8, [some (112, some 0), some (0, none), some (0, none), some (0, none), some (0, none), some (0, none), none, none], [], fun xs h => match xs with
  | [a1, a2, a3, a4, a5] => r8 a1 a2 a3 a4 a5 h
  | _ => none)]) kr (fun _ _ => none) 400 142 [some (112, 0), some (0, a1), some (0, a2), some (0, a3), some (0, a4), some (0, a5), none, none] [] h := qg_M_lines_142 kr r8 a1 a2 a3 a4 a5 h
set_option maxRecDepth 100000 in
theorem qg_M_lines_123 {ρ : Type} (kr : Int → zH → Option ρ) (r8 : Int → Int → Int → Int → Int → zH → Option ρ) (c142 : Int → Int → Int → Int → Int → zH → Option ρ) (a1 a2 a3 a4 a5 a6 t0 t1 : Int) (h : zH) : (zlet (zset h 12 0 58 (wr (t1 + t0))) fun h1 =>
zix 4 (wr ((wr (2 * a1)) + (Int.tmod a6 2))) fun j2 =>
zlet (zset h1 102 0 j2 a6) fun h3 =>
c142 a1 a2 a3 a4 a5 h3) = zseg zPP false (zcal []) (zget (999, 0, 0, 0) zc_M_lines) (zcut zu_M_lines) (zorc [(142, [some (112, some 0), some (0, none), some (0, none), some (0, none), some (0, none), some (0, none), none, none], [], fun xs h => match xs with
  | [a1, a2, a3, a4, a5] => c142 a1 a2 a3 a4 a5 h
  | _ => none)]) kr (fun _ _ => none) 400 123 [some (112, 0), some (0, a1), some (0, a2), some (0, a3), some (0, a4), some (0, a5), some (0, a6), none] [(0, t0), (0, t1), (112, 0)] h := by rfl
set_option maxRecDepth 100000 in
theorem qe_M_lines_123 {ρ : Type} (kr : Int → zH → Option ρ) (r8 : Int → Int → Int → Int → Int → zH → Option ρ) (a1 a2 a3 a4 a5 a6 t0 t1 : Int) (h : zH) : M_lines_123 kr r8 a1 a2 a3 a4 a5 a6 t0 t1 h = zseg zPP false (zcal []) (zget (999, 0, 0, 0) zc_M_lines) (zcut zu_M_lines) (zorc [(142, [some (112, some 0), some (0, none), some (0, none), some (0, none), some (0, none), some (0, none), none, none], [], fun xs h => match xs with
  | [a1, a2, a3, a4, a5] => M_lines_142 kr r8 a1 a2 a3 a4 a5 h
  | _ => none)]) kr (fun _ _ => none) 400 123 [some (112, 0), some (0, a1), some (0, a2), some (0, a3), some (0, a4), some (0, a5), some (0, a6), none] [(0, t0), (0, t1), (112, 0)] h := qg_M_lines_123 kr r8 (M_lines_142 kr r8) a1 a2 a3 a4 a5 a6 t0 t1 h
set_option maxRecDepth 100000 in
theorem qg_M_lines_106 {ρ : Type} (kr : Int → zH → Option ρ) (r8 : Int → Int → Int → Int → Int → zH → Option ρ) (c123 : Int → Int → Int → Int → Int → Int → Int → Int → zH → Option ρ) (a1 a2 a4 a5 a6 a7 t0 t1 : Int) (h : zH) : (if a7 = 0 then c123 a1 a2 (wr (t1 + t0)) a4 a5 a6 1 (zhD h 12 0 58) h
else c123 a1 a2 (wr (t1 + t0)) a4 a5 a6 0 (zhD h 12 0 58) h) = zseg zPP false (zcal []) (zget (999, 0, 0, 0) zc_M_lines) (zcut zu_M_lines) (zorc [(123, [some (112, some 0), some (0, none), some (0, none), some (0, none), some (0, none), some (0, none), some (0, none), none], [(0, none), (0, none), (112, some 0)], fun xs h => match xs with
  | [a1, a2, a3, a4, a5, a6, t0, t1] => c123 a1 a2 a3 a4 a5 a6 t0 t1 h
  | _ => none)]) kr (fun _ _ => none) 400 106 [some (112, 0), some (0, a1), some (0, a2), none, some (0, a4), some (0, a5), some (0, a6), some (0, a7)] [(0, t0), (0, t1)] h := by rfl
set_option maxRecDepth 100000 in
theorem qe_M_lines_106 {ρ : Type} (kr : Int → zH → Option ρ) (r8 : Int → Int → Int → Int → Int → zH → Option ρ) (a1 a2 a4 a5 a6 a7 t0 t1 : Int) (h : zH) : M_lines_106 kr r8 a1 a2 a4 a5 a6 a7 t0 t1 h = zseg zPP false (zcal []) (zget (999, 0, 0, 0) zc_M_lines) (zcut zu_M_lines) (zorc [(123, [some (112, some 0), some (0, none), some (0, none), some (0, none), some (0, none), some (0, none), some (0, none), none], [(0, none), (0, none), (112, some 0)], fun xs h => match xs with
  | [a1, a2, a3, a4, a5, a6, t0, t1] => M_lines_123 kr r8 a1 a2 a3 a4 a5 a6 t0 t1 h
  | _ => none)]) kr (fun _ _ => none) 400 106 [some (112, 0), some (0, a1), some (0, a2), none, some (0, a4), some (0, a5), some (0, a6), some (0, a7)] [(0, t0), (0, t1)] h := qg_M_lines_106 kr r8 (M_lines_123 kr r8) a1 a2 a4 a5 a6 a7 t0 t1 h
set_option maxRecDepth 100000 in
theorem qg_M_lines_92 {ρ : Type} (kr : Int → zH → Option ρ) (r8 : Int → Int → Int → Int → Int → zH → Option ρ) (c106 : Int → Int → Int → Int → Int → Int → Int → Int → zH → Option ρ) (a1 a2 a3 a4 a5 a6 t0 : Int) (h : zH) : (if t0 = 0 then c106 a1 a2 a4 a5 a6 t0 6 a3 h
else c106 a1 a2 a4 a5 a6 t0 2 a3 h) = zseg zPP false (zcal []) (zget (999, 0, 0, 0) zc_M_lines) (zcut zu_M_lines) (zorc [(106, [some (112, some 0), some (0, none), some (0, none), none, some (0, none), some (0, none), some (0, none), some (0, none)], [(0, none), (0, none)], fun xs h => match xs with
  | [a1, a2, a4, a5, a6, a7, t0, t1] => c106 a1 a2 a4 a5 a6 a7 t0 t1 h
  | _ => none)]) kr (fun _ _ => none) 400 92 [some (112, 0), some (0, a1), some (0, a2), some (0, a3), some (0, a4), some (0, a5), some (0, a6), none] [(0, t0)] h := by rfl
set_option maxRecDepth 100000 in
theorem qe_M_lines_92 {ρ : Type} (kr : Int → zH → Option ρ) (r8 : Int → Int → Int → Int → Int → zH → Option ρ) (a1 a2 a3 a4 a5 a6 t0 : Int) (h : zH) : M_lines_92 kr r8 a1 a2 a3 a4 a5 a6 t0 h = zseg zPP false (zcal []) (zget (999, 0, 0, 0) zc_M_lines) (zcut zu_M_lines) (zorc [(106, [some (112, some 0), some (0, none), some (0, none), none, some (0, none), some (0, none), some (0, none), some (0, none)], [(0, none), (0, none)], fun xs h => match xs with
  | [a1, a2, a4, a5, a6, a7, t0, t1] => M_lines_106 kr r8 a1 a2 a4 a5 a6 a7 t0 t1 h
  | _ => none)]) kr (fun _ _ => none) 400 92 [some (112, 0), some (0, a1), some (0, a2), some (0, a3), some (0, a4), some (0, a5), some (0, a6), none] [(0, t0)] h := qg_M_lines_92 kr r8 (M_lines_106 kr r8) a1 a2 a3 a4 a5 a6 t0 h
set_option maxRecDepth 100000 in
theorem qg_M_lines_42 {ρ : Type} (kr : Int → zH → Option ρ) (r8 : Int → Int → Int → Int → Int → zH → Option ρ) (c92 : Int → Int → Int → Int → Int → Int → Int → zH → Option ρ) (c142 : Int → Int → Int → Int → Int → zH → Option ρ) (a1 a2 a3 a4 a5 t0 : Int) (h : zH) : (if t0 = (-1) then c142 a1 a2 a3 a4 a5 h
else if (zand (zshr a4 t0) 1) = 0 then (zix 4 (wr ((wr (2 * a1)) + (Int.tmod t0 2))) fun j1 =>
if (zhD h 102 0 j1) = t0 then c92 a1 a2 a3 (zor a4 (zshl 1 t0)) a5 t0 1 h
else c92 a1 a2 a3 (zor a4 (zshl 1 t0)) a5 t0 0 h)
else c142 a1 a2 a3 a4 a5 h) = zseg zPP false (zcal []) (zget (999, 0, 0, 0) zc_M_lines) (zcut zu_M_lines) (zorc [(92, [some (112, some 0), some (0, none), some (0, none), some (0, none), some (0, none), some (0, none), some (0, none), none], [(0, none)], fun xs h => match xs with
  | [a1, a2, a3, a4, a5, a6, t0] => c92 a1 a2 a3 a4 a5 a6 t0 h
  | _ => none), (142, [some (112, some 0), some (0, none), some (0, none), some (0, none), some (0, none), some (0, none), none, none], [], fun xs h => match xs with
  | [a1, a2, a3, a4, a5] => c142 a1 a2 a3 a4 a5 h
  | _ => none)]) kr (fun _ _ => none) 400 42 [some (112, 0), some (0, a1), some (0, a2), some (0, a3), some (0, a4), some (0, a5), none, none] [(0, t0)] h := by rfl
set_option maxRecDepth 100000 in
theorem qe_M_lines_42 {ρ : Type} (kr : Int → zH → Option ρ) (r8 : Int → Int → Int → Int → Int → zH → Option ρ) (a1 a2 a3 a4 a5 t0 : Int) (h : zH) : M_lines_42 kr r8 a1 a2 a3 a4 a5 t0 h = zseg zPP false (zcal []) (zget (999, 0, 0, 0) zc_M_lines) (zcut zu_M_lines) (zorc [(92, [some (112, some 0), some (0, none), some (0, none), some (0, none), some (0, none), some (0, none), some (0, none), none], [(0, none)], fun xs h => match xs with
  | [a1, a2, a3, a4, a5, a6, t0] => M_lines_92 kr r8 a1 a2 a3 a4 a5 a6 t0 h
  | _ => none), (142, [some (112, some 0), some (0, none), some (0, none), some (0, none), some (0, none), some (0, none), none, none], [], fun xs h => match xs with
  | [a1, a2, a3, a4, a5] => M_lines_142 kr r8 a1 a2 a3 a4 a5 h
  | _ => none)]) kr (fun _ _ => none) 400 42 [some (112, 0), some (0, a1), some (0, a2), some (0, a3), some (0, a4), some (0, a5), none, none] [(0, t0)] h := qg_M_lines_42 kr r8 (M_lines_92 kr r8) (M_lines_142 kr r8) a1 a2 a3 a4 a5 t0 h
set_option maxRecDepth 100000 in
theorem qg_M_lines_8b {ρ : Type} (kr : Int → zH → Option ρ) (r8 : Int → Int → Int → Int → Int → zH → Option ρ) (F_M_lane : Int → Int → zH → (Int → zH → Option ρ) → Option ρ) (F_M_isUnder : Int → zH → (Int → zH → Option ρ) → Option ρ) (c42 : Int → Int → Int → Int → Int → Int → zH → Option ρ) (a1 a2 a3 a4 a5 : Int) (h : zH) : (if a5 < 4 then (F_M_isUnder a5 h  fun v1 h2 =>
if v1 = 0 then c42 a1 a2 a3 a4 a5 (-1) h2
else zix 160 a2 fun j3 =>
F_M_lane a5 (zhD h2 67 0 j3) h2  fun v4 h5 =>
c42 a1 a2 a3 a4 a5 (wr (Int.tdiv v4 8)) h5)
else kr a3 h) = zseg zPP false (zcal [(106, [some 0, none, none], fun xs h kr kt => match xs with
  | [x1, x2] => F_M_lane x1 x2 h kr
  | _ => none), (108, [some 0, none], fun xs h kr kt => match xs with
  | [x1] => F_M_isUnder x1 h kr
  | _ => none)]) (zget (999, 0, 0, 0) zc_M_lines) (zcut zu_M_lines) (zorc [(42, [some (112, some 0), some (0, none), some (0, none), some (0, none), some (0, none), some (0, none), none, none], [(0, none)], fun xs h => match xs with
  | [a1, a2, a3, a4, a5, t0] => c42 a1 a2 a3 a4 a5 t0 h
  | _ => none)]) kr (fun _ _ => none) 400 8 [some (112, 0), some (0, a1), some (0, a2), some (0, a3), some (0, a4), some (0, a5), none, none] [] h := by rfl
set_option maxRecDepth 100000 in
theorem qe_M_lines_8b {ρ : Type} (kr : Int → zH → Option ρ) (r8 : Int → Int → Int → Int → Int → zH → Option ρ) (a1 a2 a3 a4 a5 : Int) (h : zH) : M_lines_8b kr r8 a1 a2 a3 a4 a5 h = zseg zPP false (zcal [(106, [some 0, none, none], fun xs h kr kt => match xs with
  | [x1, x2] => M_lane x1 x2 h kr
  | _ => none), (108, [some 0, none], fun xs h kr kt => match xs with
  | [x1] => M_isUnder x1 h kr
  | _ => none)]) (zget (999, 0, 0, 0) zc_M_lines) (zcut zu_M_lines) (zorc [(42, [some (112, some 0), some (0, none), some (0, none), some (0, none), some (0, none), some (0, none), none, none], [(0, none)], fun xs h => match xs with
  | [a1, a2, a3, a4, a5, t0] => M_lines_42 kr r8 a1 a2 a3 a4 a5 t0 h
  | _ => none)]) kr (fun _ _ => none) 400 8 [some (112, 0), some (0, a1), some (0, a2), some (0, a3), some (0, a4), some (0, a5), none, none] [] h := qg_M_lines_8b kr r8 M_lane M_isUnder (M_lines_42 kr r8) a1 a2 a3 a4 a5 h
set_option maxRecDepth 100000 in
theorem qg_M_lines {ρ : Type} (kr : Int → zH → Option ρ) (c8 : Int → Int → Int → Int → Int → zH → Option ρ) (a1 a2 : Int) (h : zH) : (c8 a1 a2 0 0 0 h) = zseg zPP false (zcal []) (zget (999, 0, 0, 0) zc_M_lines) (zcut zu_M_lines) (zorc [(8, [some (112, some 0), some (0, none), some (0, none), some (0, none), some (0, none), some (0, none), none, none], [], fun xs h => match xs with
  | [a1, a2, a3, a4, a5] => c8 a1 a2 a3 a4 a5 h
  | _ => none)]) kr (fun _ _ => none) 400 0 [some (112, 0), some (0, a1), some (0, a2), none, none, none, none, none] [] h := by rfl
set_option maxRecDepth 100000 in
theorem qe_M_lines {ρ : Type} (kr : Int → zH → Option ρ) (a1 a2 : Int) (h : zH) : M_lines a1 a2 h kr = zseg zPP false (zcal []) (zget (999, 0, 0, 0) zc_M_lines) (zcut zu_M_lines) (zorc [(8, [some (112, some 0), some (0, none), some (0, none), some (0, none), some (0, none), some (0, none), none, none], [], fun xs h => match xs with
  | [a1, a2, a3, a4, a5] => M_lines_8 kr a1 a2 a3 a4 a5 h
  | _ => none)]) kr (fun _ _ => none) 400 0 [some (112, 0), some (0, a1), some (0, a2), none, none, none, none, none] [] h := qg_M_lines kr (M_lines_8 kr) a1 a2 h
