def zc_M_runBarrier : List zI := [(0, (-1), 0, 0), (16, 0, 2, 0), (0, 1, 0, 0), (16, 0, 3, 0), (0, 0, 0, 0), (17, 0, 4, 0), (999, 0, 0, 0), (11, 0, 4, 0), (999, 0, 0, 0), (10, 0, 1, 0), (69, 55, 65, 0), (999, 0, 0, 0), (999, 0, 0, 0), (14, 0, 0, 112), (80, 12, 179, 72), (999, 0, 0, 0), (999, 0, 0, 0), (11, 0, 4, 0), (999, 0, 0, 0), (92, 0, 0, 114), (1, 119, 0, 0), (999, 0, 0, 0), (67, 37, 59, 0), (999, 0, 0, 0), (999, 0, 0, 0), (10, 0, 3, 0), (60, 23, 49, 0), (999, 0, 0, 0), (999, 0, 0, 0), (10, 0, 2, 0), (0, (-1), 0, 0), (66, 14, 45, 0), (999, 0, 0, 0), (999, 0, 0, 0), (10, 0, 2, 0), (14, 0, 0, 112), (80, 12, 176, 71), (999, 0, 0, 0), (999, 0, 0, 0), (11, 0, 4, 0), (999, 0, 0, 0), (90, 0, 0, 113), (67, 7, 49, 0), (999, 0, 0, 0), (999, 0, 0, 0), (0, 1, 0, 0), (72, 4, 50, 0), (999, 0, 0, 0), (999, 0, 0, 0), (0, 0, 0, 0), (16, 0, 3, 0), (14, 0, 0, 112), (80, 12, 176, 71), (999, 0, 0, 0), (999, 0, 0, 0), (11, 0, 4, 0), (999, 0, 0, 0), (90, 0, 0, 113), (16, 0, 2, 0), (22, 1, 4, 0), (999, 0, 0, 0), (999, 0, 0, 0), (72, (-55), 7, 0), (999, 0, 0, 0), (999, 0, 0, 0), (0, 0, 0, 0), (17, 0, 4, 0), (999, 0, 0, 0), (11, 0, 4, 0), (999, 0, 0, 0), (10, 0, 1, 0), (69, 45, 116, 0), (999, 0, 0, 0), (999, 0, 0, 0), (10, 0, 3, 0), (60, 41, 116, 0), (999, 0, 0, 0), (999, 0, 0, 0), (14, 0, 0, 112), (80, 12, 179, 72), (999, 0, 0, 0), (999, 0, 0, 0), (11, 0, 4, 0), (999, 0, 0, 0), (92, 0, 0, 114), (1, 119, 0, 0), (999, 0, 0, 0), (67, 23, 110, 0), (999, 0, 0, 0), (999, 0, 0, 0), (14, 0, 0, 112), (80, 12, 179, 72), (999, 0, 0, 0), (999, 0, 0, 0), (11, 0, 4, 0), (999, 0, 0, 0), (1, 114, 0, 0), (999, 0, 0, 0), (97, 0, 0, 114), (14, 0, 0, 112), (80, 12, 176, 71), (999, 0, 0, 0), (999, 0, 0, 0), (11, 0, 4, 0), (999, 0, 0, 0), (51, 0, 0, 0), (90, 0, 0, 113), (0, 1, 0, 0), (30, 0, 0, 0), (95, 0, 0, 113), (22, 1, 4, 0), (999, 0, 0, 0), (999, 0, 0, 0), (72, (-45), 68, 0), (999, 0, 0, 0), (999, 0, 0, 0), (10, 0, 2, 0), (0, (-1), 0, 0), (67, 8, 126, 0), (999, 0, 0, 0), (999, 0, 0, 0), (1, 101, 0, 0), (999, 0, 0, 0), (72, 14, 137, 0), (999, 0, 0, 0), (999, 0, 0, 0), (10, 0, 3, 0), (60, 8, 135, 0), (999, 0, 0, 0), (999, 0, 0, 0), (1, 112, 0, 0), (999, 0, 0, 0), (72, 5, 137, 0), (999, 0, 0, 0), (999, 0, 0, 0), (1, 102, 0, 0), (999, 0, 0, 0), (130, 0, 2, 0)]
def zu_M_runBarrier : List (Nat × List Bool) := [(7, [true, true, true, true, true]), (45, [true, true, false, false, true]), (49, [true, true, false, false, true]), (50, [true, true, false, false, true]), (59, [true, true, true, true, true]), (68, [true, true, true, true, true]), (110, [true, true, true, true, true]), (116, [false, false, true, true, false]), (137, [false, false, false, false, false])]
set_option maxRecDepth 100000 in
theorem qg_M_runBarrier_59 {ρ : Type} (kr : Int → zH → Option ρ) (r7 : Int → Int → Int → Int → zH → Option ρ) (a1 a2 a3 a4 : Int) (h : zH) : (r7 a1 a2 a3 (wr (a4 + 1)) h) = zseg zPP false (zcal []) (zget (999, 0, 0, 0) zc_M_runBarrier) (zcut zu_M_runBarrier) (zorc [(7, [some (112, some 0), some (0, none), some (0, none), some (0, none), some (0, none)], [], fun xs h => match xs with
  | [a1, a2, a3, a4] => r7 a1 a2 a3 a4 h
  | _ => none)]) kr (fun _ _ => none) 400 59 [some (112, 0), some (0, a1), some (0, a2), some (0, a3), some (0, a4)] [] h := by rfl
set_option maxRecDepth 100000 in
theorem qe_M_runBarrier_59 {ρ : Type} (kr : Int → zH → Option ρ) (r7 : Int → Int → Int → Int → zH → Option ρ) (a1 a2 a3 a4 : Int) (h : zH) : M_runBarrier_59 kr r7 a1 a2 a3 a4 h = zseg zPP false (zcal []) (zget (999, 0, 0, 0) zc_M_runBarrier) (zcut zu_M_runBarrier) (zorc [(7, [some (112, some 0), some (0, none), some (0, none), some (0, none), some (0, none)], [], fun xs h => match xs with
  | [a1, a2, a3, a4] => r7 a1 a2 a3 a4 h
  | _ => none)]) kr (fun _ _ => none) 400 59 [some (112, 0), some (0, a1), some (0, a2), some (0, a3), some (0, a4)] [] h := qg_M_runBarrier_59 kr r7 a1 a2 a3 a4 h
set_option maxRecDepth 100000 in
theorem qg_M_runBarrier_50 {ρ : Type} (kr : Int → zH → Option ρ) (r7 : Int → Int → Int → Int → zH → Option ρ) (c59 : Int → Int → Int → Int → zH → Option ρ) (a1 a4 t0 : Int) (h : zH) : (zix 16 a4 fun j1 =>
c59 a1 (zhD h 113 0 j1) t0 a4 h) = zseg zPP false (zcal []) (zget (999, 0, 0, 0) zc_M_runBarrier) (zcut zu_M_runBarrier) (zorc [(59, [some (112, some 0), some (0, none), some (0, none), some (0, none), some (0, none)], [], fun xs h => match xs with
  | [a1, a2, a3, a4] => c59 a1 a2 a3 a4 h
  | _ => none)]) kr (fun _ _ => none) 400 50 [some (112, 0), some (0, a1), none, none, some (0, a4)] [(0, t0)] h := by rfl
set_option maxRecDepth 100000 in
theorem qe_M_runBarrier_50 {ρ : Type} (kr : Int → zH → Option ρ) (r7 : Int → Int → Int → Int → zH → Option ρ) (a1 a4 t0 : Int) (h : zH) : M_runBarrier_50 kr r7 a1 a4 t0 h = zseg zPP false (zcal []) (zget (999, 0, 0, 0) zc_M_runBarrier) (zcut zu_M_runBarrier) (zorc [(59, [some (112, some 0), some (0, none), some (0, none), some (0, none), some (0, none)], [], fun xs h => match xs with
  | [a1, a2, a3, a4] => M_runBarrier_59 kr r7 a1 a2 a3 a4 h
  | _ => none)]) kr (fun _ _ => none) 400 50 [some (112, 0), some (0, a1), none, none, some (0, a4)] [(0, t0)] h := qg_M_runBarrier_50 kr r7 (M_runBarrier_59 kr r7) a1 a4 t0 h
set_option maxRecDepth 100000 in
theorem qg_M_runBarrier_45 {ρ : Type} (kr : Int → zH → Option ρ) (r7 : Int → Int → Int → Int → zH → Option ρ) (c50 : Int → Int → Int → zH → Option ρ) (a1 a4 : Int) (h : zH) : (c50 a1 a4 1 h) = zseg zPP false (zcal []) (zget (999, 0, 0, 0) zc_M_runBarrier) (zcut zu_M_runBarrier) (zorc [(50, [some (112, some 0), some (0, none), none, none, some (0, none)], [(0, none)], fun xs h => match xs with
  | [a1, a4, t0] => c50 a1 a4 t0 h
  | _ => none)]) kr (fun _ _ => none) 400 45 [some (112, 0), some (0, a1), none, none, some (0, a4)] [] h := by rfl
set_option maxRecDepth 100000 in
theorem qe_M_runBarrier_45 {ρ : Type} (kr : Int → zH → Option ρ) (r7 : Int → Int → Int → Int → zH → Option ρ) (a1 a4 : Int) (h : zH) : M_runBarrier_45 kr r7 a1 a4 h = zseg zPP false (zcal []) (zget (999, 0, 0, 0) zc_M_runBarrier) (zcut zu_M_runBarrier) (zorc [(50, [some (112, some 0), some (0, none), none, none, some (0, none)], [(0, none)], fun xs h => match xs with
  | [a1, a4, t0] => M_runBarrier_50 kr r7 a1 a4 t0 h
  | _ => none)]) kr (fun _ _ => none) 400 45 [some (112, 0), some (0, a1), none, none, some (0, a4)] [] h := qg_M_runBarrier_45 kr r7 (M_runBarrier_50 kr r7) a1 a4 h
set_option maxRecDepth 100000 in
theorem qg_M_runBarrier_49 {ρ : Type} (kr : Int → zH → Option ρ) (r7 : Int → Int → Int → Int → zH → Option ρ) (c50 : Int → Int → Int → zH → Option ρ) (a1 a4 : Int) (h : zH) : (c50 a1 a4 0 h) = zseg zPP false (zcal []) (zget (999, 0, 0, 0) zc_M_runBarrier) (zcut zu_M_runBarrier) (zorc [(50, [some (112, some 0), some (0, none), none, none, some (0, none)], [(0, none)], fun xs h => match xs with
  | [a1, a4, t0] => c50 a1 a4 t0 h
  | _ => none)]) kr (fun _ _ => none) 400 49 [some (112, 0), some (0, a1), none, none, some (0, a4)] [] h := by rfl
set_option maxRecDepth 100000 in
theorem qe_M_runBarrier_49 {ρ : Type} (kr : Int → zH → Option ρ) (r7 : Int → Int → Int → Int → zH → Option ρ) (a1 a4 : Int) (h : zH) : M_runBarrier_49 kr r7 a1 a4 h = zseg zPP false (zcal []) (zget (999, 0, 0, 0) zc_M_runBarrier) (zcut zu_M_runBarrier) (zorc [(50, [some (112, some 0), some (0, none), none, none, some (0, none)], [(0, none)], fun xs h => match xs with
  | [a1, a4, t0] => M_runBarrier_50 kr r7 a1 a4 t0 h
  | _ => none)]) kr (fun _ _ => none) 400 49 [some (112, 0), some (0, a1), none, none, some (0, a4)] [] h := qg_M_runBarrier_49 kr r7 (M_runBarrier_50 kr r7) a1 a4 h
set_option maxRecDepth 100000 in
theorem qg_M_runBarrier_110 {ρ : Type} (kr : Int → zH → Option ρ) (r68 : Int → Int → Int → Int → zH → Option ρ) (a1 a2 a3 a4 : Int) (h : zH) : (r68 a1 a2 a3 (wr (a4 + 1)) h) = zseg zPP false (zcal []) (zget (999, 0, 0, 0) zc_M_runBarrier) (zcut zu_M_runBarrier) (zorc [(68, [some (112, some 0), some (0, none), some (0, none), some (0, none), some (0, none)], [], fun xs h => match xs with
  | [a1, a2, a3, a4] => r68 a1 a2 a3 a4 h
  | _ => none)]) kr (fun _ _ => none) 400 110 [some (112, 0), some (0, a1), some (0, a2), some (0, a3), some (0, a4)] [] h := by rfl
set_option maxRecDepth 100000 in
theorem qe_M_runBarrier_110 {ρ : Type} (kr : Int → zH → Option ρ) (r68 : Int → Int → Int → Int → zH → Option ρ) (a1 a2 a3 a4 : Int) (h : zH) : M_runBarrier_110 kr r68 a1 a2 a3 a4 h = zseg zPP false (zcal []) (zget (999, 0, 0, 0) zc_M_runBarrier) (zcut zu_M_runBarrier) (zorc [(68, [some (112, some 0), some (0, none), some (0, none), some (0, none), some (0, none)], [], fun xs h => match xs with
  | [a1, a2, a3, a4] => r68 a1 a2 a3 a4 h
  | _ => none)]) kr (fun _ _ => none) 400 110 [some (112, 0), some (0, a1), some (0, a2), some (0, a3), some (0, a4)] [] h := qg_M_runBarrier_110 kr r68 a1 a2 a3 a4 h
set_option maxRecDepth 100000 in
theorem qg_M_runBarrier_137 {ρ : Type} (kr : Int → zH → Option ρ) (t0 : Int) (h : zH) : (znar 2 t0 fun x1 => kr x1 h) = zseg zPP false (zcal []) (zget (999, 0, 0, 0) zc_M_runBarrier) (zcut zu_M_runBarrier) (zorc []) kr (fun _ _ => none) 400 137 [none, none, none, none, none] [(0, t0)] h := by rfl
set_option maxRecDepth 100000 in
theorem qe_M_runBarrier_137 {ρ : Type} (kr : Int → zH → Option ρ) (t0 : Int) (h : zH) : M_runBarrier_137 kr t0 h = zseg zPP false (zcal []) (zget (999, 0, 0, 0) zc_M_runBarrier) (zcut zu_M_runBarrier) (zorc []) kr (fun _ _ => none) 400 137 [none, none, none, none, none] [(0, t0)] h := qg_M_runBarrier_137 kr t0 h
set_option maxRecDepth 100000 in
theorem qg_M_runBarrier_116 {ρ : Type} (kr : Int → zH → Option ρ) (c137 : Int → zH → Option ρ) (a2 a3 : Int) (h : zH) : (if a2 = (-1) then c137 101 h
else if a3 = 0 then c137 102 h
else c137 112 h) = zseg zPP false (zcal []) (zget (999, 0, 0, 0) zc_M_runBarrier) (zcut zu_M_runBarrier) (zorc [(137, [none, none, none, none, none], [(0, none)], fun xs h => match xs with
  | [t0] => c137 t0 h
  | _ => none)]) kr (fun _ _ => none) 400 116 [none, none, some (0, a2), some (0, a3), none] [] h := by rfl
set_option maxRecDepth 100000 in
theorem qe_M_runBarrier_116 {ρ : Type} (kr : Int → zH → Option ρ) (a2 a3 : Int) (h : zH) : M_runBarrier_116 kr a2 a3 h = zseg zPP false (zcal []) (zget (999, 0, 0, 0) zc_M_runBarrier) (zcut zu_M_runBarrier) (zorc [(137, [none, none, none, none, none], [(0, none)], fun xs h => match xs with
  | [t0] => M_runBarrier_137 kr t0 h
  | _ => none)]) kr (fun _ _ => none) 400 116 [none, none, some (0, a2), some (0, a3), none] [] h := qg_M_runBarrier_116 kr (M_runBarrier_137 kr) a2 a3 h
set_option maxRecDepth 100000 in
theorem qg_M_runBarrier_68b {ρ : Type} (kr : Int → zH → Option ρ) (r68 : Int → Int → Int → Int → zH → Option ρ) (c110 : Int → Int → Int → Int → zH → Option ρ) (c116 : Int → Int → zH → Option ρ) (a1 a2 a3 a4 : Int) (h : zH) : (if a4 < a1 then (if a3 = 0 then c116 a2 a3 h
else zix 16 a4 fun j1 =>
if (zhD h 114 0 j1) = 119 then (zix 16 a4 fun j2 =>
zlet (zset h 114 0 j2 114) fun h3 =>
zix 16 a4 fun j4 =>
zix 16 a4 fun j5 =>
zlet (zset h3 113 0 j5 (wr ((zhD h3 113 0 j4) + 1))) fun h6 =>
c110 a1 a2 a3 a4 h6)
else c110 a1 a2 a3 a4 h)
else c116 a2 a3 h) = zseg zPP false (zcal []) (zget (999, 0, 0, 0) zc_M_runBarrier) (zcut zu_M_runBarrier) (zorc [(110, [some (112, some 0), some (0, none), some (0, none), some (0, none), some (0, none)], [], fun xs h => match xs with
  | [a1, a2, a3, a4] => c110 a1 a2 a3 a4 h
  | _ => none), (116, [none, none, some (0, none), some (0, none), none], [], fun xs h => match xs with
  | [a2, a3] => c116 a2 a3 h
  | _ => none)]) kr (fun _ _ => none) 400 68 [some (112, 0), some (0, a1), some (0, a2), some (0, a3), some (0, a4)] [] h := by rfl
set_option maxRecDepth 100000 in
theorem qe_M_runBarrier_68b {ρ : Type} (kr : Int → zH → Option ρ) (r68 : Int → Int → Int → Int → zH → Option ρ) (a1 a2 a3 a4 : Int) (h : zH) : M_runBarrier_68b kr r68 a1 a2 a3 a4 h = zseg zPP false (zcal []) (zget (999, 0, 0, 0) zc_M_runBarrier) (zcut zu_M_runBarrier) (zorc [(110, [some (112, some 0), some (0, none), some (0, none), some (0, none), some (0, none)], [], fun xs h => match xs with
  | [a1, a2, a3, a4] => M_runBarrier_110 kr r68 a1 a2 a3 a4 h
  | _ => none), (116, [none, none, some (0, none), some (0, none), none], [], fun xs h => match xs with
  | [a2, a3] => M_runBarrier_116 kr a2 a3 h
  | _ => none)]) kr (fun _ _ => none) 400 68 [some (112, 0), some (0, a1), some (0, a2), some (0, a3), some (0, a4)] [] h := qg_M_runBarrier_68b kr r68 (M_runBarrier_110 kr r68) (M_runBarrier_116 kr) a1 a2 a3 a4 h
set_option maxRecDepth 100000 in
theorem qg_M_runBarrier_7b {ρ : Type} (kr : Int → zH → Option ρ) (r7 : Int → Int → Int → Int → zH → Option ρ) (c45 : Int → Int → zH → Option ρ) (c49 : Int → Int → zH → Option ρ) (c59 : Int → Int → Int → Int → zH → Option ρ) (c68 : Int → Int → Int → Int → zH → Option ρ) (a1 a2 a3 a4 : Int) (h : zH) : (if a4 < a1 then (zix 16 a4 fun j1 =>
if (zhD h 114 0 j1) = 119 then (if a3 = 0 then c49 a1 a4 h
else if a2 = (-1) then c45 a1 a4 h
else zix 16 a4 fun j2 =>
if a2 = (zhD h 113 0 j2) then c45 a1 a4 h
else c49 a1 a4 h)
else c59 a1 a2 a3 a4 h)
else c68 a1 a2 a3 0 h) = zseg zPP false (zcal []) (zget (999, 0, 0, 0) zc_M_runBarrier) (zcut zu_M_runBarrier) (zorc [(45, [some (112, some 0), some (0, none), none, none, some (0, none)], [], fun xs h => match xs with
  | [a1, a4] => c45 a1 a4 h
  | _ => none), (49, [some (112, some 0), some (0, none), none, none, some (0, none)], [], fun xs h => match xs with
  | [a1, a4] => c49 a1 a4 h
  | _ => none), (59, [some (112, some 0), some (0, none), some (0, none), some (0, none), some (0, none)], [], fun xs h => match xs with
  | [a1, a2, a3, a4] => c59 a1 a2 a3 a4 h
  | _ => none), (68, [some (112, some 0), some (0, none), some (0, none), some (0, none), some (0, none)], [], fun xs h => match xs with
  | [a1, a2, a3, a4] => c68 a1 a2 a3 a4 h
  | _ => none)]) kr (fun _ _ => none) 400 7 [some (112, 0), some (0, a1), some (0, a2), some (0, a3), some (0, a4)] [] h := by rfl
set_option maxRecDepth 100000 in
theorem qe_M_runBarrier_7b {ρ : Type} (kr : Int → zH → Option ρ) (r7 : Int → Int → Int → Int → zH → Option ρ) (a1 a2 a3 a4 : Int) (h : zH) : M_runBarrier_7b kr r7 a1 a2 a3 a4 h = zseg zPP false (zcal []) (zget (999, 0, 0, 0) zc_M_runBarrier) (zcut zu_M_runBarrier) (zorc [(45, [some (112, some 0), some (0, none), none, none, some (0, none)], [], fun xs h => match xs with
  | [a1, a4] => M_runBarrier_45 kr r7 a1 a4 h
  | _ => none), (49, [some (112, some 0), some (0, none), none, none, some (0, none)], [], fun xs h => match xs with
  | [a1, a4] => M_runBarrier_49 kr r7 a1 a4 h
  | _ => none), (59, [some (112, some 0), some (0, none), some (0, none), some (0, none), some (0, none)], [], fun xs h => match xs with
  | [a1, a2, a3, a4] => M_runBarrier_59 kr r7 a1 a2 a3 a4 h
  | _ => none), (68, [some (112, some 0), some (0, none), some (0, none), some (0, none), some (0, none)], [], fun xs h => match xs with
  | [a1, a2, a3, a4] => M_runBarrier_68 kr a1 a2 a3 a4 h
  | _ => none)]) kr (fun _ _ => none) 400 7 [some (112, 0), some (0, a1), some (0, a2), some (0, a3), some (0, a4)] [] h := qg_M_runBarrier_7b kr r7 (M_runBarrier_45 kr r7) (M_runBarrier_49 kr r7) (M_runBarrier_59 kr r7) (M_runBarrier_68 kr) a1 a2 a3 a4 h
set_option maxRecDepth 100000 in
theorem qg_M_runBarrier {ρ : Type} (kr : Int → zH → Option ρ) (c7 : Int → Int → Int → Int → zH → Option ρ) (a1 : Int) (h : zH) : (c7 a1 (-1) 1 0 h) = zseg zPP false (zcal []) (zget (999, 0, 0, 0) zc_M_runBarrier) (zcut zu_M_runBarrier) (zorc [(7, [some (112, some 0), some (0, none), some (0, none), some (0, none), some (0, none)], [], fun xs h => match xs with
  | [a1, a2, a3, a4] => c7 a1 a2 a3 a4 h
  | _ => none)]) kr (fun _ _ => none) 400 0 [some (112, 0), some (0, a1), none, none, none] [] h := by rfl
set_option maxRecDepth 100000 in
theorem qe_M_runBarrier {ρ : Type} (kr : Int → zH → Option ρ) (a1 : Int) (h : zH) : M_runBarrier a1 h kr = zseg zPP false (zcal []) (zget (999, 0, 0, 0) zc_M_runBarrier) (zcut zu_M_runBarrier) (zorc [(7, [some (112, some 0), some (0, none), some (0, none), some (0, none), some (0, none)], [], fun xs h => match xs with
  | [a1, a2, a3, a4] => M_runBarrier_7 kr a1 a2 a3 a4 h
  | _ => none)]) kr (fun _ _ => none) 400 0 [some (112, 0), some (0, a1), none, none, none] [] h := qg_M_runBarrier kr (M_runBarrier_7 kr) a1 h
def zc_M_runBlock : List zI := [(0, 0, 0, 0), (17, 0, 5, 0), (999, 0, 0, 0), (11, 0, 5, 0), (999, 0, 0, 0), (1, 16, 0, 0), (999, 0, 0, 0), (69, 72, 79, 0), (999, 0, 0, 0), (999, 0, 0, 0), (14, 0, 0, 112), (80, 12, 176, 71), (999, 0, 0, 0), (999, 0, 0, 0), (11, 0, 5, 0), (999, 0, 0, 0), (0, 0, 0, 0), (95, 0, 0, 113), (14, 0, 0, 112), (80, 12, 179, 72), (999, 0, 0, 0), (999, 0, 0, 0), (11, 0, 5, 0), (999, 0, 0, 0), (1, 114, 0, 0), (999, 0, 0, 0), (97, 0, 0, 114), (14, 0, 0, 112), (80, 12, 182, 73), (999, 0, 0, 0), (999, 0, 0, 0), (11, 0, 5, 0), (999, 0, 0, 0), (0, 0, 0, 0), (95, 0, 0, 115), (14, 0, 0, 112), (80, 12, 170, 69), (999, 0, 0, 0), (999, 0, 0, 0), (11, 0, 5, 0), (999, 0, 0, 0), (0, 0, 0, 0), (95, 0, 0, 111), (0, 0, 0, 0), (17, 0, 6, 0), (999, 0, 0, 0), (11, 0, 6, 0), (999, 0, 0, 0), (1, 8, 0, 0), (999, 0, 0, 0), (69, 23, 73, 0), (999, 0, 0, 0), (999, 0, 0, 0), (14, 0, 0, 112), (80, 12, 173, 70), (999, 0, 0, 0), (999, 0, 0, 0), (1, 8, 0, 0), (999, 0, 0, 0), (11, 0, 5, 0), (999, 0, 0, 0), (32, 0, 0, 0), (11, 0, 6, 0), (999, 0, 0, 0), (30, 0, 0, 0), (0, 0, 0, 0), (95, 0, 0, 112), (22, 1, 6, 0), (999, 0, 0, 0), (999, 0, 0, 0), (72, (-24), 46, 0), (999, 0, 0, 0), (999, 0, 0, 0), (22, 1, 5, 0), (999, 0, 0, 0), (999, 0, 0, 0), (72, (-73), 3, 0), (999, 0, 0, 0), (999, 0, 0, 0), (1, 112, 0, 0), (999, 0, 0, 0), (17, 0, 5, 0), (999, 0, 0, 0), (11, 0, 5, 0), (999, 0, 0, 0), (1, 112, 0, 0), (999, 0, 0, 0), (67, 59, 146, 0), (999, 0, 0, 0), (999, 0, 0, 0), (0, 0, 0, 0), (17, 0, 6, 0), (999, 0, 0, 0), (11, 0, 6, 0), (999, 0, 0, 0), (10, 0, 3, 0), (69, 40, 136, 0), (999, 0, 0, 0), (999, 0, 0, 0), (11, 0, 4, 0), (999, 0, 0, 0), (60, 12, 113, 0), (999, 0, 0, 0), (999, 0, 0, 0), (10, 0, 3, 0), (0, 1, 0, 0), (31, 0, 0, 0), (11, 0, 6, 0), (999, 0, 0, 0), (31, 0, 0, 0), (72, 5, 115, 0), (999, 0, 0, 0), (999, 0, 0, 0), (11, 0, 6, 0), (999, 0, 0, 0), (17, 0, 7, 0), (999, 0, 0, 0), (14, 0, 0, 112), (10, 0, 1, 0), (10, 0, 2, 0), (11, 0, 7, 0), (999, 0, 0, 0), (110, 0, 456, 157), (999, 0, 0, 0), (999, 0, 0, 0), (61, 5, 130, 0), (999, 0, 0, 0), (999, 0, 0, 0), (0, 0, 0, 0), (130, 0, 1, 0), (22, 1, 6, 0), (999, 0, 0, 0), (999, 0, 0, 0), (72, (-40), 93, 0), (999, 0, 0, 0), (999, 0, 0, 0), (14, 0, 0, 112), (10, 0, 3, 0), (110, 0, 459, 158), (999, 0, 0, 0), (999, 0, 0, 0), (17, 0, 5, 0), (999, 0, 0, 0), (72, (-60), 83, 0), (999, 0, 0, 0), (999, 0, 0, 0), (11, 0, 5, 0), (999, 0, 0, 0), (1, 101, 0, 0), (999, 0, 0, 0), (67, 7, 157, 0), (999, 0, 0, 0), (999, 0, 0, 0), (0, 1, 0, 0), (72, 4, 158, 0), (999, 0, 0, 0), (999, 0, 0, 0), (0, 0, 0, 0), (130, 0, 1, 0)]
def zu_M_runBlock : List (Nat × List Bool) := [(3, [true, true, true, true, true, true, false, false]), (46, [true, true, true, true, true, true, true, false]), (83, [true, true, true, true, true, true, false, false]), (93, [true, true, true, true, true, false, true, false]), (115, [true, true, true, true, true, false, true, false]), (158, [false, false, false, false, false, false, false, false])]
set_option maxRecDepth 100000 in
theorem qg_M_runBlock_46b {ρ : Type} (kr : Int → zH → Option ρ) (r3 : Int → Int → Int → Int → Int → zH → Option ρ) (r46 : Int → Int → Int → Int → Int → Int → zH → Option ρ) (a1 a2 a3 a4 a5 a6 : Int) (h : zH) : (if a6 < 8 then (zix 128 (wr ((wr (8 * a5)) + a6)) fun j1 =>
zlet (zset h 112 0 j1 0) fun h2 =>
r46 a1 a2 a3 a4 a5 (wr (a6 + 1)) h2)
else r3 a1 a2 a3 a4 (wr (a5 + 1)) h) = zseg zPP false (zcal []) (zget (999, 0, 0, 0) zc_M_runBlock) (zcut zu_M_runBlock) (zorc [(3, [some (112, some 0), some (0, none), some (0, none), some (0, none), some (0, none), some (0, none), none, none], [], fun xs h => match xs with
  | [a1, a2, a3, a4, a5] => r3 a1 a2 a3 a4 a5 h
  | _ => none), (46, [some (112, some 0), some (0, none), some (0, none), some (0, none), some (0, none), some (0, none), some (0, none), none], [], fun xs h => match xs with
  | [a1, a2, a3, a4, a5, a6] => r46 a1 a2 a3 a4 a5 a6 h
  | _ => none)]) kr (fun _ _ => none) 400 46 [some (112, 0), some (0, a1), some (0, a2), some (0, a3), some (0, a4), some (0, a5), some (0, a6), none] [] h := by rfl
set_option maxRecDepth 100000 in
theorem qe_M_runBlock_46b {ρ : Type} (kr : Int → zH → Option ρ) (r3 : Int → Int → Int → Int → Int → zH → Option ρ) (r46 : Int → Int → Int → Int → Int → Int → zH → Option ρ) (a1 a2 a3 a4 a5 a6 : Int) (h : zH) : M_runBlock_46b kr r3 r46 a1 a2 a3 a4 a5 a6 h = zseg zPP false (zcal []) (zget (999, 0, 0, 0) zc_M_runBlock) (zcut zu_M_runBlock) (zorc [(3, [some (112, some 0), some (0, none), some (0, none), some (0, none), some (0, none), some (0, none), none, none], [], fun xs h => match xs with
  | [a1, a2, a3, a4, a5] => r3 a1 a2 a3 a4 a5 h
  | _ => none), (46, [some (112, some 0), some (0, none), some (0, none), some (0, none), some (0, none), some (0, none), some (0, none), none], [], fun xs h => match xs with
  | [a1, a2, a3, a4, a5, a6] => r46 a1 a2 a3 a4 a5 a6 h
  | _ => none)]) kr (fun _ _ => none) 400 46 [some (112, 0), some (0, a1), some (0, a2), some (0, a3), some (0, a4), some (0, a5), some (0, a6), none] [] h := qg_M_runBlock_46b kr r3 r46 a1 a2 a3 a4 a5 a6 h
set_option maxRecDepth 100000 in
theorem qg_M_runBlock_115 {ρ : Type} (kr : Int → zH → Option ρ) (r83 : Int → Int → Int → Int → Int → zH → Option ρ) (r93 : Int → Int → Int → Int → Int → zH → Option ρ) (F_M_runThread : Int → Int → Int → zH → (Int → zH → Option ρ) → Option ρ) (a1 a2 a3 a4 a6 t0 : Int) (h : zH) : (F_M_runThread a1 a2 t0 h  fun v1 h2 =>
if v1 = 0 then kr 0 h2
else r93 a1 a2 a3 a4 (wr (a6 + 1)) h2) = zseg zPP false (zcal [(157, [some 0, none, none, none], fun xs h kr kt => match xs with
  | [x1, x2, x3] => F_M_runThread x1 x2 x3 h kr
  | _ => none)]) (zget (999, 0, 0, 0) zc_M_runBlock) (zcut zu_M_runBlock) (zorc [(93, [some (112, some 0), some (0, none), some (0, none), some (0, none), some (0, none), none, some (0, none), none], [], fun xs h => match xs with
  | [a1, a2, a3, a4, a6] => r93 a1 a2 a3 a4 a6 h
  | _ => none)]) kr (fun _ _ => none) 400 115 [some (112, 0), some (0, a1), some (0, a2), some (0, a3), some (0, a4), none, some (0, a6), none] [(0, t0)] h := by rfl
set_option maxRecDepth 100000 in
theorem qe_M_runBlock_115 {ρ : Type} (kr : Int → zH → Option ρ) (r83 : Int → Int → Int → Int → Int → zH → Option ρ) (r93 : Int → Int → Int → Int → Int → zH → Option ρ) (a1 a2 a3 a4 a6 t0 : Int) (h : zH) : M_runBlock_115 kr r83 r93 a1 a2 a3 a4 a6 t0 h = zseg zPP false (zcal [(157, [some 0, none, none, none], fun xs h kr kt => match xs with
  | [x1, x2, x3] => M_runThread x1 x2 x3 h kr
  | _ => none)]) (zget (999, 0, 0, 0) zc_M_runBlock) (zcut zu_M_runBlock) (zorc [(93, [some (112, some 0), some (0, none), some (0, none), some (0, none), some (0, none), none, some (0, none), none], [], fun xs h => match xs with
  | [a1, a2, a3, a4, a6] => r93 a1 a2 a3 a4 a6 h
  | _ => none)]) kr (fun _ _ => none) 400 115 [some (112, 0), some (0, a1), some (0, a2), some (0, a3), some (0, a4), none, some (0, a6), none] [(0, t0)] h := qg_M_runBlock_115 kr r83 r93 M_runThread a1 a2 a3 a4 a6 t0 h
set_option maxRecDepth 100000 in
theorem qg_M_runBlock_93b {ρ : Type} (kr : Int → zH → Option ρ) (r83 : Int → Int → Int → Int → Int → zH → Option ρ) (r93 : Int → Int → Int → Int → Int → zH → Option ρ) (F_M_runBarrier : Int → zH → (Int → zH → Option ρ) → Option ρ) (c115 : Int → Int → Int → Int → Int → Int → zH → Option ρ) (a1 a2 a3 a4 a6 : Int) (h : zH) : (if a6 < a3 then (if a4 = 0 then c115 a1 a2 a3 a4 a6 a6 h
else c115 a1 a2 a3 a4 a6 (wr ((wr (a3 - 1)) - a6)) h)
else F_M_runBarrier a3 h  fun v1 h2 =>
r83 a1 a2 a3 a4 v1 h2) = zseg zPP false (zcal [(158, [some 0, none], fun xs h kr kt => match xs with
  | [x1] => F_M_runBarrier x1 h kr
  | _ => none)]) (zget (999, 0, 0, 0) zc_M_runBlock) (zcut zu_M_runBlock) (zorc [(83, [some (112, some 0), some (0, none), some (0, none), some (0, none), some (0, none), some (0, none), none, none], [], fun xs h => match xs with
  | [a1, a2, a3, a4, a5] => r83 a1 a2 a3 a4 a5 h
  | _ => none), (115, [some (112, some 0), some (0, none), some (0, none), some (0, none), some (0, none), none, some (0, none), none], [(0, none)], fun xs h => match xs with
  | [a1, a2, a3, a4, a6, t0] => c115 a1 a2 a3 a4 a6 t0 h
  | _ => none)]) kr (fun _ _ => none) 400 93 [some (112, 0), some (0, a1), some (0, a2), some (0, a3), some (0, a4), none, some (0, a6), none] [] h := by rfl
set_option maxRecDepth 100000 in
theorem qe_M_runBlock_93b {ρ : Type} (kr : Int → zH → Option ρ) (r83 : Int → Int → Int → Int → Int → zH → Option ρ) (r93 : Int → Int → Int → Int → Int → zH → Option ρ) (a1 a2 a3 a4 a6 : Int) (h : zH) : M_runBlock_93b kr r83 r93 a1 a2 a3 a4 a6 h = zseg zPP false (zcal [(158, [some 0, none], fun xs h kr kt => match xs with
  | [x1] => M_runBarrier x1 h kr
  | _ => none)]) (zget (999, 0, 0, 0) zc_M_runBlock) (zcut zu_M_runBlock) (zorc [(83, [some (112, some 0), some (0, none), some (0, none), some (0, none), some (0, none), some (0, none), none, none], [], fun xs h => match xs with
  | [a1, a2, a3, a4, a5] => r83 a1 a2 a3 a4 a5 h
  | _ => none), (115, [some (112, some 0), some (0, none), some (0, none), some (0, none), some (0, none), none, some (0, none), none], [(0, none)], fun xs h => match xs with
  | [a1, a2, a3, a4, a6, t0] => M_runBlock_115 kr r83 r93 a1 a2 a3 a4 a6 t0 h
  | _ => none)]) kr (fun _ _ => none) 400 93 [some (112, 0), some (0, a1), some (0, a2), some (0, a3), some (0, a4), none, some (0, a6), none] [] h := qg_M_runBlock_93b kr r83 r93 M_runBarrier (M_runBlock_115 kr r83 r93) a1 a2 a3 a4 a6 h
set_option maxRecDepth 100000 in
theorem qg_M_runBlock_158 {ρ : Type} (kr : Int → zH → Option ρ) (t0 : Int) (h : zH) : (znar 1 t0 fun x1 => kr x1 h) = zseg zPP false (zcal []) (zget (999, 0, 0, 0) zc_M_runBlock) (zcut zu_M_runBlock) (zorc []) kr (fun _ _ => none) 400 158 [none, none, none, none, none, none, none, none] [(0, t0)] h := by rfl
set_option maxRecDepth 100000 in
theorem qe_M_runBlock_158 {ρ : Type} (kr : Int → zH → Option ρ) (t0 : Int) (h : zH) : M_runBlock_158 kr t0 h = zseg zPP false (zcal []) (zget (999, 0, 0, 0) zc_M_runBlock) (zcut zu_M_runBlock) (zorc []) kr (fun _ _ => none) 400 158 [none, none, none, none, none, none, none, none] [(0, t0)] h := qg_M_runBlock_158 kr t0 h
set_option maxRecDepth 100000 in
theorem qg_M_runBlock_83b {ρ : Type} (kr : Int → zH → Option ρ) (r83 : Int → Int → Int → Int → Int → zH → Option ρ) (c93 : Int → Int → Int → Int → Int → zH → Option ρ) (c158 : Int → zH → Option ρ) (a1 a2 a3 a4 a5 : Int) (h : zH) : (if a5 = 112 then c93 a1 a2 a3 a4 0 h
else if a5 = 101 then c158 1 h
else c158 0 h) = zseg zPP false (zcal []) (zget (999, 0, 0, 0) zc_M_runBlock) (zcut zu_M_runBlock) (zorc [(93, [some (112, some 0), some (0, none), some (0, none), some (0, none), some (0, none), none, some (0, none), none], [], fun xs h => match xs with
  | [a1, a2, a3, a4, a6] => c93 a1 a2 a3 a4 a6 h
  | _ => none), (158, [none, none, none, none, none, none, none, none], [(0, none)], fun xs h => match xs with
  | [t0] => c158 t0 h
  | _ => none)]) kr (fun _ _ => none) 400 83 [some (112, 0), some (0, a1), some (0, a2), some (0, a3), some (0, a4), some (0, a5), none, none] [] h := by rfl
set_option maxRecDepth 100000 in
theorem qe_M_runBlock_83b {ρ : Type} (kr : Int → zH → Option ρ) (r83 : Int → Int → Int → Int → Int → zH → Option ρ) (a1 a2 a3 a4 a5 : Int) (h : zH) : M_runBlock_83b kr r83 a1 a2 a3 a4 a5 h = zseg zPP false (zcal []) (zget (999, 0, 0, 0) zc_M_runBlock) (zcut zu_M_runBlock) (zorc [(93, [some (112, some 0), some (0, none), some (0, none), some (0, none), some (0, none), none, some (0, none), none], [], fun xs h => match xs with
  | [a1, a2, a3, a4, a6] => M_runBlock_93 kr r83 a1 a2 a3 a4 a6 h
  | _ => none), (158, [none, none, none, none, none, none, none, none], [(0, none)], fun xs h => match xs with
  | [t0] => M_runBlock_158 kr t0 h
  | _ => none)]) kr (fun _ _ => none) 400 83 [some (112, 0), some (0, a1), some (0, a2), some (0, a3), some (0, a4), some (0, a5), none, none] [] h := qg_M_runBlock_83b kr r83 (M_runBlock_93 kr r83) (M_runBlock_158 kr) a1 a2 a3 a4 a5 h
set_option maxRecDepth 100000 in
theorem qg_M_runBlock_3b {ρ : Type} (kr : Int → zH → Option ρ) (r3 : Int → Int → Int → Int → Int → zH → Option ρ) (c46 : Int → Int → Int → Int → Int → Int → zH → Option ρ) (c83 : Int → Int → Int → Int → Int → zH → Option ρ) (a1 a2 a3 a4 a5 : Int) (h : zH) : (if a5 < 16 then (zix 16 a5 fun j1 =>
zlet (zset h 113 0 j1 0) fun h2 =>
zix 16 a5 fun j3 =>
zlet (zset h2 114 0 j3 114) fun h4 =>
zix 16 a5 fun j5 =>
zlet (zset h4 115 0 j5 0) fun h6 =>
zix 16 a5 fun j7 =>
zlet (zset h6 111 0 j7 0) fun h8 =>
c46 a1 a2 a3 a4 a5 0 h8)
else c83 a1 a2 a3 a4 112 h) = zseg zPP false (zcal []) (zget (999, 0, 0, 0) zc_M_runBlock) (zcut zu_M_runBlock) (zorc [(46, [some (112, some 0), some (0, none), some (0, none), some (0, none), some (0, none), some (0, none), some (0, none), none], [], fun xs h => match xs with
  | [a1, a2, a3, a4, a5, a6] => c46 a1 a2 a3 a4 a5 a6 h
  | _ => none), (83, [some (112, some 0), some (0, none), some (0, none), some (0, none), some (0, none), some (0, none), none, none], [], fun xs h => match xs with
  | [a1, a2, a3, a4, a5] => c83 a1 a2 a3 a4 a5 h
  | _ => none)]) kr (fun _ _ => none) 400 3 [some (112, 0), some (0, a1), some (0, a2), some (0, a3), some (0, a4), some (0, a5), none, none] [] h := by rfl
set_option maxRecDepth 100000 in
theorem qe_M_runBlock_3b {ρ : Type} (kr : Int → zH → Option ρ) (r3 : Int → Int → Int → Int → Int → zH → Option ρ) (a1 a2 a3 a4 a5 : Int) (h : zH) : M_runBlock_3b kr r3 a1 a2 a3 a4 a5 h = zseg zPP false (zcal []) (zget (999, 0, 0, 0) zc_M_runBlock) (zcut zu_M_runBlock) (zorc [(46, [some (112, some 0), some (0, none), some (0, none), some (0, none), some (0, none), some (0, none), some (0, none), none], [], fun xs h => match xs with
  | [a1, a2, a3, a4, a5, a6] => M_runBlock_46 kr r3 a1 a2 a3 a4 a5 a6 h
  | _ => none), (83, [some (112, some 0), some (0, none), some (0, none), some (0, none), some (0, none), some (0, none), none, none], [], fun xs h => match xs with
  | [a1, a2, a3, a4, a5] => M_runBlock_83 kr a1 a2 a3 a4 a5 h
  | _ => none)]) kr (fun _ _ => none) 400 3 [some (112, 0), some (0, a1), some (0, a2), some (0, a3), some (0, a4), some (0, a5), none, none] [] h := qg_M_runBlock_3b kr r3 (M_runBlock_46 kr r3) (M_runBlock_83 kr) a1 a2 a3 a4 a5 h
set_option maxRecDepth 100000 in
theorem qg_M_runBlock {ρ : Type} (kr : Int → zH → Option ρ) (c3 : Int → Int → Int → Int → Int → zH → Option ρ) (a1 a2 a3 a4 : Int) (h : zH) : (c3 a1 a2 a3 a4 0 h) = zseg zPP false (zcal []) (zget (999, 0, 0, 0) zc_M_runBlock) (zcut zu_M_runBlock) (zorc [(3, [some (112, some 0), some (0, none), some (0, none), some (0, none), some (0, none), some (0, none), none, none], [], fun xs h => match xs with
  | [a1, a2, a3, a4, a5] => c3 a1 a2 a3 a4 a5 h
  | _ => none)]) kr (fun _ _ => none) 400 0 [some (112, 0), some (0, a1), some (0, a2), some (0, a3), some (0, a4), none, none, none] [] h := by rfl
set_option maxRecDepth 100000 in
theorem qe_M_runBlock {ρ : Type} (kr : Int → zH → Option ρ) (a1 a2 a3 a4 : Int) (h : zH) : M_runBlock a1 a2 a3 a4 h kr = zseg zPP false (zcal []) (zget (999, 0, 0, 0) zc_M_runBlock) (zcut zu_M_runBlock) (zorc [(3, [some (112, some 0), some (0, none), some (0, none), some (0, none), some (0, none), some (0, none), none, none], [], fun xs h => match xs with
  | [a1, a2, a3, a4, a5] => M_runBlock_3 kr a1 a2 a3 a4 a5 h
  | _ => none)]) kr (fun _ _ => none) 400 0 [some (112, 0), some (0, a1), some (0, a2), some (0, a3), some (0, a4), none, none, none] [] h := qg_M_runBlock kr (M_runBlock_3 kr) a1 a2 a3 a4 h
def zc_M_serial : List zI := [(14, 0, 0, 112), (0, 0, 0, 0), (82, 12, 185, 0), (999, 0, 0, 0), (999, 0, 0, 0), (14, 0, 0, 112), (14, 0, 0, 112), (10, 0, 1, 0), (110, 0, 203, 66), (999, 0, 0, 0), (999, 0, 0, 0), (61, 11, 22, 0), (999, 0, 0, 0), (999, 0, 0, 0), (11, 0, 5, 0), (999, 0, 0, 0), (113, 0, 222, 68), (999, 0, 0, 0), (999, 0, 0, 0), (60, 7, 26, 0), (999, 0, 0, 0), (999, 0, 0, 0), (0, 1, 0, 0), (72, 4, 27, 0), (999, 0, 0, 0), (999, 0, 0, 0), (0, 0, 0, 0), (0, 1, 0, 0), (110, 0, 199, 65), (999, 0, 0, 0), (999, 0, 0, 0), (61, 36, 67, 0), (999, 0, 0, 0), (999, 0, 0, 0), (14, 0, 0, 112), (10, 0, 2, 0), (0, 1, 0, 0), (1, 6, 0, 0), (999, 0, 0, 0), (113, 0, 192, 64), (999, 0, 0, 0), (999, 0, 0, 0), (60, 13, 55, 0), (999, 0, 0, 0), (999, 0, 0, 0), (10, 0, 3, 0), (0, 1, 0, 0), (1, 16, 0, 0), (999, 0, 0, 0), (113, 0, 192, 64), (999, 0, 0, 0), (999, 0, 0, 0), (61, 7, 59, 0), (999, 0, 0, 0), (999, 0, 0, 0), (0, 1, 0, 0), (72, 4, 60, 0), (999, 0, 0, 0), (999, 0, 0, 0), (0, 0, 0, 0), (0, 2, 0, 0), (110, 0, 199, 65), (999, 0, 0, 0), (999, 0, 0, 0), (60, 5, 69, 0), (999, 0, 0, 0), (999, 0, 0, 0), (0, 0, 0, 0), (130, 0, 0, 0), (0, 0, 0, 0), (17, 0, 6, 0), (999, 0, 0, 0), (1, 40, 0, 0), (999, 0, 0, 0), (10, 0, 1, 0), (32, 0, 0, 0), (17, 0, 7, 0), (999, 0, 0, 0), (11, 0, 7, 0), (999, 0, 0, 0), (1, 40, 0, 0), (999, 0, 0, 0), (10, 0, 1, 0), (32, 0, 0, 0), (14, 0, 0, 112), (80, 12, 23, 7), (999, 0, 0, 0), (999, 0, 0, 0), (10, 0, 1, 0), (90, 0, 0, 63), (30, 0, 0, 0), (69, 57, 148, 0), (999, 0, 0, 0), (999, 0, 0, 0), (11, 0, 6, 0), (999, 0, 0, 0), (61, 39, 135, 0), (999, 0, 0, 0), (999, 0, 0, 0), (14, 0, 0, 112), (80, 12, 30, 9), (999, 0, 0, 0), (999, 0, 0, 0), (11, 0, 7, 0), (999, 0, 0, 0), (92, 0, 0, 65), (1, 118, 0, 0), (999, 0, 0, 0), (66, 27, 135, 0), (999, 0, 0, 0), (999, 0, 0, 0), (14, 0, 0, 112), (80, 12, 30, 9), (999, 0, 0, 0), (999, 0, 0, 0), (11, 0, 7, 0), (999, 0, 0, 0), (92, 0, 0, 65), (1, 115, 0, 0), (999, 0, 0, 0), (66, 15, 135, 0), (999, 0, 0, 0), (999, 0, 0, 0), (14, 0, 0, 112), (80, 12, 30, 9), (999, 0, 0, 0), (999, 0, 0, 0), (11, 0, 7, 0), (999, 0, 0, 0), (92, 0, 0, 65), (1, 99, 0, 0), (999, 0, 0, 0), (67, 7, 139, 0), (999, 0, 0, 0), (999, 0, 0, 0), (0, 1, 0, 0), (72, 4, 140, 0), (999, 0, 0, 0), (999, 0, 0, 0), (0, 0, 0, 0), (17, 0, 6, 0), (999, 0, 0, 0), (22, 1, 7, 0), (999, 0, 0, 0), (999, 0, 0, 0), (72, (-67), 78, 0), (999, 0, 0, 0), (999, 0, 0, 0), (14, 0, 0, 112), (11, 0, 6, 0), (999, 0, 0, 0), (0, 3, 0, 0), (110, 0, 199, 65), (999, 0, 0, 0), (999, 0, 0, 0), (60, 5, 160, 0), (999, 0, 0, 0), (999, 0, 0, 0), (0, 0, 0, 0), (130, 0, 0, 0), (0, 0, 0, 0), (17, 0, 7, 0), (999, 0, 0, 0), (11, 0, 7, 0), (999, 0, 0, 0), (1, 64, 0, 0), (999, 0, 0, 0), (69, 23, 190, 0), (999, 0, 0, 0), (999, 0, 0, 0), (14, 0, 0, 112), (80, 12, 167, 68), (999, 0, 0, 0), (999, 0, 0, 0), (11, 0, 7, 0), (999, 0, 0, 0), (14, 0, 0, 112), (80, 12, 13, 3), (999, 0, 0, 0), (999, 0, 0, 0), (11, 0, 7, 0), (999, 0, 0, 0), (90, 0, 0, 60), (95, 0, 0, 110), (22, 1, 7, 0), (999, 0, 0, 0), (999, 0, 0, 0), (72, (-24), 163, 0), (999, 0, 0, 0), (999, 0, 0, 0), (0, 1, 0, 0), (17, 0, 7, 0), (999, 0, 0, 0), (0, 0, 0, 0), (17, 0, 8, 0), (999, 0, 0, 0), (11, 0, 8, 0), (999, 0, 0, 0), (10, 0, 2, 0), (69, 40, 239, 0), (999, 0, 0, 0), (999, 0, 0, 0), (11, 0, 7, 0), (999, 0, 0, 0), (60, 35, 239, 0), (999, 0, 0, 0), (999, 0, 0, 0), (14, 0, 0, 112), (10, 0, 1, 0), (11, 0, 4, 0), (999, 0, 0, 0), (60, 12, 223, 0), (999, 0, 0, 0), (999, 0, 0, 0), (10, 0, 2, 0), (0, 1, 0, 0), (31, 0, 0, 0), (11, 0, 8, 0), (999, 0, 0, 0), (31, 0, 0, 0), (72, 5, 225, 0), (999, 0, 0, 0), (999, 0, 0, 0), (11, 0, 8, 0), (999, 0, 0, 0), (10, 0, 3, 0), (11, 0, 4, 0), (999, 0, 0, 0), (110, 0, 463, 159), (999, 0, 0, 0), (999, 0, 0, 0), (17, 0, 7, 0), (999, 0, 0, 0), (22, 1, 8, 0), (999, 0, 0, 0), (999, 0, 0, 0), (72, (-40), 196, 0), (999, 0, 0, 0), (999, 0, 0, 0), (14, 0, 0, 112), (11, 0, 7, 0), (999, 0, 0, 0), (61, 7, 249, 0), (999, 0, 0, 0), (999, 0, 0, 0), (0, 1, 0, 0), (72, 4, 250, 0), (999, 0, 0, 0), (999, 0, 0, 0), (0, 0, 0, 0), (0, 4, 0, 0), (110, 0, 199, 65), (999, 0, 0, 0), (999, 0, 0, 0), (60, 7, 261, 0), (999, 0, 0, 0), (999, 0, 0, 0), (0, 0, 0, 0), (72, 10, 268, 0), (999, 0, 0, 0), (999, 0, 0, 0), (14, 0, 0, 112), (80, 12, 167, 68), (999, 0, 0, 0), (999, 0, 0, 0), (11, 0, 5, 0), (999, 0, 0, 0), (90, 0, 0, 110), (130, 0, 0, 0)]
def zu_M_serial : List (Nat × List Bool) := [(22, [true, true, true, true, true, true, false, false, false]), (27, [true, true, true, true, true, true, false, false, false]), (55, [true, true, true, true, true, true, false, false, false]), (60, [true, true, true, true, true, true, false, false, false]), (67, [false, false, false, false, false, false, false, false, false]), (78, [true, true, true, true, true, true, true, true, false]), (135, [true, true, true, true, true, true, false, true, false]), (140, [true, true, true, true, true, true, false, true, false]), (163, [true, true, true, true, true, true, false, true, false]), (196, [true, true, true, true, true, true, false, true, true]), (225, [true, true, true, true, true, true, false, false, true]), (239, [true, false, false, false, false, true, false, true, false]), (250, [true, false, false, false, false, true, false, false, false]), (268, [false, false, false, false, false, false, false, false, false])]
set_option maxRecDepth 100000 in
theorem qg_M_serial_67 {ρ : Type} (kr : Int → zH → Option ρ) (h : zH) : (kr 0 h) = zseg zPP false (zcal []) (zget (999, 0, 0, 0) zc_M_serial) (zcut zu_M_serial) (zorc []) kr (fun _ _ => none) 400 67 [none, none, none, none, none, none, none, none, none] [] h := by rfl
set_option maxRecDepth 100000 in
theorem qe_M_serial_67 {ρ : Type} (kr : Int → zH → Option ρ) (h : zH) : M_serial_67 kr h = zseg zPP false (zcal []) (zget (999, 0, 0, 0) zc_M_serial) (zcut zu_M_serial) (zorc []) kr (fun _ _ => none) 400 67 [none, none, none, none, none, none, none, none, none] [] h := qg_M_serial_67 kr h
set_option maxRecDepth 100000 in
theorem qg_M_serial_140 {ρ : Type} (kr : Int → zH → Option ρ) (r78 : Int → Int → Int → Int → Int → Int → Int → zH → Option ρ) (a1 a2 a3 a4 a5 a7 t0 : Int) (h : zH) : (r78 a1 a2 a3 a4 a5 t0 (wr (a7 + 1)) h) = zseg zPP false (zcal []) (zget (999, 0, 0, 0) zc_M_serial) (zcut zu_M_serial) (zorc [(78, [some (112, some 0), some (0, none), some (0, none), some (0, none), some (0, none), some (0, none), some (0, none), some (0, none), none], [], fun xs h => match xs with
  | [a1, a2, a3, a4, a5, a6, a7] => r78 a1 a2 a3 a4 a5 a6 a7 h
  | _ => none)]) kr (fun _ _ => none) 400 140 [some (112, 0), some (0, a1), some (0, a2), some (0, a3), some (0, a4), some (0, a5), none, some (0, a7), none] [(0, t0)] h := by rfl
set_option maxRecDepth 100000 in
theorem qe_M_serial_140 {ρ : Type} (kr : Int → zH → Option ρ) (r78 : Int → Int → Int → Int → Int → Int → Int → zH → Option ρ) (a1 a2 a3 a4 a5 a7 t0 : Int) (h : zH) : M_serial_140 kr r78 a1 a2 a3 a4 a5 a7 t0 h = zseg zPP false (zcal []) (zget (999, 0, 0, 0) zc_M_serial) (zcut zu_M_serial) (zorc [(78, [some (112, some 0), some (0, none), some (0, none), some (0, none), some (0, none), some (0, none), some (0, none), some (0, none), none], [], fun xs h => match xs with
  | [a1, a2, a3, a4, a5, a6, a7] => r78 a1 a2 a3 a4 a5 a6 a7 h
  | _ => none)]) kr (fun _ _ => none) 400 140 [some (112, 0), some (0, a1), some (0, a2), some (0, a3), some (0, a4), some (0, a5), none, some (0, a7), none] [(0, t0)] h := qg_M_serial_140 kr r78 a1 a2 a3 a4 a5 a7 t0 h
set_option maxRecDepth 100000 in
theorem qg_M_serial_135 {ρ : Type} (kr : Int → zH → Option ρ) (r78 : Int → Int → Int → Int → Int → Int → Int → zH → Option ρ) (c140 : Int → Int → Int → Int → Int → Int → Int → zH → Option ρ) (a1 a2 a3 a4 a5 a7 : Int) (h : zH) : (c140 a1 a2 a3 a4 a5 a7 1 h) = zseg zPP false (zcal []) (zget (999, 0, 0, 0) zc_M_serial) (zcut zu_M_serial) (zorc [(140, [some (112, some 0), some (0, none), some (0, none), some (0, none), some (0, none), some (0, none), none, some (0, none), none], [(0, none)], fun xs h => match xs with
  | [a1, a2, a3, a4, a5, a7, t0] => c140 a1 a2 a3 a4 a5 a7 t0 h
  | _ => none)]) kr (fun _ _ => none) 400 135 [some (112, 0), some (0, a1), some (0, a2), some (0, a3), some (0, a4), some (0, a5), none, some (0, a7), none] [] h := by rfl
set_option maxRecDepth 100000 in
theorem qe_M_serial_135 {ρ : Type} (kr : Int → zH → Option ρ) (r78 : Int → Int → Int → Int → Int → Int → Int → zH → Option ρ) (a1 a2 a3 a4 a5 a7 : Int) (h : zH) : M_serial_135 kr r78 a1 a2 a3 a4 a5 a7 h = zseg zPP false (zcal []) (zget (999, 0, 0, 0) zc_M_serial) (zcut zu_M_serial) (zorc [(140, [some (112, some 0), some (0, none), some (0, none), some (0, none), some (0, none), some (0, none), none, some (0, none), none], [(0, none)], fun xs h => match xs with
  | [a1, a2, a3, a4, a5, a7, t0] => M_serial_140 kr r78 a1 a2 a3 a4 a5 a7 t0 h
  | _ => none)]) kr (fun _ _ => none) 400 135 [some (112, 0), some (0, a1), some (0, a2), some (0, a3), some (0, a4), some (0, a5), none, some (0, a7), none] [] h := qg_M_serial_135 kr r78 (M_serial_140 kr r78) a1 a2 a3 a4 a5 a7 h
set_option maxRecDepth 100000 in
theorem qg_M_serial_225 {ρ : Type} (kr : Int → zH → Option ρ) (r196 : Int → Int → Int → Int → Int → Int → Int → zH → Option ρ) (F_M_runBlock : Int → Int → Int → Int → zH → (Int → zH → Option ρ) → Option ρ) (a1 a2 a3 a4 a5 a8 t0 t1 : Int) (h : zH) : (F_M_runBlock t1 t0 a3 a4 h  fun v1 h2 =>
r196 a1 a2 a3 a4 a5 v1 (wr (a8 + 1)) h2) = zseg zPP false (zcal [(159, [some 0, none, none, none, none], fun xs h kr kt => match xs with
  | [x1, x2, x3, x4] => F_M_runBlock x1 x2 x3 x4 h kr
  | _ => none)]) (zget (999, 0, 0, 0) zc_M_serial) (zcut zu_M_serial) (zorc [(196, [some (112, some 0), some (0, none), some (0, none), some (0, none), some (0, none), some (0, none), none, some (0, none), some (0, none)], [], fun xs h => match xs with
  | [a1, a2, a3, a4, a5, a7, a8] => r196 a1 a2 a3 a4 a5 a7 a8 h
  | _ => none)]) kr (fun _ _ => none) 400 225 [some (112, 0), some (0, a1), some (0, a2), some (0, a3), some (0, a4), some (0, a5), none, none, some (0, a8)] [(0, t0), (0, t1), (112, 0)] h := by rfl
set_option maxRecDepth 100000 in
theorem qe_M_serial_225 {ρ : Type} (kr : Int → zH → Option ρ) (r196 : Int → Int → Int → Int → Int → Int → Int → zH → Option ρ) (a1 a2 a3 a4 a5 a8 t0 t1 : Int) (h : zH) : M_serial_225 kr r196 a1 a2 a3 a4 a5 a8 t0 t1 h = zseg zPP false (zcal [(159, [some 0, none, none, none, none], fun xs h kr kt => match xs with
  | [x1, x2, x3, x4] => M_runBlock x1 x2 x3 x4 h kr
  | _ => none)]) (zget (999, 0, 0, 0) zc_M_serial) (zcut zu_M_serial) (zorc [(196, [some (112, some 0), some (0, none), some (0, none), some (0, none), some (0, none), some (0, none), none, some (0, none), some (0, none)], [], fun xs h => match xs with
  | [a1, a2, a3, a4, a5, a7, a8] => r196 a1 a2 a3 a4 a5 a7 a8 h
  | _ => none)]) kr (fun _ _ => none) 400 225 [some (112, 0), some (0, a1), some (0, a2), some (0, a3), some (0, a4), some (0, a5), none, none, some (0, a8)] [(0, t0), (0, t1), (112, 0)] h := qg_M_serial_225 kr r196 M_runBlock a1 a2 a3 a4 a5 a8 t0 t1 h
set_option maxRecDepth 100000 in
theorem qg_M_serial_268 {ρ : Type} (kr : Int → zH → Option ρ) (t0 : Int) (h : zH) : (kr t0 h) = zseg zPP false (zcal []) (zget (999, 0, 0, 0) zc_M_serial) (zcut zu_M_serial) (zorc []) kr (fun _ _ => none) 400 268 [none, none, none, none, none, none, none, none, none] [(0, t0)] h := by rfl
set_option maxRecDepth 100000 in
theorem qe_M_serial_268 {ρ : Type} (kr : Int → zH → Option ρ) (t0 : Int) (h : zH) : M_serial_268 kr t0 h = zseg zPP false (zcal []) (zget (999, 0, 0, 0) zc_M_serial) (zcut zu_M_serial) (zorc []) kr (fun _ _ => none) 400 268 [none, none, none, none, none, none, none, none, none] [(0, t0)] h := qg_M_serial_268 kr t0 h
set_option maxRecDepth 100000 in
theorem qg_M_serial_250 {ρ : Type} (kr : Int → zH → Option ρ) (F_M_fails : Int → Int → zH → (Int → zH → Option ρ) → Option ρ) (c268 : Int → zH → Option ρ) (a5 t0 : Int) (h : zH) : (F_M_fails t0 4 h  fun v1 h2 =>
if v1 = 0 then (zix 64 a5 fun j3 =>
c268 (zhD h2 110 0 j3) h2)
else c268 0 h2) = zseg zPP false (zcal [(65, [some 0, none, none], fun xs h kr kt => match xs with
  | [x1, x2] => F_M_fails x1 x2 h kr
  | _ => none)]) (zget (999, 0, 0, 0) zc_M_serial) (zcut zu_M_serial) (zorc [(268, [none, none, none, none, none, none, none, none, none], [(0, none)], fun xs h => match xs with
  | [t0] => c268 t0 h
  | _ => none)]) kr (fun _ _ => none) 400 250 [some (112, 0), none, none, none, none, some (0, a5), none, none, none] [(0, t0), (112, 0)] h := by rfl
set_option maxRecDepth 100000 in
theorem qe_M_serial_250 {ρ : Type} (kr : Int → zH → Option ρ) (a5 t0 : Int) (h : zH) : M_serial_250 kr a5 t0 h = zseg zPP false (zcal [(65, [some 0, none, none], fun xs h kr kt => match xs with
  | [x1, x2] => M_fails x1 x2 h kr
  | _ => none)]) (zget (999, 0, 0, 0) zc_M_serial) (zcut zu_M_serial) (zorc [(268, [none, none, none, none, none, none, none, none, none], [(0, none)], fun xs h => match xs with
  | [t0] => M_serial_268 kr t0 h
  | _ => none)]) kr (fun _ _ => none) 400 250 [some (112, 0), none, none, none, none, some (0, a5), none, none, none] [(0, t0), (112, 0)] h := qg_M_serial_250 kr M_fails (M_serial_268 kr) a5 t0 h
set_option maxRecDepth 100000 in
theorem qg_M_serial_239 {ρ : Type} (kr : Int → zH → Option ρ) (c250 : Int → Int → zH → Option ρ) (a5 a7 : Int) (h : zH) : (if a7 = 0 then c250 a5 1 h
else c250 a5 0 h) = zseg zPP false (zcal []) (zget (999, 0, 0, 0) zc_M_serial) (zcut zu_M_serial) (zorc [(250, [some (112, some 0), none, none, none, none, some (0, none), none, none, none], [(0, none), (112, some 0)], fun xs h => match xs with
  | [a5, t0] => c250 a5 t0 h
  | _ => none)]) kr (fun _ _ => none) 400 239 [some (112, 0), none, none, none, none, some (0, a5), none, some (0, a7), none] [] h := by rfl
set_option maxRecDepth 100000 in
theorem qe_M_serial_239 {ρ : Type} (kr : Int → zH → Option ρ) (a5 a7 : Int) (h : zH) : M_serial_239 kr a5 a7 h = zseg zPP false (zcal []) (zget (999, 0, 0, 0) zc_M_serial) (zcut zu_M_serial) (zorc [(250, [some (112, some 0), none, none, none, none, some (0, none), none, none, none], [(0, none), (112, some 0)], fun xs h => match xs with
  | [a5, t0] => M_serial_250 kr a5 t0 h
  | _ => none)]) kr (fun _ _ => none) 400 239 [some (112, 0), none, none, none, none, some (0, a5), none, some (0, a7), none] [] h := qg_M_serial_239 kr (M_serial_250 kr) a5 a7 h
set_option maxRecDepth 100000 in
theorem qg_M_serial_196b {ρ : Type} (kr : Int → zH → Option ρ) (r196 : Int → Int → Int → Int → Int → Int → Int → zH → Option ρ) (c225 : Int → Int → Int → Int → Int → Int → Int → Int → zH → Option ρ) (c239 : Int → Int → zH → Option ρ) (a1 a2 a3 a4 a5 a7 a8 : Int) (h : zH) : (if a8 < a2 then (if a7 = 0 then c239 a5 a7 h
else if a4 = 0 then c225 a1 a2 a3 a4 a5 a8 a8 a1 h
else c225 a1 a2 a3 a4 a5 a8 (wr ((wr (a2 - 1)) - a8)) a1 h)
else c239 a5 a7 h) = zseg zPP false (zcal []) (zget (999, 0, 0, 0) zc_M_serial) (zcut zu_M_serial) (zorc [(225, [some (112, some 0), some (0, none), some (0, none), some (0, none), some (0, none), some (0, none), none, none, some (0, none)], [(0, none), (0, none), (112, some 0)], fun xs h => match xs with
  | [a1, a2, a3, a4, a5, a8, t0, t1] => c225 a1 a2 a3 a4 a5 a8 t0 t1 h
  | _ => none), (239, [some (112, some 0), none, none, none, none, some (0, none), none, some (0, none), none], [], fun xs h => match xs with
  | [a5, a7] => c239 a5 a7 h
  | _ => none)]) kr (fun _ _ => none) 400 196 [some (112, 0), some (0, a1), some (0, a2), some (0, a3), some (0, a4), some (0, a5), none, some (0, a7), some (0, a8)] [] h := by rfl
set_option maxRecDepth 100000 in
theorem qe_M_serial_196b {ρ : Type} (kr : Int → zH → Option ρ) (r196 : Int → Int → Int → Int → Int → Int → Int → zH → Option ρ) (a1 a2 a3 a4 a5 a7 a8 : Int) (h : zH) : M_serial_196b kr r196 a1 a2 a3 a4 a5 a7 a8 h = zseg zPP false (zcal []) (zget (999, 0, 0, 0) zc_M_serial) (zcut zu_M_serial) (zorc [(225, [some (112, some 0), some (0, none), some (0, none), some (0, none), some (0, none), some (0, none), none, none, some (0, none)], [(0, none), (0, none), (112, some 0)], fun xs h => match xs with
  | [a1, a2, a3, a4, a5, a8, t0, t1] => M_serial_225 kr r196 a1 a2 a3 a4 a5 a8 t0 t1 h
  | _ => none), (239, [some (112, some 0), none, none, none, none, some (0, none), none, some (0, none), none], [], fun xs h => match xs with
  | [a5, a7] => M_serial_239 kr a5 a7 h
  | _ => none)]) kr (fun _ _ => none) 400 196 [some (112, 0), some (0, a1), some (0, a2), some (0, a3), some (0, a4), some (0, a5), none, some (0, a7), some (0, a8)] [] h := qg_M_serial_196b kr r196 (M_serial_225 kr r196) (M_serial_239 kr) a1 a2 a3 a4 a5 a7 a8 h
set_option maxRecDepth 100000 in
theorem qg_M_serial_163b {ρ : Type} (kr : Int → zH → Option ρ) (r163 : Int → Int → Int → Int → Int → Int → zH → Option ρ) (c196 : Int → Int → Int → Int → Int → Int → Int → zH → Option ρ) (a1 a2 a3 a4 a5 a7 : Int) (h : zH) : (if a7 < 64 then (zix 64 a7 fun j1 =>
zix 64 a7 fun j2 =>
zlet (zset h 110 0 j2 (zhD h 60 0 j1)) fun h3 =>
r163 a1 a2 a3 a4 a5 (wr (a7 + 1)) h3)
else c196 a1 a2 a3 a4 a5 1 0 h) = zseg zPP false (zcal []) (zget (999, 0, 0, 0) zc_M_serial) (zcut zu_M_serial) (zorc [(163, [some (112, some 0), some (0, none), some (0, none), some (0, none), some (0, none), some (0, none), none, some (0, none), none], [], fun xs h => match xs with
  | [a1, a2, a3, a4, a5, a7] => r163 a1 a2 a3 a4 a5 a7 h
  | _ => none), (196, [some (112, some 0), some (0, none), some (0, none), some (0, none), some (0, none), some (0, none), none, some (0, none), some (0, none)], [], fun xs h => match xs with
  | [a1, a2, a3, a4, a5, a7, a8] => c196 a1 a2 a3 a4 a5 a7 a8 h
  | _ => none)]) kr (fun _ _ => none) 400 163 [some (112, 0), some (0, a1), some (0, a2), some (0, a3), some (0, a4), some (0, a5), none, some (0, a7), none] [] h := by rfl
set_option maxRecDepth 100000 in
theorem qe_M_serial_163b {ρ : Type} (kr : Int → zH → Option ρ) (r163 : Int → Int → Int → Int → Int → Int → zH → Option ρ) (a1 a2 a3 a4 a5 a7 : Int) (h : zH) : M_serial_163b kr r163 a1 a2 a3 a4 a5 a7 h = zseg zPP false (zcal []) (zget (999, 0, 0, 0) zc_M_serial) (zcut zu_M_serial) (zorc [(163, [some (112, some 0), some (0, none), some (0, none), some (0, none), some (0, none), some (0, none), none, some (0, none), none], [], fun xs h => match xs with
  | [a1, a2, a3, a4, a5, a7] => r163 a1 a2 a3 a4 a5 a7 h
  | _ => none), (196, [some (112, some 0), some (0, none), some (0, none), some (0, none), some (0, none), some (0, none), none, some (0, none), some (0, none)], [], fun xs h => match xs with
  | [a1, a2, a3, a4, a5, a7, a8] => M_serial_196 kr a1 a2 a3 a4 a5 a7 a8 h
  | _ => none)]) kr (fun _ _ => none) 400 163 [some (112, 0), some (0, a1), some (0, a2), some (0, a3), some (0, a4), some (0, a5), none, some (0, a7), none] [] h := qg_M_serial_163b kr r163 (M_serial_196 kr) a1 a2 a3 a4 a5 a7 h
set_option maxRecDepth 100000 in
theorem qg_M_serial_78b {ρ : Type} (kr : Int → zH → Option ρ) (r78 : Int → Int → Int → Int → Int → Int → Int → zH → Option ρ) (F_M_fails : Int → Int → zH → (Int → zH → Option ρ) → Option ρ) (c135 : Int → Int → Int → Int → Int → Int → zH → Option ρ) (c140 : Int → Int → Int → Int → Int → Int → Int → zH → Option ρ) (c163 : Int → Int → Int → Int → Int → Int → zH → Option ρ) (a1 a2 a3 a4 a5 a6 a7 : Int) (h : zH) : (zix 4 a1 fun j1 =>
if a7 < (wr ((wr (40 * a1)) + (zhD h 63 0 j1))) then (if a6 = 0 then (zix 160 a7 fun j4 =>
if (zhD h 65 0 j4) = 118 then c135 a1 a2 a3 a4 a5 a7 h
else zix 160 a7 fun j5 =>
if (zhD h 65 0 j5) = 115 then c135 a1 a2 a3 a4 a5 a7 h
else zix 160 a7 fun j6 =>
if (zhD h 65 0 j6) = 99 then c135 a1 a2 a3 a4 a5 a7 h
else c140 a1 a2 a3 a4 a5 a7 0 h)
else c135 a1 a2 a3 a4 a5 a7 h)
else F_M_fails a6 3 h  fun v2 h3 =>
if v2 = 0 then c163 a1 a2 a3 a4 a5 0 h3
else kr 0 h3) = zseg zPP false (zcal [(65, [some 0, none, none], fun xs h kr kt => match xs with
  | [x1, x2] => F_M_fails x1 x2 h kr
  | _ => none)]) (zget (999, 0, 0, 0) zc_M_serial) (zcut zu_M_serial) (zorc [(135, [some (112, some 0), some (0, none), some (0, none), some (0, none), some (0, none), some (0, none), none, some (0, none), none], [], fun xs h => match xs with
  | [a1, a2, a3, a4, a5, a7] => c135 a1 a2 a3 a4 a5 a7 h
  | _ => none), (140, [some (112, some 0), some (0, none), some (0, none), some (0, none), some (0, none), some (0, none), none, some (0, none), none], [(0, none)], fun xs h => match xs with
  | [a1, a2, a3, a4, a5, a7, t0] => c140 a1 a2 a3 a4 a5 a7 t0 h
  | _ => none), (163, [some (112, some 0), some (0, none), some (0, none), some (0, none), some (0, none), some (0, none), none, some (0, none), none], [], fun xs h => match xs with
  | [a1, a2, a3, a4, a5, a7] => c163 a1 a2 a3 a4 a5 a7 h
  | _ => none)]) kr (fun _ _ => none) 400 78 [some (112, 0), some (0, a1), some (0, a2), some (0, a3), some (0, a4), some (0, a5), some (0, a6), some (0, a7), none] [] h := by rfl
set_option maxRecDepth 100000 in
theorem qe_M_serial_78b {ρ : Type} (kr : Int → zH → Option ρ) (r78 : Int → Int → Int → Int → Int → Int → Int → zH → Option ρ) (a1 a2 a3 a4 a5 a6 a7 : Int) (h : zH) : M_serial_78b kr r78 a1 a2 a3 a4 a5 a6 a7 h = zseg zPP false (zcal [(65, [some 0, none, none], fun xs h kr kt => match xs with
  | [x1, x2] => M_fails x1 x2 h kr
  | _ => none)]) (zget (999, 0, 0, 0) zc_M_serial) (zcut zu_M_serial) (zorc [(135, [some (112, some 0), some (0, none), some (0, none), some (0, none), some (0, none), some (0, none), none, some (0, none), none], [], fun xs h => match xs with
  | [a1, a2, a3, a4, a5, a7] => M_serial_135 kr r78 a1 a2 a3 a4 a5 a7 h
  | _ => none), (140, [some (112, some 0), some (0, none), some (0, none), some (0, none), some (0, none), some (0, none), none, some (0, none), none], [(0, none)], fun xs h => match xs with
  | [a1, a2, a3, a4, a5, a7, t0] => M_serial_140 kr r78 a1 a2 a3 a4 a5 a7 t0 h
  | _ => none), (163, [some (112, some 0), some (0, none), some (0, none), some (0, none), some (0, none), some (0, none), none, some (0, none), none], [], fun xs h => match xs with
  | [a1, a2, a3, a4, a5, a7] => M_serial_163 kr a1 a2 a3 a4 a5 a7 h
  | _ => none)]) kr (fun _ _ => none) 400 78 [some (112, 0), some (0, a1), some (0, a2), some (0, a3), some (0, a4), some (0, a5), some (0, a6), some (0, a7), none] [] h := qg_M_serial_78b kr r78 M_fails (M_serial_135 kr r78) (M_serial_140 kr r78) (M_serial_163 kr) a1 a2 a3 a4 a5 a6 a7 h
set_option maxRecDepth 100000 in
theorem qg_M_serial_60 {ρ : Type} (kr : Int → zH → Option ρ) (F_M_fails : Int → Int → zH → (Int → zH → Option ρ) → Option ρ) (c67 : zH → Option ρ) (c78 : Int → Int → Int → Int → Int → Int → Int → zH → Option ρ) (a1 a2 a3 a4 a5 t0 : Int) (h : zH) : (F_M_fails t0 2 h  fun v1 h2 =>
if v1 = 0 then c78 a1 a2 a3 a4 a5 0 (wr (40 * a1)) h2
else c67 h2) = zseg zPP false (zcal [(65, [some 0, none, none], fun xs h kr kt => match xs with
  | [x1, x2] => F_M_fails x1 x2 h kr
  | _ => none)]) (zget (999, 0, 0, 0) zc_M_serial) (zcut zu_M_serial) (zorc [(67, [none, none, none, none, none, none, none, none, none], [], fun xs h => match xs with
  | [] => c67 h
  | _ => none), (78, [some (112, some 0), some (0, none), some (0, none), some (0, none), some (0, none), some (0, none), some (0, none), some (0, none), none], [], fun xs h => match xs with
  | [a1, a2, a3, a4, a5, a6, a7] => c78 a1 a2 a3 a4 a5 a6 a7 h
  | _ => none)]) kr (fun _ _ => none) 400 60 [some (112, 0), some (0, a1), some (0, a2), some (0, a3), some (0, a4), some (0, a5), none, none, none] [(0, t0), (112, 0)] h := by rfl
set_option maxRecDepth 100000 in
theorem qe_M_serial_60 {ρ : Type} (kr : Int → zH → Option ρ) (a1 a2 a3 a4 a5 t0 : Int) (h : zH) : M_serial_60 kr a1 a2 a3 a4 a5 t0 h = zseg zPP false (zcal [(65, [some 0, none, none], fun xs h kr kt => match xs with
  | [x1, x2] => M_fails x1 x2 h kr
  | _ => none)]) (zget (999, 0, 0, 0) zc_M_serial) (zcut zu_M_serial) (zorc [(67, [none, none, none, none, none, none, none, none, none], [], fun xs h => match xs with
  | [] => M_serial_67 kr h
  | _ => none), (78, [some (112, some 0), some (0, none), some (0, none), some (0, none), some (0, none), some (0, none), some (0, none), some (0, none), none], [], fun xs h => match xs with
  | [a1, a2, a3, a4, a5, a6, a7] => M_serial_78 kr a1 a2 a3 a4 a5 a6 a7 h
  | _ => none)]) kr (fun _ _ => none) 400 60 [some (112, 0), some (0, a1), some (0, a2), some (0, a3), some (0, a4), some (0, a5), none, none, none] [(0, t0), (112, 0)] h := qg_M_serial_60 kr M_fails (M_serial_67 kr) (M_serial_78 kr) a1 a2 a3 a4 a5 t0 h
set_option maxRecDepth 100000 in
theorem qg_M_serial_55 {ρ : Type} (kr : Int → zH → Option ρ) (c60 : Int → Int → Int → Int → Int → Int → zH → Option ρ) (a1 a2 a3 a4 a5 : Int) (h : zH) : (c60 a1 a2 a3 a4 a5 1 h) = zseg zPP false (zcal []) (zget (999, 0, 0, 0) zc_M_serial) (zcut zu_M_serial) (zorc [(60, [some (112, some 0), some (0, none), some (0, none), some (0, none), some (0, none), some (0, none), none, none, none], [(0, none), (112, some 0)], fun xs h => match xs with
  | [a1, a2, a3, a4, a5, t0] => c60 a1 a2 a3 a4 a5 t0 h
  | _ => none)]) kr (fun _ _ => none) 400 55 [some (112, 0), some (0, a1), some (0, a2), some (0, a3), some (0, a4), some (0, a5), none, none, none] [(112, 0)] h := by rfl
set_option maxRecDepth 100000 in
theorem qe_M_serial_55 {ρ : Type} (kr : Int → zH → Option ρ) (a1 a2 a3 a4 a5 : Int) (h : zH) : M_serial_55 kr a1 a2 a3 a4 a5 h = zseg zPP false (zcal []) (zget (999, 0, 0, 0) zc_M_serial) (zcut zu_M_serial) (zorc [(60, [some (112, some 0), some (0, none), some (0, none), some (0, none), some (0, none), some (0, none), none, none, none], [(0, none), (112, some 0)], fun xs h => match xs with
  | [a1, a2, a3, a4, a5, t0] => M_serial_60 kr a1 a2 a3 a4 a5 t0 h
  | _ => none)]) kr (fun _ _ => none) 400 55 [some (112, 0), some (0, a1), some (0, a2), some (0, a3), some (0, a4), some (0, a5), none, none, none] [(112, 0)] h := qg_M_serial_55 kr (M_serial_60 kr) a1 a2 a3 a4 a5 h
set_option maxRecDepth 100000 in
theorem qg_M_serial_27 {ρ : Type} (kr : Int → zH → Option ρ) (F_M_in : Int → Int → Int → zH → (Int → zH → Option ρ) → Option ρ) (F_M_fails : Int → Int → zH → (Int → zH → Option ρ) → Option ρ) (c55 : Int → Int → Int → Int → Int → zH → Option ρ) (c60 : Int → Int → Int → Int → Int → Int → zH → Option ρ) (c67 : zH → Option ρ) (a1 a2 a3 a4 a5 t0 : Int) (h : zH) : (F_M_fails t0 1 h  fun v1 h2 =>
if v1 = 0 then (F_M_in a2 1 6 h2  fun v3 h4 =>
if v3 = 0 then c55 a1 a2 a3 a4 a5 h4
else F_M_in a3 1 16 h4  fun v5 h6 =>
if v5 = 0 then c55 a1 a2 a3 a4 a5 h6
else c60 a1 a2 a3 a4 a5 0 h6)
else c67 h2) = zseg zPP false (zcal [(64, [none, none, none], fun xs h kr kt => match xs with
  | [x0, x1, x2] => F_M_in x0 x1 x2 h kr
  | _ => none), (65, [some 0, none, none], fun xs h kr kt => match xs with
  | [x1, x2] => F_M_fails x1 x2 h kr
  | _ => none)]) (zget (999, 0, 0, 0) zc_M_serial) (zcut zu_M_serial) (zorc [(55, [some (112, some 0), some (0, none), some (0, none), some (0, none), some (0, none), some (0, none), none, none, none], [(112, some 0)], fun xs h => match xs with
  | [a1, a2, a3, a4, a5] => c55 a1 a2 a3 a4 a5 h
  | _ => none), (60, [some (112, some 0), some (0, none), some (0, none), some (0, none), some (0, none), some (0, none), none, none, none], [(0, none), (112, some 0)], fun xs h => match xs with
  | [a1, a2, a3, a4, a5, t0] => c60 a1 a2 a3 a4 a5 t0 h
  | _ => none), (67, [none, none, none, none, none, none, none, none, none], [], fun xs h => match xs with
  | [] => c67 h
  | _ => none)]) kr (fun _ _ => none) 400 27 [some (112, 0), some (0, a1), some (0, a2), some (0, a3), some (0, a4), some (0, a5), none, none, none] [(0, t0), (112, 0)] h := by rfl
set_option maxRecDepth 100000 in
theorem qe_M_serial_27 {ρ : Type} (kr : Int → zH → Option ρ) (a1 a2 a3 a4 a5 t0 : Int) (h : zH) : M_serial_27 kr a1 a2 a3 a4 a5 t0 h = zseg zPP false (zcal [(64, [none, none, none], fun xs h kr kt => match xs with
  | [x0, x1, x2] => M_in x0 x1 x2 h kr
  | _ => none), (65, [some 0, none, none], fun xs h kr kt => match xs with
  | [x1, x2] => M_fails x1 x2 h kr
  | _ => none)]) (zget (999, 0, 0, 0) zc_M_serial) (zcut zu_M_serial) (zorc [(55, [some (112, some 0), some (0, none), some (0, none), some (0, none), some (0, none), some (0, none), none, none, none], [(112, some 0)], fun xs h => match xs with
  | [a1, a2, a3, a4, a5] => M_serial_55 kr a1 a2 a3 a4 a5 h
  | _ => none), (60, [some (112, some 0), some (0, none), some (0, none), some (0, none), some (0, none), some (0, none), none, none, none], [(0, none), (112, some 0)], fun xs h => match xs with
  | [a1, a2, a3, a4, a5, t0] => M_serial_60 kr a1 a2 a3 a4 a5 t0 h
  | _ => none), (67, [none, none, none, none, none, none, none, none, none], [], fun xs h => match xs with
  | [] => M_serial_67 kr h
  | _ => none)]) kr (fun _ _ => none) 400 27 [some (112, 0), some (0, a1), some (0, a2), some (0, a3), some (0, a4), some (0, a5), none, none, none] [(0, t0), (112, 0)] h := qg_M_serial_27 kr M_in M_fails (M_serial_55 kr) (M_serial_60 kr) (M_serial_67 kr) a1 a2 a3 a4 a5 t0 h
set_option maxRecDepth 100000 in
theorem qg_M_serial_22 {ρ : Type} (kr : Int → zH → Option ρ) (c27 : Int → Int → Int → Int → Int → Int → zH → Option ρ) (a1 a2 a3 a4 a5 : Int) (h : zH) : (c27 a1 a2 a3 a4 a5 1 h) = zseg zPP false (zcal []) (zget (999, 0, 0, 0) zc_M_serial) (zcut zu_M_serial) (zorc [(27, [some (112, some 0), some (0, none), some (0, none), some (0, none), some (0, none), some (0, none), none, none, none], [(0, none), (112, some 0)], fun xs h => match xs with
  | [a1, a2, a3, a4, a5, t0] => c27 a1 a2 a3 a4 a5 t0 h
  | _ => none)]) kr (fun _ _ => none) 400 22 [some (112, 0), some (0, a1), some (0, a2), some (0, a3), some (0, a4), some (0, a5), none, none, none] [(112, 0)] h := by rfl
set_option maxRecDepth 100000 in
theorem qe_M_serial_22 {ρ : Type} (kr : Int → zH → Option ρ) (a1 a2 a3 a4 a5 : Int) (h : zH) : M_serial_22 kr a1 a2 a3 a4 a5 h = zseg zPP false (zcal []) (zget (999, 0, 0, 0) zc_M_serial) (zcut zu_M_serial) (zorc [(27, [some (112, some 0), some (0, none), some (0, none), some (0, none), some (0, none), some (0, none), none, none, none], [(0, none), (112, some 0)], fun xs h => match xs with
  | [a1, a2, a3, a4, a5, t0] => M_serial_27 kr a1 a2 a3 a4 a5 t0 h
  | _ => none)]) kr (fun _ _ => none) 400 22 [some (112, 0), some (0, a1), some (0, a2), some (0, a3), some (0, a4), some (0, a5), none, none, none] [(112, 0)] h := qg_M_serial_22 kr (M_serial_27 kr) a1 a2 a3 a4 a5 h
set_option maxRecDepth 100000 in
theorem qg_M_serial {ρ : Type} (kr : Int → zH → Option ρ) (F_M_noKernel : Int → zH → (Int → zH → Option ρ) → Option ρ) (F_M_noCell : Int → zH → (Int → zH → Option ρ) → Option ρ) (c22 : Int → Int → Int → Int → Int → zH → Option ρ) (c27 : Int → Int → Int → Int → Int → Int → zH → Option ρ) (a1 a2 a3 a4 a5 : Int) (h : zH) : (zlet (zset h 12 0 0 0) fun h1 =>
F_M_noKernel a1 h1  fun v2 h3 =>
if v2 = 0 then (F_M_noCell a5 h3  fun v4 h5 =>
if v4 = 0 then c27 a1 a2 a3 a4 a5 0 h5
else c22 a1 a2 a3 a4 a5 h5)
else c22 a1 a2 a3 a4 a5 h3) = zseg zPP false (zcal [(66, [some 0, none], fun xs h kr kt => match xs with
  | [x1] => F_M_noKernel x1 h kr
  | _ => none), (68, [none], fun xs h kr kt => match xs with
  | [x0] => F_M_noCell x0 h kr
  | _ => none)]) (zget (999, 0, 0, 0) zc_M_serial) (zcut zu_M_serial) (zorc [(22, [some (112, some 0), some (0, none), some (0, none), some (0, none), some (0, none), some (0, none), none, none, none], [(112, some 0)], fun xs h => match xs with
  | [a1, a2, a3, a4, a5] => c22 a1 a2 a3 a4 a5 h
  | _ => none), (27, [some (112, some 0), some (0, none), some (0, none), some (0, none), some (0, none), some (0, none), none, none, none], [(0, none), (112, some 0)], fun xs h => match xs with
  | [a1, a2, a3, a4, a5, t0] => c27 a1 a2 a3 a4 a5 t0 h
  | _ => none)]) kr (fun _ _ => none) 400 0 [some (112, 0), some (0, a1), some (0, a2), some (0, a3), some (0, a4), some (0, a5), none, none, none] [] h := by rfl
set_option maxRecDepth 100000 in
theorem qe_M_serial {ρ : Type} (kr : Int → zH → Option ρ) (a1 a2 a3 a4 a5 : Int) (h : zH) : M_serial a1 a2 a3 a4 a5 h kr = zseg zPP false (zcal [(66, [some 0, none], fun xs h kr kt => match xs with
  | [x1] => M_noKernel x1 h kr
  | _ => none), (68, [none], fun xs h kr kt => match xs with
  | [x0] => M_noCell x0 h kr
  | _ => none)]) (zget (999, 0, 0, 0) zc_M_serial) (zcut zu_M_serial) (zorc [(22, [some (112, some 0), some (0, none), some (0, none), some (0, none), some (0, none), some (0, none), none, none, none], [(112, some 0)], fun xs h => match xs with
  | [a1, a2, a3, a4, a5] => M_serial_22 kr a1 a2 a3 a4 a5 h
  | _ => none), (27, [some (112, some 0), some (0, none), some (0, none), some (0, none), some (0, none), some (0, none), none, none, none], [(0, none), (112, some 0)], fun xs h => match xs with
  | [a1, a2, a3, a4, a5, t0] => M_serial_27 kr a1 a2 a3 a4 a5 t0 h
  | _ => none)]) kr (fun _ _ => none) 400 0 [some (112, 0), some (0, a1), some (0, a2), some (0, a3), some (0, a4), some (0, a5), none, none, none] [] h := qg_M_serial kr M_noKernel M_noCell (M_serial_22 kr) (M_serial_27 kr) a1 a2 a3 a4 a5 h
def zc_M_lanes : List zI := [(14, 0, 0, 112), (0, 0, 0, 0), (82, 12, 185, 0), (999, 0, 0, 0), (999, 0, 0, 0), (14, 0, 0, 112), (80, 12, 373, 54), (999, 0, 0, 0), (999, 0, 0, 0), (131, 0, 0, 0)]
def zu_M_lanes : List (Nat × List Bool) := []
set_option maxRecDepth 100000 in
theorem qg_M_lanes {ρ : Type} (kr : Int → zH → Option ρ) (h : zH) : (zlet (zset h 12 0 0 0) fun h1 =>
kr (zhD h1 12 0 54) h1) = zseg zPP false (zcal []) (zget (999, 0, 0, 0) zc_M_lanes) (zcut zu_M_lanes) (zorc []) kr (fun _ _ => none) 400 0 [some (112, 0)] [] h := by rfl
set_option maxRecDepth 100000 in
theorem qe_M_lanes {ρ : Type} (kr : Int → zH → Option ρ) (h : zH) : M_lanes h kr = zseg zPP false (zcal []) (zget (999, 0, 0, 0) zc_M_lanes) (zcut zu_M_lanes) (zorc []) kr (fun _ _ => none) 400 0 [some (112, 0)] [] h := qg_M_lanes kr h
def zc_M_misses : List zI := [(14, 0, 0, 112), (0, 0, 0, 0), (82, 12, 185, 0), (999, 0, 0, 0), (999, 0, 0, 0), (14, 0, 0, 112), (80, 12, 341, 58), (999, 0, 0, 0), (999, 0, 0, 0), (130, 0, 0, 0)]
def zu_M_misses : List (Nat × List Bool) := []
set_option maxRecDepth 100000 in
theorem qg_M_misses {ρ : Type} (kr : Int → zH → Option ρ) (h : zH) : (zlet (zset h 12 0 0 0) fun h1 =>
kr (zhD h1 12 0 58) h1) = zseg zPP false (zcal []) (zget (999, 0, 0, 0) zc_M_misses) (zcut zu_M_misses) (zorc []) kr (fun _ _ => none) 400 0 [some (112, 0)] [] h := by rfl
set_option maxRecDepth 100000 in
theorem qe_M_misses {ρ : Type} (kr : Int → zH → Option ρ) (h : zH) : M_misses h kr = zseg zPP false (zcal []) (zget (999, 0, 0, 0) zc_M_misses) (zcut zu_M_misses) (zorc []) kr (fun _ _ => none) 400 0 [some (112, 0)] [] h := qg_M_misses kr h
def zc_M_lost : List zI := [(14, 0, 0, 112), (0, 0, 0, 0), (82, 12, 185, 0), (999, 0, 0, 0), (999, 0, 0, 0), (14, 0, 0, 112), (80, 12, 387, 59), (999, 0, 0, 0), (999, 0, 0, 0), (130, 0, 0, 0)]
def zu_M_lost : List (Nat × List Bool) := []
set_option maxRecDepth 100000 in
theorem qg_M_lost {ρ : Type} (kr : Int → zH → Option ρ) (h : zH) : (zlet (zset h 12 0 0 0) fun h1 =>
kr (zhD h1 12 0 59) h1) = zseg zPP false (zcal []) (zget (999, 0, 0, 0) zc_M_lost) (zcut zu_M_lost) (zorc []) kr (fun _ _ => none) 400 0 [some (112, 0)] [] h := by rfl
set_option maxRecDepth 100000 in
theorem qe_M_lost {ρ : Type} (kr : Int → zH → Option ρ) (h : zH) : M_lost h kr = zseg zPP false (zcal []) (zget (999, 0, 0, 0) zc_M_lost) (zcut zu_M_lost) (zorc []) kr (fun _ _ => none) 400 0 [some (112, 0)] [] h := qg_M_lost kr h
def zc_M_barriers : List zI := [(14, 0, 0, 112), (0, 0, 0, 0), (82, 12, 185, 0), (999, 0, 0, 0), (999, 0, 0, 0), (14, 0, 0, 112), (80, 12, 260, 60), (999, 0, 0, 0), (999, 0, 0, 0), (130, 0, 0, 0)]
def zu_M_barriers : List (Nat × List Bool) := []
set_option maxRecDepth 100000 in
theorem qg_M_barriers {ρ : Type} (kr : Int → zH → Option ρ) (h : zH) : (zlet (zset h 12 0 0 0) fun h1 =>
kr (zhD h1 12 0 60) h1) = zseg zPP false (zcal []) (zget (999, 0, 0, 0) zc_M_barriers) (zcut zu_M_barriers) (zorc []) kr (fun _ _ => none) 400 0 [some (112, 0)] [] h := by rfl
set_option maxRecDepth 100000 in
theorem qe_M_barriers {ρ : Type} (kr : Int → zH → Option ρ) (h : zH) : M_barriers h kr = zseg zPP false (zcal []) (zget (999, 0, 0, 0) zc_M_barriers) (zcut zu_M_barriers) (zorc []) kr (fun _ _ => none) 400 0 [some (112, 0)] [] h := qg_M_barriers kr h
def zc_M_refused : List zI := [(14, 0, 0, 112), (0, 0, 0, 0), (82, 12, 185, 0), (999, 0, 0, 0), (999, 0, 0, 0), (14, 0, 0, 112), (80, 12, 235, 61), (999, 0, 0, 0), (999, 0, 0, 0), (130, 0, 0, 0)]
def zu_M_refused : List (Nat × List Bool) := []
set_option maxRecDepth 100000 in
theorem qg_M_refused {ρ : Type} (kr : Int → zH → Option ρ) (h : zH) : (zlet (zset h 12 0 0 0) fun h1 =>
kr (zhD h1 12 0 61) h1) = zseg zPP false (zcal []) (zget (999, 0, 0, 0) zc_M_refused) (zcut zu_M_refused) (zorc []) kr (fun _ _ => none) 400 0 [some (112, 0)] [] h := by rfl
set_option maxRecDepth 100000 in
theorem qe_M_refused {ρ : Type} (kr : Int → zH → Option ρ) (h : zH) : M_refused h kr = zseg zPP false (zcal []) (zget (999, 0, 0, 0) zc_M_refused) (zcut zu_M_refused) (zorc []) kr (fun _ _ => none) 400 0 [some (112, 0)] [] h := qg_M_refused kr h
def zc_M_usedShare : List zI := [(14, 0, 0, 112), (0, 0, 0, 0), (82, 12, 185, 0), (999, 0, 0, 0), (999, 0, 0, 0), (14, 0, 0, 112), (14, 0, 0, 112), (80, 12, 370, 55), (999, 0, 0, 0), (999, 0, 0, 0), (61, 7, 17, 0), (999, 0, 0, 0), (999, 0, 0, 0), (0, 1, 0, 0), (72, 4, 18, 0), (999, 0, 0, 0), (999, 0, 0, 0), (0, 0, 0, 0), (0, 1, 0, 0), (110, 0, 199, 65), (999, 0, 0, 0), (999, 0, 0, 0), (60, 7, 29, 0), (999, 0, 0, 0), (999, 0, 0, 0), (140, 0, 0, 0), (72, 16, 42, 0), (999, 0, 0, 0), (999, 0, 0, 0), (14, 0, 0, 112), (80, 12, 373, 54), (999, 0, 0, 0), (999, 0, 0, 0), (142, 0, 0, 0), (0, 4, 0, 0), (14, 0, 0, 112), (80, 12, 370, 55), (999, 0, 0, 0), (999, 0, 0, 0), (32, 0, 0, 0), (143, 0, 0, 0), (144, 0, 0, 0), (160, 0, 0, 0)]
def zu_M_usedShare : List (Nat × List Bool) := [(18, [true]), (42, [false])]
set_option maxRecDepth 100000 in
theorem qg_M_usedShare_42 {ρ : Type} (kr : Int → zH → Option ρ) (t0 : Int) (h : zH) : (kr t0 h) = zseg zPP false (zcal []) (zget (999, 0, 0, 0) zc_M_usedShare) (zcut zu_M_usedShare) (zorc []) kr (fun _ _ => none) 400 42 [none] [(5, t0)] h := by rfl
set_option maxRecDepth 100000 in
theorem qe_M_usedShare_42 {ρ : Type} (kr : Int → zH → Option ρ) (t0 : Int) (h : zH) : M_usedShare_42 kr t0 h = zseg zPP false (zcal []) (zget (999, 0, 0, 0) zc_M_usedShare) (zcut zu_M_usedShare) (zorc []) kr (fun _ _ => none) 400 42 [none] [(5, t0)] h := qg_M_usedShare_42 kr t0 h
set_option maxRecDepth 100000 in
theorem qg_M_usedShare_18 {ρ : Type} (kr : Int → zH → Option ρ) (F_M_fails : Int → Int → zH → (Int → zH → Option ρ) → Option ρ) (c42 : Int → zH → Option ρ) (t0 : Int) (h : zH) : (F_M_fails t0 1 h  fun v1 h2 =>
if v1 = 0 then (zn32 (FP.fdiv (zf32 (zl2f (zhD h2 12 0 54))) (zf32 (zi2f (wr (4 * (zhD h2 12 0 55)))))) fun x3 =>
c42 x3 h2)
else c42 0 h2) = zseg zPP false (zcal [(65, [some 0, none, none], fun xs h kr kt => match xs with
  | [x1, x2] => F_M_fails x1 x2 h kr
  | _ => none)]) (zget (999, 0, 0, 0) zc_M_usedShare) (zcut zu_M_usedShare) (zorc [(42, [none], [(5, none)], fun xs h => match xs with
  | [t0] => c42 t0 h
  | _ => none)]) kr (fun _ _ => none) 400 18 [some (112, 0)] [(0, t0), (112, 0)] h := by rfl
set_option maxRecDepth 100000 in
theorem qe_M_usedShare_18 {ρ : Type} (kr : Int → zH → Option ρ) (t0 : Int) (h : zH) : M_usedShare_18 kr t0 h = zseg zPP false (zcal [(65, [some 0, none, none], fun xs h kr kt => match xs with
  | [x1, x2] => M_fails x1 x2 h kr
  | _ => none)]) (zget (999, 0, 0, 0) zc_M_usedShare) (zcut zu_M_usedShare) (zorc [(42, [none], [(5, none)], fun xs h => match xs with
  | [t0] => M_usedShare_42 kr t0 h
  | _ => none)]) kr (fun _ _ => none) 400 18 [some (112, 0)] [(0, t0), (112, 0)] h := qg_M_usedShare_18 kr M_fails (M_usedShare_42 kr) t0 h
set_option maxRecDepth 100000 in
theorem qg_M_usedShare {ρ : Type} (kr : Int → zH → Option ρ) (c18 : Int → zH → Option ρ) (h : zH) : (zlet (zset h 12 0 0 0) fun h1 =>
if (zhD h1 12 0 55) = 0 then c18 1 h1
else c18 0 h1) = zseg zPP false (zcal []) (zget (999, 0, 0, 0) zc_M_usedShare) (zcut zu_M_usedShare) (zorc [(18, [some (112, some 0)], [(0, none), (112, some 0)], fun xs h => match xs with
  | [t0] => c18 t0 h
  | _ => none)]) kr (fun _ _ => none) 400 0 [some (112, 0)] [] h := by rfl
set_option maxRecDepth 100000 in
theorem qe_M_usedShare {ρ : Type} (kr : Int → zH → Option ρ) (h : zH) : M_usedShare h kr = zseg zPP false (zcal []) (zget (999, 0, 0, 0) zc_M_usedShare) (zcut zu_M_usedShare) (zorc [(18, [some (112, some 0)], [(0, none), (112, some 0)], fun xs h => match xs with
  | [t0] => M_usedShare_18 kr t0 h
  | _ => none)]) kr (fun _ _ => none) 400 0 [some (112, 0)] [] h := qg_M_usedShare kr (M_usedShare_18 kr) h
def zc_M_meanDelay : List zI := [(14, 0, 0, 112), (0, 0, 0, 0), (82, 12, 185, 0), (999, 0, 0, 0), (999, 0, 0, 0), (14, 0, 0, 112), (14, 0, 0, 112), (80, 12, 381, 56), (999, 0, 0, 0), (999, 0, 0, 0), (61, 7, 17, 0), (999, 0, 0, 0), (999, 0, 0, 0), (0, 1, 0, 0), (72, 4, 18, 0), (999, 0, 0, 0), (999, 0, 0, 0), (0, 0, 0, 0), (0, 1, 0, 0), (110, 0, 199, 65), (999, 0, 0, 0), (999, 0, 0, 0), (60, 7, 29, 0), (999, 0, 0, 0), (999, 0, 0, 0), (141, 0, 0, 0), (72, 14, 40, 0), (999, 0, 0, 0), (999, 0, 0, 0), (14, 0, 0, 112), (80, 12, 384, 57), (999, 0, 0, 0), (999, 0, 0, 0), (146, 0, 0, 0), (14, 0, 0, 112), (80, 12, 381, 56), (999, 0, 0, 0), (999, 0, 0, 0), (146, 0, 0, 0), (147, 0, 0, 0), (161, 0, 0, 0)]
def zu_M_meanDelay : List (Nat × List Bool) := [(18, [true]), (40, [false])]
set_option maxRecDepth 100000 in
theorem qg_M_meanDelay_40 {ρ : Type} (kr : Int → zH → Option ρ) (t0 : Int) (h : zH) : (kr t0 h) = zseg zPP false (zcal []) (zget (999, 0, 0, 0) zc_M_meanDelay) (zcut zu_M_meanDelay) (zorc []) kr (fun _ _ => none) 400 40 [none] [(6, t0)] h := by rfl
set_option maxRecDepth 100000 in
theorem qe_M_meanDelay_40 {ρ : Type} (kr : Int → zH → Option ρ) (t0 : Int) (h : zH) : M_meanDelay_40 kr t0 h = zseg zPP false (zcal []) (zget (999, 0, 0, 0) zc_M_meanDelay) (zcut zu_M_meanDelay) (zorc []) kr (fun _ _ => none) 400 40 [none] [(6, t0)] h := qg_M_meanDelay_40 kr t0 h
set_option maxRecDepth 100000 in
theorem qg_M_meanDelay_18 {ρ : Type} (kr : Int → zH → Option ρ) (F_M_fails : Int → Int → zH → (Int → zH → Option ρ) → Option ρ) (c40 : Int → zH → Option ρ) (t0 : Int) (h : zH) : (F_M_fails t0 1 h  fun v1 h2 =>
if v1 = 0 then (zn64 (FP.ddiv (zf64 (zi2d (zhD h2 12 0 57))) (zf64 (zi2d (zhD h2 12 0 56)))) fun x3 =>
c40 x3 h2)
else c40 0 h2) = zseg zPP false (zcal [(65, [some 0, none, none], fun xs h kr kt => match xs with
  | [x1, x2] => F_M_fails x1 x2 h kr
  | _ => none)]) (zget (999, 0, 0, 0) zc_M_meanDelay) (zcut zu_M_meanDelay) (zorc [(40, [none], [(6, none)], fun xs h => match xs with
  | [t0] => c40 t0 h
  | _ => none)]) kr (fun _ _ => none) 400 18 [some (112, 0)] [(0, t0), (112, 0)] h := by rfl
set_option maxRecDepth 100000 in
theorem qe_M_meanDelay_18 {ρ : Type} (kr : Int → zH → Option ρ) (t0 : Int) (h : zH) : M_meanDelay_18 kr t0 h = zseg zPP false (zcal [(65, [some 0, none, none], fun xs h kr kt => match xs with
  | [x1, x2] => M_fails x1 x2 h kr
  | _ => none)]) (zget (999, 0, 0, 0) zc_M_meanDelay) (zcut zu_M_meanDelay) (zorc [(40, [none], [(6, none)], fun xs h => match xs with
  | [t0] => M_meanDelay_40 kr t0 h
  | _ => none)]) kr (fun _ _ => none) 400 18 [some (112, 0)] [(0, t0), (112, 0)] h := qg_M_meanDelay_18 kr M_fails (M_meanDelay_40 kr) t0 h
set_option maxRecDepth 100000 in
theorem qg_M_meanDelay {ρ : Type} (kr : Int → zH → Option ρ) (c18 : Int → zH → Option ρ) (h : zH) : (zlet (zset h 12 0 0 0) fun h1 =>
if (zhD h1 12 0 56) = 0 then c18 1 h1
else c18 0 h1) = zseg zPP false (zcal []) (zget (999, 0, 0, 0) zc_M_meanDelay) (zcut zu_M_meanDelay) (zorc [(18, [some (112, some 0)], [(0, none), (112, some 0)], fun xs h => match xs with
  | [t0] => c18 t0 h
  | _ => none)]) kr (fun _ _ => none) 400 0 [some (112, 0)] [] h := by rfl
set_option maxRecDepth 100000 in
theorem qe_M_meanDelay {ρ : Type} (kr : Int → zH → Option ρ) (h : zH) : M_meanDelay h kr = zseg zPP false (zcal []) (zget (999, 0, 0, 0) zc_M_meanDelay) (zcut zu_M_meanDelay) (zorc [(18, [some (112, some 0)], [(0, none), (112, some 0)], fun xs h => match xs with
  | [t0] => M_meanDelay_18 kr t0 h
  | _ => none)]) kr (fun _ _ => none) 400 0 [some (112, 0)] [] h := qg_M_meanDelay kr (M_meanDelay_18 kr) h
def zc_M_isSound : List zI := [(14, 0, 0, 112), (0, 0, 0, 0), (82, 12, 185, 0), (999, 0, 0, 0), (999, 0, 0, 0), (0, 1, 0, 0), (130, 0, 1, 0)]
def zu_M_isSound : List (Nat × List Bool) := []
set_option maxRecDepth 100000 in
theorem qg_M_isSound {ρ : Type} (kr : Int → zH → Option ρ) (h : zH) : (zlet (zset h 12 0 0 0) fun h1 =>
kr 1 h1) = zseg zPP false (zcal []) (zget (999, 0, 0, 0) zc_M_isSound) (zcut zu_M_isSound) (zorc []) kr (fun _ _ => none) 400 0 [some (112, 0)] [] h := by rfl
set_option maxRecDepth 100000 in
theorem qe_M_isSound {ρ : Type} (kr : Int → zH → Option ρ) (h : zH) : M_isSound h kr = zseg zPP false (zcal []) (zget (999, 0, 0, 0) zc_M_isSound) (zcut zu_M_isSound) (zorc []) kr (fun _ _ => none) 400 0 [some (112, 0)] [] h := qg_M_isSound kr h
def zc_Lw_addKernel : List zI := [(14, 0, 3, 151), (0, 0, 0, 0), (14, 0, 0, 100), (10, 0, 1, 0), (10, 0, 2, 0), (118, 0, 7, 10), (999, 0, 0, 0), (999, 0, 0, 0), (42, 0, 0, 0), (98, 0, 0, 51), (72, 11, 21, 0), (999, 0, 0, 0), (999, 0, 0, 0), (21, 0, 4, 4), (999, 0, 0, 0), (0, 1, 0, 0), (130, 0, 0, 0), (21, 0, 4, 4), (999, 0, 0, 0), (0, 2, 0, 0), (130, 0, 0, 0), (0, 0, 0, 0), (130, 0, 0, 0)]
def zu_Lw_addKernel : List (Nat × List Bool) := []
set_option maxRecDepth 100000 in
theorem qg_Lw_addKernel {ρ : Type} (kr : Int → zH → Option ρ) (F_X_addKernel : Int → Int → Int → zH → (Nat → zH → Option ρ) → (Int → zH → Option ρ) → Option ρ) (a0 a1 a2 a3 : Int) (h : zH) : (zob h 0 a0 fun _ =>
F_X_addKernel a0 a1 a2 h (fun n h6 => if n = 1 then kr 1 h6 else if n = 2 then kr 2 h6 else none) fun v1 h2 =>
zob h2 51 a3 fun p3 =>
zix (zhL h2 51 p3) 0 fun j4 =>
zlet (zset h2 51 p3 j4 v1) fun h5 =>
kr 0 h5) = zseg zPP true (zcal [(10, [none, none, none], fun xs h kr kt => match xs with
  | [x0, x1, x2] => F_X_addKernel x0 x1 x2 h kt kr
  | _ => none)]) (zget (999, 0, 0, 0) zc_Lw_addKernel) (zcut zu_Lw_addKernel) (zorc []) kr (fun _ _ => none) 400 0 [some (100, a0), some (0, a1), some (0, a2), some (151, a3), none] [] h := by rfl
set_option maxRecDepth 100000 in
theorem qe_Lw_addKernel {ρ : Type} (kr : Int → zH → Option ρ) (a0 a1 a2 a3 : Int) (h : zH) : Lw_addKernel a0 a1 a2 a3 h kr = zseg zPP true (zcal [(10, [none, none, none], fun xs h kr kt => match xs with
  | [x0, x1, x2] => X_addKernel x0 x1 x2 h kt kr
  | _ => none)]) (zget (999, 0, 0, 0) zc_Lw_addKernel) (zcut zu_Lw_addKernel) (zorc []) kr (fun _ _ => none) 400 0 [some (100, a0), some (0, a1), some (0, a2), some (151, a3), none] [] h := qg_Lw_addKernel kr X_addKernel a0 a1 a2 a3 h
def zc_Lw_code : List zI := [(15, 0, 6, 151), (999, 0, 0, 0), (0, 0, 0, 0), (14, 0, 0, 100), (10, 0, 1, 0), (10, 0, 2, 0), (10, 0, 3, 0), (11, 0, 4, 0), (999, 0, 0, 0), (11, 0, 5, 0), (999, 0, 0, 0), (118, 1, 17, 11), (999, 0, 0, 0), (999, 0, 0, 0), (42, 0, 0, 0), (98, 0, 0, 51), (72, 15, 31, 0), (999, 0, 0, 0), (999, 0, 0, 0), (21, 0, 7, 4), (999, 0, 0, 0), (0, 1, 0, 0), (130, 0, 0, 0), (21, 0, 7, 4), (999, 0, 0, 0), (0, 2, 0, 0), (130, 0, 0, 0), (21, 0, 7, 4), (999, 0, 0, 0), (0, 3, 0, 0), (130, 0, 0, 0), (0, 0, 0, 0), (130, 0, 0, 0)]
def zu_Lw_code : List (Nat × List Bool) := []
set_option maxRecDepth 100000 in
theorem qg_Lw_code {ρ : Type} (kr : Int → zH → Option ρ) (F_X_code : Int → Int → Int → Int → Int → Int → zH → (Nat → zH → Option ρ) → (Int → zH → Option ρ) → Option ρ) (a0 a1 a2 a3 a4 a5 a6 : Int) (h : zH) : (zob h 0 a0 fun _ =>
F_X_code a0 a1 a2 a3 a4 a5 h (fun n h6 => if n = 3 then kr 1 h6 else if n = 1 then kr 2 h6 else if n = 2 then kr 3 h6 else none) fun v1 h2 =>
zob h2 51 a6 fun p3 =>
zix (zhL h2 51 p3) 0 fun j4 =>
zlet (zset h2 51 p3 j4 v1) fun h5 =>
kr 0 h5) = zseg zPP true (zcal [(11, [none, none, none, none, none, none], fun xs h kr kt => match xs with
  | [x0, x1, x2, x3, x4, x5] => F_X_code x0 x1 x2 x3 x4 x5 h kt kr
  | _ => none)]) (zget (999, 0, 0, 0) zc_Lw_code) (zcut zu_Lw_code) (zorc []) kr (fun _ _ => none) 400 0 [some (100, a0), some (0, a1), some (0, a2), some (0, a3), some (0, a4), some (0, a5), some (151, a6), none] [] h := by rfl
set_option maxRecDepth 100000 in
theorem qe_Lw_code {ρ : Type} (kr : Int → zH → Option ρ) (a0 a1 a2 a3 a4 a5 a6 : Int) (h : zH) : Lw_code a0 a1 a2 a3 a4 a5 a6 h kr = zseg zPP true (zcal [(11, [none, none, none, none, none, none], fun xs h kr kt => match xs with
  | [x0, x1, x2, x3, x4, x5] => X_code x0 x1 x2 x3 x4 x5 h kt kr
  | _ => none)]) (zget (999, 0, 0, 0) zc_Lw_code) (zcut zu_Lw_code) (zorc []) kr (fun _ _ => none) 400 0 [some (100, a0), some (0, a1), some (0, a2), some (0, a3), some (0, a4), some (0, a5), some (151, a6), none] [] h := qg_Lw_code kr X_code a0 a1 a2 a3 a4 a5 a6 h
def zc_Lw_fits : List zI := [(14, 0, 3, 151), (0, 0, 0, 0), (14, 0, 0, 100), (10, 0, 1, 0), (10, 0, 2, 0), (118, 2, 23, 12), (999, 0, 0, 0), (999, 0, 0, 0), (42, 0, 0, 0), (98, 0, 0, 51), (72, 11, 21, 0), (999, 0, 0, 0), (999, 0, 0, 0), (21, 0, 4, 4), (999, 0, 0, 0), (0, 1, 0, 0), (130, 0, 0, 0), (21, 0, 4, 4), (999, 0, 0, 0), (0, 2, 0, 0), (130, 0, 0, 0), (0, 0, 0, 0), (130, 0, 0, 0)]
def zu_Lw_fits : List (Nat × List Bool) := []
set_option maxRecDepth 100000 in
theorem qg_Lw_fits {ρ : Type} (kr : Int → zH → Option ρ) (F_X_fits : Int → Int → Int → zH → (Nat → zH → Option ρ) → (Int → zH → Option ρ) → Option ρ) (a0 a1 a2 a3 : Int) (h : zH) : (zob h 0 a0 fun _ =>
F_X_fits a0 a1 a2 h (fun n h6 => if n = 3 then kr 1 h6 else if n = 1 then kr 2 h6 else none) fun v1 h2 =>
zob h2 51 a3 fun p3 =>
zix (zhL h2 51 p3) 0 fun j4 =>
zlet (zset h2 51 p3 j4 v1) fun h5 =>
kr 0 h5) = zseg zPP true (zcal [(12, [none, none, none], fun xs h kr kt => match xs with
  | [x0, x1, x2] => F_X_fits x0 x1 x2 h kt kr
  | _ => none)]) (zget (999, 0, 0, 0) zc_Lw_fits) (zcut zu_Lw_fits) (zorc []) kr (fun _ _ => none) 400 0 [some (100, a0), some (0, a1), some (0, a2), some (151, a3), none] [] h := by rfl
set_option maxRecDepth 100000 in
theorem qe_Lw_fits {ρ : Type} (kr : Int → zH → Option ρ) (a0 a1 a2 a3 : Int) (h : zH) : Lw_fits a0 a1 a2 a3 h kr = zseg zPP true (zcal [(12, [none, none, none], fun xs h kr kt => match xs with
  | [x0, x1, x2] => X_fits x0 x1 x2 h kt kr
  | _ => none)]) (zget (999, 0, 0, 0) zc_Lw_fits) (zcut zu_Lw_fits) (zorc []) kr (fun _ _ => none) 400 0 [some (100, a0), some (0, a1), some (0, a2), some (151, a3), none] [] h := qg_Lw_fits kr X_fits a0 a1 a2 a3 h
def zc_Lw_poke : List zI := [(14, 0, 3, 151), (0, 0, 0, 0), (14, 0, 0, 100), (10, 0, 1, 0), (10, 0, 2, 0), (118, 3, 26, 13), (999, 0, 0, 0), (999, 0, 0, 0), (42, 0, 0, 0), (98, 0, 0, 51), (72, 7, 17, 0), (999, 0, 0, 0), (999, 0, 0, 0), (21, 0, 4, 4), (999, 0, 0, 0), (0, 1, 0, 0), (130, 0, 0, 0), (0, 0, 0, 0), (130, 0, 0, 0)]
def zu_Lw_poke : List (Nat × List Bool) := []
set_option maxRecDepth 100000 in
theorem qg_Lw_poke {ρ : Type} (kr : Int → zH → Option ρ) (F_X_poke : Int → Int → Int → zH → (Nat → zH → Option ρ) → (Int → zH → Option ρ) → Option ρ) (a0 a1 a2 a3 : Int) (h : zH) : (zob h 0 a0 fun _ =>
F_X_poke a0 a1 a2 h (fun n h6 => if n = 3 then kr 1 h6 else none) fun v1 h2 =>
zob h2 51 a3 fun p3 =>
zix (zhL h2 51 p3) 0 fun j4 =>
zlet (zset h2 51 p3 j4 v1) fun h5 =>
kr 0 h5) = zseg zPP true (zcal [(13, [none, none, none], fun xs h kr kt => match xs with
  | [x0, x1, x2] => F_X_poke x0 x1 x2 h kt kr
  | _ => none)]) (zget (999, 0, 0, 0) zc_Lw_poke) (zcut zu_Lw_poke) (zorc []) kr (fun _ _ => none) 400 0 [some (100, a0), some (0, a1), some (0, a2), some (151, a3), none] [] h := by rfl
set_option maxRecDepth 100000 in
theorem qe_Lw_poke {ρ : Type} (kr : Int → zH → Option ρ) (a0 a1 a2 a3 : Int) (h : zH) : Lw_poke a0 a1 a2 a3 h kr = zseg zPP true (zcal [(13, [none, none, none], fun xs h kr kt => match xs with
  | [x0, x1, x2] => X_poke x0 x1 x2 h kt kr
  | _ => none)]) (zget (999, 0, 0, 0) zc_Lw_poke) (zcut zu_Lw_poke) (zorc []) kr (fun _ _ => none) 400 0 [some (100, a0), some (0, a1), some (0, a2), some (151, a3), none] [] h := qg_Lw_poke kr X_poke a0 a1 a2 a3 h
def zc_Lw_peek : List zI := [(14, 0, 2, 151), (0, 0, 0, 0), (14, 0, 0, 100), (10, 0, 1, 0), (118, 4, 29, 14), (999, 0, 0, 0), (999, 0, 0, 0), (42, 0, 0, 0), (98, 0, 0, 51), (72, 6, 15, 0), (999, 0, 0, 0), (999, 0, 0, 0), (20, 0, 3, 4), (0, 1, 0, 0), (130, 0, 0, 0), (0, 0, 0, 0), (130, 0, 0, 0)]
def zu_Lw_peek : List (Nat × List Bool) := []
set_option maxRecDepth 100000 in
theorem qg_Lw_peek {ρ : Type} (kr : Int → zH → Option ρ) (F_X_peek : Int → Int → zH → (Nat → zH → Option ρ) → (Int → zH → Option ρ) → Option ρ) (a0 a1 a2 : Int) (h : zH) : (zob h 0 a0 fun _ =>
F_X_peek a0 a1 h (fun n h6 => if n = 3 then kr 1 h6 else none) fun v1 h2 =>
zob h2 51 a2 fun p3 =>
zix (zhL h2 51 p3) 0 fun j4 =>
zlet (zset h2 51 p3 j4 v1) fun h5 =>
kr 0 h5) = zseg zPP true (zcal [(14, [none, none], fun xs h kr kt => match xs with
  | [x0, x1] => F_X_peek x0 x1 h kt kr
  | _ => none)]) (zget (999, 0, 0, 0) zc_Lw_peek) (zcut zu_Lw_peek) (zorc []) kr (fun _ _ => none) 400 0 [some (100, a0), some (0, a1), some (151, a2), none] [] h := by rfl
set_option maxRecDepth 100000 in
theorem qe_Lw_peek {ρ : Type} (kr : Int → zH → Option ρ) (a0 a1 a2 : Int) (h : zH) : Lw_peek a0 a1 a2 h kr = zseg zPP true (zcal [(14, [none, none], fun xs h kr kt => match xs with
  | [x0, x1] => X_peek x0 x1 h kt kr
  | _ => none)]) (zget (999, 0, 0, 0) zc_Lw_peek) (zcut zu_Lw_peek) (zorc []) kr (fun _ _ => none) 400 0 [some (100, a0), some (0, a1), some (151, a2), none] [] h := qg_Lw_peek kr X_peek a0 a1 a2 h
def zc_Lw_launch : List zI := [(15, 0, 6, 151), (999, 0, 0, 0), (0, 0, 0, 0), (14, 0, 0, 100), (10, 0, 1, 0), (10, 0, 2, 0), (10, 0, 3, 0), (11, 0, 4, 0), (999, 0, 0, 0), (11, 0, 5, 0), (999, 0, 0, 0), (118, 5, 33, 15), (999, 0, 0, 0), (999, 0, 0, 0), (42, 0, 0, 0), (98, 0, 0, 51), (72, 19, 35, 0), (999, 0, 0, 0), (999, 0, 0, 0), (21, 0, 7, 4), (999, 0, 0, 0), (0, 1, 0, 0), (130, 0, 0, 0), (21, 0, 7, 4), (999, 0, 0, 0), (0, 2, 0, 0), (130, 0, 0, 0), (21, 0, 7, 4), (999, 0, 0, 0), (0, 3, 0, 0), (130, 0, 0, 0), (21, 0, 7, 4), (999, 0, 0, 0), (0, 4, 0, 0), (130, 0, 0, 0), (0, 0, 0, 0), (130, 0, 0, 0)]
def zu_Lw_launch : List (Nat × List Bool) := []
set_option maxRecDepth 100000 in
theorem qg_Lw_launch {ρ : Type} (kr : Int → zH → Option ρ) (F_X_launch : Int → Int → Int → Int → Int → Int → zH → (Nat → zH → Option ρ) → (Int → zH → Option ρ) → Option ρ) (a0 a1 a2 a3 a4 a5 a6 : Int) (h : zH) : (zob h 0 a0 fun _ =>
F_X_launch a0 a1 a2 a3 a4 a5 h (fun n h6 => if n = 3 then kr 1 h6 else if n = 1 then kr 2 h6 else if n = 4 then kr 3 h6 else if n = 2 then kr 4 h6 else none) fun v1 h2 =>
zob h2 51 a6 fun p3 =>
zix (zhL h2 51 p3) 0 fun j4 =>
zlet (zset h2 51 p3 j4 v1) fun h5 =>
kr 0 h5) = zseg zPP true (zcal [(15, [none, none, none, none, none, none], fun xs h kr kt => match xs with
  | [x0, x1, x2, x3, x4, x5] => F_X_launch x0 x1 x2 x3 x4 x5 h kt kr
  | _ => none)]) (zget (999, 0, 0, 0) zc_Lw_launch) (zcut zu_Lw_launch) (zorc []) kr (fun _ _ => none) 400 0 [some (100, a0), some (0, a1), some (0, a2), some (0, a3), some (0, a4), some (0, a5), some (151, a6), none] [] h := by rfl
set_option maxRecDepth 100000 in
theorem qe_Lw_launch {ρ : Type} (kr : Int → zH → Option ρ) (a0 a1 a2 a3 a4 a5 a6 : Int) (h : zH) : Lw_launch a0 a1 a2 a3 a4 a5 a6 h kr = zseg zPP true (zcal [(15, [none, none, none, none, none, none], fun xs h kr kt => match xs with
  | [x0, x1, x2, x3, x4, x5] => X_launch x0 x1 x2 x3 x4 x5 h kt kr
  | _ => none)]) (zget (999, 0, 0, 0) zc_Lw_launch) (zcut zu_Lw_launch) (zorc []) kr (fun _ _ => none) 400 0 [some (100, a0), some (0, a1), some (0, a2), some (0, a3), some (0, a4), some (0, a5), some (151, a6), none] [] h := qg_Lw_launch kr X_launch a0 a1 a2 a3 a4 a5 a6 h
def zc_Lw_copy : List zI := [(15, 0, 6, 151), (999, 0, 0, 0), (0, 0, 0, 0), (14, 0, 0, 100), (10, 0, 1, 0), (10, 0, 2, 0), (10, 0, 3, 0), (11, 0, 4, 0), (999, 0, 0, 0), (11, 0, 5, 0), (999, 0, 0, 0), (118, 6, 39, 16), (999, 0, 0, 0), (999, 0, 0, 0), (42, 0, 0, 0), (98, 0, 0, 51), (72, 15, 31, 0), (999, 0, 0, 0), (999, 0, 0, 0), (21, 0, 7, 4), (999, 0, 0, 0), (0, 1, 0, 0), (130, 0, 0, 0), (21, 0, 7, 4), (999, 0, 0, 0), (0, 2, 0, 0), (130, 0, 0, 0), (21, 0, 7, 4), (999, 0, 0, 0), (0, 3, 0, 0), (130, 0, 0, 0), (0, 0, 0, 0), (130, 0, 0, 0)]
def zu_Lw_copy : List (Nat × List Bool) := []
set_option maxRecDepth 100000 in
theorem qg_Lw_copy {ρ : Type} (kr : Int → zH → Option ρ) (F_X_copy : Int → Int → Int → Int → Int → Int → zH → (Nat → zH → Option ρ) → (Int → zH → Option ρ) → Option ρ) (a0 a1 a2 a3 a4 a5 a6 : Int) (h : zH) : (zob h 0 a0 fun _ =>
F_X_copy a0 a1 a2 a3 a4 a5 h (fun n h6 => if n = 3 then kr 1 h6 else if n = 1 then kr 2 h6 else if n = 2 then kr 3 h6 else none) fun v1 h2 =>
zob h2 51 a6 fun p3 =>
zix (zhL h2 51 p3) 0 fun j4 =>
zlet (zset h2 51 p3 j4 v1) fun h5 =>
kr 0 h5) = zseg zPP true (zcal [(16, [none, none, none, none, none, none], fun xs h kr kt => match xs with
  | [x0, x1, x2, x3, x4, x5] => F_X_copy x0 x1 x2 x3 x4 x5 h kt kr
  | _ => none)]) (zget (999, 0, 0, 0) zc_Lw_copy) (zcut zu_Lw_copy) (zorc []) kr (fun _ _ => none) 400 0 [some (100, a0), some (0, a1), some (0, a2), some (0, a3), some (0, a4), some (0, a5), some (151, a6), none] [] h := by rfl
set_option maxRecDepth 100000 in
theorem qe_Lw_copy {ρ : Type} (kr : Int → zH → Option ρ) (a0 a1 a2 a3 a4 a5 a6 : Int) (h : zH) : Lw_copy a0 a1 a2 a3 a4 a5 a6 h kr = zseg zPP true (zcal [(16, [none, none, none, none, none, none], fun xs h kr kt => match xs with
  | [x0, x1, x2, x3, x4, x5] => X_copy x0 x1 x2 x3 x4 x5 h kt kr
  | _ => none)]) (zget (999, 0, 0, 0) zc_Lw_copy) (zcut zu_Lw_copy) (zorc []) kr (fun _ _ => none) 400 0 [some (100, a0), some (0, a1), some (0, a2), some (0, a3), some (0, a4), some (0, a5), some (151, a6), none] [] h := qg_Lw_copy kr X_copy a0 a1 a2 a3 a4 a5 a6 h
def zc_Lw_state : List zI := [(14, 0, 2, 151), (0, 0, 0, 0), (14, 0, 0, 100), (10, 0, 1, 0), (118, 7, 42, 18), (999, 0, 0, 0), (999, 0, 0, 0), (42, 0, 0, 0), (98, 0, 0, 51), (72, 6, 15, 0), (999, 0, 0, 0), (999, 0, 0, 0), (20, 0, 3, 4), (0, 1, 0, 0), (130, 0, 0, 0), (0, 0, 0, 0), (130, 0, 0, 0)]
def zu_Lw_state : List (Nat × List Bool) := []
set_option maxRecDepth 100000 in
theorem qg_Lw_state {ρ : Type} (kr : Int → zH → Option ρ) (F_X_state : Int → Int → zH → (Nat → zH → Option ρ) → (Int → zH → Option ρ) → Option ρ) (a0 a1 a2 : Int) (h : zH) : (zob h 0 a0 fun _ =>
F_X_state a0 a1 h (fun n h6 => if n = 3 then kr 1 h6 else none) fun v1 h2 =>
zob h2 51 a2 fun p3 =>
zix (zhL h2 51 p3) 0 fun j4 =>
zlet (zset h2 51 p3 j4 v1) fun h5 =>
kr 0 h5) = zseg zPP true (zcal [(18, [none, none], fun xs h kr kt => match xs with
  | [x0, x1] => F_X_state x0 x1 h kt kr
  | _ => none)]) (zget (999, 0, 0, 0) zc_Lw_state) (zcut zu_Lw_state) (zorc []) kr (fun _ _ => none) 400 0 [some (100, a0), some (0, a1), some (151, a2), none] [] h := by rfl
set_option maxRecDepth 100000 in
theorem qe_Lw_state {ρ : Type} (kr : Int → zH → Option ρ) (a0 a1 a2 : Int) (h : zH) : Lw_state a0 a1 a2 h kr = zseg zPP true (zcal [(18, [none, none], fun xs h kr kt => match xs with
  | [x0, x1] => X_state x0 x1 h kt kr
  | _ => none)]) (zget (999, 0, 0, 0) zc_Lw_state) (zcut zu_Lw_state) (zorc []) kr (fun _ _ => none) 400 0 [some (100, a0), some (0, a1), some (151, a2), none] [] h := qg_Lw_state kr X_state a0 a1 a2 h
def zc_Lw_parent : List zI := [(14, 0, 2, 151), (0, 0, 0, 0), (14, 0, 0, 100), (10, 0, 1, 0), (118, 8, 46, 19), (999, 0, 0, 0), (999, 0, 0, 0), (42, 0, 0, 0), (98, 0, 0, 51), (72, 9, 18, 0), (999, 0, 0, 0), (999, 0, 0, 0), (20, 0, 3, 4), (0, 1, 0, 0), (130, 0, 0, 0), (20, 0, 3, 4), (0, 2, 0, 0), (130, 0, 0, 0), (0, 0, 0, 0), (130, 0, 0, 0)]
def zu_Lw_parent : List (Nat × List Bool) := []
set_option maxRecDepth 100000 in
theorem qg_Lw_parent {ρ : Type} (kr : Int → zH → Option ρ) (F_X_parent : Int → Int → zH → (Nat → zH → Option ρ) → (Int → zH → Option ρ) → Option ρ) (a0 a1 a2 : Int) (h : zH) : (zob h 0 a0 fun _ =>
F_X_parent a0 a1 h (fun n h6 => if n = 3 then kr 1 h6 else if n = 5 then kr 2 h6 else none) fun v1 h2 =>
zob h2 51 a2 fun p3 =>
zix (zhL h2 51 p3) 0 fun j4 =>
zlet (zset h2 51 p3 j4 v1) fun h5 =>
kr 0 h5) = zseg zPP true (zcal [(19, [none, none], fun xs h kr kt => match xs with
  | [x0, x1] => F_X_parent x0 x1 h kt kr
  | _ => none)]) (zget (999, 0, 0, 0) zc_Lw_parent) (zcut zu_Lw_parent) (zorc []) kr (fun _ _ => none) 400 0 [some (100, a0), some (0, a1), some (151, a2), none] [] h := by rfl
set_option maxRecDepth 100000 in
theorem qe_Lw_parent {ρ : Type} (kr : Int → zH → Option ρ) (a0 a1 a2 : Int) (h : zH) : Lw_parent a0 a1 a2 h kr = zseg zPP true (zcal [(19, [none, none], fun xs h kr kt => match xs with
  | [x0, x1] => X_parent x0 x1 h kt kr
  | _ => none)]) (zget (999, 0, 0, 0) zc_Lw_parent) (zcut zu_Lw_parent) (zorc []) kr (fun _ _ => none) 400 0 [some (100, a0), some (0, a1), some (151, a2), none] [] h := qg_Lw_parent kr X_parent a0 a1 a2 h
def zc_Lw_given : List zI := [(14, 0, 2, 151), (0, 0, 0, 0), (14, 0, 0, 100), (10, 0, 1, 0), (118, 9, 51, 20), (999, 0, 0, 0), (999, 0, 0, 0), (42, 0, 0, 0), (98, 0, 0, 51), (72, 6, 15, 0), (999, 0, 0, 0), (999, 0, 0, 0), (20, 0, 3, 4), (0, 1, 0, 0), (130, 0, 0, 0), (0, 0, 0, 0), (130, 0, 0, 0)]
def zu_Lw_given : List (Nat × List Bool) := []
set_option maxRecDepth 100000 in
theorem qg_Lw_given {ρ : Type} (kr : Int → zH → Option ρ) (F_X_given : Int → Int → zH → (Nat → zH → Option ρ) → (Int → zH → Option ρ) → Option ρ) (a0 a1 a2 : Int) (h : zH) : (zob h 0 a0 fun _ =>
F_X_given a0 a1 h (fun n h6 => if n = 3 then kr 1 h6 else none) fun v1 h2 =>
zob h2 51 a2 fun p3 =>
zix (zhL h2 51 p3) 0 fun j4 =>
zlet (zset h2 51 p3 j4 v1) fun h5 =>
kr 0 h5) = zseg zPP true (zcal [(20, [none, none], fun xs h kr kt => match xs with
  | [x0, x1] => F_X_given x0 x1 h kt kr
  | _ => none)]) (zget (999, 0, 0, 0) zc_Lw_given) (zcut zu_Lw_given) (zorc []) kr (fun _ _ => none) 400 0 [some (100, a0), some (0, a1), some (151, a2), none] [] h := by rfl
set_option maxRecDepth 100000 in
theorem qe_Lw_given {ρ : Type} (kr : Int → zH → Option ρ) (a0 a1 a2 : Int) (h : zH) : Lw_given a0 a1 a2 h kr = zseg zPP true (zcal [(20, [none, none], fun xs h kr kt => match xs with
  | [x0, x1] => X_given x0 x1 h kt kr
  | _ => none)]) (zget (999, 0, 0, 0) zc_Lw_given) (zcut zu_Lw_given) (zorc []) kr (fun _ _ => none) 400 0 [some (100, a0), some (0, a1), some (151, a2), none] [] h := qg_Lw_given kr X_given a0 a1 a2 h
def zc_Lw_step : List zI := [(14, 0, 2, 151), (0, 0, 0, 0), (14, 0, 0, 100), (10, 0, 1, 0), (118, 10, 54, 21), (999, 0, 0, 0), (999, 0, 0, 0), (42, 0, 0, 0), (98, 0, 0, 51), (72, 6, 15, 0), (999, 0, 0, 0), (999, 0, 0, 0), (20, 0, 3, 4), (0, 1, 0, 0), (130, 0, 0, 0), (0, 0, 0, 0), (130, 0, 0, 0)]
def zu_Lw_step : List (Nat × List Bool) := []
set_option maxRecDepth 100000 in
theorem qg_Lw_step {ρ : Type} (kr : Int → zH → Option ρ) (F_X_step : Int → Int → zH → (Nat → zH → Option ρ) → (Int → zH → Option ρ) → Option ρ) (a0 a1 a2 : Int) (h : zH) : (zob h 0 a0 fun _ =>
F_X_step a0 a1 h (fun n h6 => if n = 1 then kr 1 h6 else none) fun v1 h2 =>
zob h2 51 a2 fun p3 =>
zix (zhL h2 51 p3) 0 fun j4 =>
zlet (zset h2 51 p3 j4 v1) fun h5 =>
kr 0 h5) = zseg zPP true (zcal [(21, [none, none], fun xs h kr kt => match xs with
  | [x0, x1] => F_X_step x0 x1 h kt kr
  | _ => none)]) (zget (999, 0, 0, 0) zc_Lw_step) (zcut zu_Lw_step) (zorc []) kr (fun _ _ => none) 400 0 [some (100, a0), some (0, a1), some (151, a2), none] [] h := by rfl
set_option maxRecDepth 100000 in
theorem qe_Lw_step {ρ : Type} (kr : Int → zH → Option ρ) (a0 a1 a2 : Int) (h : zH) : Lw_step a0 a1 a2 h kr = zseg zPP true (zcal [(21, [none, none], fun xs h kr kt => match xs with
  | [x0, x1] => X_step x0 x1 h kt kr
  | _ => none)]) (zget (999, 0, 0, 0) zc_Lw_step) (zcut zu_Lw_step) (zorc []) kr (fun _ _ => none) 400 0 [some (100, a0), some (0, a1), some (151, a2), none] [] h := qg_Lw_step kr X_step a0 a1 a2 h
def zc_Lw_run : List zI := [(14, 0, 2, 151), (0, 0, 0, 0), (14, 0, 0, 100), (10, 0, 1, 0), (118, 11, 57, 22), (999, 0, 0, 0), (999, 0, 0, 0), (42, 0, 0, 0), (98, 0, 0, 51), (72, 6, 15, 0), (999, 0, 0, 0), (999, 0, 0, 0), (20, 0, 3, 4), (0, 1, 0, 0), (130, 0, 0, 0), (0, 0, 0, 0), (130, 0, 0, 0)]
def zu_Lw_run : List (Nat × List Bool) := []
set_option maxRecDepth 100000 in
theorem qg_Lw_run {ρ : Type} (kr : Int → zH → Option ρ) (F_X_run : Int → Int → zH → (Nat → zH → Option ρ) → (Int → zH → Option ρ) → Option ρ) (a0 a1 a2 : Int) (h : zH) : (zob h 0 a0 fun _ =>
F_X_run a0 a1 h (fun n h6 => if n = 1 then kr 1 h6 else none) fun v1 h2 =>
zob h2 51 a2 fun p3 =>
zix (zhL h2 51 p3) 0 fun j4 =>
zlet (zset h2 51 p3 j4 v1) fun h5 =>
kr 0 h5) = zseg zPP true (zcal [(22, [none, none], fun xs h kr kt => match xs with
  | [x0, x1] => F_X_run x0 x1 h kt kr
  | _ => none)]) (zget (999, 0, 0, 0) zc_Lw_run) (zcut zu_Lw_run) (zorc []) kr (fun _ _ => none) 400 0 [some (100, a0), some (0, a1), some (151, a2), none] [] h := by rfl
set_option maxRecDepth 100000 in
theorem qe_Lw_run {ρ : Type} (kr : Int → zH → Option ρ) (a0 a1 a2 : Int) (h : zH) : Lw_run a0 a1 a2 h kr = zseg zPP true (zcal [(22, [none, none], fun xs h kr kt => match xs with
  | [x0, x1] => X_run x0 x1 h kt kr
  | _ => none)]) (zget (999, 0, 0, 0) zc_Lw_run) (zcut zu_Lw_run) (zorc []) kr (fun _ _ => none) 400 0 [some (100, a0), some (0, a1), some (151, a2), none] [] h := qg_Lw_run kr X_run a0 a1 a2 h
def zc_Lw_setOrder : List zI := [(14, 0, 2, 151), (0, 0, 0, 0), (14, 0, 0, 100), (10, 0, 1, 0), (118, 12, 60, 23), (999, 0, 0, 0), (999, 0, 0, 0), (42, 0, 0, 0), (98, 0, 0, 51), (72, 6, 15, 0), (999, 0, 0, 0), (999, 0, 0, 0), (20, 0, 3, 4), (0, 1, 0, 0), (130, 0, 0, 0), (0, 0, 0, 0), (130, 0, 0, 0)]
def zu_Lw_setOrder : List (Nat × List Bool) := []
set_option maxRecDepth 100000 in
theorem qg_Lw_setOrder {ρ : Type} (kr : Int → zH → Option ρ) (F_X_setOrder : Int → Int → zH → (Nat → zH → Option ρ) → (Int → zH → Option ρ) → Option ρ) (a0 a1 a2 : Int) (h : zH) : (zob h 0 a0 fun _ =>
F_X_setOrder a0 a1 h (fun n h6 => if n = 1 then kr 1 h6 else none) fun v1 h2 =>
zob h2 51 a2 fun p3 =>
zix (zhL h2 51 p3) 0 fun j4 =>
zlet (zset h2 51 p3 j4 v1) fun h5 =>
kr 0 h5) = zseg zPP true (zcal [(23, [none, none], fun xs h kr kt => match xs with
  | [x0, x1] => F_X_setOrder x0 x1 h kt kr
  | _ => none)]) (zget (999, 0, 0, 0) zc_Lw_setOrder) (zcut zu_Lw_setOrder) (zorc []) kr (fun _ _ => none) 400 0 [some (100, a0), some (0, a1), some (151, a2), none] [] h := by rfl
set_option maxRecDepth 100000 in
theorem qe_Lw_setOrder {ρ : Type} (kr : Int → zH → Option ρ) (a0 a1 a2 : Int) (h : zH) : Lw_setOrder a0 a1 a2 h kr = zseg zPP true (zcal [(23, [none, none], fun xs h kr kt => match xs with
  | [x0, x1] => X_setOrder x0 x1 h kt kr
  | _ => none)]) (zget (999, 0, 0, 0) zc_Lw_setOrder) (zcut zu_Lw_setOrder) (zorc []) kr (fun _ _ => none) 400 0 [some (100, a0), some (0, a1), some (151, a2), none] [] h := qg_Lw_setOrder kr X_setOrder a0 a1 a2 h
def zc_Lw_groups : List zI := [(14, 0, 2, 151), (0, 0, 0, 0), (14, 0, 0, 100), (10, 0, 1, 0), (118, 13, 64, 25), (999, 0, 0, 0), (999, 0, 0, 0), (42, 0, 0, 0), (98, 0, 0, 51), (72, 6, 15, 0), (999, 0, 0, 0), (999, 0, 0, 0), (20, 0, 3, 4), (0, 1, 0, 0), (130, 0, 0, 0), (0, 0, 0, 0), (130, 0, 0, 0)]
def zu_Lw_groups : List (Nat × List Bool) := []
set_option maxRecDepth 100000 in
theorem qg_Lw_groups {ρ : Type} (kr : Int → zH → Option ρ) (F_X_groups : Int → Int → zH → (Nat → zH → Option ρ) → (Int → zH → Option ρ) → Option ρ) (a0 a1 a2 : Int) (h : zH) : (zob h 0 a0 fun _ =>
F_X_groups a0 a1 h (fun n h6 => if n = 3 then kr 1 h6 else none) fun v1 h2 =>
zob h2 51 a2 fun p3 =>
zix (zhL h2 51 p3) 0 fun j4 =>
zlet (zset h2 51 p3 j4 v1) fun h5 =>
kr 0 h5) = zseg zPP true (zcal [(25, [none, none], fun xs h kr kt => match xs with
  | [x0, x1] => F_X_groups x0 x1 h kt kr
  | _ => none)]) (zget (999, 0, 0, 0) zc_Lw_groups) (zcut zu_Lw_groups) (zorc []) kr (fun _ _ => none) 400 0 [some (100, a0), some (0, a1), some (151, a2), none] [] h := by rfl
set_option maxRecDepth 100000 in
theorem qe_Lw_groups {ρ : Type} (kr : Int → zH → Option ρ) (a0 a1 a2 : Int) (h : zH) : Lw_groups a0 a1 a2 h kr = zseg zPP true (zcal [(25, [none, none], fun xs h kr kt => match xs with
  | [x0, x1] => X_groups x0 x1 h kt kr
  | _ => none)]) (zget (999, 0, 0, 0) zc_Lw_groups) (zcut zu_Lw_groups) (zorc []) kr (fun _ _ => none) 400 0 [some (100, a0), some (0, a1), some (151, a2), none] [] h := qg_Lw_groups kr X_groups a0 a1 a2 h
def zc_Lw_threadAt : List zI := [(14, 0, 3, 151), (0, 0, 0, 0), (14, 0, 0, 100), (10, 0, 1, 0), (10, 0, 2, 0), (118, 14, 67, 26), (999, 0, 0, 0), (999, 0, 0, 0), (42, 0, 0, 0), (98, 0, 0, 51), (72, 7, 17, 0), (999, 0, 0, 0), (999, 0, 0, 0), (21, 0, 4, 4), (999, 0, 0, 0), (0, 1, 0, 0), (130, 0, 0, 0), (0, 0, 0, 0), (130, 0, 0, 0)]
def zu_Lw_threadAt : List (Nat × List Bool) := []
set_option maxRecDepth 100000 in
theorem qg_Lw_threadAt {ρ : Type} (kr : Int → zH → Option ρ) (F_X_threadAt : Int → Int → Int → zH → (Nat → zH → Option ρ) → (Int → zH → Option ρ) → Option ρ) (a0 a1 a2 a3 : Int) (h : zH) : (zob h 0 a0 fun _ =>
F_X_threadAt a0 a1 a2 h (fun n h6 => if n = 3 then kr 1 h6 else none) fun v1 h2 =>
zob h2 51 a3 fun p3 =>
zix (zhL h2 51 p3) 0 fun j4 =>
zlet (zset h2 51 p3 j4 v1) fun h5 =>
kr 0 h5) = zseg zPP true (zcal [(26, [none, none, none], fun xs h kr kt => match xs with
  | [x0, x1, x2] => F_X_threadAt x0 x1 x2 h kt kr
  | _ => none)]) (zget (999, 0, 0, 0) zc_Lw_threadAt) (zcut zu_Lw_threadAt) (zorc []) kr (fun _ _ => none) 400 0 [some (100, a0), some (0, a1), some (0, a2), some (151, a3), none] [] h := by rfl
set_option maxRecDepth 100000 in
theorem qe_Lw_threadAt {ρ : Type} (kr : Int → zH → Option ρ) (a0 a1 a2 a3 : Int) (h : zH) : Lw_threadAt a0 a1 a2 a3 h kr = zseg zPP true (zcal [(26, [none, none, none], fun xs h kr kt => match xs with
  | [x0, x1, x2] => X_threadAt x0 x1 x2 h kt kr
  | _ => none)]) (zget (999, 0, 0, 0) zc_Lw_threadAt) (zcut zu_Lw_threadAt) (zorc []) kr (fun _ _ => none) 400 0 [some (100, a0), some (0, a1), some (0, a2), some (151, a3), none] [] h := qg_Lw_threadAt kr X_threadAt a0 a1 a2 a3 h
def zc_Lw_place : List zI := [(14, 0, 3, 151), (0, 0, 0, 0), (14, 0, 0, 100), (10, 0, 1, 0), (10, 0, 2, 0), (118, 15, 70, 27), (999, 0, 0, 0), (999, 0, 0, 0), (42, 0, 0, 0), (98, 0, 0, 51), (72, 11, 21, 0), (999, 0, 0, 0), (999, 0, 0, 0), (21, 0, 4, 4), (999, 0, 0, 0), (0, 1, 0, 0), (130, 0, 0, 0), (21, 0, 4, 4), (999, 0, 0, 0), (0, 2, 0, 0), (130, 0, 0, 0), (0, 0, 0, 0), (130, 0, 0, 0)]
def zu_Lw_place : List (Nat × List Bool) := []
set_option maxRecDepth 100000 in
theorem qg_Lw_place {ρ : Type} (kr : Int → zH → Option ρ) (F_X_place : Int → Int → Int → zH → (Nat → zH → Option ρ) → (Int → zH → Option ρ) → Option ρ) (a0 a1 a2 a3 : Int) (h : zH) : (zob h 0 a0 fun _ =>
F_X_place a0 a1 a2 h (fun n h6 => if n = 3 then kr 1 h6 else if n = 5 then kr 2 h6 else none) fun v1 h2 =>
zob h2 51 a3 fun p3 =>
zix (zhL h2 51 p3) 0 fun j4 =>
zlet (zset h2 51 p3 j4 v1) fun h5 =>
kr 0 h5) = zseg zPP true (zcal [(27, [none, none, none], fun xs h kr kt => match xs with
  | [x0, x1, x2] => F_X_place x0 x1 x2 h kt kr
  | _ => none)]) (zget (999, 0, 0, 0) zc_Lw_place) (zcut zu_Lw_place) (zorc []) kr (fun _ _ => none) 400 0 [some (100, a0), some (0, a1), some (0, a2), some (151, a3), none] [] h := by rfl
set_option maxRecDepth 100000 in
theorem qe_Lw_place {ρ : Type} (kr : Int → zH → Option ρ) (a0 a1 a2 a3 : Int) (h : zH) : Lw_place a0 a1 a2 a3 h kr = zseg zPP true (zcal [(27, [none, none, none], fun xs h kr kt => match xs with
  | [x0, x1, x2] => X_place x0 x1 x2 h kt kr
  | _ => none)]) (zget (999, 0, 0, 0) zc_Lw_place) (zcut zu_Lw_place) (zorc []) kr (fun _ _ => none) 400 0 [some (100, a0), some (0, a1), some (0, a2), some (151, a3), none] [] h := qg_Lw_place kr X_place a0 a1 a2 a3 h
def zc_Lw_mask : List zI := [(14, 0, 3, 151), (0, 0, 0, 0), (14, 0, 0, 100), (10, 0, 1, 0), (10, 0, 2, 0), (118, 16, 73, 28), (999, 0, 0, 0), (999, 0, 0, 0), (42, 0, 0, 0), (98, 0, 0, 51), (72, 7, 17, 0), (999, 0, 0, 0), (999, 0, 0, 0), (21, 0, 4, 4), (999, 0, 0, 0), (0, 1, 0, 0), (130, 0, 0, 0), (0, 0, 0, 0), (130, 0, 0, 0)]
def zu_Lw_mask : List (Nat × List Bool) := []
set_option maxRecDepth 100000 in
theorem qg_Lw_mask {ρ : Type} (kr : Int → zH → Option ρ) (F_X_mask : Int → Int → Int → zH → (Nat → zH → Option ρ) → (Int → zH → Option ρ) → Option ρ) (a0 a1 a2 a3 : Int) (h : zH) : (zob h 0 a0 fun _ =>
F_X_mask a0 a1 a2 h (fun n h6 => if n = 3 then kr 1 h6 else none) fun v1 h2 =>
zob h2 51 a3 fun p3 =>
zix (zhL h2 51 p3) 0 fun j4 =>
zlet (zset h2 51 p3 j4 v1) fun h5 =>
kr 0 h5) = zseg zPP true (zcal [(28, [none, none, none], fun xs h kr kt => match xs with
  | [x0, x1, x2] => F_X_mask x0 x1 x2 h kt kr
  | _ => none)]) (zget (999, 0, 0, 0) zc_Lw_mask) (zcut zu_Lw_mask) (zorc []) kr (fun _ _ => none) 400 0 [some (100, a0), some (0, a1), some (0, a2), some (151, a3), none] [] h := by rfl
set_option maxRecDepth 100000 in
theorem qe_Lw_mask {ρ : Type} (kr : Int → zH → Option ρ) (a0 a1 a2 a3 : Int) (h : zH) : Lw_mask a0 a1 a2 a3 h kr = zseg zPP true (zcal [(28, [none, none, none], fun xs h kr kt => match xs with
  | [x0, x1, x2] => X_mask x0 x1 x2 h kt kr
  | _ => none)]) (zget (999, 0, 0, 0) zc_Lw_mask) (zcut zu_Lw_mask) (zorc []) kr (fun _ _ => none) 400 0 [some (100, a0), some (0, a1), some (0, a2), some (151, a3), none] [] h := qg_Lw_mask kr X_mask a0 a1 a2 a3 h
def zc_Lw_places : List zI := [(14, 0, 3, 151), (0, 0, 0, 0), (14, 0, 0, 100), (10, 0, 1, 0), (10, 0, 2, 0), (118, 17, 76, 29), (999, 0, 0, 0), (999, 0, 0, 0), (42, 0, 0, 0), (98, 0, 0, 51), (72, 7, 17, 0), (999, 0, 0, 0), (999, 0, 0, 0), (21, 0, 4, 4), (999, 0, 0, 0), (0, 1, 0, 0), (130, 0, 0, 0), (0, 0, 0, 0), (130, 0, 0, 0)]
def zu_Lw_places : List (Nat × List Bool) := []
set_option maxRecDepth 100000 in
theorem qg_Lw_places {ρ : Type} (kr : Int → zH → Option ρ) (F_X_places : Int → Int → Int → zH → (Nat → zH → Option ρ) → (Int → zH → Option ρ) → Option ρ) (a0 a1 a2 a3 : Int) (h : zH) : (zob h 0 a0 fun _ =>
F_X_places a0 a1 a2 h (fun n h6 => if n = 3 then kr 1 h6 else none) fun v1 h2 =>
zob h2 51 a3 fun p3 =>
zix (zhL h2 51 p3) 0 fun j4 =>
zlet (zset h2 51 p3 j4 v1) fun h5 =>
kr 0 h5) = zseg zPP true (zcal [(29, [none, none, none], fun xs h kr kt => match xs with
  | [x0, x1, x2] => F_X_places x0 x1 x2 h kt kr
  | _ => none)]) (zget (999, 0, 0, 0) zc_Lw_places) (zcut zu_Lw_places) (zorc []) kr (fun _ _ => none) 400 0 [some (100, a0), some (0, a1), some (0, a2), some (151, a3), none] [] h := by rfl
set_option maxRecDepth 100000 in
theorem qe_Lw_places {ρ : Type} (kr : Int → zH → Option ρ) (a0 a1 a2 a3 : Int) (h : zH) : Lw_places a0 a1 a2 a3 h kr = zseg zPP true (zcal [(29, [none, none, none], fun xs h kr kt => match xs with
  | [x0, x1, x2] => X_places x0 x1 x2 h kt kr
  | _ => none)]) (zget (999, 0, 0, 0) zc_Lw_places) (zcut zu_Lw_places) (zorc []) kr (fun _ _ => none) 400 0 [some (100, a0), some (0, a1), some (0, a2), some (151, a3), none] [] h := qg_Lw_places kr X_places a0 a1 a2 a3 h
def zc_Lw_reason : List zI := [(14, 0, 3, 151), (0, 0, 0, 0), (14, 0, 0, 100), (10, 0, 1, 0), (10, 0, 2, 0), (118, 18, 79, 30), (999, 0, 0, 0), (999, 0, 0, 0), (42, 0, 0, 0), (98, 0, 0, 51), (72, 7, 17, 0), (999, 0, 0, 0), (999, 0, 0, 0), (21, 0, 4, 4), (999, 0, 0, 0), (0, 1, 0, 0), (130, 0, 0, 0), (0, 0, 0, 0), (130, 0, 0, 0)]
def zu_Lw_reason : List (Nat × List Bool) := []
set_option maxRecDepth 100000 in
theorem qg_Lw_reason {ρ : Type} (kr : Int → zH → Option ρ) (F_X_reason : Int → Int → Int → zH → (Nat → zH → Option ρ) → (Int → zH → Option ρ) → Option ρ) (a0 a1 a2 a3 : Int) (h : zH) : (zob h 0 a0 fun _ =>
F_X_reason a0 a1 a2 h (fun n h6 => if n = 3 then kr 1 h6 else none) fun v1 h2 =>
zob h2 51 a3 fun p3 =>
zix (zhL h2 51 p3) 0 fun j4 =>
zlet (zset h2 51 p3 j4 v1) fun h5 =>
kr 0 h5) = zseg zPP true (zcal [(30, [none, none, none], fun xs h kr kt => match xs with
  | [x0, x1, x2] => F_X_reason x0 x1 x2 h kt kr
  | _ => none)]) (zget (999, 0, 0, 0) zc_Lw_reason) (zcut zu_Lw_reason) (zorc []) kr (fun _ _ => none) 400 0 [some (100, a0), some (0, a1), some (0, a2), some (151, a3), none] [] h := by rfl
set_option maxRecDepth 100000 in
theorem qe_Lw_reason {ρ : Type} (kr : Int → zH → Option ρ) (a0 a1 a2 a3 : Int) (h : zH) : Lw_reason a0 a1 a2 a3 h kr = zseg zPP true (zcal [(30, [none, none, none], fun xs h kr kt => match xs with
  | [x0, x1, x2] => X_reason x0 x1 x2 h kt kr
  | _ => none)]) (zget (999, 0, 0, 0) zc_Lw_reason) (zcut zu_Lw_reason) (zorc []) kr (fun _ _ => none) 400 0 [some (100, a0), some (0, a1), some (0, a2), some (151, a3), none] [] h := qg_Lw_reason kr X_reason a0 a1 a2 a3 h
def zc_Lw_register : List zI := [(15, 0, 5, 151), (999, 0, 0, 0), (0, 0, 0, 0), (14, 0, 0, 100), (10, 0, 1, 0), (10, 0, 2, 0), (10, 0, 3, 0), (11, 0, 4, 0), (999, 0, 0, 0), (118, 19, 83, 31), (999, 0, 0, 0), (999, 0, 0, 0), (42, 0, 0, 0), (98, 0, 0, 51), (72, 7, 21, 0), (999, 0, 0, 0), (999, 0, 0, 0), (21, 0, 6, 4), (999, 0, 0, 0), (0, 1, 0, 0), (130, 0, 0, 0), (0, 0, 0, 0), (130, 0, 0, 0)]
def zu_Lw_register : List (Nat × List Bool) := []
set_option maxRecDepth 100000 in
theorem qg_Lw_register {ρ : Type} (kr : Int → zH → Option ρ) (F_X_register : Int → Int → Int → Int → Int → zH → (Nat → zH → Option ρ) → (Int → zH → Option ρ) → Option ρ) (a0 a1 a2 a3 a4 a5 : Int) (h : zH) : (zob h 0 a0 fun _ =>
F_X_register a0 a1 a2 a3 a4 h (fun n h6 => if n = 3 then kr 1 h6 else none) fun v1 h2 =>
zob h2 51 a5 fun p3 =>
zix (zhL h2 51 p3) 0 fun j4 =>
zlet (zset h2 51 p3 j4 v1) fun h5 =>
kr 0 h5) = zseg zPP true (zcal [(31, [none, none, none, none, none], fun xs h kr kt => match xs with
  | [x0, x1, x2, x3, x4] => F_X_register x0 x1 x2 x3 x4 h kt kr
  | _ => none)]) (zget (999, 0, 0, 0) zc_Lw_register) (zcut zu_Lw_register) (zorc []) kr (fun _ _ => none) 400 0 [some (100, a0), some (0, a1), some (0, a2), some (0, a3), some (0, a4), some (151, a5), none] [] h := by rfl
set_option maxRecDepth 100000 in
theorem qe_Lw_register {ρ : Type} (kr : Int → zH → Option ρ) (a0 a1 a2 a3 a4 a5 : Int) (h : zH) : Lw_register a0 a1 a2 a3 a4 a5 h kr = zseg zPP true (zcal [(31, [none, none, none, none, none], fun xs h kr kt => match xs with
  | [x0, x1, x2, x3, x4] => X_register x0 x1 x2 x3 x4 h kt kr
  | _ => none)]) (zget (999, 0, 0, 0) zc_Lw_register) (zcut zu_Lw_register) (zorc []) kr (fun _ _ => none) 400 0 [some (100, a0), some (0, a1), some (0, a2), some (0, a3), some (0, a4), some (151, a5), none] [] h := qg_Lw_register kr X_register a0 a1 a2 a3 a4 a5 h
def zc_Lw_shared : List zI := [(15, 0, 4, 151), (999, 0, 0, 0), (0, 0, 0, 0), (14, 0, 0, 100), (10, 0, 1, 0), (10, 0, 2, 0), (10, 0, 3, 0), (118, 20, 87, 32), (999, 0, 0, 0), (999, 0, 0, 0), (42, 0, 0, 0), (98, 0, 0, 51), (72, 7, 19, 0), (999, 0, 0, 0), (999, 0, 0, 0), (21, 0, 5, 4), (999, 0, 0, 0), (0, 1, 0, 0), (130, 0, 0, 0), (0, 0, 0, 0), (130, 0, 0, 0)]
def zu_Lw_shared : List (Nat × List Bool) := []
set_option maxRecDepth 100000 in
theorem qg_Lw_shared {ρ : Type} (kr : Int → zH → Option ρ) (F_X_shared : Int → Int → Int → Int → zH → (Nat → zH → Option ρ) → (Int → zH → Option ρ) → Option ρ) (a0 a1 a2 a3 a4 : Int) (h : zH) : (zob h 0 a0 fun _ =>
F_X_shared a0 a1 a2 a3 h (fun n h6 => if n = 3 then kr 1 h6 else none) fun v1 h2 =>
zob h2 51 a4 fun p3 =>
zix (zhL h2 51 p3) 0 fun j4 =>
zlet (zset h2 51 p3 j4 v1) fun h5 =>
kr 0 h5) = zseg zPP true (zcal [(32, [none, none, none, none], fun xs h kr kt => match xs with
  | [x0, x1, x2, x3] => F_X_shared x0 x1 x2 x3 h kt kr
  | _ => none)]) (zget (999, 0, 0, 0) zc_Lw_shared) (zcut zu_Lw_shared) (zorc []) kr (fun _ _ => none) 400 0 [some (100, a0), some (0, a1), some (0, a2), some (0, a3), some (151, a4), none] [] h := by rfl
set_option maxRecDepth 100000 in
theorem qe_Lw_shared {ρ : Type} (kr : Int → zH → Option ρ) (a0 a1 a2 a3 a4 : Int) (h : zH) : Lw_shared a0 a1 a2 a3 a4 h kr = zseg zPP true (zcal [(32, [none, none, none, none], fun xs h kr kt => match xs with
  | [x0, x1, x2, x3] => X_shared x0 x1 x2 x3 h kt kr
  | _ => none)]) (zget (999, 0, 0, 0) zc_Lw_shared) (zcut zu_Lw_shared) (zorc []) kr (fun _ _ => none) 400 0 [some (100, a0), some (0, a1), some (0, a2), some (0, a3), some (151, a4), none] [] h := qg_Lw_shared kr X_shared a0 a1 a2 a3 a4 h
def zc_Lw_buffered : List zI := [(14, 0, 3, 151), (0, 0, 0, 0), (14, 0, 0, 100), (10, 0, 1, 0), (10, 0, 2, 0), (118, 21, 91, 33), (999, 0, 0, 0), (999, 0, 0, 0), (42, 0, 0, 0), (98, 0, 0, 51), (72, 7, 17, 0), (999, 0, 0, 0), (999, 0, 0, 0), (21, 0, 4, 4), (999, 0, 0, 0), (0, 1, 0, 0), (130, 0, 0, 0), (0, 0, 0, 0), (130, 0, 0, 0)]
def zu_Lw_buffered : List (Nat × List Bool) := []
set_option maxRecDepth 100000 in
theorem qg_Lw_buffered {ρ : Type} (kr : Int → zH → Option ρ) (F_X_buffered : Int → Int → Int → zH → (Nat → zH → Option ρ) → (Int → zH → Option ρ) → Option ρ) (a0 a1 a2 a3 : Int) (h : zH) : (zob h 0 a0 fun _ =>
F_X_buffered a0 a1 a2 h (fun n h6 => if n = 3 then kr 1 h6 else none) fun v1 h2 =>
zob h2 51 a3 fun p3 =>
zix (zhL h2 51 p3) 0 fun j4 =>
zlet (zset h2 51 p3 j4 v1) fun h5 =>
kr 0 h5) = zseg zPP true (zcal [(33, [none, none, none], fun xs h kr kt => match xs with
  | [x0, x1, x2] => F_X_buffered x0 x1 x2 h kt kr
  | _ => none)]) (zget (999, 0, 0, 0) zc_Lw_buffered) (zcut zu_Lw_buffered) (zorc []) kr (fun _ _ => none) 400 0 [some (100, a0), some (0, a1), some (0, a2), some (151, a3), none] [] h := by rfl
set_option maxRecDepth 100000 in
theorem qe_Lw_buffered {ρ : Type} (kr : Int → zH → Option ρ) (a0 a1 a2 a3 : Int) (h : zH) : Lw_buffered a0 a1 a2 a3 h kr = zseg zPP true (zcal [(33, [none, none, none], fun xs h kr kt => match xs with
  | [x0, x1, x2] => X_buffered x0 x1 x2 h kt kr
  | _ => none)]) (zget (999, 0, 0, 0) zc_Lw_buffered) (zcut zu_Lw_buffered) (zorc []) kr (fun _ _ => none) 400 0 [some (100, a0), some (0, a1), some (0, a2), some (151, a3), none] [] h := qg_Lw_buffered kr X_buffered a0 a1 a2 a3 h
def zc_Lw_fault : List zI := [(14, 0, 2, 151), (0, 0, 0, 0), (14, 0, 0, 100), (10, 0, 1, 0), (118, 22, 94, 34), (999, 0, 0, 0), (999, 0, 0, 0), (42, 0, 0, 0), (98, 0, 0, 51), (72, 9, 18, 0), (999, 0, 0, 0), (999, 0, 0, 0), (20, 0, 3, 4), (0, 1, 0, 0), (130, 0, 0, 0), (20, 0, 3, 4), (0, 2, 0, 0), (130, 0, 0, 0), (0, 0, 0, 0), (130, 0, 0, 0)]
def zu_Lw_fault : List (Nat × List Bool) := []
set_option maxRecDepth 100000 in
theorem qg_Lw_fault {ρ : Type} (kr : Int → zH → Option ρ) (F_X_fault : Int → Int → zH → (Nat → zH → Option ρ) → (Int → zH → Option ρ) → Option ρ) (a0 a1 a2 : Int) (h : zH) : (zob h 0 a0 fun _ =>
F_X_fault a0 a1 h (fun n h6 => if n = 3 then kr 1 h6 else if n = 5 then kr 2 h6 else none) fun v1 h2 =>
zob h2 51 a2 fun p3 =>
zix (zhL h2 51 p3) 0 fun j4 =>
zlet (zset h2 51 p3 j4 v1) fun h5 =>
kr 0 h5) = zseg zPP true (zcal [(34, [none, none], fun xs h kr kt => match xs with
  | [x0, x1] => F_X_fault x0 x1 h kt kr
  | _ => none)]) (zget (999, 0, 0, 0) zc_Lw_fault) (zcut zu_Lw_fault) (zorc []) kr (fun _ _ => none) 400 0 [some (100, a0), some (0, a1), some (151, a2), none] [] h := by rfl
set_option maxRecDepth 100000 in
theorem qe_Lw_fault {ρ : Type} (kr : Int → zH → Option ρ) (a0 a1 a2 : Int) (h : zH) : Lw_fault a0 a1 a2 h kr = zseg zPP true (zcal [(34, [none, none], fun xs h kr kt => match xs with
  | [x0, x1] => X_fault x0 x1 h kt kr
  | _ => none)]) (zget (999, 0, 0, 0) zc_Lw_fault) (zcut zu_Lw_fault) (zorc []) kr (fun _ _ => none) 400 0 [some (100, a0), some (0, a1), some (151, a2), none] [] h := qg_Lw_fault kr X_fault a0 a1 a2 h
def zc_Lw_faultAt : List zI := [(14, 0, 2, 151), (0, 0, 0, 0), (14, 0, 0, 100), (10, 0, 1, 0), (118, 23, 97, 35), (999, 0, 0, 0), (999, 0, 0, 0), (42, 0, 0, 0), (98, 0, 0, 51), (72, 9, 18, 0), (999, 0, 0, 0), (999, 0, 0, 0), (20, 0, 3, 4), (0, 1, 0, 0), (130, 0, 0, 0), (20, 0, 3, 4), (0, 2, 0, 0), (130, 0, 0, 0), (0, 0, 0, 0), (130, 0, 0, 0)]
def zu_Lw_faultAt : List (Nat × List Bool) := []
set_option maxRecDepth 100000 in
theorem qg_Lw_faultAt {ρ : Type} (kr : Int → zH → Option ρ) (F_X_faultAt : Int → Int → zH → (Nat → zH → Option ρ) → (Int → zH → Option ρ) → Option ρ) (a0 a1 a2 : Int) (h : zH) : (zob h 0 a0 fun _ =>
F_X_faultAt a0 a1 h (fun n h6 => if n = 3 then kr 1 h6 else if n = 5 then kr 2 h6 else none) fun v1 h2 =>
zob h2 51 a2 fun p3 =>
zix (zhL h2 51 p3) 0 fun j4 =>
zlet (zset h2 51 p3 j4 v1) fun h5 =>
kr 0 h5) = zseg zPP true (zcal [(35, [none, none], fun xs h kr kt => match xs with
  | [x0, x1] => F_X_faultAt x0 x1 h kt kr
  | _ => none)]) (zget (999, 0, 0, 0) zc_Lw_faultAt) (zcut zu_Lw_faultAt) (zorc []) kr (fun _ _ => none) 400 0 [some (100, a0), some (0, a1), some (151, a2), none] [] h := by rfl
set_option maxRecDepth 100000 in
theorem qe_Lw_faultAt {ρ : Type} (kr : Int → zH → Option ρ) (a0 a1 a2 : Int) (h : zH) : Lw_faultAt a0 a1 a2 h kr = zseg zPP true (zcal [(35, [none, none], fun xs h kr kt => match xs with
  | [x0, x1] => X_faultAt x0 x1 h kt kr
  | _ => none)]) (zget (999, 0, 0, 0) zc_Lw_faultAt) (zcut zu_Lw_faultAt) (zorc []) kr (fun _ _ => none) 400 0 [some (100, a0), some (0, a1), some (151, a2), none] [] h := qg_Lw_faultAt kr X_faultAt a0 a1 a2 h
def zc_Lw_isRacing : List zI := [(14, 0, 3, 151), (0, 0, 0, 0), (14, 0, 0, 100), (10, 0, 1, 0), (10, 0, 2, 0), (118, 24, 100, 36), (999, 0, 0, 0), (999, 0, 0, 0), (60, 7, 15, 0), (999, 0, 0, 0), (999, 0, 0, 0), (5, 1, 1, 0), (72, 4, 16, 0), (999, 0, 0, 0), (999, 0, 0, 0), (5, 0, 0, 0), (98, 0, 0, 51), (72, 7, 24, 0), (999, 0, 0, 0), (999, 0, 0, 0), (21, 0, 4, 4), (999, 0, 0, 0), (0, 1, 0, 0), (130, 0, 0, 0), (0, 0, 0, 0), (130, 0, 0, 0)]
def zu_Lw_isRacing : List (Nat × List Bool) := [(16, [false, false, false, false, false])]
set_option maxRecDepth 100000 in
theorem qg_Lw_isRacing_16 {ρ : Type} (kr : Int → zH → Option ρ) (t0 t1 t2 : Int) (h : zH) : (zob h 51 t2 fun p1 =>
zix (zhL h 51 p1) t1 fun j2 =>
zlet (zset h 51 p1 j2 t0) fun h3 =>
kr 0 h3) = zseg zPP true (zcal []) (zget (999, 0, 0, 0) zc_Lw_isRacing) (zcut zu_Lw_isRacing) (zorc []) kr (fun _ _ => none) 400 16 [none, none, none, none, none] [(1, t0), (0, t1), (151, t2)] h := by rfl
set_option maxRecDepth 100000 in
theorem qe_Lw_isRacing_16 {ρ : Type} (kr : Int → zH → Option ρ) (t0 t1 t2 : Int) (h : zH) : Lw_isRacing_16 kr t0 t1 t2 h = zseg zPP true (zcal []) (zget (999, 0, 0, 0) zc_Lw_isRacing) (zcut zu_Lw_isRacing) (zorc []) kr (fun _ _ => none) 400 16 [none, none, none, none, none] [(1, t0), (0, t1), (151, t2)] h := qg_Lw_isRacing_16 kr t0 t1 t2 h
set_option maxRecDepth 100000 in
theorem qg_Lw_isRacing {ρ : Type} (kr : Int → zH → Option ρ) (F_X_isRacing : Int → Int → Int → zH → (Nat → zH → Option ρ) → (Int → zH → Option ρ) → Option ρ) (c16 : Int → Int → Int → zH → Option ρ) (a0 a1 a2 a3 : Int) (h : zH) : (zob h 0 a0 fun _ =>
F_X_isRacing a0 a1 a2 h (fun n h3 => if n = 3 then kr 1 h3 else none) fun v1 h2 =>
if v1 = 0 then c16 0 0 a3 h2
else c16 1 0 a3 h2) = zseg zPP true (zcal [(36, [none, none, none], fun xs h kr kt => match xs with
  | [x0, x1, x2] => F_X_isRacing x0 x1 x2 h kt kr
  | _ => none)]) (zget (999, 0, 0, 0) zc_Lw_isRacing) (zcut zu_Lw_isRacing) (zorc [(16, [none, none, none, none, none], [(1, none), (0, none), (151, none)], fun xs h => match xs with
  | [t0, t1, t2] => c16 t0 t1 t2 h
  | _ => none)]) kr (fun _ _ => none) 400 0 [some (100, a0), some (0, a1), some (0, a2), some (151, a3), none] [] h := by rfl
set_option maxRecDepth 100000 in
theorem qe_Lw_isRacing {ρ : Type} (kr : Int → zH → Option ρ) (a0 a1 a2 a3 : Int) (h : zH) : Lw_isRacing a0 a1 a2 a3 h kr = zseg zPP true (zcal [(36, [none, none, none], fun xs h kr kt => match xs with
  | [x0, x1, x2] => X_isRacing x0 x1 x2 h kt kr
  | _ => none)]) (zget (999, 0, 0, 0) zc_Lw_isRacing) (zcut zu_Lw_isRacing) (zorc [(16, [none, none, none, none, none], [(1, none), (0, none), (151, none)], fun xs h => match xs with
  | [t0, t1, t2] => Lw_isRacing_16 kr t0 t1 t2 h
  | _ => none)]) kr (fun _ _ => none) 400 0 [some (100, a0), some (0, a1), some (0, a2), some (151, a3), none] [] h := qg_Lw_isRacing kr X_isRacing (Lw_isRacing_16 kr) a0 a1 a2 a3 h
def zc_Lw_races : List zI := [(14, 0, 2, 151), (0, 0, 0, 0), (14, 0, 0, 100), (10, 0, 1, 0), (118, 25, 104, 37), (999, 0, 0, 0), (999, 0, 0, 0), (42, 0, 0, 0), (98, 0, 0, 51), (72, 6, 15, 0), (999, 0, 0, 0), (999, 0, 0, 0), (20, 0, 3, 4), (0, 1, 0, 0), (130, 0, 0, 0), (0, 0, 0, 0), (130, 0, 0, 0)]
def zu_Lw_races : List (Nat × List Bool) := []
set_option maxRecDepth 100000 in
theorem qg_Lw_races {ρ : Type} (kr : Int → zH → Option ρ) (F_X_races : Int → Int → zH → (Nat → zH → Option ρ) → (Int → zH → Option ρ) → Option ρ) (a0 a1 a2 : Int) (h : zH) : (zob h 0 a0 fun _ =>
F_X_races a0 a1 h (fun n h6 => if n = 3 then kr 1 h6 else none) fun v1 h2 =>
zob h2 51 a2 fun p3 =>
zix (zhL h2 51 p3) 0 fun j4 =>
zlet (zset h2 51 p3 j4 v1) fun h5 =>
kr 0 h5) = zseg zPP true (zcal [(37, [none, none], fun xs h kr kt => match xs with
  | [x0, x1] => F_X_races x0 x1 h kt kr
  | _ => none)]) (zget (999, 0, 0, 0) zc_Lw_races) (zcut zu_Lw_races) (zorc []) kr (fun _ _ => none) 400 0 [some (100, a0), some (0, a1), some (151, a2), none] [] h := by rfl
set_option maxRecDepth 100000 in
theorem qe_Lw_races {ρ : Type} (kr : Int → zH → Option ρ) (a0 a1 a2 : Int) (h : zH) : Lw_races a0 a1 a2 h kr = zseg zPP true (zcal [(37, [none, none], fun xs h kr kt => match xs with
  | [x0, x1] => X_races x0 x1 h kt kr
  | _ => none)]) (zget (999, 0, 0, 0) zc_Lw_races) (zcut zu_Lw_races) (zorc []) kr (fun _ _ => none) 400 0 [some (100, a0), some (0, a1), some (151, a2), none] [] h := qg_Lw_races kr X_races a0 a1 a2 h
def zc_Lw_serial : List zI := [(15, 0, 6, 151), (999, 0, 0, 0), (0, 0, 0, 0), (14, 0, 0, 100), (10, 0, 1, 0), (10, 0, 2, 0), (10, 0, 3, 0), (11, 0, 4, 0), (999, 0, 0, 0), (11, 0, 5, 0), (999, 0, 0, 0), (118, 26, 107, 38), (999, 0, 0, 0), (999, 0, 0, 0), (42, 0, 0, 0), (98, 0, 0, 51), (72, 19, 35, 0), (999, 0, 0, 0), (999, 0, 0, 0), (21, 0, 7, 4), (999, 0, 0, 0), (0, 1, 0, 0), (130, 0, 0, 0), (21, 0, 7, 4), (999, 0, 0, 0), (0, 2, 0, 0), (130, 0, 0, 0), (21, 0, 7, 4), (999, 0, 0, 0), (0, 3, 0, 0), (130, 0, 0, 0), (21, 0, 7, 4), (999, 0, 0, 0), (0, 4, 0, 0), (130, 0, 0, 0), (0, 0, 0, 0), (130, 0, 0, 0)]
def zu_Lw_serial : List (Nat × List Bool) := []
set_option maxRecDepth 100000 in
theorem qg_Lw_serial {ρ : Type} (kr : Int → zH → Option ρ) (F_X_serial : Int → Int → Int → Int → Int → Int → zH → (Nat → zH → Option ρ) → (Int → zH → Option ρ) → Option ρ) (a0 a1 a2 a3 a4 a5 a6 : Int) (h : zH) : (zob h 0 a0 fun _ =>
F_X_serial a0 a1 a2 a3 a4 a5 h (fun n h6 => if n = 3 then kr 1 h6 else if n = 1 then kr 2 h6 else if n = 4 then kr 3 h6 else if n = 2 then kr 4 h6 else none) fun v1 h2 =>
zob h2 51 a6 fun p3 =>
zix (zhL h2 51 p3) 0 fun j4 =>
zlet (zset h2 51 p3 j4 v1) fun h5 =>
kr 0 h5) = zseg zPP true (zcal [(38, [none, none, none, none, none, none], fun xs h kr kt => match xs with
  | [x0, x1, x2, x3, x4, x5] => F_X_serial x0 x1 x2 x3 x4 x5 h kt kr
  | _ => none)]) (zget (999, 0, 0, 0) zc_Lw_serial) (zcut zu_Lw_serial) (zorc []) kr (fun _ _ => none) 400 0 [some (100, a0), some (0, a1), some (0, a2), some (0, a3), some (0, a4), some (0, a5), some (151, a6), none] [] h := by rfl
set_option maxRecDepth 100000 in
theorem qe_Lw_serial {ρ : Type} (kr : Int → zH → Option ρ) (a0 a1 a2 a3 a4 a5 a6 : Int) (h : zH) : Lw_serial a0 a1 a2 a3 a4 a5 a6 h kr = zseg zPP true (zcal [(38, [none, none, none, none, none, none], fun xs h kr kt => match xs with
  | [x0, x1, x2, x3, x4, x5] => X_serial x0 x1 x2 x3 x4 x5 h kt kr
  | _ => none)]) (zget (999, 0, 0, 0) zc_Lw_serial) (zcut zu_Lw_serial) (zorc []) kr (fun _ _ => none) 400 0 [some (100, a0), some (0, a1), some (0, a2), some (0, a3), some (0, a4), some (0, a5), some (151, a6), none] [] h := qg_Lw_serial kr X_serial a0 a1 a2 a3 a4 a5 a6 h
def zc_Lw_usedShare : List zI := [(14, 0, 1, 152), (0, 0, 0, 0), (14, 0, 0, 100), (118, 27, 111, 44), (999, 0, 0, 0), (999, 0, 0, 0), (148, 0, 0, 0), (159, 0, 0, 52), (72, 6, 14, 0), (999, 0, 0, 0), (999, 0, 0, 0), (20, 0, 2, 4), (0, 1, 0, 0), (130, 0, 0, 0), (0, 0, 0, 0), (130, 0, 0, 0)]
def zu_Lw_usedShare : List (Nat × List Bool) := []
set_option maxRecDepth 100000 in
theorem qg_Lw_usedShare {ρ : Type} (kr : Int → zH → Option ρ) (F_X_usedShare : Int → zH → (Nat → zH → Option ρ) → (Int → zH → Option ρ) → Option ρ) (a0 a1 : Int) (h : zH) : (zob h 0 a0 fun _ =>
F_X_usedShare a0 h (fun n h7 => if n = 6 then kr 1 h7 else none) fun v1 h2 =>
zn64 (FP.f2d (zf32 v1)) fun x3 =>
zob h2 52 a1 fun p4 =>
zix (zhL h2 52 p4) 0 fun j5 =>
zlet (zset h2 52 p4 j5 x3) fun h6 =>
kr 0 h6) = zseg zPP true (zcal [(44, [none], fun xs h kr kt => match xs with
  | [x0] => F_X_usedShare x0 h kt kr
  | _ => none)]) (zget (999, 0, 0, 0) zc_Lw_usedShare) (zcut zu_Lw_usedShare) (zorc []) kr (fun _ _ => none) 400 0 [some (100, a0), some (152, a1), none] [] h := by rfl
set_option maxRecDepth 100000 in
theorem qe_Lw_usedShare {ρ : Type} (kr : Int → zH → Option ρ) (a0 a1 : Int) (h : zH) : Lw_usedShare a0 a1 h kr = zseg zPP true (zcal [(44, [none], fun xs h kr kt => match xs with
  | [x0] => X_usedShare x0 h kt kr
  | _ => none)]) (zget (999, 0, 0, 0) zc_Lw_usedShare) (zcut zu_Lw_usedShare) (zorc []) kr (fun _ _ => none) 400 0 [some (100, a0), some (152, a1), none] [] h := qg_Lw_usedShare kr X_usedShare a0 a1 h
def zc_Lw_meanDelay : List zI := [(14, 0, 1, 152), (0, 0, 0, 0), (14, 0, 0, 100), (118, 28, 117, 45), (999, 0, 0, 0), (999, 0, 0, 0), (159, 0, 0, 52), (72, 6, 13, 0), (999, 0, 0, 0), (999, 0, 0, 0), (20, 0, 2, 4), (0, 1, 0, 0), (130, 0, 0, 0), (0, 0, 0, 0), (130, 0, 0, 0)]
def zu_Lw_meanDelay : List (Nat × List Bool) := []
set_option maxRecDepth 100000 in
theorem qg_Lw_meanDelay {ρ : Type} (kr : Int → zH → Option ρ) (F_X_meanDelay : Int → zH → (Nat → zH → Option ρ) → (Int → zH → Option ρ) → Option ρ) (a0 a1 : Int) (h : zH) : (zob h 0 a0 fun _ =>
F_X_meanDelay a0 h (fun n h6 => if n = 6 then kr 1 h6 else none) fun v1 h2 =>
zob h2 52 a1 fun p3 =>
zix (zhL h2 52 p3) 0 fun j4 =>
zlet (zset h2 52 p3 j4 v1) fun h5 =>
kr 0 h5) = zseg zPP true (zcal [(45, [none], fun xs h kr kt => match xs with
  | [x0] => F_X_meanDelay x0 h kt kr
  | _ => none)]) (zget (999, 0, 0, 0) zc_Lw_meanDelay) (zcut zu_Lw_meanDelay) (zorc []) kr (fun _ _ => none) 400 0 [some (100, a0), some (152, a1), none] [] h := by rfl
set_option maxRecDepth 100000 in
theorem qe_Lw_meanDelay {ρ : Type} (kr : Int → zH → Option ρ) (a0 a1 : Int) (h : zH) : Lw_meanDelay a0 a1 h kr = zseg zPP true (zcal [(45, [none], fun xs h kr kt => match xs with
  | [x0] => X_meanDelay x0 h kt kr
  | _ => none)]) (zget (999, 0, 0, 0) zc_Lw_meanDelay) (zcut zu_Lw_meanDelay) (zorc []) kr (fun _ _ => none) 400 0 [some (100, a0), some (152, a1), none] [] h := qg_Lw_meanDelay kr X_meanDelay a0 a1 h
def zc_Lw_law : List zI := [(103, 0, 8, 0), (999, 0, 0, 0), (999, 0, 0, 0), (50, 0, 0, 0), (115, 0, 121, 9), (999, 0, 0, 0), (999, 0, 0, 0), (20, 0, 1, 100), (103, 0, 122, 12), (999, 0, 0, 0), (999, 0, 0, 0), (50, 0, 0, 0), (115, 0, 124, 62), (999, 0, 0, 0), (999, 0, 0, 0), (20, 0, 2, 112), (0, 1, 0, 0), (101, 0, 0, 51), (999, 0, 0, 0), (20, 0, 3, 151), (0, 1, 0, 0), (101, 0, 0, 52), (999, 0, 0, 0), (21, 0, 4, 152), (999, 0, 0, 0), (0, 0, 0, 0), (17, 0, 5, 0), (999, 0, 0, 0), (11, 0, 5, 0), (999, 0, 0, 0), (14, 0, 0, 150), (106, 0, 0, 50), (1, 6, 0, 0), (999, 0, 0, 0), (31, 0, 0, 0), (70, 2326, 2361, 0), (999, 0, 0, 0), (999, 0, 0, 0), (14, 0, 0, 150), (11, 0, 5, 0), (999, 0, 0, 0), (105, 0, 0, 50), (1, 63, 0, 0), (999, 0, 0, 0), (36, 0, 0, 0), (78, 0, 2, 0), (999, 0, 0, 0), (999, 0, 0, 0), (999, 0, 0, 0), (999, 0, 0, 0), (999, 0, 0, 0), (999, 0, 0, 0), (999, 0, 0, 0), (999, 0, 0, 0), (999, 0, 0, 0), (999, 0, 0, 0), (999, 0, 0, 0), (999, 0, 0, 0), (999, 0, 0, 0), (999, 0, 0, 0), (999, 0, 0, 0), (999, 0, 0, 0), (999, 0, 0, 0), (999, 0, 0, 0), (999, 0, 0, 0), (999, 0, 0, 0), (999, 0, 0, 0), (999, 0, 0, 0), (999, 0, 0, 0), (999, 0, 0, 0), (999, 0, 0, 0), (999, 0, 0, 0), (999, 0, 0, 0), (999, 0, 0, 0), (999, 0, 0, 0), (999, 0, 0, 0), (999, 0, 0, 0), (999, 0, 0, 0), (999, 0, 0, 0), (999, 0, 0, 0), (999, 0, 0, 0), (999, 0, 0, 0), (999, 0, 0, 0), (999, 0, 0, 0), (999, 0, 0, 0), (999, 0, 0, 0), (999, 0, 0, 0), (999, 0, 0, 0), (999, 0, 0, 0), (999, 0, 0, 0), (999, 0, 0, 0), (999, 0, 0, 0), (999, 0, 0, 0), (999, 0, 0, 0), (999, 0, 0, 0), (999, 0, 0, 0), (999, 0, 0, 0), (999, 0, 0, 0), (999, 0, 0, 0), (999, 0, 0, 0), (999, 0, 0, 0), (999, 0, 0, 0), (999, 0, 0, 0), (999, 0, 0, 0), (999, 0, 0, 0), (999, 0, 0, 0), (999, 0, 0, 0), (999, 0, 0, 0), (999, 0, 0, 0), (999, 0, 0, 0), (999, 0, 0, 0), (999, 0, 0, 0), (999, 0, 0, 0), (999, 0, 0, 0), (999, 0, 0, 0), (999, 0, 0, 0), (999, 0, 0, 0), (999, 0, 0, 0), (999, 0, 0, 0), (999, 0, 0, 0), (999, 0, 0, 0), (999, 0, 0, 0), (999, 0, 0, 0), (999, 0, 0, 0), (999, 0, 0, 0), (999, 0, 0, 0), (999, 0, 0, 0), (999, 0, 0, 0), (999, 0, 0, 0), (999, 0, 0, 0), (999, 0, 0, 0), (999, 0, 0, 0), (999, 0, 0, 0), (999, 0, 0, 0), (999, 0, 0, 0), (999, 0, 0, 0), (999, 0, 0, 0), (999, 0, 0, 0), (999, 0, 0, 0), (999, 0, 0, 0), (999, 0, 0, 0), (999, 0, 0, 0), (999, 0, 0, 0), (999, 0, 0, 0), (999, 0, 0, 0), (999, 0, 0, 0), (999, 0, 0, 0), (999, 0, 0, 0), (999, 0, 0, 0), (999, 0, 0, 0), (999, 0, 0, 0), (999, 0, 0, 0), (999, 0, 0, 0), (999, 0, 0, 0), (999, 0, 0, 0), (999, 0, 0, 0), (999, 0, 0, 0), (999, 0, 0, 0), (999, 0, 0, 0), (999, 0, 0, 0), (999, 0, 0, 0), (999, 0, 0, 0), (999, 0, 0, 0), (999, 0, 0, 0), (999, 0, 0, 0), (999, 0, 0, 0), (999, 0, 0, 0), (999, 0, 0, 0), (999, 0, 0, 0), (999, 0, 0, 0), (999, 0, 0, 0), (999, 0, 0, 0), (999, 0, 0, 0), (999, 0, 0, 0), (999, 0, 0, 0), (999, 0, 0, 0), (999, 0, 0, 0), (999, 0, 0, 0), (999, 0, 0, 0), (999, 0, 0, 0), (999, 0, 0, 0), (999, 0, 0, 0), (999, 0, 0, 0), (999, 0, 0, 0), (999, 0, 0, 0), (999, 0, 0, 0), (999, 0, 0, 0), (999, 0, 0, 0), (999, 0, 0, 0), (999, 0, 0, 0), (999, 0, 0, 0), (999, 0, 0, 0), (999, 0, 0, 0), (999, 0, 0, 0), (999, 0, 0, 0), (999, 0, 0, 0), (999, 0, 0, 0), (999, 0, 0, 0), (999, 0, 0, 0), (999, 0, 0, 0), (999, 0, 0, 0), (999, 0, 0, 0), (999, 0, 0, 0), (999, 0, 0, 0), (999, 0, 0, 0), (999, 0, 0, 0), (999, 0, 0, 0), (999, 0, 0, 0), (14, 0, 1, 100), (14, 0, 0, 150), (11, 0, 5, 0), (999, 0, 0, 0), (0, 1, 0, 0), (30, 0, 0, 0), (105, 0, 0, 50), (14, 0, 0, 150), (11, 0, 5, 0), (999, 0, 0, 0), (0, 2, 0, 0), (30, 0, 0, 0), (105, 0, 0, 50), (14, 0, 3, 151), (113, 0, 125, 289), (999, 0, 0, 0), (999, 0, 0, 0), (17, 0, 6, 0), (999, 0, 0, 0), (14, 0, 2, 112), (14, 0, 0, 150), (11, 0, 5, 0), (999, 0, 0, 0), (0, 1, 0, 0), (30, 0, 0, 0), (105, 0, 0, 50), (14, 0, 0, 150), (11, 0, 5, 0), (999, 0, 0, 0), (0, 2, 0, 0), (30, 0, 0, 0), (105, 0, 0, 50), (110, 0, 130, 69), (999, 0, 0, 0), (999, 0, 0, 0), (17, 0, 7, 0), (999, 0, 0, 0), (14, 0, 2, 112), (110, 0, 131, 63), (999, 0, 0, 0), (999, 0, 0, 0), (11, 0, 6, 0), (999, 0, 0, 0), (66, 5, 256, 0), (999, 0, 0, 0), (999, 0, 0, 0), (0, 0, 0, 0), (130, 0, 1, 0), (11, 0, 6, 0), (999, 0, 0, 0), (61, 15, 273, 0), (999, 0, 0, 0), (999, 0, 0, 0), (14, 0, 3, 151), (0, 0, 0, 0), (93, 0, 0, 51), (11, 0, 7, 0), (999, 0, 0, 0), (42, 0, 0, 0), (48, 0, 0, 0), (60, 5, 273, 0), (999, 0, 0, 0), (999, 0, 0, 0), (0, 0, 0, 0), (130, 0, 1, 0), (72, 2082, 2355, 0), (999, 0, 0, 0), (999, 0, 0, 0), (14, 0, 1, 100), (14, 0, 0, 150), (11, 0, 5, 0), (999, 0, 0, 0), (0, 1, 0, 0), (30, 0, 0, 0), (105, 0, 0, 50), (14, 0, 0, 150), (11, 0, 5, 0), (999, 0, 0, 0), (0, 2, 0, 0), (30, 0, 0, 0), (105, 0, 0, 50), (44, 0, 0, 0), (14, 0, 0, 150), (11, 0, 5, 0), (999, 0, 0, 0), (0, 3, 0, 0), (30, 0, 0, 0), (105, 0, 0, 50), (14, 0, 0, 150), (11, 0, 5, 0), (999, 0, 0, 0), (0, 4, 0, 0), (30, 0, 0, 0), (105, 0, 0, 50), (14, 0, 0, 150), (11, 0, 5, 0), (999, 0, 0, 0), (0, 5, 0, 0), (30, 0, 0, 0), (105, 0, 0, 50), (14, 0, 3, 151), (113, 0, 135, 290), (999, 0, 0, 0), (999, 0, 0, 0), (17, 0, 6, 0), (999, 0, 0, 0), (14, 0, 2, 112), (14, 0, 0, 150), (11, 0, 5, 0), (999, 0, 0, 0), (0, 1, 0, 0), (30, 0, 0, 0), (105, 0, 0, 50), (14, 0, 0, 150), (11, 0, 5, 0), (999, 0, 0, 0), (0, 2, 0, 0), (30, 0, 0, 0), (105, 0, 0, 50), (44, 0, 0, 0), (14, 0, 0, 150), (11, 0, 5, 0), (999, 0, 0, 0), (0, 3, 0, 0), (30, 0, 0, 0), (105, 0, 0, 50), (14, 0, 0, 150), (11, 0, 5, 0), (999, 0, 0, 0), (0, 4, 0, 0), (30, 0, 0, 0), (105, 0, 0, 50), (14, 0, 0, 150), (11, 0, 5, 0), (999, 0, 0, 0), (0, 5, 0, 0), (30, 0, 0, 0), (105, 0, 0, 50), (110, 0, 138, 71), (999, 0, 0, 0), (999, 0, 0, 0), (17, 0, 7, 0), (999, 0, 0, 0), (14, 0, 2, 112), (110, 0, 131, 63), (999, 0, 0, 0), (999, 0, 0, 0), (11, 0, 6, 0), (999, 0, 0, 0), (66, 5, 362, 0), (999, 0, 0, 0), (999, 0, 0, 0), (0, 0, 0, 0), (130, 0, 1, 0), (11, 0, 6, 0), (999, 0, 0, 0), (61, 15, 379, 0), (999, 0, 0, 0), (999, 0, 0, 0), (14, 0, 3, 151), (0, 0, 0, 0), (93, 0, 0, 51), (11, 0, 7, 0), (999, 0, 0, 0), (42, 0, 0, 0), (48, 0, 0, 0), (60, 5, 379, 0), (999, 0, 0, 0), (999, 0, 0, 0), (0, 0, 0, 0), (130, 0, 1, 0), (72, 1976, 2355, 0), (999, 0, 0, 0), (999, 0, 0, 0), (14, 0, 1, 100), (14, 0, 0, 150), (11, 0, 5, 0), (999, 0, 0, 0), (0, 1, 0, 0), (30, 0, 0, 0), (105, 0, 0, 50), (14, 0, 0, 150), (11, 0, 5, 0), (999, 0, 0, 0), (0, 2, 0, 0), (30, 0, 0, 0), (105, 0, 0, 50), (14, 0, 3, 151), (113, 0, 139, 291), (999, 0, 0, 0), (999, 0, 0, 0), (17, 0, 6, 0), (999, 0, 0, 0), (14, 0, 2, 112), (14, 0, 0, 150), (11, 0, 5, 0), (999, 0, 0, 0), (0, 1, 0, 0), (30, 0, 0, 0), (105, 0, 0, 50), (14, 0, 0, 150), (11, 0, 5, 0), (999, 0, 0, 0), (0, 2, 0, 0), (30, 0, 0, 0), (105, 0, 0, 50), (110, 0, 141, 75), (999, 0, 0, 0), (999, 0, 0, 0), (17, 0, 7, 0), (999, 0, 0, 0), (14, 0, 2, 112), (110, 0, 131, 63), (999, 0, 0, 0), (999, 0, 0, 0), (11, 0, 6, 0), (999, 0, 0, 0), (66, 5, 430, 0), (999, 0, 0, 0), (999, 0, 0, 0), (0, 0, 0, 0), (130, 0, 1, 0), (11, 0, 6, 0), (999, 0, 0, 0), (61, 15, 447, 0), (999, 0, 0, 0), (999, 0, 0, 0), (14, 0, 3, 151), (0, 0, 0, 0), (93, 0, 0, 51), (11, 0, 7, 0), (999, 0, 0, 0), (42, 0, 0, 0), (48, 0, 0, 0), (60, 5, 447, 0), (999, 0, 0, 0), (999, 0, 0, 0), (0, 0, 0, 0), (130, 0, 1, 0), (72, 1908, 2355, 0), (999, 0, 0, 0), (999, 0, 0, 0), (14, 0, 1, 100), (14, 0, 0, 150), (11, 0, 5, 0), (999, 0, 0, 0), (0, 1, 0, 0), (30, 0, 0, 0), (105, 0, 0, 50), (14, 0, 0, 150), (11, 0, 5, 0), (999, 0, 0, 0), (0, 2, 0, 0), (30, 0, 0, 0), (105, 0, 0, 50), (14, 0, 3, 151), (113, 0, 142, 292), (999, 0, 0, 0), (999, 0, 0, 0), (17, 0, 6, 0), (999, 0, 0, 0), (14, 0, 2, 112), (14, 0, 0, 150), (11, 0, 5, 0), (999, 0, 0, 0), (0, 1, 0, 0), (30, 0, 0, 0), (105, 0, 0, 50), (14, 0, 0, 150), (11, 0, 5, 0), (999, 0, 0, 0), (0, 2, 0, 0), (30, 0, 0, 0), (105, 0, 0, 50), (110, 0, 144, 76), (999, 0, 0, 0), (999, 0, 0, 0), (17, 0, 7, 0), (999, 0, 0, 0), (14, 0, 2, 112), (110, 0, 131, 63), (999, 0, 0, 0), (999, 0, 0, 0), (11, 0, 6, 0), (999, 0, 0, 0), (66, 5, 498, 0), (999, 0, 0, 0), (999, 0, 0, 0), (0, 0, 0, 0), (130, 0, 1, 0), (11, 0, 6, 0), (999, 0, 0, 0), (61, 15, 515, 0), (999, 0, 0, 0), (999, 0, 0, 0), (14, 0, 3, 151), (0, 0, 0, 0), (93, 0, 0, 51), (11, 0, 7, 0), (999, 0, 0, 0), (42, 0, 0, 0), (48, 0, 0, 0), (60, 5, 515, 0), (999, 0, 0, 0), (999, 0, 0, 0), (0, 0, 0, 0), (130, 0, 1, 0), (72, 1840, 2355, 0), (999, 0, 0, 0), (999, 0, 0, 0), (14, 0, 1, 100), (14, 0, 0, 150), (11, 0, 5, 0), (999, 0, 0, 0), (0, 1, 0, 0), (30, 0, 0, 0), (105, 0, 0, 50), (14, 0, 3, 151), (113, 0, 145, 293), (999, 0, 0, 0), (999, 0, 0, 0), (17, 0, 6, 0), (999, 0, 0, 0), (14, 0, 2, 112), (14, 0, 0, 150), (11, 0, 5, 0), (999, 0, 0, 0), (0, 1, 0, 0), (30, 0, 0, 0), (105, 0, 0, 50), (110, 0, 148, 77), (999, 0, 0, 0), (999, 0, 0, 0), (17, 0, 7, 0), (999, 0, 0, 0), (14, 0, 2, 112), (110, 0, 131, 63), (999, 0, 0, 0), (999, 0, 0, 0), (11, 0, 6, 0), (999, 0, 0, 0), (66, 5, 554, 0), (999, 0, 0, 0), (999, 0, 0, 0), (0, 0, 0, 0), (130, 0, 1, 0), (11, 0, 6, 0), (999, 0, 0, 0), (61, 15, 571, 0), (999, 0, 0, 0), (999, 0, 0, 0), (14, 0, 3, 151), (0, 0, 0, 0), (93, 0, 0, 51), (11, 0, 7, 0), (999, 0, 0, 0), (42, 0, 0, 0), (48, 0, 0, 0), (60, 5, 571, 0), (999, 0, 0, 0), (999, 0, 0, 0), (0, 0, 0, 0), (130, 0, 1, 0), (72, 1784, 2355, 0), (999, 0, 0, 0), (999, 0, 0, 0), (14, 0, 1, 100), (14, 0, 0, 150), (11, 0, 5, 0), (999, 0, 0, 0), (0, 1, 0, 0), (30, 0, 0, 0), (105, 0, 0, 50), (14, 0, 0, 150), (11, 0, 5, 0), (999, 0, 0, 0), (0, 2, 0, 0), (30, 0, 0, 0), (105, 0, 0, 50), (14, 0, 0, 150), (11, 0, 5, 0), (999, 0, 0, 0), (0, 3, 0, 0), (30, 0, 0, 0), (105, 0, 0, 50), (14, 0, 0, 150), (11, 0, 5, 0), (999, 0, 0, 0), (0, 4, 0, 0), (30, 0, 0, 0), (105, 0, 0, 50), (14, 0, 0, 150), (11, 0, 5, 0), (999, 0, 0, 0), (0, 5, 0, 0), (30, 0, 0, 0), (105, 0, 0, 50), (14, 0, 3, 151), (113, 0, 149, 294), (999, 0, 0, 0), (999, 0, 0, 0), (17, 0, 6, 0), (999, 0, 0, 0), (14, 0, 2, 112), (14, 0, 0, 150), (11, 0, 5, 0), (999, 0, 0, 0), (0, 1, 0, 0), (30, 0, 0, 0), (105, 0, 0, 50), (14, 0, 0, 150), (11, 0, 5, 0), (999, 0, 0, 0), (0, 2, 0, 0), (30, 0, 0, 0), (105, 0, 0, 50), (14, 0, 0, 150), (11, 0, 5, 0), (999, 0, 0, 0), (0, 3, 0, 0), (30, 0, 0, 0), (105, 0, 0, 50), (14, 0, 0, 150), (11, 0, 5, 0), (999, 0, 0, 0), (0, 4, 0, 0), (30, 0, 0, 0), (105, 0, 0, 50), (14, 0, 0, 150), (11, 0, 5, 0), (999, 0, 0, 0), (0, 5, 0, 0), (30, 0, 0, 0), (105, 0, 0, 50), (110, 0, 152, 80), (999, 0, 0, 0), (999, 0, 0, 0), (17, 0, 7, 0), (999, 0, 0, 0), (14, 0, 2, 112), (110, 0, 131, 63), (999, 0, 0, 0), (999, 0, 0, 0), (11, 0, 6, 0), (999, 0, 0, 0), (66, 5, 658, 0), (999, 0, 0, 0), (999, 0, 0, 0), (0, 0, 0, 0), (130, 0, 1, 0), (11, 0, 6, 0), (999, 0, 0, 0), (61, 15, 675, 0), (999, 0, 0, 0), (999, 0, 0, 0), (14, 0, 3, 151), (0, 0, 0, 0), (93, 0, 0, 51), (11, 0, 7, 0), (999, 0, 0, 0), (42, 0, 0, 0), (48, 0, 0, 0), (60, 5, 675, 0), (999, 0, 0, 0), (999, 0, 0, 0), (0, 0, 0, 0), (130, 0, 1, 0), (72, 1680, 2355, 0), (999, 0, 0, 0), (999, 0, 0, 0), (14, 0, 1, 100), (14, 0, 0, 150), (11, 0, 5, 0), (999, 0, 0, 0), (0, 1, 0, 0), (30, 0, 0, 0), (105, 0, 0, 50), (14, 0, 0, 150), (11, 0, 5, 0), (999, 0, 0, 0), (0, 2, 0, 0), (30, 0, 0, 0), (105, 0, 0, 50), (14, 0, 0, 150), (11, 0, 5, 0), (999, 0, 0, 0), (0, 3, 0, 0), (30, 0, 0, 0), (105, 0, 0, 50), (14, 0, 0, 150), (11, 0, 5, 0), (999, 0, 0, 0), (0, 4, 0, 0), (30, 0, 0, 0), (105, 0, 0, 50), (14, 0, 0, 150), (11, 0, 5, 0), (999, 0, 0, 0), (0, 5, 0, 0), (30, 0, 0, 0), (105, 0, 0, 50), (14, 0, 3, 151), (113, 0, 153, 295), (999, 0, 0, 0), (999, 0, 0, 0), (17, 0, 6, 0), (999, 0, 0, 0), (14, 0, 2, 112), (14, 0, 0, 150), (11, 0, 5, 0), (999, 0, 0, 0), (0, 1, 0, 0), (30, 0, 0, 0), (105, 0, 0, 50), (14, 0, 0, 150), (11, 0, 5, 0), (999, 0, 0, 0), (0, 2, 0, 0), (30, 0, 0, 0), (105, 0, 0, 50), (14, 0, 0, 150), (11, 0, 5, 0), (999, 0, 0, 0), (0, 3, 0, 0), (30, 0, 0, 0), (105, 0, 0, 50), (14, 0, 0, 150), (11, 0, 5, 0), (999, 0, 0, 0), (0, 4, 0, 0), (30, 0, 0, 0), (105, 0, 0, 50), (14, 0, 0, 150), (11, 0, 5, 0), (999, 0, 0, 0), (0, 5, 0, 0), (30, 0, 0, 0), (105, 0, 0, 50), (110, 0, 155, 81), (999, 0, 0, 0), (999, 0, 0, 0), (17, 0, 7, 0), (999, 0, 0, 0), (14, 0, 2, 112), (110, 0, 131, 63), (999, 0, 0, 0), (999, 0, 0, 0), (11, 0, 6, 0), (999, 0, 0, 0), (66, 5, 762, 0), (999, 0, 0, 0), (999, 0, 0, 0), (0, 0, 0, 0), (130, 0, 1, 0), (11, 0, 6, 0), (999, 0, 0, 0), (61, 15, 779, 0), (999, 0, 0, 0), (999, 0, 0, 0), (14, 0, 3, 151), (0, 0, 0, 0), (93, 0, 0, 51), (11, 0, 7, 0), (999, 0, 0, 0), (42, 0, 0, 0), (48, 0, 0, 0), (60, 5, 779, 0), (999, 0, 0, 0), (999, 0, 0, 0), (0, 0, 0, 0), (130, 0, 1, 0), (72, 1576, 2355, 0), (999, 0, 0, 0), (999, 0, 0, 0), (14, 0, 1, 100), (110, 0, 156, 17), (999, 0, 0, 0), (999, 0, 0, 0), (14, 0, 2, 112), (110, 0, 159, 83), (999, 0, 0, 0), (999, 0, 0, 0), (66, 1565, 2355, 0), (999, 0, 0, 0), (999, 0, 0, 0), (0, 0, 0, 0), (130, 0, 1, 0), (14, 0, 1, 100), (14, 0, 0, 150), (11, 0, 5, 0), (999, 0, 0, 0), (0, 1, 0, 0), (30, 0, 0, 0), (105, 0, 0, 50), (14, 0, 3, 151), (113, 0, 160, 296), (999, 0, 0, 0), (999, 0, 0, 0), (17, 0, 6, 0), (999, 0, 0, 0), (14, 0, 2, 112), (14, 0, 0, 150), (11, 0, 5, 0), (999, 0, 0, 0), (0, 1, 0, 0), (30, 0, 0, 0), (105, 0, 0, 50), (110, 0, 162, 84), (999, 0, 0, 0), (999, 0, 0, 0), (17, 0, 7, 0), (999, 0, 0, 0), (14, 0, 2, 112), (110, 0, 131, 63), (999, 0, 0, 0), (999, 0, 0, 0), (11, 0, 6, 0), (999, 0, 0, 0), (66, 5, 831, 0), (999, 0, 0, 0), (999, 0, 0, 0), (0, 0, 0, 0), (130, 0, 1, 0), (11, 0, 6, 0), (999, 0, 0, 0), (61, 15, 848, 0), (999, 0, 0, 0), (999, 0, 0, 0), (14, 0, 3, 151), (0, 0, 0, 0), (93, 0, 0, 51), (11, 0, 7, 0), (999, 0, 0, 0), (42, 0, 0, 0), (48, 0, 0, 0), (60, 5, 848, 0), (999, 0, 0, 0), (999, 0, 0, 0), (0, 0, 0, 0), (130, 0, 1, 0), (72, 1507, 2355, 0), (999, 0, 0, 0), (999, 0, 0, 0), (14, 0, 1, 100), (14, 0, 0, 150), (11, 0, 5, 0), (999, 0, 0, 0), (0, 1, 0, 0), (30, 0, 0, 0), (105, 0, 0, 50), (14, 0, 3, 151), (113, 0, 163, 297), (999, 0, 0, 0), (999, 0, 0, 0), (17, 0, 6, 0), (999, 0, 0, 0), (14, 0, 2, 112), (14, 0, 0, 150), (11, 0, 5, 0), (999, 0, 0, 0), (0, 1, 0, 0), (30, 0, 0, 0), (105, 0, 0, 50), (110, 0, 165, 85), (999, 0, 0, 0), (999, 0, 0, 0), (17, 0, 7, 0), (999, 0, 0, 0), (14, 0, 2, 112), (110, 0, 131, 63), (999, 0, 0, 0), (999, 0, 0, 0), (11, 0, 6, 0), (999, 0, 0, 0), (66, 5, 887, 0), (999, 0, 0, 0), (999, 0, 0, 0), (0, 0, 0, 0), (130, 0, 1, 0), (11, 0, 6, 0), (999, 0, 0, 0), (61, 15, 904, 0), (999, 0, 0, 0), (999, 0, 0, 0), (14, 0, 3, 151), (0, 0, 0, 0), (93, 0, 0, 51), (11, 0, 7, 0), (999, 0, 0, 0), (42, 0, 0, 0), (48, 0, 0, 0), (60, 5, 904, 0), (999, 0, 0, 0), (999, 0, 0, 0), (0, 0, 0, 0), (130, 0, 1, 0), (72, 1451, 2355, 0), (999, 0, 0, 0), (999, 0, 0, 0), (14, 0, 1, 100), (14, 0, 0, 150), (11, 0, 5, 0), (999, 0, 0, 0), (0, 1, 0, 0), (30, 0, 0, 0), (105, 0, 0, 50), (14, 0, 3, 151), (113, 0, 166, 298), (999, 0, 0, 0), (999, 0, 0, 0), (17, 0, 6, 0), (999, 0, 0, 0), (14, 0, 2, 112), (14, 0, 0, 150), (11, 0, 5, 0), (999, 0, 0, 0), (0, 1, 0, 0), (30, 0, 0, 0), (105, 0, 0, 50), (110, 0, 168, 86), (999, 0, 0, 0), (999, 0, 0, 0), (17, 0, 7, 0), (999, 0, 0, 0), (14, 0, 2, 112), (110, 0, 131, 63), (999, 0, 0, 0), (999, 0, 0, 0), (11, 0, 6, 0), (999, 0, 0, 0), (66, 5, 943, 0), (999, 0, 0, 0), (999, 0, 0, 0), (0, 0, 0, 0), (130, 0, 1, 0), (11, 0, 6, 0), (999, 0, 0, 0), (61, 15, 960, 0), (999, 0, 0, 0), (999, 0, 0, 0), (14, 0, 3, 151), (0, 0, 0, 0), (93, 0, 0, 51), (11, 0, 7, 0), (999, 0, 0, 0), (42, 0, 0, 0), (48, 0, 0, 0), (60, 5, 960, 0), (999, 0, 0, 0), (999, 0, 0, 0), (0, 0, 0, 0), (130, 0, 1, 0), (72, 1395, 2355, 0), (999, 0, 0, 0), (999, 0, 0, 0), (14, 0, 1, 100), (14, 0, 0, 150), (11, 0, 5, 0), (999, 0, 0, 0), (0, 1, 0, 0), (30, 0, 0, 0), (105, 0, 0, 50), (14, 0, 3, 151), (113, 0, 169, 299), (999, 0, 0, 0), (999, 0, 0, 0), (17, 0, 6, 0), (999, 0, 0, 0), (14, 0, 2, 112), (14, 0, 0, 150), (11, 0, 5, 0), (999, 0, 0, 0), (0, 1, 0, 0), (30, 0, 0, 0), (105, 0, 0, 50), (110, 0, 171, 137), (999, 0, 0, 0), (999, 0, 0, 0), (17, 0, 7, 0), (999, 0, 0, 0), (14, 0, 2, 112), (110, 0, 131, 63), (999, 0, 0, 0), (999, 0, 0, 0), (11, 0, 6, 0), (999, 0, 0, 0), (66, 5, 999, 0), (999, 0, 0, 0), (999, 0, 0, 0), (0, 0, 0, 0), (130, 0, 1, 0), (11, 0, 6, 0), (999, 0, 0, 0), (61, 15, 1016, 0), (999, 0, 0, 0), (999, 0, 0, 0), (14, 0, 3, 151), (0, 0, 0, 0), (93, 0, 0, 51), (11, 0, 7, 0), (999, 0, 0, 0), (42, 0, 0, 0), (48, 0, 0, 0), (60, 5, 1016, 0), (999, 0, 0, 0), (999, 0, 0, 0), (0, 0, 0, 0), (130, 0, 1, 0), (72, 1339, 2355, 0), (999, 0, 0, 0), (999, 0, 0, 0), (14, 0, 1, 100), (14, 0, 0, 150), (11, 0, 5, 0), (999, 0, 0, 0), (0, 1, 0, 0), (30, 0, 0, 0), (105, 0, 0, 50), (14, 0, 3, 151), (113, 0, 172, 300), (999, 0, 0, 0), (999, 0, 0, 0), (17, 0, 6, 0), (999, 0, 0, 0), (14, 0, 2, 112), (14, 0, 0, 150), (11, 0, 5, 0), (999, 0, 0, 0), (0, 1, 0, 0), (30, 0, 0, 0), (105, 0, 0, 50), (110, 0, 174, 139), (999, 0, 0, 0), (999, 0, 0, 0), (17, 0, 7, 0), (999, 0, 0, 0), (14, 0, 2, 112), (110, 0, 131, 63), (999, 0, 0, 0), (999, 0, 0, 0), (11, 0, 6, 0), (999, 0, 0, 0), (66, 5, 1055, 0), (999, 0, 0, 0), (999, 0, 0, 0), (0, 0, 0, 0), (130, 0, 1, 0), (11, 0, 6, 0), (999, 0, 0, 0), (61, 15, 1072, 0), (999, 0, 0, 0), (999, 0, 0, 0), (14, 0, 3, 151), (0, 0, 0, 0), (93, 0, 0, 51), (11, 0, 7, 0), (999, 0, 0, 0), (42, 0, 0, 0), (48, 0, 0, 0), (60, 5, 1072, 0), (999, 0, 0, 0), (999, 0, 0, 0), (0, 0, 0, 0), (130, 0, 1, 0), (72, 1283, 2355, 0), (999, 0, 0, 0), (999, 0, 0, 0), (14, 0, 1, 100), (14, 0, 0, 150), (11, 0, 5, 0), (999, 0, 0, 0), (0, 1, 0, 0), (30, 0, 0, 0), (105, 0, 0, 50), (44, 0, 0, 0), (14, 0, 3, 151), (113, 0, 175, 301), (999, 0, 0, 0), (999, 0, 0, 0), (17, 0, 6, 0), (999, 0, 0, 0), (14, 0, 2, 112), (14, 0, 0, 150), (11, 0, 5, 0), (999, 0, 0, 0), (0, 1, 0, 0), (30, 0, 0, 0), (105, 0, 0, 50), (44, 0, 0, 0), (110, 0, 178, 140), (999, 0, 0, 0), (999, 0, 0, 0), (17, 0, 7, 0), (999, 0, 0, 0), (14, 0, 2, 112), (110, 0, 131, 63), (999, 0, 0, 0), (999, 0, 0, 0), (11, 0, 6, 0), (999, 0, 0, 0), (66, 5, 1113, 0), (999, 0, 0, 0), (999, 0, 0, 0), (0, 0, 0, 0), (130, 0, 1, 0), (11, 0, 6, 0), (999, 0, 0, 0), (61, 15, 1130, 0), (999, 0, 0, 0), (999, 0, 0, 0), (14, 0, 3, 151), (0, 0, 0, 0), (93, 0, 0, 51), (11, 0, 7, 0), (999, 0, 0, 0), (42, 0, 0, 0), (48, 0, 0, 0), (60, 5, 1130, 0), (999, 0, 0, 0), (999, 0, 0, 0), (0, 0, 0, 0), (130, 0, 1, 0), (72, 1225, 2355, 0), (999, 0, 0, 0), (999, 0, 0, 0), (14, 0, 1, 100), (110, 0, 179, 24), (999, 0, 0, 0), (999, 0, 0, 0), (14, 0, 2, 112), (110, 0, 182, 141), (999, 0, 0, 0), (999, 0, 0, 0), (66, 1214, 2355, 0), (999, 0, 0, 0), (999, 0, 0, 0), (0, 0, 0, 0), (130, 0, 1, 0), (14, 0, 1, 100), (14, 0, 0, 150), (11, 0, 5, 0), (999, 0, 0, 0), (0, 1, 0, 0), (30, 0, 0, 0), (105, 0, 0, 50), (14, 0, 3, 151), (113, 0, 183, 302), (999, 0, 0, 0), (999, 0, 0, 0), (17, 0, 6, 0), (999, 0, 0, 0), (14, 0, 2, 112), (14, 0, 0, 150), (11, 0, 5, 0), (999, 0, 0, 0), (0, 1, 0, 0), (30, 0, 0, 0), (105, 0, 0, 50), (110, 0, 185, 144), (999, 0, 0, 0), (999, 0, 0, 0), (17, 0, 7, 0), (999, 0, 0, 0), (14, 0, 2, 112), (110, 0, 131, 63), (999, 0, 0, 0), (999, 0, 0, 0), (11, 0, 6, 0), (999, 0, 0, 0), (66, 5, 1182, 0), (999, 0, 0, 0), (999, 0, 0, 0), (0, 0, 0, 0), (130, 0, 1, 0), (11, 0, 6, 0), (999, 0, 0, 0), (61, 15, 1199, 0), (999, 0, 0, 0), (999, 0, 0, 0), (14, 0, 3, 151), (0, 0, 0, 0), (93, 0, 0, 51), (11, 0, 7, 0), (999, 0, 0, 0), (42, 0, 0, 0), (48, 0, 0, 0), (60, 5, 1199, 0), (999, 0, 0, 0), (999, 0, 0, 0), (0, 0, 0, 0), (130, 0, 1, 0), (72, 1156, 2355, 0), (999, 0, 0, 0), (999, 0, 0, 0), (14, 0, 1, 100), (14, 0, 0, 150), (11, 0, 5, 0), (999, 0, 0, 0), (0, 1, 0, 0), (30, 0, 0, 0), (105, 0, 0, 50), (14, 0, 0, 150), (11, 0, 5, 0), (999, 0, 0, 0), (0, 2, 0, 0), (30, 0, 0, 0), (105, 0, 0, 50), (14, 0, 3, 151), (113, 0, 186, 303), (999, 0, 0, 0), (999, 0, 0, 0), (17, 0, 6, 0), (999, 0, 0, 0), (14, 0, 2, 112), (14, 0, 0, 150), (11, 0, 5, 0), (999, 0, 0, 0), (0, 1, 0, 0), (30, 0, 0, 0), (105, 0, 0, 50), (14, 0, 0, 150), (11, 0, 5, 0), (999, 0, 0, 0), (0, 2, 0, 0), (30, 0, 0, 0), (105, 0, 0, 50), (110, 0, 188, 145), (999, 0, 0, 0), (999, 0, 0, 0), (17, 0, 7, 0), (999, 0, 0, 0), (14, 0, 2, 112), (110, 0, 131, 63), (999, 0, 0, 0), (999, 0, 0, 0), (11, 0, 6, 0), (999, 0, 0, 0), (66, 5, 1250, 0), (999, 0, 0, 0), (999, 0, 0, 0), (0, 0, 0, 0), (130, 0, 1, 0), (11, 0, 6, 0), (999, 0, 0, 0), (61, 15, 1267, 0), (999, 0, 0, 0), (999, 0, 0, 0), (14, 0, 3, 151), (0, 0, 0, 0), (93, 0, 0, 51), (11, 0, 7, 0), (999, 0, 0, 0), (42, 0, 0, 0), (48, 0, 0, 0), (60, 5, 1267, 0), (999, 0, 0, 0), (999, 0, 0, 0), (0, 0, 0, 0), (130, 0, 1, 0), (72, 1088, 2355, 0), (999, 0, 0, 0), (999, 0, 0, 0), (14, 0, 1, 100), (14, 0, 0, 150), (11, 0, 5, 0), (999, 0, 0, 0), (0, 1, 0, 0), (30, 0, 0, 0), (105, 0, 0, 50), (14, 0, 0, 150), (11, 0, 5, 0), (999, 0, 0, 0), (0, 2, 0, 0), (30, 0, 0, 0), (105, 0, 0, 50), (14, 0, 3, 151), (113, 0, 189, 304), (999, 0, 0, 0), (999, 0, 0, 0), (17, 0, 6, 0), (999, 0, 0, 0), (14, 0, 2, 112), (14, 0, 0, 150), (11, 0, 5, 0), (999, 0, 0, 0), (0, 1, 0, 0), (30, 0, 0, 0), (105, 0, 0, 50), (14, 0, 0, 150), (11, 0, 5, 0), (999, 0, 0, 0), (0, 2, 0, 0), (30, 0, 0, 0), (105, 0, 0, 50), (110, 0, 191, 146), (999, 0, 0, 0), (999, 0, 0, 0), (17, 0, 7, 0), (999, 0, 0, 0), (14, 0, 2, 112), (110, 0, 131, 63), (999, 0, 0, 0), (999, 0, 0, 0), (11, 0, 6, 0), (999, 0, 0, 0), (66, 5, 1318, 0), (999, 0, 0, 0), (999, 0, 0, 0), (0, 0, 0, 0), (130, 0, 1, 0), (11, 0, 6, 0), (999, 0, 0, 0), (61, 15, 1335, 0), (999, 0, 0, 0), (999, 0, 0, 0), (14, 0, 3, 151), (0, 0, 0, 0), (93, 0, 0, 51), (11, 0, 7, 0), (999, 0, 0, 0), (42, 0, 0, 0), (48, 0, 0, 0), (60, 5, 1335, 0), (999, 0, 0, 0), (999, 0, 0, 0), (0, 0, 0, 0), (130, 0, 1, 0), (72, 1020, 2355, 0), (999, 0, 0, 0), (999, 0, 0, 0), (14, 0, 1, 100), (14, 0, 0, 150), (11, 0, 5, 0), (999, 0, 0, 0), (0, 1, 0, 0), (30, 0, 0, 0), (105, 0, 0, 50), (14, 0, 0, 150), (11, 0, 5, 0), (999, 0, 0, 0), (0, 2, 0, 0), (30, 0, 0, 0), (105, 0, 0, 50), (14, 0, 3, 151), (113, 0, 192, 305), (999, 0, 0, 0), (999, 0, 0, 0), (17, 0, 6, 0), (999, 0, 0, 0), (14, 0, 2, 112), (14, 0, 0, 150), (11, 0, 5, 0), (999, 0, 0, 0), (0, 1, 0, 0), (30, 0, 0, 0), (105, 0, 0, 50), (14, 0, 0, 150), (11, 0, 5, 0), (999, 0, 0, 0), (0, 2, 0, 0), (30, 0, 0, 0), (105, 0, 0, 50), (110, 0, 194, 147), (999, 0, 0, 0), (999, 0, 0, 0), (17, 0, 7, 0), (999, 0, 0, 0), (14, 0, 2, 112), (110, 0, 131, 63), (999, 0, 0, 0), (999, 0, 0, 0), (11, 0, 6, 0), (999, 0, 0, 0), (66, 5, 1386, 0), (999, 0, 0, 0), (999, 0, 0, 0), (0, 0, 0, 0), (130, 0, 1, 0), (11, 0, 6, 0), (999, 0, 0, 0), (61, 15, 1403, 0), (999, 0, 0, 0), (999, 0, 0, 0), (14, 0, 3, 151), (0, 0, 0, 0), (93, 0, 0, 51), (11, 0, 7, 0), (999, 0, 0, 0), (42, 0, 0, 0), (48, 0, 0, 0), (60, 5, 1403, 0), (999, 0, 0, 0), (999, 0, 0, 0), (0, 0, 0, 0), (130, 0, 1, 0), (72, 952, 2355, 0), (999, 0, 0, 0), (999, 0, 0, 0), (14, 0, 1, 100), (14, 0, 0, 150), (11, 0, 5, 0), (999, 0, 0, 0), (0, 1, 0, 0), (30, 0, 0, 0), (105, 0, 0, 50), (14, 0, 0, 150), (11, 0, 5, 0), (999, 0, 0, 0), (0, 2, 0, 0), (30, 0, 0, 0), (105, 0, 0, 50), (14, 0, 3, 151), (113, 0, 195, 306), (999, 0, 0, 0), (999, 0, 0, 0), (17, 0, 6, 0), (999, 0, 0, 0), (14, 0, 2, 112), (14, 0, 0, 150), (11, 0, 5, 0), (999, 0, 0, 0), (0, 1, 0, 0), (30, 0, 0, 0), (105, 0, 0, 50), (14, 0, 0, 150), (11, 0, 5, 0), (999, 0, 0, 0), (0, 2, 0, 0), (30, 0, 0, 0), (105, 0, 0, 50), (110, 0, 197, 148), (999, 0, 0, 0), (999, 0, 0, 0), (17, 0, 7, 0), (999, 0, 0, 0), (14, 0, 2, 112), (110, 0, 131, 63), (999, 0, 0, 0), (999, 0, 0, 0), (11, 0, 6, 0), (999, 0, 0, 0), (66, 5, 1454, 0), (999, 0, 0, 0), (999, 0, 0, 0), (0, 0, 0, 0), (130, 0, 1, 0), (11, 0, 6, 0), (999, 0, 0, 0), (61, 15, 1471, 0), (999, 0, 0, 0), (999, 0, 0, 0), (14, 0, 3, 151), (0, 0, 0, 0), (93, 0, 0, 51), (11, 0, 7, 0), (999, 0, 0, 0), (42, 0, 0, 0), (48, 0, 0, 0), (60, 5, 1471, 0), (999, 0, 0, 0), (999, 0, 0, 0), (0, 0, 0, 0), (130, 0, 1, 0), (72, 884, 2355, 0), (999, 0, 0, 0), (999, 0, 0, 0), (14, 0, 1, 100), (14, 0, 0, 150), (11, 0, 5, 0), (999, 0, 0, 0), (0, 1, 0, 0), (30, 0, 0, 0), (105, 0, 0, 50), (14, 0, 0, 150), (11, 0, 5, 0), (999, 0, 0, 0), (0, 2, 0, 0), (30, 0, 0, 0), (105, 0, 0, 50), (14, 0, 3, 151), (113, 0, 198, 307), (999, 0, 0, 0), (999, 0, 0, 0), (17, 0, 6, 0), (999, 0, 0, 0), (14, 0, 2, 112), (14, 0, 0, 150), (11, 0, 5, 0), (999, 0, 0, 0), (0, 1, 0, 0), (30, 0, 0, 0), (105, 0, 0, 50), (14, 0, 0, 150), (11, 0, 5, 0), (999, 0, 0, 0), (0, 2, 0, 0), (30, 0, 0, 0), (105, 0, 0, 50), (110, 0, 200, 149), (999, 0, 0, 0), (999, 0, 0, 0), (17, 0, 7, 0), (999, 0, 0, 0), (14, 0, 2, 112), (110, 0, 131, 63), (999, 0, 0, 0), (999, 0, 0, 0), (11, 0, 6, 0), (999, 0, 0, 0), (66, 5, 1522, 0), (999, 0, 0, 0), (999, 0, 0, 0), (0, 0, 0, 0), (130, 0, 1, 0), (11, 0, 6, 0), (999, 0, 0, 0), (61, 15, 1539, 0), (999, 0, 0, 0), (999, 0, 0, 0), (14, 0, 3, 151), (0, 0, 0, 0), (93, 0, 0, 51), (11, 0, 7, 0), (999, 0, 0, 0), (42, 0, 0, 0), (48, 0, 0, 0), (60, 5, 1539, 0), (999, 0, 0, 0), (999, 0, 0, 0), (0, 0, 0, 0), (130, 0, 1, 0), (72, 816, 2355, 0), (999, 0, 0, 0), (999, 0, 0, 0), (14, 0, 1, 100), (14, 0, 0, 150), (11, 0, 5, 0), (999, 0, 0, 0), (0, 1, 0, 0), (30, 0, 0, 0), (105, 0, 0, 50), (14, 0, 0, 150), (11, 0, 5, 0), (999, 0, 0, 0), (0, 2, 0, 0), (30, 0, 0, 0), (105, 0, 0, 50), (14, 0, 0, 150), (11, 0, 5, 0), (999, 0, 0, 0), (0, 3, 0, 0), (30, 0, 0, 0), (105, 0, 0, 50), (14, 0, 0, 150), (11, 0, 5, 0), (999, 0, 0, 0), (0, 4, 0, 0), (30, 0, 0, 0), (105, 0, 0, 50), (14, 0, 3, 151), (113, 0, 201, 308), (999, 0, 0, 0), (999, 0, 0, 0), (17, 0, 6, 0), (999, 0, 0, 0), (14, 0, 2, 112), (14, 0, 0, 150), (11, 0, 5, 0), (999, 0, 0, 0), (0, 1, 0, 0), (30, 0, 0, 0), (105, 0, 0, 50), (14, 0, 0, 150), (11, 0, 5, 0), (999, 0, 0, 0), (0, 2, 0, 0), (30, 0, 0, 0), (105, 0, 0, 50), (14, 0, 0, 150), (11, 0, 5, 0), (999, 0, 0, 0), (0, 3, 0, 0), (30, 0, 0, 0), (105, 0, 0, 50), (14, 0, 0, 150), (11, 0, 5, 0), (999, 0, 0, 0), (0, 4, 0, 0), (30, 0, 0, 0), (105, 0, 0, 50), (110, 0, 204, 150), (999, 0, 0, 0), (999, 0, 0, 0), (17, 0, 7, 0), (999, 0, 0, 0), (14, 0, 2, 112), (110, 0, 131, 63), (999, 0, 0, 0), (999, 0, 0, 0), (11, 0, 6, 0), (999, 0, 0, 0), (66, 5, 1614, 0), (999, 0, 0, 0), (999, 0, 0, 0), (0, 0, 0, 0), (130, 0, 1, 0), (11, 0, 6, 0), (999, 0, 0, 0), (61, 15, 1631, 0), (999, 0, 0, 0), (999, 0, 0, 0), (14, 0, 3, 151), (0, 0, 0, 0), (93, 0, 0, 51), (11, 0, 7, 0), (999, 0, 0, 0), (42, 0, 0, 0), (48, 0, 0, 0), (60, 5, 1631, 0), (999, 0, 0, 0), (999, 0, 0, 0), (0, 0, 0, 0), (130, 0, 1, 0), (72, 724, 2355, 0), (999, 0, 0, 0), (999, 0, 0, 0), (14, 0, 1, 100), (14, 0, 0, 150), (11, 0, 5, 0), (999, 0, 0, 0), (0, 1, 0, 0), (30, 0, 0, 0), (105, 0, 0, 50), (14, 0, 0, 150), (11, 0, 5, 0), (999, 0, 0, 0), (0, 2, 0, 0), (30, 0, 0, 0), (105, 0, 0, 50), (14, 0, 0, 150), (11, 0, 5, 0), (999, 0, 0, 0), (0, 3, 0, 0), (30, 0, 0, 0), (105, 0, 0, 50), (14, 0, 3, 151), (113, 0, 205, 309), (999, 0, 0, 0), (999, 0, 0, 0), (17, 0, 6, 0), (999, 0, 0, 0), (14, 0, 2, 112), (14, 0, 0, 150), (11, 0, 5, 0), (999, 0, 0, 0), (0, 1, 0, 0), (30, 0, 0, 0), (105, 0, 0, 50), (14, 0, 0, 150), (11, 0, 5, 0), (999, 0, 0, 0), (0, 2, 0, 0), (30, 0, 0, 0), (105, 0, 0, 50), (14, 0, 0, 150), (11, 0, 5, 0), (999, 0, 0, 0), (0, 3, 0, 0), (30, 0, 0, 0), (105, 0, 0, 50), (110, 0, 208, 151), (999, 0, 0, 0), (999, 0, 0, 0), (17, 0, 7, 0), (999, 0, 0, 0), (14, 0, 2, 112), (110, 0, 131, 63), (999, 0, 0, 0), (999, 0, 0, 0), (11, 0, 6, 0), (999, 0, 0, 0), (66, 5, 1694, 0), (999, 0, 0, 0), (999, 0, 0, 0), (0, 0, 0, 0), (130, 0, 1, 0), (11, 0, 6, 0), (999, 0, 0, 0), (61, 15, 1711, 0), (999, 0, 0, 0), (999, 0, 0, 0), (14, 0, 3, 151), (0, 0, 0, 0), (93, 0, 0, 51), (11, 0, 7, 0), (999, 0, 0, 0), (42, 0, 0, 0), (48, 0, 0, 0), (60, 5, 1711, 0), (999, 0, 0, 0), (999, 0, 0, 0), (0, 0, 0, 0), (130, 0, 1, 0), (72, 644, 2355, 0), (999, 0, 0, 0), (999, 0, 0, 0), (14, 0, 1, 100), (14, 0, 0, 150), (11, 0, 5, 0), (999, 0, 0, 0), (0, 1, 0, 0), (30, 0, 0, 0), (105, 0, 0, 50), (14, 0, 0, 150), (11, 0, 5, 0), (999, 0, 0, 0), (0, 2, 0, 0), (30, 0, 0, 0), (105, 0, 0, 50), (14, 0, 3, 151), (113, 0, 209, 310), (999, 0, 0, 0), (999, 0, 0, 0), (17, 0, 6, 0), (999, 0, 0, 0), (14, 0, 2, 112), (14, 0, 0, 150), (11, 0, 5, 0), (999, 0, 0, 0), (0, 1, 0, 0), (30, 0, 0, 0), (105, 0, 0, 50), (14, 0, 0, 150), (11, 0, 5, 0), (999, 0, 0, 0), (0, 2, 0, 0), (30, 0, 0, 0), (105, 0, 0, 50), (110, 0, 211, 152), (999, 0, 0, 0), (999, 0, 0, 0), (17, 0, 7, 0), (999, 0, 0, 0), (14, 0, 2, 112), (110, 0, 131, 63), (999, 0, 0, 0), (999, 0, 0, 0), (11, 0, 6, 0), (999, 0, 0, 0), (66, 5, 1762, 0), (999, 0, 0, 0), (999, 0, 0, 0), (0, 0, 0, 0), (130, 0, 1, 0), (11, 0, 6, 0), (999, 0, 0, 0), (61, 15, 1779, 0), (999, 0, 0, 0), (999, 0, 0, 0), (14, 0, 3, 151), (0, 0, 0, 0), (93, 0, 0, 51), (11, 0, 7, 0), (999, 0, 0, 0), (42, 0, 0, 0), (48, 0, 0, 0), (60, 5, 1779, 0), (999, 0, 0, 0), (999, 0, 0, 0), (0, 0, 0, 0), (130, 0, 1, 0), (72, 576, 2355, 0), (999, 0, 0, 0), (999, 0, 0, 0), (14, 0, 1, 100), (14, 0, 0, 150), (11, 0, 5, 0), (999, 0, 0, 0), (0, 1, 0, 0), (30, 0, 0, 0), (105, 0, 0, 50), (14, 0, 3, 151), (113, 0, 212, 311), (999, 0, 0, 0), (999, 0, 0, 0), (17, 0, 6, 0), (999, 0, 0, 0), (14, 0, 2, 112), (14, 0, 0, 150), (11, 0, 5, 0), (999, 0, 0, 0), (0, 1, 0, 0), (30, 0, 0, 0), (105, 0, 0, 50), (110, 0, 214, 153), (999, 0, 0, 0), (999, 0, 0, 0), (17, 0, 7, 0), (999, 0, 0, 0), (14, 0, 2, 112), (110, 0, 131, 63), (999, 0, 0, 0), (999, 0, 0, 0), (11, 0, 6, 0), (999, 0, 0, 0), (66, 5, 1818, 0), (999, 0, 0, 0), (999, 0, 0, 0), (0, 0, 0, 0), (130, 0, 1, 0), (11, 0, 6, 0), (999, 0, 0, 0), (61, 15, 1835, 0), (999, 0, 0, 0), (999, 0, 0, 0), (14, 0, 3, 151), (0, 0, 0, 0), (93, 0, 0, 51), (11, 0, 7, 0), (999, 0, 0, 0), (42, 0, 0, 0), (48, 0, 0, 0), (60, 5, 1835, 0), (999, 0, 0, 0), (999, 0, 0, 0), (0, 0, 0, 0), (130, 0, 1, 0), (72, 520, 2355, 0), (999, 0, 0, 0), (999, 0, 0, 0), (14, 0, 1, 100), (14, 0, 0, 150), (11, 0, 5, 0), (999, 0, 0, 0), (0, 1, 0, 0), (30, 0, 0, 0), (105, 0, 0, 50), (14, 0, 3, 151), (113, 0, 215, 312), (999, 0, 0, 0), (999, 0, 0, 0), (17, 0, 6, 0), (999, 0, 0, 0), (14, 0, 2, 112), (14, 0, 0, 150), (11, 0, 5, 0), (999, 0, 0, 0), (0, 1, 0, 0), (30, 0, 0, 0), (105, 0, 0, 50), (110, 0, 217, 154), (999, 0, 0, 0), (999, 0, 0, 0), (17, 0, 7, 0), (999, 0, 0, 0), (14, 0, 2, 112), (110, 0, 131, 63), (999, 0, 0, 0), (999, 0, 0, 0), (11, 0, 6, 0), (999, 0, 0, 0), (66, 5, 1874, 0), (999, 0, 0, 0), (999, 0, 0, 0), (0, 0, 0, 0), (130, 0, 1, 0), (11, 0, 6, 0), (999, 0, 0, 0), (61, 15, 1891, 0), (999, 0, 0, 0), (999, 0, 0, 0), (14, 0, 3, 151), (0, 0, 0, 0), (93, 0, 0, 51), (11, 0, 7, 0), (999, 0, 0, 0), (42, 0, 0, 0), (48, 0, 0, 0), (60, 5, 1891, 0), (999, 0, 0, 0), (999, 0, 0, 0), (0, 0, 0, 0), (130, 0, 1, 0), (72, 464, 2355, 0), (999, 0, 0, 0), (999, 0, 0, 0), (14, 0, 1, 100), (14, 0, 0, 150), (11, 0, 5, 0), (999, 0, 0, 0), (0, 1, 0, 0), (30, 0, 0, 0), (105, 0, 0, 50), (14, 0, 0, 150), (11, 0, 5, 0), (999, 0, 0, 0), (0, 2, 0, 0), (30, 0, 0, 0), (105, 0, 0, 50), (14, 0, 3, 151), (113, 0, 218, 313), (999, 0, 0, 0), (999, 0, 0, 0), (17, 0, 6, 0), (999, 0, 0, 0), (14, 0, 2, 112), (14, 0, 0, 150), (11, 0, 5, 0), (999, 0, 0, 0), (0, 1, 0, 0), (30, 0, 0, 0), (105, 0, 0, 50), (14, 0, 0, 150), (11, 0, 5, 0), (999, 0, 0, 0), (0, 2, 0, 0), (30, 0, 0, 0), (105, 0, 0, 50), (110, 0, 220, 155), (999, 0, 0, 0), (999, 0, 0, 0), (17, 0, 7, 0), (999, 0, 0, 0), (14, 0, 2, 112), (110, 0, 131, 63), (999, 0, 0, 0), (999, 0, 0, 0), (11, 0, 6, 0), (999, 0, 0, 0), (66, 5, 1942, 0), (999, 0, 0, 0), (999, 0, 0, 0), (0, 0, 0, 0), (130, 0, 1, 0), (11, 0, 6, 0), (999, 0, 0, 0), (61, 22, 1966, 0), (999, 0, 0, 0), (999, 0, 0, 0), (14, 0, 3, 151), (0, 0, 0, 0), (93, 0, 0, 51), (11, 0, 7, 0), (999, 0, 0, 0), (60, 7, 1959, 0), (999, 0, 0, 0), (999, 0, 0, 0), (5, 1, 1, 0), (72, 4, 1960, 0), (999, 0, 0, 0), (999, 0, 0, 0), (5, 0, 0, 0), (48, 0, 0, 0), (60, 5, 1966, 0), (999, 0, 0, 0), (999, 0, 0, 0), (0, 0, 0, 0), (130, 0, 1, 0), (72, 389, 2355, 0), (999, 0, 0, 0), (999, 0, 0, 0), (14, 0, 1, 100), (14, 0, 0, 150), (11, 0, 5, 0), (999, 0, 0, 0), (0, 1, 0, 0), (30, 0, 0, 0), (105, 0, 0, 50), (14, 0, 3, 151), (113, 0, 221, 314), (999, 0, 0, 0), (999, 0, 0, 0), (17, 0, 6, 0), (999, 0, 0, 0), (14, 0, 2, 112), (14, 0, 0, 150), (11, 0, 5, 0), (999, 0, 0, 0), (0, 1, 0, 0), (30, 0, 0, 0), (105, 0, 0, 50), (110, 0, 223, 156), (999, 0, 0, 0), (999, 0, 0, 0), (17, 0, 7, 0), (999, 0, 0, 0), (14, 0, 2, 112), (110, 0, 131, 63), (999, 0, 0, 0), (999, 0, 0, 0), (11, 0, 6, 0), (999, 0, 0, 0), (66, 5, 2005, 0), (999, 0, 0, 0), (999, 0, 0, 0), (0, 0, 0, 0), (130, 0, 1, 0), (11, 0, 6, 0), (999, 0, 0, 0), (61, 15, 2022, 0), (999, 0, 0, 0), (999, 0, 0, 0), (14, 0, 3, 151), (0, 0, 0, 0), (93, 0, 0, 51), (11, 0, 7, 0), (999, 0, 0, 0), (42, 0, 0, 0), (48, 0, 0, 0), (60, 5, 2022, 0), (999, 0, 0, 0), (999, 0, 0, 0), (0, 0, 0, 0), (130, 0, 1, 0), (72, 333, 2355, 0), (999, 0, 0, 0), (999, 0, 0, 0), (14, 0, 1, 100), (14, 0, 0, 150), (11, 0, 5, 0), (999, 0, 0, 0), (0, 1, 0, 0), (30, 0, 0, 0), (105, 0, 0, 50), (14, 0, 0, 150), (11, 0, 5, 0), (999, 0, 0, 0), (0, 2, 0, 0), (30, 0, 0, 0), (105, 0, 0, 50), (14, 0, 0, 150), (11, 0, 5, 0), (999, 0, 0, 0), (0, 3, 0, 0), (30, 0, 0, 0), (105, 0, 0, 50), (14, 0, 0, 150), (11, 0, 5, 0), (999, 0, 0, 0), (0, 4, 0, 0), (30, 0, 0, 0), (105, 0, 0, 50), (60, 7, 2057, 0), (999, 0, 0, 0), (999, 0, 0, 0), (0, 1, 0, 0), (72, 4, 2058, 0), (999, 0, 0, 0), (999, 0, 0, 0), (0, 0, 0, 0), (14, 0, 0, 150), (11, 0, 5, 0), (999, 0, 0, 0), (0, 5, 0, 0), (30, 0, 0, 0), (105, 0, 0, 50), (14, 0, 3, 151), (113, 0, 224, 315), (999, 0, 0, 0), (999, 0, 0, 0), (17, 0, 6, 0), (999, 0, 0, 0), (14, 0, 2, 112), (14, 0, 0, 150), (11, 0, 5, 0), (999, 0, 0, 0), (0, 1, 0, 0), (30, 0, 0, 0), (105, 0, 0, 50), (14, 0, 0, 150), (11, 0, 5, 0), (999, 0, 0, 0), (0, 2, 0, 0), (30, 0, 0, 0), (105, 0, 0, 50), (14, 0, 0, 150), (11, 0, 5, 0), (999, 0, 0, 0), (0, 3, 0, 0), (30, 0, 0, 0), (105, 0, 0, 50), (14, 0, 0, 150), (11, 0, 5, 0), (999, 0, 0, 0), (0, 4, 0, 0), (30, 0, 0, 0), (105, 0, 0, 50), (60, 7, 2102, 0), (999, 0, 0, 0), (999, 0, 0, 0), (0, 1, 0, 0), (72, 4, 2103, 0), (999, 0, 0, 0), (999, 0, 0, 0), (0, 0, 0, 0), (14, 0, 0, 150), (11, 0, 5, 0), (999, 0, 0, 0), (0, 5, 0, 0), (30, 0, 0, 0), (105, 0, 0, 50), (110, 0, 227, 160), (999, 0, 0, 0), (999, 0, 0, 0), (17, 0, 7, 0), (999, 0, 0, 0), (14, 0, 2, 112), (110, 0, 131, 63), (999, 0, 0, 0), (999, 0, 0, 0), (11, 0, 6, 0), (999, 0, 0, 0), (66, 5, 2125, 0), (999, 0, 0, 0), (999, 0, 0, 0), (0, 0, 0, 0), (130, 0, 1, 0), (11, 0, 6, 0), (999, 0, 0, 0), (61, 15, 2142, 0), (999, 0, 0, 0), (999, 0, 0, 0), (14, 0, 3, 151), (0, 0, 0, 0), (93, 0, 0, 51), (11, 0, 7, 0), (999, 0, 0, 0), (42, 0, 0, 0), (48, 0, 0, 0), (60, 5, 2142, 0), (999, 0, 0, 0), (999, 0, 0, 0), (0, 0, 0, 0), (130, 0, 1, 0), (72, 213, 2355, 0), (999, 0, 0, 0), (999, 0, 0, 0), (14, 0, 1, 100), (110, 0, 228, 39), (999, 0, 0, 0), (999, 0, 0, 0), (14, 0, 2, 112), (110, 0, 232, 161), (999, 0, 0, 0), (999, 0, 0, 0), (48, 0, 0, 0), (60, 201, 2355, 0), (999, 0, 0, 0), (999, 0, 0, 0), (0, 0, 0, 0), (130, 0, 1, 0), (14, 0, 1, 100), (110, 0, 233, 40), (999, 0, 0, 0), (999, 0, 0, 0), (14, 0, 2, 112), (110, 0, 236, 162), (999, 0, 0, 0), (999, 0, 0, 0), (66, 188, 2355, 0), (999, 0, 0, 0), (999, 0, 0, 0), (0, 0, 0, 0), (130, 0, 1, 0), (14, 0, 1, 100), (110, 0, 237, 41), (999, 0, 0, 0), (999, 0, 0, 0), (14, 0, 2, 112), (110, 0, 240, 163), (999, 0, 0, 0), (999, 0, 0, 0), (66, 175, 2355, 0), (999, 0, 0, 0), (999, 0, 0, 0), (0, 0, 0, 0), (130, 0, 1, 0), (14, 0, 1, 100), (110, 0, 241, 42), (999, 0, 0, 0), (999, 0, 0, 0), (14, 0, 2, 112), (110, 0, 244, 164), (999, 0, 0, 0), (999, 0, 0, 0), (66, 162, 2355, 0), (999, 0, 0, 0), (999, 0, 0, 0), (0, 0, 0, 0), (130, 0, 1, 0), (14, 0, 1, 100), (110, 0, 245, 43), (999, 0, 0, 0), (999, 0, 0, 0), (14, 0, 2, 112), (110, 0, 248, 165), (999, 0, 0, 0), (999, 0, 0, 0), (66, 149, 2355, 0), (999, 0, 0, 0), (999, 0, 0, 0), (0, 0, 0, 0), (130, 0, 1, 0), (14, 0, 1, 100), (15, 0, 4, 152), (999, 0, 0, 0), (113, 0, 249, 316), (999, 0, 0, 0), (999, 0, 0, 0), (17, 0, 6, 0), (999, 0, 0, 0), (14, 0, 2, 112), (110, 0, 252, 166), (999, 0, 0, 0), (999, 0, 0, 0), (153, 0, 7, 0), (999, 0, 0, 0), (14, 0, 2, 112), (110, 0, 131, 63), (999, 0, 0, 0), (999, 0, 0, 0), (11, 0, 6, 0), (999, 0, 0, 0), (66, 5, 2236, 0), (999, 0, 0, 0), (999, 0, 0, 0), (0, 0, 0, 0), (130, 0, 1, 0), (11, 0, 6, 0), (999, 0, 0, 0), (61, 36, 2274, 0), (999, 0, 0, 0), (999, 0, 0, 0), (15, 0, 4, 152), (999, 0, 0, 0), (0, 0, 0, 0), (158, 0, 0, 52), (151, 0, 7, 0), (999, 0, 0, 0), (148, 0, 0, 0), (149, 0, 0, 0), (60, 25, 2274, 0), (999, 0, 0, 0), (999, 0, 0, 0), (15, 0, 4, 152), (999, 0, 0, 0), (0, 0, 0, 0), (158, 0, 0, 52), (15, 0, 4, 152), (999, 0, 0, 0), (0, 0, 0, 0), (158, 0, 0, 52), (149, 0, 0, 0), (60, 11, 2272, 0), (999, 0, 0, 0), (999, 0, 0, 0), (151, 0, 7, 0), (999, 0, 0, 0), (151, 0, 7, 0), (999, 0, 0, 0), (139, 0, 0, 0), (61, 5, 2274, 0), (999, 0, 0, 0), (999, 0, 0, 0), (0, 0, 0, 0), (130, 0, 1, 0), (72, 81, 2355, 0), (999, 0, 0, 0), (999, 0, 0, 0), (14, 0, 1, 100), (15, 0, 4, 152), (999, 0, 0, 0), (113, 0, 253, 317), (999, 0, 0, 0), (999, 0, 0, 0), (17, 0, 6, 0), (999, 0, 0, 0), (14, 0, 2, 112), (110, 0, 255, 167), (999, 0, 0, 0), (999, 0, 0, 0), (157, 0, 7, 0), (999, 0, 0, 0), (14, 0, 2, 112), (110, 0, 131, 63), (999, 0, 0, 0), (999, 0, 0, 0), (11, 0, 6, 0), (999, 0, 0, 0), (66, 5, 2302, 0), (999, 0, 0, 0), (999, 0, 0, 0), (0, 0, 0, 0), (130, 0, 1, 0), (11, 0, 6, 0), (999, 0, 0, 0), (61, 35, 2339, 0), (999, 0, 0, 0), (999, 0, 0, 0), (15, 0, 4, 152), (999, 0, 0, 0), (0, 0, 0, 0), (158, 0, 0, 52), (155, 0, 7, 0), (999, 0, 0, 0), (149, 0, 0, 0), (60, 25, 2339, 0), (999, 0, 0, 0), (999, 0, 0, 0), (15, 0, 4, 152), (999, 0, 0, 0), (0, 0, 0, 0), (158, 0, 0, 52), (15, 0, 4, 152), (999, 0, 0, 0), (0, 0, 0, 0), (158, 0, 0, 52), (149, 0, 0, 0), (60, 11, 2337, 0), (999, 0, 0, 0), (999, 0, 0, 0), (155, 0, 7, 0), (999, 0, 0, 0), (155, 0, 7, 0), (999, 0, 0, 0), (149, 0, 0, 0), (61, 5, 2339, 0), (999, 0, 0, 0), (999, 0, 0, 0), (0, 0, 0, 0), (130, 0, 1, 0), (72, 16, 2355, 0), (999, 0, 0, 0), (999, 0, 0, 0), (14, 0, 1, 100), (110, 0, 256, 46), (999, 0, 0, 0), (999, 0, 0, 0), (14, 0, 2, 112), (110, 0, 260, 168), (999, 0, 0, 0), (999, 0, 0, 0), (66, 5, 2355, 0), (999, 0, 0, 0), (999, 0, 0, 0), (0, 0, 0, 0), (130, 0, 1, 0), (22, 6, 5, 0), (999, 0, 0, 0), (999, 0, 0, 0), (72, (-2330), 28, 0), (999, 0, 0, 0), (999, 0, 0, 0), (0, 1, 0, 0), (130, 0, 1, 0)]
def zu_Lw_law : List (Nat × List Bool) := [(28, [true, true, true, true, true, true, false, false, false]), (208, [true, true, true, true, true, true, false, false, false]), (273, [true, true, true, true, true, true, false, false, false]), (276, [true, true, true, true, true, true, false, false, false]), (379, [true, true, true, true, true, true, false, false, false]), (382, [true, true, true, true, true, true, false, false, false]), (447, [true, true, true, true, true, true, false, false, false]), (450, [true, true, true, true, true, true, false, false, false]), (515, [true, true, true, true, true, true, false, false, false]), (518, [true, true, true, true, true, true, false, false, false]), (571, [true, true, true, true, true, true, false, false, false]), (574, [true, true, true, true, true, true, false, false, false]), (675, [true, true, true, true, true, true, false, false, false]), (678, [true, true, true, true, true, true, false, false, false]), (779, [true, true, true, true, true, true, false, false, false]), (782, [true, true, true, true, true, true, false, false, false]), (795, [true, true, true, true, true, true, false, false, false]), (848, [true, true, true, true, true, true, false, false, false]), (851, [true, true, true, true, true, true, false, false, false]), (904, [true, true, true, true, true, true, false, false, false]), (907, [true, true, true, true, true, true, false, false, false]), (960, [true, true, true, true, true, true, false, false, false]), (963, [true, true, true, true, true, true, false, false, false]), (1016, [true, true, true, true, true, true, false, false, false]), (1019, [true, true, true, true, true, true, false, false, false]), (1072, [true, true, true, true, true, true, false, false, false]), (1075, [true, true, true, true, true, true, false, false, false]), (1130, [true, true, true, true, true, true, false, false, false]), (1133, [true, true, true, true, true, true, false, false, false]), (1146, [true, true, true, true, true, true, false, false, false]), (1199, [true, true, true, true, true, true, false, false, false]), (1202, [true, true, true, true, true, true, false, false, false]), (1267, [true, true, true, true, true, true, false, false, false]), (1270, [true, true, true, true, true, true, false, false, false]), (1335, [true, true, true, true, true, true, false, false, false]), (1338, [true, true, true, true, true, true, false, false, false]), (1403, [true, true, true, true, true, true, false, false, false]), (1406, [true, true, true, true, true, true, false, false, false]), (1471, [true, true, true, true, true, true, false, false, false]), (1474, [true, true, true, true, true, true, false, false, false]), (1539, [true, true, true, true, true, true, false, false, false]), (1542, [true, true, true, true, true, true, false, false, false]), (1631, [true, true, true, true, true, true, false, false, false]), (1634, [true, true, true, true, true, true, false, false, false]), (1711, [true, true, true, true, true, true, false, false, false]), (1714, [true, true, true, true, true, true, false, false, false]), (1779, [true, true, true, true, true, true, false, false, false]), (1782, [true, true, true, true, true, true, false, false, false]), (1835, [true, true, true, true, true, true, false, false, false]), (1838, [true, true, true, true, true, true, false, false, false]), (1891, [true, true, true, true, true, true, false, false, false]), (1894, [true, true, true, true, true, true, false, false, false]), (1960, [true, true, true, true, true, true, false, false, false]), (1966, [true, true, true, true, true, true, false, false, false]), (1969, [true, true, true, true, true, true, false, false, false]), (2022, [true, true, true, true, true, true, false, false, false]), (2025, [true, true, true, true, true, true, false, false, false]), (2058, [true, true, true, true, true, true, false, false, false]), (2103, [true, true, true, true, true, true, true, false, false]), (2142, [true, true, true, true, true, true, false, false, false]), (2145, [true, true, true, true, true, true, false, false, false]), (2159, [true, true, true, true, true, true, false, false, false]), (2172, [true, true, true, true, true, true, false, false, false]), (2185, [true, true, true, true, true, true, false, false, false]), (2198, [true, true, true, true, true, true, false, false, false]), (2211, [true, true, true, true, true, true, false, false, false]), (2272, [false, false, false, false, false, false, false, false, false]), (2274, [true, true, true, true, true, true, false, false, false]), (2277, [true, true, true, true, true, true, false, false, false]), (2337, [false, false, false, false, false, false, false, false, false]), (2339, [true, true, true, true, true, true, false, false, false]), (2342, [true, true, true, true, true, true, false, false, false]), (2355, [true, true, true, true, true, true, false, false, false])]
set_option maxRecDepth 100000 in
theorem qg_Lw_law_2355 {ρ : Type} (kr : Int → zH → Option ρ) (r28 : Int → Int → Int → Int → Int → Int → zH → Option ρ) (a0 a1 a2 a3 a4 a5 : Int) (h : zH) : (r28 a0 a1 a2 a3 a4 (wr (a5 + 6)) h) = zseg zPP true (zcal []) (zget (999, 0, 0, 0) zc_Lw_law) (zcut zu_Lw_law) (zorc [(28, [some (150, none), some (100, none), some (112, none), some (151, none), some (152, none), some (0, none), none, none, none], [], fun xs h => match xs with
  | [a0, a1, a2, a3, a4, a5] => r28 a0 a1 a2 a3 a4 a5 h
  | _ => none)]) kr (fun _ _ => none) 400 2355 [some (150, a0), some (100, a1), some (112, a2), some (151, a3), some (152, a4), some (0, a5), none, none, none] [] h := by rfl
set_option maxRecDepth 100000 in
theorem qe_Lw_law_2355 {ρ : Type} (kr : Int → zH → Option ρ) (r28 : Int → Int → Int → Int → Int → Int → zH → Option ρ) (a0 a1 a2 a3 a4 a5 : Int) (h : zH) : Lw_law_2355 kr r28 a0 a1 a2 a3 a4 a5 h = zseg zPP true (zcal []) (zget (999, 0, 0, 0) zc_Lw_law) (zcut zu_Lw_law) (zorc [(28, [some (150, none), some (100, none), some (112, none), some (151, none), some (152, none), some (0, none), none, none, none], [], fun xs h => match xs with
  | [a0, a1, a2, a3, a4, a5] => r28 a0 a1 a2 a3 a4 a5 h
  | _ => none)]) kr (fun _ _ => none) 400 2355 [some (150, a0), some (100, a1), some (112, a2), some (151, a3), some (152, a4), some (0, a5), none, none, none] [] h := qg_Lw_law_2355 kr r28 a0 a1 a2 a3 a4 a5 h
set_option maxRecDepth 100000 in
theorem qg_Lw_law_273 {ρ : Type} (kr : Int → zH → Option ρ) (r28 : Int → Int → Int → Int → Int → Int → zH → Option ρ) (c2355 : Int → Int → Int → Int → Int → Int → zH → Option ρ) (a0 a1 a2 a3 a4 a5 : Int) (h : zH) : (c2355 a0 a1 a2 a3 a4 a5 h) = zseg zPP true (zcal []) (zget (999, 0, 0, 0) zc_Lw_law) (zcut zu_Lw_law) (zorc [(2355, [some (150, none), some (100, none), some (112, none), some (151, none), some (152, none), some (0, none), none, none, none], [], fun xs h => match xs with
  | [a0, a1, a2, a3, a4, a5] => c2355 a0 a1 a2 a3 a4 a5 h
  | _ => none)]) kr (fun _ _ => none) 400 273 [some (150, a0), some (100, a1), some (112, a2), some (151, a3), some (152, a4), some (0, a5), none, none, none] [] h := by rfl
set_option maxRecDepth 100000 in
theorem qe_Lw_law_273 {ρ : Type} (kr : Int → zH → Option ρ) (r28 : Int → Int → Int → Int → Int → Int → zH → Option ρ) (a0 a1 a2 a3 a4 a5 : Int) (h : zH) : Lw_law_273 kr r28 a0 a1 a2 a3 a4 a5 h = zseg zPP true (zcal []) (zget (999, 0, 0, 0) zc_Lw_law) (zcut zu_Lw_law) (zorc [(2355, [some (150, none), some (100, none), some (112, none), some (151, none), some (152, none), some (0, none), none, none, none], [], fun xs h => match xs with
  | [a0, a1, a2, a3, a4, a5] => Lw_law_2355 kr r28 a0 a1 a2 a3 a4 a5 h
  | _ => none)]) kr (fun _ _ => none) 400 273 [some (150, a0), some (100, a1), some (112, a2), some (151, a3), some (152, a4), some (0, a5), none, none, none] [] h := qg_Lw_law_273 kr r28 (Lw_law_2355 kr r28) a0 a1 a2 a3 a4 a5 h
set_option maxRecDepth 100000 in
theorem qg_Lw_law_208 {ρ : Type} (kr : Int → zH → Option ρ) (r28 : Int → Int → Int → Int → Int → Int → zH → Option ρ) (F_M_thrown : zH → (Int → zH → Option ρ) → Option ρ) (F_M_addKernel : Int → Int → zH → (Int → zH → Option ρ) → Option ρ) (F_Lw_addKernel : Int → Int → Int → Int → zH → (Int → zH → Option ρ) → Option ρ) (c273 : Int → Int → Int → Int → Int → Int → zH → Option ρ) (a0 a1 a2 a3 a4 a5 : Int) (h : zH) : (zob h 50 a0 fun p1 =>
zix (zhL h 50 p1) (wr (a5 + 1)) fun j2 =>
zob h 50 a0 fun p3 =>
zix (zhL h 50 p3) (wr (a5 + 2)) fun j4 =>
F_Lw_addKernel a1 (zhD h 50 p1 j2) (zhD h 50 p3 j4) a3 h  fun v5 h6 =>
zob h6 50 a0 fun p7 =>
zix (zhL h6 50 p7) (wr (a5 + 1)) fun j8 =>
zob h6 50 a0 fun p9 =>
zix (zhL h6 50 p9) (wr (a5 + 2)) fun j10 =>
zob h6 12 a2 fun _ =>
zmch h6 a2 (F_M_addKernel (zhD h6 50 p7 j8) (zhD h6 50 p9 j10) h6  fun v11 h12 =>
zob h12 12 a2 fun _ =>
zmch h12 a2 (F_M_thrown h12  fun v13 h14 =>
if v13 = v5 then (if v5 = 0 then (zob h14 51 a3 fun p15 =>
zix (zhL h14 51 p15) 0 fun j16 =>
if (zlcmp (zhD h14 51 p15 j16) v11) = 0 then c273 a0 a1 a2 a3 a4 a5 h14
else kr 0 h14)
else c273 a0 a1 a2 a3 a4 a5 h14)
else kr 0 h14))) = zseg zPP true (zcal [(63, [none], fun xs h kr kt => match xs with
  | [x0] => zmch h x0 (F_M_thrown h kr)
  | _ => none), (69, [none, none, none], fun xs h kr kt => match xs with
  | [x0, x1, x2] => zmch h x0 (F_M_addKernel x1 x2 h kr)
  | _ => none), (289, [none, none, none, none], fun xs h kr kt => match xs with
  | [x0, x1, x2, x3] => F_Lw_addKernel x0 x1 x2 x3 h kr
  | _ => none)]) (zget (999, 0, 0, 0) zc_Lw_law) (zcut zu_Lw_law) (zorc [(273, [some (150, none), some (100, none), some (112, none), some (151, none), some (152, none), some (0, none), none, none, none], [], fun xs h => match xs with
  | [a0, a1, a2, a3, a4, a5] => c273 a0 a1 a2 a3 a4 a5 h
  | _ => none)]) kr (fun _ _ => none) 400 208 [some (150, a0), some (100, a1), some (112, a2), some (151, a3), some (152, a4), some (0, a5), none, none, none] [] h := by rfl
set_option maxRecDepth 100000 in
theorem qe_Lw_law_208 {ρ : Type} (kr : Int → zH → Option ρ) (r28 : Int → Int → Int → Int → Int → Int → zH → Option ρ) (a0 a1 a2 a3 a4 a5 : Int) (h : zH) : Lw_law_208 kr r28 a0 a1 a2 a3 a4 a5 h = zseg zPP true (zcal [(63, [none], fun xs h kr kt => match xs with
  | [x0] => zmch h x0 (M_thrown h kr)
  | _ => none), (69, [none, none, none], fun xs h kr kt => match xs with
  | [x0, x1, x2] => zmch h x0 (M_addKernel x1 x2 h kr)
  | _ => none), (289, [none, none, none, none], fun xs h kr kt => match xs with
  | [x0, x1, x2, x3] => Lw_addKernel x0 x1 x2 x3 h kr
  | _ => none)]) (zget (999, 0, 0, 0) zc_Lw_law) (zcut zu_Lw_law) (zorc [(273, [some (150, none), some (100, none), some (112, none), some (151, none), some (152, none), some (0, none), none, none, none], [], fun xs h => match xs with
  | [a0, a1, a2, a3, a4, a5] => Lw_law_273 kr r28 a0 a1 a2 a3 a4 a5 h
  | _ => none)]) kr (fun _ _ => none) 400 208 [some (150, a0), some (100, a1), some (112, a2), some (151, a3), some (152, a4), some (0, a5), none, none, none] [] h := qg_Lw_law_208 kr r28 M_thrown M_addKernel Lw_addKernel (Lw_law_273 kr r28) a0 a1 a2 a3 a4 a5 h
set_option maxRecDepth 100000 in
theorem qg_Lw_law_379 {ρ : Type} (kr : Int → zH → Option ρ) (r28 : Int → Int → Int → Int → Int → Int → zH → Option ρ) (c2355 : Int → Int → Int → Int → Int → Int → zH → Option ρ) (a0 a1 a2 a3 a4 a5 : Int) (h : zH) : (c2355 a0 a1 a2 a3 a4 a5 h) = zseg zPP true (zcal []) (zget (999, 0, 0, 0) zc_Lw_law) (zcut zu_Lw_law) (zorc [(2355, [some (150, none), some (100, none), some (112, none), some (151, none), some (152, none), some (0, none), none, none, none], [], fun xs h => match xs with
  | [a0, a1, a2, a3, a4, a5] => c2355 a0 a1 a2 a3 a4 a5 h
  | _ => none)]) kr (fun _ _ => none) 400 379 [some (150, a0), some (100, a1), some (112, a2), some (151, a3), some (152, a4), some (0, a5), none, none, none] [] h := by rfl
set_option maxRecDepth 100000 in
theorem qe_Lw_law_379 {ρ : Type} (kr : Int → zH → Option ρ) (r28 : Int → Int → Int → Int → Int → Int → zH → Option ρ) (a0 a1 a2 a3 a4 a5 : Int) (h : zH) : Lw_law_379 kr r28 a0 a1 a2 a3 a4 a5 h = zseg zPP true (zcal []) (zget (999, 0, 0, 0) zc_Lw_law) (zcut zu_Lw_law) (zorc [(2355, [some (150, none), some (100, none), some (112, none), some (151, none), some (152, none), some (0, none), none, none, none], [], fun xs h => match xs with
  | [a0, a1, a2, a3, a4, a5] => Lw_law_2355 kr r28 a0 a1 a2 a3 a4 a5 h
  | _ => none)]) kr (fun _ _ => none) 400 379 [some (150, a0), some (100, a1), some (112, a2), some (151, a3), some (152, a4), some (0, a5), none, none, none] [] h := qg_Lw_law_379 kr r28 (Lw_law_2355 kr r28) a0 a1 a2 a3 a4 a5 h
set_option maxRecDepth 100000 in
theorem qg_Lw_law_276 {ρ : Type} (kr : Int → zH → Option ρ) (r28 : Int → Int → Int → Int → Int → Int → zH → Option ρ) (F_M_thrown : zH → (Int → zH → Option ρ) → Option ρ) (F_M_code : Int → Int → Int → Int → Int → zH → (Int → zH → Option ρ) → Option ρ) (F_Lw_code : Int → Int → Int → Int → Int → Int → Int → zH → (Int → zH → Option ρ) → Option ρ) (c379 : Int → Int → Int → Int → Int → Int → zH → Option ρ) (a0 a1 a2 a3 a4 a5 : Int) (h : zH) : (zob h 50 a0 fun p1 =>
zix (zhL h 50 p1) (wr (a5 + 1)) fun j2 =>
zob h 50 a0 fun p3 =>
zix (zhL h 50 p3) (wr (a5 + 2)) fun j4 =>
zob h 50 a0 fun p5 =>
zix (zhL h 50 p5) (wr (a5 + 3)) fun j6 =>
zob h 50 a0 fun p7 =>
zix (zhL h 50 p7) (wr (a5 + 4)) fun j8 =>
zob h 50 a0 fun p9 =>
zix (zhL h 50 p9) (wr (a5 + 5)) fun j10 =>
F_Lw_code a1 (zhD h 50 p1 j2) ((zhD h 50 p3 j4) % 65536) (zhD h 50 p5 j6) (zhD h 50 p7 j8) (zhD h 50 p9 j10) a3 h  fun v11 h12 =>
zob h12 50 a0 fun p13 =>
zix (zhL h12 50 p13) (wr (a5 + 1)) fun j14 =>
zob h12 50 a0 fun p15 =>
zix (zhL h12 50 p15) (wr (a5 + 2)) fun j16 =>
zob h12 50 a0 fun p17 =>
zix (zhL h12 50 p17) (wr (a5 + 3)) fun j18 =>
zob h12 50 a0 fun p19 =>
zix (zhL h12 50 p19) (wr (a5 + 4)) fun j20 =>
zob h12 50 a0 fun p21 =>
zix (zhL h12 50 p21) (wr (a5 + 5)) fun j22 =>
zob h12 12 a2 fun _ =>
zmch h12 a2 (F_M_code (zhD h12 50 p13 j14) ((zhD h12 50 p15 j16) % 65536) (zhD h12 50 p17 j18) (zhD h12 50 p19 j20) (zhD h12 50 p21 j22) h12  fun v23 h24 =>
zob h24 12 a2 fun _ =>
zmch h24 a2 (F_M_thrown h24  fun v25 h26 =>
if v25 = v11 then (if v11 = 0 then (zob h26 51 a3 fun p27 =>
zix (zhL h26 51 p27) 0 fun j28 =>
if (zlcmp (zhD h26 51 p27 j28) v23) = 0 then c379 a0 a1 a2 a3 a4 a5 h26
else kr 0 h26)
else c379 a0 a1 a2 a3 a4 a5 h26)
else kr 0 h26))) = zseg zPP true (zcal [(63, [none], fun xs h kr kt => match xs with
  | [x0] => zmch h x0 (F_M_thrown h kr)
  | _ => none), (71, [none, none, none, none, none, none], fun xs h kr kt => match xs with
  | [x0, x1, x2, x3, x4, x5] => zmch h x0 (F_M_code x1 x2 x3 x4 x5 h kr)
  | _ => none), (290, [none, none, none, none, none, none, none], fun xs h kr kt => match xs with
  | [x0, x1, x2, x3, x4, x5, x6] => F_Lw_code x0 x1 x2 x3 x4 x5 x6 h kr
  | _ => none)]) (zget (999, 0, 0, 0) zc_Lw_law) (zcut zu_Lw_law) (zorc [(379, [some (150, none), some (100, none), some (112, none), some (151, none), some (152, none), some (0, none), none, none, none], [], fun xs h => match xs with
  | [a0, a1, a2, a3, a4, a5] => c379 a0 a1 a2 a3 a4 a5 h
  | _ => none)]) kr (fun _ _ => none) 400 276 [some (150, a0), some (100, a1), some (112, a2), some (151, a3), some (152, a4), some (0, a5), none, none, none] [] h := by rfl
set_option maxRecDepth 100000 in
theorem qe_Lw_law_276 {ρ : Type} (kr : Int → zH → Option ρ) (r28 : Int → Int → Int → Int → Int → Int → zH → Option ρ) (a0 a1 a2 a3 a4 a5 : Int) (h : zH) : Lw_law_276 kr r28 a0 a1 a2 a3 a4 a5 h = zseg zPP true (zcal [(63, [none], fun xs h kr kt => match xs with
  | [x0] => zmch h x0 (M_thrown h kr)
  | _ => none), (71, [none, none, none, none, none, none], fun xs h kr kt => match xs with
  | [x0, x1, x2, x3, x4, x5] => zmch h x0 (M_code x1 x2 x3 x4 x5 h kr)
  | _ => none), (290, [none, none, none, none, none, none, none], fun xs h kr kt => match xs with
  | [x0, x1, x2, x3, x4, x5, x6] => Lw_code x0 x1 x2 x3 x4 x5 x6 h kr
  | _ => none)]) (zget (999, 0, 0, 0) zc_Lw_law) (zcut zu_Lw_law) (zorc [(379, [some (150, none), some (100, none), some (112, none), some (151, none), some (152, none), some (0, none), none, none, none], [], fun xs h => match xs with
  | [a0, a1, a2, a3, a4, a5] => Lw_law_379 kr r28 a0 a1 a2 a3 a4 a5 h
  | _ => none)]) kr (fun _ _ => none) 400 276 [some (150, a0), some (100, a1), some (112, a2), some (151, a3), some (152, a4), some (0, a5), none, none, none] [] h := qg_Lw_law_276 kr r28 M_thrown M_code Lw_code (Lw_law_379 kr r28) a0 a1 a2 a3 a4 a5 h
set_option maxRecDepth 100000 in
theorem qg_Lw_law_447 {ρ : Type} (kr : Int → zH → Option ρ) (r28 : Int → Int → Int → Int → Int → Int → zH → Option ρ) (c2355 : Int → Int → Int → Int → Int → Int → zH → Option ρ) (a0 a1 a2 a3 a4 a5 : Int) (h : zH) : (c2355 a0 a1 a2 a3 a4 a5 h) = zseg zPP true (zcal []) (zget (999, 0, 0, 0) zc_Lw_law) (zcut zu_Lw_law) (zorc [(2355, [some (150, none), some (100, none), some (112, none), some (151, none), some (152, none), some (0, none), none, none, none], [], fun xs h => match xs with
  | [a0, a1, a2, a3, a4, a5] => c2355 a0 a1 a2 a3 a4 a5 h
  | _ => none)]) kr (fun _ _ => none) 400 447 [some (150, a0), some (100, a1), some (112, a2), some (151, a3), some (152, a4), some (0, a5), none, none, none] [] h := by rfl
set_option maxRecDepth 100000 in
theorem qe_Lw_law_447 {ρ : Type} (kr : Int → zH → Option ρ) (r28 : Int → Int → Int → Int → Int → Int → zH → Option ρ) (a0 a1 a2 a3 a4 a5 : Int) (h : zH) : Lw_law_447 kr r28 a0 a1 a2 a3 a4 a5 h = zseg zPP true (zcal []) (zget (999, 0, 0, 0) zc_Lw_law) (zcut zu_Lw_law) (zorc [(2355, [some (150, none), some (100, none), some (112, none), some (151, none), some (152, none), some (0, none), none, none, none], [], fun xs h => match xs with
  | [a0, a1, a2, a3, a4, a5] => Lw_law_2355 kr r28 a0 a1 a2 a3 a4 a5 h
  | _ => none)]) kr (fun _ _ => none) 400 447 [some (150, a0), some (100, a1), some (112, a2), some (151, a3), some (152, a4), some (0, a5), none, none, none] [] h := qg_Lw_law_447 kr r28 (Lw_law_2355 kr r28) a0 a1 a2 a3 a4 a5 h
set_option maxRecDepth 100000 in
theorem qg_Lw_law_382 {ρ : Type} (kr : Int → zH → Option ρ) (r28 : Int → Int → Int → Int → Int → Int → zH → Option ρ) (F_M_thrown : zH → (Int → zH → Option ρ) → Option ρ) (F_M_fits : Int → Int → zH → (Int → zH → Option ρ) → Option ρ) (F_Lw_fits : Int → Int → Int → Int → zH → (Int → zH → Option ρ) → Option ρ) (c447 : Int → Int → Int → Int → Int → Int → zH → Option ρ) (a0 a1 a2 a3 a4 a5 : Int) (h : zH) : (zob h 50 a0 fun p1 =>
zix (zhL h 50 p1) (wr (a5 + 1)) fun j2 =>
zob h 50 a0 fun p3 =>
zix (zhL h 50 p3) (wr (a5 + 2)) fun j4 =>
F_Lw_fits a1 (zhD h 50 p1 j2) (zhD h 50 p3 j4) a3 h  fun v5 h6 =>
zob h6 50 a0 fun p7 =>
zix (zhL h6 50 p7) (wr (a5 + 1)) fun j8 =>
zob h6 50 a0 fun p9 =>
zix (zhL h6 50 p9) (wr (a5 + 2)) fun j10 =>
zob h6 12 a2 fun _ =>
zmch h6 a2 (F_M_fits (zhD h6 50 p7 j8) (zhD h6 50 p9 j10) h6  fun v11 h12 =>
zob h12 12 a2 fun _ =>
zmch h12 a2 (F_M_thrown h12  fun v13 h14 =>
if v13 = v5 then (if v5 = 0 then (zob h14 51 a3 fun p15 =>
zix (zhL h14 51 p15) 0 fun j16 =>
if (zlcmp (zhD h14 51 p15 j16) v11) = 0 then c447 a0 a1 a2 a3 a4 a5 h14
else kr 0 h14)
else c447 a0 a1 a2 a3 a4 a5 h14)
else kr 0 h14))) = zseg zPP true (zcal [(63, [none], fun xs h kr kt => match xs with
  | [x0] => zmch h x0 (F_M_thrown h kr)
  | _ => none), (75, [none, none, none], fun xs h kr kt => match xs with
  | [x0, x1, x2] => zmch h x0 (F_M_fits x1 x2 h kr)
  | _ => none), (291, [none, none, none, none], fun xs h kr kt => match xs with
  | [x0, x1, x2, x3] => F_Lw_fits x0 x1 x2 x3 h kr
  | _ => none)]) (zget (999, 0, 0, 0) zc_Lw_law) (zcut zu_Lw_law) (zorc [(447, [some (150, none), some (100, none), some (112, none), some (151, none), some (152, none), some (0, none), none, none, none], [], fun xs h => match xs with
  | [a0, a1, a2, a3, a4, a5] => c447 a0 a1 a2 a3 a4 a5 h
  | _ => none)]) kr (fun _ _ => none) 400 382 [some (150, a0), some (100, a1), some (112, a2), some (151, a3), some (152, a4), some (0, a5), none, none, none] [] h := by rfl
set_option maxRecDepth 100000 in
theorem qe_Lw_law_382 {ρ : Type} (kr : Int → zH → Option ρ) (r28 : Int → Int → Int → Int → Int → Int → zH → Option ρ) (a0 a1 a2 a3 a4 a5 : Int) (h : zH) : Lw_law_382 kr r28 a0 a1 a2 a3 a4 a5 h = zseg zPP true (zcal [(63, [none], fun xs h kr kt => match xs with
  | [x0] => zmch h x0 (M_thrown h kr)
  | _ => none), (75, [none, none, none], fun xs h kr kt => match xs with
  | [x0, x1, x2] => zmch h x0 (M_fits x1 x2 h kr)
  | _ => none), (291, [none, none, none, none], fun xs h kr kt => match xs with
  | [x0, x1, x2, x3] => Lw_fits x0 x1 x2 x3 h kr
  | _ => none)]) (zget (999, 0, 0, 0) zc_Lw_law) (zcut zu_Lw_law) (zorc [(447, [some (150, none), some (100, none), some (112, none), some (151, none), some (152, none), some (0, none), none, none, none], [], fun xs h => match xs with
  | [a0, a1, a2, a3, a4, a5] => Lw_law_447 kr r28 a0 a1 a2 a3 a4 a5 h
  | _ => none)]) kr (fun _ _ => none) 400 382 [some (150, a0), some (100, a1), some (112, a2), some (151, a3), some (152, a4), some (0, a5), none, none, none] [] h := qg_Lw_law_382 kr r28 M_thrown M_fits Lw_fits (Lw_law_447 kr r28) a0 a1 a2 a3 a4 a5 h
set_option maxRecDepth 100000 in
theorem qg_Lw_law_515 {ρ : Type} (kr : Int → zH → Option ρ) (r28 : Int → Int → Int → Int → Int → Int → zH → Option ρ) (c2355 : Int → Int → Int → Int → Int → Int → zH → Option ρ) (a0 a1 a2 a3 a4 a5 : Int) (h : zH) : (c2355 a0 a1 a2 a3 a4 a5 h) = zseg zPP true (zcal []) (zget (999, 0, 0, 0) zc_Lw_law) (zcut zu_Lw_law) (zorc [(2355, [some (150, none), some (100, none), some (112, none), some (151, none), some (152, none), some (0, none), none, none, none], [], fun xs h => match xs with
  | [a0, a1, a2, a3, a4, a5] => c2355 a0 a1 a2 a3 a4 a5 h
  | _ => none)]) kr (fun _ _ => none) 400 515 [some (150, a0), some (100, a1), some (112, a2), some (151, a3), some (152, a4), some (0, a5), none, none, none] [] h := by rfl
set_option maxRecDepth 100000 in
theorem qe_Lw_law_515 {ρ : Type} (kr : Int → zH → Option ρ) (r28 : Int → Int → Int → Int → Int → Int → zH → Option ρ) (a0 a1 a2 a3 a4 a5 : Int) (h : zH) : Lw_law_515 kr r28 a0 a1 a2 a3 a4 a5 h = zseg zPP true (zcal []) (zget (999, 0, 0, 0) zc_Lw_law) (zcut zu_Lw_law) (zorc [(2355, [some (150, none), some (100, none), some (112, none), some (151, none), some (152, none), some (0, none), none, none, none], [], fun xs h => match xs with
  | [a0, a1, a2, a3, a4, a5] => Lw_law_2355 kr r28 a0 a1 a2 a3 a4 a5 h
  | _ => none)]) kr (fun _ _ => none) 400 515 [some (150, a0), some (100, a1), some (112, a2), some (151, a3), some (152, a4), some (0, a5), none, none, none] [] h := qg_Lw_law_515 kr r28 (Lw_law_2355 kr r28) a0 a1 a2 a3 a4 a5 h
set_option maxRecDepth 100000 in
theorem qg_Lw_law_450 {ρ : Type} (kr : Int → zH → Option ρ) (r28 : Int → Int → Int → Int → Int → Int → zH → Option ρ) (F_M_thrown : zH → (Int → zH → Option ρ) → Option ρ) (F_M_poke : Int → Int → zH → (Int → zH → Option ρ) → Option ρ) (F_Lw_poke : Int → Int → Int → Int → zH → (Int → zH → Option ρ) → Option ρ) (c515 : Int → Int → Int → Int → Int → Int → zH → Option ρ) (a0 a1 a2 a3 a4 a5 : Int) (h : zH) : (zob h 50 a0 fun p1 =>
zix (zhL h 50 p1) (wr (a5 + 1)) fun j2 =>
zob h 50 a0 fun p3 =>
zix (zhL h 50 p3) (wr (a5 + 2)) fun j4 =>
F_Lw_poke a1 (zhD h 50 p1 j2) (zhD h 50 p3 j4) a3 h  fun v5 h6 =>
zob h6 50 a0 fun p7 =>
zix (zhL h6 50 p7) (wr (a5 + 1)) fun j8 =>
zob h6 50 a0 fun p9 =>
zix (zhL h6 50 p9) (wr (a5 + 2)) fun j10 =>
zob h6 12 a2 fun _ =>
zmch h6 a2 (F_M_poke (zhD h6 50 p7 j8) (zhD h6 50 p9 j10) h6  fun v11 h12 =>
zob h12 12 a2 fun _ =>
zmch h12 a2 (F_M_thrown h12  fun v13 h14 =>
if v13 = v5 then (if v5 = 0 then (zob h14 51 a3 fun p15 =>
zix (zhL h14 51 p15) 0 fun j16 =>
if (zlcmp (zhD h14 51 p15 j16) v11) = 0 then c515 a0 a1 a2 a3 a4 a5 h14
else kr 0 h14)
else c515 a0 a1 a2 a3 a4 a5 h14)
else kr 0 h14))) = zseg zPP true (zcal [(63, [none], fun xs h kr kt => match xs with
  | [x0] => zmch h x0 (F_M_thrown h kr)
  | _ => none), (76, [none, none, none], fun xs h kr kt => match xs with
  | [x0, x1, x2] => zmch h x0 (F_M_poke x1 x2 h kr)
  | _ => none), (292, [none, none, none, none], fun xs h kr kt => match xs with
  | [x0, x1, x2, x3] => F_Lw_poke x0 x1 x2 x3 h kr
  | _ => none)]) (zget (999, 0, 0, 0) zc_Lw_law) (zcut zu_Lw_law) (zorc [(515, [some (150, none), some (100, none), some (112, none), some (151, none), some (152, none), some (0, none), none, none, none], [], fun xs h => match xs with
  | [a0, a1, a2, a3, a4, a5] => c515 a0 a1 a2 a3 a4 a5 h
  | _ => none)]) kr (fun _ _ => none) 400 450 [some (150, a0), some (100, a1), some (112, a2), some (151, a3), some (152, a4), some (0, a5), none, none, none] [] h := by rfl
set_option maxRecDepth 100000 in
theorem qe_Lw_law_450 {ρ : Type} (kr : Int → zH → Option ρ) (r28 : Int → Int → Int → Int → Int → Int → zH → Option ρ) (a0 a1 a2 a3 a4 a5 : Int) (h : zH) : Lw_law_450 kr r28 a0 a1 a2 a3 a4 a5 h = zseg zPP true (zcal [(63, [none], fun xs h kr kt => match xs with
  | [x0] => zmch h x0 (M_thrown h kr)
  | _ => none), (76, [none, none, none], fun xs h kr kt => match xs with
  | [x0, x1, x2] => zmch h x0 (M_poke x1 x2 h kr)
  | _ => none), (292, [none, none, none, none], fun xs h kr kt => match xs with
  | [x0, x1, x2, x3] => Lw_poke x0 x1 x2 x3 h kr
  | _ => none)]) (zget (999, 0, 0, 0) zc_Lw_law) (zcut zu_Lw_law) (zorc [(515, [some (150, none), some (100, none), some (112, none), some (151, none), some (152, none), some (0, none), none, none, none], [], fun xs h => match xs with
  | [a0, a1, a2, a3, a4, a5] => Lw_law_515 kr r28 a0 a1 a2 a3 a4 a5 h
  | _ => none)]) kr (fun _ _ => none) 400 450 [some (150, a0), some (100, a1), some (112, a2), some (151, a3), some (152, a4), some (0, a5), none, none, none] [] h := qg_Lw_law_450 kr r28 M_thrown M_poke Lw_poke (Lw_law_515 kr r28) a0 a1 a2 a3 a4 a5 h
set_option maxRecDepth 100000 in
theorem qg_Lw_law_571 {ρ : Type} (kr : Int → zH → Option ρ) (r28 : Int → Int → Int → Int → Int → Int → zH → Option ρ) (c2355 : Int → Int → Int → Int → Int → Int → zH → Option ρ) (a0 a1 a2 a3 a4 a5 : Int) (h : zH) : (c2355 a0 a1 a2 a3 a4 a5 h) = zseg zPP true (zcal []) (zget (999, 0, 0, 0) zc_Lw_law) (zcut zu_Lw_law) (zorc [(2355, [some (150, none), some (100, none), some (112, none), some (151, none), some (152, none), some (0, none), none, none, none], [], fun xs h => match xs with
  | [a0, a1, a2, a3, a4, a5] => c2355 a0 a1 a2 a3 a4 a5 h
  | _ => none)]) kr (fun _ _ => none) 400 571 [some (150, a0), some (100, a1), some (112, a2), some (151, a3), some (152, a4), some (0, a5), none, none, none] [] h := by rfl
set_option maxRecDepth 100000 in
theorem qe_Lw_law_571 {ρ : Type} (kr : Int → zH → Option ρ) (r28 : Int → Int → Int → Int → Int → Int → zH → Option ρ) (a0 a1 a2 a3 a4 a5 : Int) (h : zH) : Lw_law_571 kr r28 a0 a1 a2 a3 a4 a5 h = zseg zPP true (zcal []) (zget (999, 0, 0, 0) zc_Lw_law) (zcut zu_Lw_law) (zorc [(2355, [some (150, none), some (100, none), some (112, none), some (151, none), some (152, none), some (0, none), none, none, none], [], fun xs h => match xs with
  | [a0, a1, a2, a3, a4, a5] => Lw_law_2355 kr r28 a0 a1 a2 a3 a4 a5 h
  | _ => none)]) kr (fun _ _ => none) 400 571 [some (150, a0), some (100, a1), some (112, a2), some (151, a3), some (152, a4), some (0, a5), none, none, none] [] h := qg_Lw_law_571 kr r28 (Lw_law_2355 kr r28) a0 a1 a2 a3 a4 a5 h
set_option maxRecDepth 100000 in
theorem qg_Lw_law_518 {ρ : Type} (kr : Int → zH → Option ρ) (r28 : Int → Int → Int → Int → Int → Int → zH → Option ρ) (F_M_thrown : zH → (Int → zH → Option ρ) → Option ρ) (F_M_peek : Int → zH → (Int → zH → Option ρ) → Option ρ) (F_Lw_peek : Int → Int → Int → zH → (Int → zH → Option ρ) → Option ρ) (c571 : Int → Int → Int → Int → Int → Int → zH → Option ρ) (a0 a1 a2 a3 a4 a5 : Int) (h : zH) : (zob h 50 a0 fun p1 =>
zix (zhL h 50 p1) (wr (a5 + 1)) fun j2 =>
F_Lw_peek a1 (zhD h 50 p1 j2) a3 h  fun v3 h4 =>
zob h4 50 a0 fun p5 =>
zix (zhL h4 50 p5) (wr (a5 + 1)) fun j6 =>
zob h4 12 a2 fun _ =>
zmch h4 a2 (F_M_peek (zhD h4 50 p5 j6) h4  fun v7 h8 =>
zob h8 12 a2 fun _ =>
zmch h8 a2 (F_M_thrown h8  fun v9 h10 =>
if v9 = v3 then (if v3 = 0 then (zob h10 51 a3 fun p11 =>
zix (zhL h10 51 p11) 0 fun j12 =>
if (zlcmp (zhD h10 51 p11 j12) v7) = 0 then c571 a0 a1 a2 a3 a4 a5 h10
else kr 0 h10)
else c571 a0 a1 a2 a3 a4 a5 h10)
else kr 0 h10))) = zseg zPP true (zcal [(63, [none], fun xs h kr kt => match xs with
  | [x0] => zmch h x0 (F_M_thrown h kr)
  | _ => none), (77, [none, none], fun xs h kr kt => match xs with
  | [x0, x1] => zmch h x0 (F_M_peek x1 h kr)
  | _ => none), (293, [none, none, none], fun xs h kr kt => match xs with
  | [x0, x1, x2] => F_Lw_peek x0 x1 x2 h kr
  | _ => none)]) (zget (999, 0, 0, 0) zc_Lw_law) (zcut zu_Lw_law) (zorc [(571, [some (150, none), some (100, none), some (112, none), some (151, none), some (152, none), some (0, none), none, none, none], [], fun xs h => match xs with
  | [a0, a1, a2, a3, a4, a5] => c571 a0 a1 a2 a3 a4 a5 h
  | _ => none)]) kr (fun _ _ => none) 400 518 [some (150, a0), some (100, a1), some (112, a2), some (151, a3), some (152, a4), some (0, a5), none, none, none] [] h := by rfl
set_option maxRecDepth 100000 in
theorem qe_Lw_law_518 {ρ : Type} (kr : Int → zH → Option ρ) (r28 : Int → Int → Int → Int → Int → Int → zH → Option ρ) (a0 a1 a2 a3 a4 a5 : Int) (h : zH) : Lw_law_518 kr r28 a0 a1 a2 a3 a4 a5 h = zseg zPP true (zcal [(63, [none], fun xs h kr kt => match xs with
  | [x0] => zmch h x0 (M_thrown h kr)
  | _ => none), (77, [none, none], fun xs h kr kt => match xs with
  | [x0, x1] => zmch h x0 (M_peek x1 h kr)
  | _ => none), (293, [none, none, none], fun xs h kr kt => match xs with
  | [x0, x1, x2] => Lw_peek x0 x1 x2 h kr
  | _ => none)]) (zget (999, 0, 0, 0) zc_Lw_law) (zcut zu_Lw_law) (zorc [(571, [some (150, none), some (100, none), some (112, none), some (151, none), some (152, none), some (0, none), none, none, none], [], fun xs h => match xs with
  | [a0, a1, a2, a3, a4, a5] => Lw_law_571 kr r28 a0 a1 a2 a3 a4 a5 h
  | _ => none)]) kr (fun _ _ => none) 400 518 [some (150, a0), some (100, a1), some (112, a2), some (151, a3), some (152, a4), some (0, a5), none, none, none] [] h := qg_Lw_law_518 kr r28 M_thrown M_peek Lw_peek (Lw_law_571 kr r28) a0 a1 a2 a3 a4 a5 h
set_option maxRecDepth 100000 in
theorem qg_Lw_law_675 {ρ : Type} (kr : Int → zH → Option ρ) (r28 : Int → Int → Int → Int → Int → Int → zH → Option ρ) (c2355 : Int → Int → Int → Int → Int → Int → zH → Option ρ) (a0 a1 a2 a3 a4 a5 : Int) (h : zH) : (c2355 a0 a1 a2 a3 a4 a5 h) = zseg zPP true (zcal []) (zget (999, 0, 0, 0) zc_Lw_law) (zcut zu_Lw_law) (zorc [(2355, [some (150, none), some (100, none), some (112, none), some (151, none), some (152, none), some (0, none), none, none, none], [], fun xs h => match xs with
  | [a0, a1, a2, a3, a4, a5] => c2355 a0 a1 a2 a3 a4 a5 h
  | _ => none)]) kr (fun _ _ => none) 400 675 [some (150, a0), some (100, a1), some (112, a2), some (151, a3), some (152, a4), some (0, a5), none, none, none] [] h := by rfl
set_option maxRecDepth 100000 in
theorem qe_Lw_law_675 {ρ : Type} (kr : Int → zH → Option ρ) (r28 : Int → Int → Int → Int → Int → Int → zH → Option ρ) (a0 a1 a2 a3 a4 a5 : Int) (h : zH) : Lw_law_675 kr r28 a0 a1 a2 a3 a4 a5 h = zseg zPP true (zcal []) (zget (999, 0, 0, 0) zc_Lw_law) (zcut zu_Lw_law) (zorc [(2355, [some (150, none), some (100, none), some (112, none), some (151, none), some (152, none), some (0, none), none, none, none], [], fun xs h => match xs with
  | [a0, a1, a2, a3, a4, a5] => Lw_law_2355 kr r28 a0 a1 a2 a3 a4 a5 h
  | _ => none)]) kr (fun _ _ => none) 400 675 [some (150, a0), some (100, a1), some (112, a2), some (151, a3), some (152, a4), some (0, a5), none, none, none] [] h := qg_Lw_law_675 kr r28 (Lw_law_2355 kr r28) a0 a1 a2 a3 a4 a5 h
set_option maxRecDepth 100000 in
theorem qg_Lw_law_574 {ρ : Type} (kr : Int → zH → Option ρ) (r28 : Int → Int → Int → Int → Int → Int → zH → Option ρ) (F_M_thrown : zH → (Int → zH → Option ρ) → Option ρ) (F_M_launch : Int → Int → Int → Int → Int → zH → (Int → zH → Option ρ) → Option ρ) (F_Lw_launch : Int → Int → Int → Int → Int → Int → Int → zH → (Int → zH → Option ρ) → Option ρ) (c675 : Int → Int → Int → Int → Int → Int → zH → Option ρ) (a0 a1 a2 a3 a4 a5 : Int) (h : zH) : (zob h 50 a0 fun p1 =>
zix (zhL h 50 p1) (wr (a5 + 1)) fun j2 =>
zob h 50 a0 fun p3 =>
zix (zhL h 50 p3) (wr (a5 + 2)) fun j4 =>
zob h 50 a0 fun p5 =>
zix (zhL h 50 p5) (wr (a5 + 3)) fun j6 =>
zob h 50 a0 fun p7 =>
zix (zhL h 50 p7) (wr (a5 + 4)) fun j8 =>
zob h 50 a0 fun p9 =>
zix (zhL h 50 p9) (wr (a5 + 5)) fun j10 =>
F_Lw_launch a1 (zhD h 50 p1 j2) (zhD h 50 p3 j4) (zhD h 50 p5 j6) (zhD h 50 p7 j8) (zhD h 50 p9 j10) a3 h  fun v11 h12 =>
zob h12 50 a0 fun p13 =>
zix (zhL h12 50 p13) (wr (a5 + 1)) fun j14 =>
zob h12 50 a0 fun p15 =>
zix (zhL h12 50 p15) (wr (a5 + 2)) fun j16 =>
zob h12 50 a0 fun p17 =>
zix (zhL h12 50 p17) (wr (a5 + 3)) fun j18 =>
zob h12 50 a0 fun p19 =>
zix (zhL h12 50 p19) (wr (a5 + 4)) fun j20 =>
zob h12 50 a0 fun p21 =>
zix (zhL h12 50 p21) (wr (a5 + 5)) fun j22 =>
zob h12 12 a2 fun _ =>
zmch h12 a2 (F_M_launch (zhD h12 50 p13 j14) (zhD h12 50 p15 j16) (zhD h12 50 p17 j18) (zhD h12 50 p19 j20) (zhD h12 50 p21 j22) h12  fun v23 h24 =>
zob h24 12 a2 fun _ =>
zmch h24 a2 (F_M_thrown h24  fun v25 h26 =>
if v25 = v11 then (if v11 = 0 then (zob h26 51 a3 fun p27 =>
zix (zhL h26 51 p27) 0 fun j28 =>
if (zlcmp (zhD h26 51 p27 j28) v23) = 0 then c675 a0 a1 a2 a3 a4 a5 h26
else kr 0 h26)
else c675 a0 a1 a2 a3 a4 a5 h26)
else kr 0 h26))) = zseg zPP true (zcal [(63, [none], fun xs h kr kt => match xs with
  | [x0] => zmch h x0 (F_M_thrown h kr)
  | _ => none), (80, [none, none, none, none, none, none], fun xs h kr kt => match xs with
  | [x0, x1, x2, x3, x4, x5] => zmch h x0 (F_M_launch x1 x2 x3 x4 x5 h kr)
  | _ => none), (294, [none, none, none, none, none, none, none], fun xs h kr kt => match xs with
  | [x0, x1, x2, x3, x4, x5, x6] => F_Lw_launch x0 x1 x2 x3 x4 x5 x6 h kr
  | _ => none)]) (zget (999, 0, 0, 0) zc_Lw_law) (zcut zu_Lw_law) (zorc [(675, [some (150, none), some (100, none), some (112, none), some (151, none), some (152, none), some (0, none), none, none, none], [], fun xs h => match xs with
  | [a0, a1, a2, a3, a4, a5] => c675 a0 a1 a2 a3 a4 a5 h
  | _ => none)]) kr (fun _ _ => none) 400 574 [some (150, a0), some (100, a1), some (112, a2), some (151, a3), some (152, a4), some (0, a5), none, none, none] [] h := by rfl
set_option maxRecDepth 100000 in
theorem qe_Lw_law_574 {ρ : Type} (kr : Int → zH → Option ρ) (r28 : Int → Int → Int → Int → Int → Int → zH → Option ρ) (a0 a1 a2 a3 a4 a5 : Int) (h : zH) : Lw_law_574 kr r28 a0 a1 a2 a3 a4 a5 h = zseg zPP true (zcal [(63, [none], fun xs h kr kt => match xs with
  | [x0] => zmch h x0 (M_thrown h kr)
  | _ => none), (80, [none, none, none, none, none, none], fun xs h kr kt => match xs with
  | [x0, x1, x2, x3, x4, x5] => zmch h x0 (M_launch x1 x2 x3 x4 x5 h kr)
  | _ => none), (294, [none, none, none, none, none, none, none], fun xs h kr kt => match xs with
  | [x0, x1, x2, x3, x4, x5, x6] => Lw_launch x0 x1 x2 x3 x4 x5 x6 h kr
  | _ => none)]) (zget (999, 0, 0, 0) zc_Lw_law) (zcut zu_Lw_law) (zorc [(675, [some (150, none), some (100, none), some (112, none), some (151, none), some (152, none), some (0, none), none, none, none], [], fun xs h => match xs with
  | [a0, a1, a2, a3, a4, a5] => Lw_law_675 kr r28 a0 a1 a2 a3 a4 a5 h
  | _ => none)]) kr (fun _ _ => none) 400 574 [some (150, a0), some (100, a1), some (112, a2), some (151, a3), some (152, a4), some (0, a5), none, none, none] [] h := qg_Lw_law_574 kr r28 M_thrown M_launch Lw_launch (Lw_law_675 kr r28) a0 a1 a2 a3 a4 a5 h
set_option maxRecDepth 100000 in
theorem qg_Lw_law_779 {ρ : Type} (kr : Int → zH → Option ρ) (r28 : Int → Int → Int → Int → Int → Int → zH → Option ρ) (c2355 : Int → Int → Int → Int → Int → Int → zH → Option ρ) (a0 a1 a2 a3 a4 a5 : Int) (h : zH) : (c2355 a0 a1 a2 a3 a4 a5 h) = zseg zPP true (zcal []) (zget (999, 0, 0, 0) zc_Lw_law) (zcut zu_Lw_law) (zorc [(2355, [some (150, none), some (100, none), some (112, none), some (151, none), some (152, none), some (0, none), none, none, none], [], fun xs h => match xs with
  | [a0, a1, a2, a3, a4, a5] => c2355 a0 a1 a2 a3 a4 a5 h
  | _ => none)]) kr (fun _ _ => none) 400 779 [some (150, a0), some (100, a1), some (112, a2), some (151, a3), some (152, a4), some (0, a5), none, none, none] [] h := by rfl
set_option maxRecDepth 100000 in
theorem qe_Lw_law_779 {ρ : Type} (kr : Int → zH → Option ρ) (r28 : Int → Int → Int → Int → Int → Int → zH → Option ρ) (a0 a1 a2 a3 a4 a5 : Int) (h : zH) : Lw_law_779 kr r28 a0 a1 a2 a3 a4 a5 h = zseg zPP true (zcal []) (zget (999, 0, 0, 0) zc_Lw_law) (zcut zu_Lw_law) (zorc [(2355, [some (150, none), some (100, none), some (112, none), some (151, none), some (152, none), some (0, none), none, none, none], [], fun xs h => match xs with
  | [a0, a1, a2, a3, a4, a5] => Lw_law_2355 kr r28 a0 a1 a2 a3 a4 a5 h
  | _ => none)]) kr (fun _ _ => none) 400 779 [some (150, a0), some (100, a1), some (112, a2), some (151, a3), some (152, a4), some (0, a5), none, none, none] [] h := qg_Lw_law_779 kr r28 (Lw_law_2355 kr r28) a0 a1 a2 a3 a4 a5 h
set_option maxRecDepth 100000 in
theorem qg_Lw_law_678 {ρ : Type} (kr : Int → zH → Option ρ) (r28 : Int → Int → Int → Int → Int → Int → zH → Option ρ) (F_M_thrown : zH → (Int → zH → Option ρ) → Option ρ) (F_M_copy : Int → Int → Int → Int → Int → zH → (Int → zH → Option ρ) → Option ρ) (F_Lw_copy : Int → Int → Int → Int → Int → Int → Int → zH → (Int → zH → Option ρ) → Option ρ) (c779 : Int → Int → Int → Int → Int → Int → zH → Option ρ) (a0 a1 a2 a3 a4 a5 : Int) (h : zH) : (zob h 50 a0 fun p1 =>
zix (zhL h 50 p1) (wr (a5 + 1)) fun j2 =>
zob h 50 a0 fun p3 =>
zix (zhL h 50 p3) (wr (a5 + 2)) fun j4 =>
zob h 50 a0 fun p5 =>
zix (zhL h 50 p5) (wr (a5 + 3)) fun j6 =>
zob h 50 a0 fun p7 =>
zix (zhL h 50 p7) (wr (a5 + 4)) fun j8 =>
zob h 50 a0 fun p9 =>
zix (zhL h 50 p9) (wr (a5 + 5)) fun j10 =>
F_Lw_copy a1 (zhD h 50 p1 j2) (zhD h 50 p3 j4) (zhD h 50 p5 j6) (zhD h 50 p7 j8) (zhD h 50 p9 j10) a3 h  fun v11 h12 =>
zob h12 50 a0 fun p13 =>
zix (zhL h12 50 p13) (wr (a5 + 1)) fun j14 =>
zob h12 50 a0 fun p15 =>
zix (zhL h12 50 p15) (wr (a5 + 2)) fun j16 =>
zob h12 50 a0 fun p17 =>
zix (zhL h12 50 p17) (wr (a5 + 3)) fun j18 =>
zob h12 50 a0 fun p19 =>
zix (zhL h12 50 p19) (wr (a5 + 4)) fun j20 =>
zob h12 50 a0 fun p21 =>
zix (zhL h12 50 p21) (wr (a5 + 5)) fun j22 =>
zob h12 12 a2 fun _ =>
zmch h12 a2 (F_M_copy (zhD h12 50 p13 j14) (zhD h12 50 p15 j16) (zhD h12 50 p17 j18) (zhD h12 50 p19 j20) (zhD h12 50 p21 j22) h12  fun v23 h24 =>
zob h24 12 a2 fun _ =>
zmch h24 a2 (F_M_thrown h24  fun v25 h26 =>
if v25 = v11 then (if v11 = 0 then (zob h26 51 a3 fun p27 =>
zix (zhL h26 51 p27) 0 fun j28 =>
if (zlcmp (zhD h26 51 p27 j28) v23) = 0 then c779 a0 a1 a2 a3 a4 a5 h26
else kr 0 h26)
else c779 a0 a1 a2 a3 a4 a5 h26)
else kr 0 h26))) = zseg zPP true (zcal [(63, [none], fun xs h kr kt => match xs with
  | [x0] => zmch h x0 (F_M_thrown h kr)
  | _ => none), (81, [none, none, none, none, none, none], fun xs h kr kt => match xs with
  | [x0, x1, x2, x3, x4, x5] => zmch h x0 (F_M_copy x1 x2 x3 x4 x5 h kr)
  | _ => none), (295, [none, none, none, none, none, none, none], fun xs h kr kt => match xs with
  | [x0, x1, x2, x3, x4, x5, x6] => F_Lw_copy x0 x1 x2 x3 x4 x5 x6 h kr
  | _ => none)]) (zget (999, 0, 0, 0) zc_Lw_law) (zcut zu_Lw_law) (zorc [(779, [some (150, none), some (100, none), some (112, none), some (151, none), some (152, none), some (0, none), none, none, none], [], fun xs h => match xs with
  | [a0, a1, a2, a3, a4, a5] => c779 a0 a1 a2 a3 a4 a5 h
  | _ => none)]) kr (fun _ _ => none) 400 678 [some (150, a0), some (100, a1), some (112, a2), some (151, a3), some (152, a4), some (0, a5), none, none, none] [] h := by rfl
set_option maxRecDepth 100000 in
theorem qe_Lw_law_678 {ρ : Type} (kr : Int → zH → Option ρ) (r28 : Int → Int → Int → Int → Int → Int → zH → Option ρ) (a0 a1 a2 a3 a4 a5 : Int) (h : zH) : Lw_law_678 kr r28 a0 a1 a2 a3 a4 a5 h = zseg zPP true (zcal [(63, [none], fun xs h kr kt => match xs with
  | [x0] => zmch h x0 (M_thrown h kr)
  | _ => none), (81, [none, none, none, none, none, none], fun xs h kr kt => match xs with
  | [x0, x1, x2, x3, x4, x5] => zmch h x0 (M_copy x1 x2 x3 x4 x5 h kr)
  | _ => none), (295, [none, none, none, none, none, none, none], fun xs h kr kt => match xs with
  | [x0, x1, x2, x3, x4, x5, x6] => Lw_copy x0 x1 x2 x3 x4 x5 x6 h kr
  | _ => none)]) (zget (999, 0, 0, 0) zc_Lw_law) (zcut zu_Lw_law) (zorc [(779, [some (150, none), some (100, none), some (112, none), some (151, none), some (152, none), some (0, none), none, none, none], [], fun xs h => match xs with
  | [a0, a1, a2, a3, a4, a5] => Lw_law_779 kr r28 a0 a1 a2 a3 a4 a5 h
  | _ => none)]) kr (fun _ _ => none) 400 678 [some (150, a0), some (100, a1), some (112, a2), some (151, a3), some (152, a4), some (0, a5), none, none, none] [] h := qg_Lw_law_678 kr r28 M_thrown M_copy Lw_copy (Lw_law_779 kr r28) a0 a1 a2 a3 a4 a5 h
set_option maxRecDepth 100000 in
theorem qg_Lw_law_782 {ρ : Type} (kr : Int → zH → Option ρ) (r28 : Int → Int → Int → Int → Int → Int → zH → Option ρ) (F_X_launches : Int → zH → (Int → zH → Option ρ) → Option ρ) (F_M_launches : zH → (Int → zH → Option ρ) → Option ρ) (c2355 : Int → Int → Int → Int → Int → Int → zH → Option ρ) (a0 a1 a2 a3 a4 a5 : Int) (h : zH) : (zob h 0 a1 fun _ =>
F_X_launches a1 h  fun v1 h2 =>
zob h2 12 a2 fun _ =>
zmch h2 a2 (F_M_launches h2  fun v3 h4 =>
if v1 = v3 then c2355 a0 a1 a2 a3 a4 a5 h4
else kr 0 h4)) = zseg zPP true (zcal [(17, [none], fun xs h kr kt => match xs with
  | [x0] => F_X_launches x0 h kr
  | _ => none), (83, [none], fun xs h kr kt => match xs with
  | [x0] => zmch h x0 (F_M_launches h kr)
  | _ => none)]) (zget (999, 0, 0, 0) zc_Lw_law) (zcut zu_Lw_law) (zorc [(2355, [some (150, none), some (100, none), some (112, none), some (151, none), some (152, none), some (0, none), none, none, none], [], fun xs h => match xs with
  | [a0, a1, a2, a3, a4, a5] => c2355 a0 a1 a2 a3 a4 a5 h
  | _ => none)]) kr (fun _ _ => none) 400 782 [some (150, a0), some (100, a1), some (112, a2), some (151, a3), some (152, a4), some (0, a5), none, none, none] [] h := by rfl
set_option maxRecDepth 100000 in
theorem qe_Lw_law_782 {ρ : Type} (kr : Int → zH → Option ρ) (r28 : Int → Int → Int → Int → Int → Int → zH → Option ρ) (a0 a1 a2 a3 a4 a5 : Int) (h : zH) : Lw_law_782 kr r28 a0 a1 a2 a3 a4 a5 h = zseg zPP true (zcal [(17, [none], fun xs h kr kt => match xs with
  | [x0] => X_launches x0 h kr
  | _ => none), (83, [none], fun xs h kr kt => match xs with
  | [x0] => zmch h x0 (M_launches h kr)
  | _ => none)]) (zget (999, 0, 0, 0) zc_Lw_law) (zcut zu_Lw_law) (zorc [(2355, [some (150, none), some (100, none), some (112, none), some (151, none), some (152, none), some (0, none), none, none, none], [], fun xs h => match xs with
  | [a0, a1, a2, a3, a4, a5] => Lw_law_2355 kr r28 a0 a1 a2 a3 a4 a5 h
  | _ => none)]) kr (fun _ _ => none) 400 782 [some (150, a0), some (100, a1), some (112, a2), some (151, a3), some (152, a4), some (0, a5), none, none, none] [] h := qg_Lw_law_782 kr r28 X_launches M_launches (Lw_law_2355 kr r28) a0 a1 a2 a3 a4 a5 h
set_option maxRecDepth 100000 in
theorem qg_Lw_law_848 {ρ : Type} (kr : Int → zH → Option ρ) (r28 : Int → Int → Int → Int → Int → Int → zH → Option ρ) (c2355 : Int → Int → Int → Int → Int → Int → zH → Option ρ) (a0 a1 a2 a3 a4 a5 : Int) (h : zH) : (c2355 a0 a1 a2 a3 a4 a5 h) = zseg zPP true (zcal []) (zget (999, 0, 0, 0) zc_Lw_law) (zcut zu_Lw_law) (zorc [(2355, [some (150, none), some (100, none), some (112, none), some (151, none), some (152, none), some (0, none), none, none, none], [], fun xs h => match xs with
  | [a0, a1, a2, a3, a4, a5] => c2355 a0 a1 a2 a3 a4 a5 h
  | _ => none)]) kr (fun _ _ => none) 400 848 [some (150, a0), some (100, a1), some (112, a2), some (151, a3), some (152, a4), some (0, a5), none, none, none] [] h := by rfl
set_option maxRecDepth 100000 in
theorem qe_Lw_law_848 {ρ : Type} (kr : Int → zH → Option ρ) (r28 : Int → Int → Int → Int → Int → Int → zH → Option ρ) (a0 a1 a2 a3 a4 a5 : Int) (h : zH) : Lw_law_848 kr r28 a0 a1 a2 a3 a4 a5 h = zseg zPP true (zcal []) (zget (999, 0, 0, 0) zc_Lw_law) (zcut zu_Lw_law) (zorc [(2355, [some (150, none), some (100, none), some (112, none), some (151, none), some (152, none), some (0, none), none, none, none], [], fun xs h => match xs with
  | [a0, a1, a2, a3, a4, a5] => Lw_law_2355 kr r28 a0 a1 a2 a3 a4 a5 h
  | _ => none)]) kr (fun _ _ => none) 400 848 [some (150, a0), some (100, a1), some (112, a2), some (151, a3), some (152, a4), some (0, a5), none, none, none] [] h := qg_Lw_law_848 kr r28 (Lw_law_2355 kr r28) a0 a1 a2 a3 a4 a5 h
set_option maxRecDepth 100000 in
theorem qg_Lw_law_795 {ρ : Type} (kr : Int → zH → Option ρ) (r28 : Int → Int → Int → Int → Int → Int → zH → Option ρ) (F_M_thrown : zH → (Int → zH → Option ρ) → Option ρ) (F_M_state : Int → zH → (Int → zH → Option ρ) → Option ρ) (F_Lw_state : Int → Int → Int → zH → (Int → zH → Option ρ) → Option ρ) (c848 : Int → Int → Int → Int → Int → Int → zH → Option ρ) (a0 a1 a2 a3 a4 a5 : Int) (h : zH) : (zob h 50 a0 fun p1 =>
zix (zhL h 50 p1) (wr (a5 + 1)) fun j2 =>
F_Lw_state a1 (zhD h 50 p1 j2) a3 h  fun v3 h4 =>
zob h4 50 a0 fun p5 =>
zix (zhL h4 50 p5) (wr (a5 + 1)) fun j6 =>
zob h4 12 a2 fun _ =>
zmch h4 a2 (F_M_state (zhD h4 50 p5 j6) h4  fun v7 h8 =>
zob h8 12 a2 fun _ =>
zmch h8 a2 (F_M_thrown h8  fun v9 h10 =>
if v9 = v3 then (if v3 = 0 then (zob h10 51 a3 fun p11 =>
zix (zhL h10 51 p11) 0 fun j12 =>
if (zlcmp (zhD h10 51 p11 j12) v7) = 0 then c848 a0 a1 a2 a3 a4 a5 h10
else kr 0 h10)
else c848 a0 a1 a2 a3 a4 a5 h10)
else kr 0 h10))) = zseg zPP true (zcal [(63, [none], fun xs h kr kt => match xs with
  | [x0] => zmch h x0 (F_M_thrown h kr)
  | _ => none), (84, [none, none], fun xs h kr kt => match xs with
  | [x0, x1] => zmch h x0 (F_M_state x1 h kr)
  | _ => none), (296, [none, none, none], fun xs h kr kt => match xs with
  | [x0, x1, x2] => F_Lw_state x0 x1 x2 h kr
  | _ => none)]) (zget (999, 0, 0, 0) zc_Lw_law) (zcut zu_Lw_law) (zorc [(848, [some (150, none), some (100, none), some (112, none), some (151, none), some (152, none), some (0, none), none, none, none], [], fun xs h => match xs with
  | [a0, a1, a2, a3, a4, a5] => c848 a0 a1 a2 a3 a4 a5 h
  | _ => none)]) kr (fun _ _ => none) 400 795 [some (150, a0), some (100, a1), some (112, a2), some (151, a3), some (152, a4), some (0, a5), none, none, none] [] h := by rfl
set_option maxRecDepth 100000 in
theorem qe_Lw_law_795 {ρ : Type} (kr : Int → zH → Option ρ) (r28 : Int → Int → Int → Int → Int → Int → zH → Option ρ) (a0 a1 a2 a3 a4 a5 : Int) (h : zH) : Lw_law_795 kr r28 a0 a1 a2 a3 a4 a5 h = zseg zPP true (zcal [(63, [none], fun xs h kr kt => match xs with
  | [x0] => zmch h x0 (M_thrown h kr)
  | _ => none), (84, [none, none], fun xs h kr kt => match xs with
  | [x0, x1] => zmch h x0 (M_state x1 h kr)
  | _ => none), (296, [none, none, none], fun xs h kr kt => match xs with
  | [x0, x1, x2] => Lw_state x0 x1 x2 h kr
  | _ => none)]) (zget (999, 0, 0, 0) zc_Lw_law) (zcut zu_Lw_law) (zorc [(848, [some (150, none), some (100, none), some (112, none), some (151, none), some (152, none), some (0, none), none, none, none], [], fun xs h => match xs with
  | [a0, a1, a2, a3, a4, a5] => Lw_law_848 kr r28 a0 a1 a2 a3 a4 a5 h
  | _ => none)]) kr (fun _ _ => none) 400 795 [some (150, a0), some (100, a1), some (112, a2), some (151, a3), some (152, a4), some (0, a5), none, none, none] [] h := qg_Lw_law_795 kr r28 M_thrown M_state Lw_state (Lw_law_848 kr r28) a0 a1 a2 a3 a4 a5 h
set_option maxRecDepth 100000 in
theorem qg_Lw_law_904 {ρ : Type} (kr : Int → zH → Option ρ) (r28 : Int → Int → Int → Int → Int → Int → zH → Option ρ) (c2355 : Int → Int → Int → Int → Int → Int → zH → Option ρ) (a0 a1 a2 a3 a4 a5 : Int) (h : zH) : (c2355 a0 a1 a2 a3 a4 a5 h) = zseg zPP true (zcal []) (zget (999, 0, 0, 0) zc_Lw_law) (zcut zu_Lw_law) (zorc [(2355, [some (150, none), some (100, none), some (112, none), some (151, none), some (152, none), some (0, none), none, none, none], [], fun xs h => match xs with
  | [a0, a1, a2, a3, a4, a5] => c2355 a0 a1 a2 a3 a4 a5 h
  | _ => none)]) kr (fun _ _ => none) 400 904 [some (150, a0), some (100, a1), some (112, a2), some (151, a3), some (152, a4), some (0, a5), none, none, none] [] h := by rfl
set_option maxRecDepth 100000 in
theorem qe_Lw_law_904 {ρ : Type} (kr : Int → zH → Option ρ) (r28 : Int → Int → Int → Int → Int → Int → zH → Option ρ) (a0 a1 a2 a3 a4 a5 : Int) (h : zH) : Lw_law_904 kr r28 a0 a1 a2 a3 a4 a5 h = zseg zPP true (zcal []) (zget (999, 0, 0, 0) zc_Lw_law) (zcut zu_Lw_law) (zorc [(2355, [some (150, none), some (100, none), some (112, none), some (151, none), some (152, none), some (0, none), none, none, none], [], fun xs h => match xs with
  | [a0, a1, a2, a3, a4, a5] => Lw_law_2355 kr r28 a0 a1 a2 a3 a4 a5 h
  | _ => none)]) kr (fun _ _ => none) 400 904 [some (150, a0), some (100, a1), some (112, a2), some (151, a3), some (152, a4), some (0, a5), none, none, none] [] h := qg_Lw_law_904 kr r28 (Lw_law_2355 kr r28) a0 a1 a2 a3 a4 a5 h
set_option maxRecDepth 100000 in
theorem qg_Lw_law_851 {ρ : Type} (kr : Int → zH → Option ρ) (r28 : Int → Int → Int → Int → Int → Int → zH → Option ρ) (F_M_thrown : zH → (Int → zH → Option ρ) → Option ρ) (F_M_parent : Int → zH → (Int → zH → Option ρ) → Option ρ) (F_Lw_parent : Int → Int → Int → zH → (Int → zH → Option ρ) → Option ρ) (c904 : Int → Int → Int → Int → Int → Int → zH → Option ρ) (a0 a1 a2 a3 a4 a5 : Int) (h : zH) : (zob h 50 a0 fun p1 =>
zix (zhL h 50 p1) (wr (a5 + 1)) fun j2 =>
F_Lw_parent a1 (zhD h 50 p1 j2) a3 h  fun v3 h4 =>
zob h4 50 a0 fun p5 =>
zix (zhL h4 50 p5) (wr (a5 + 1)) fun j6 =>
zob h4 12 a2 fun _ =>
zmch h4 a2 (F_M_parent (zhD h4 50 p5 j6) h4  fun v7 h8 =>
zob h8 12 a2 fun _ =>
zmch h8 a2 (F_M_thrown h8  fun v9 h10 =>
if v9 = v3 then (if v3 = 0 then (zob h10 51 a3 fun p11 =>
zix (zhL h10 51 p11) 0 fun j12 =>
if (zlcmp (zhD h10 51 p11 j12) v7) = 0 then c904 a0 a1 a2 a3 a4 a5 h10
else kr 0 h10)
else c904 a0 a1 a2 a3 a4 a5 h10)
else kr 0 h10))) = zseg zPP true (zcal [(63, [none], fun xs h kr kt => match xs with
  | [x0] => zmch h x0 (F_M_thrown h kr)
  | _ => none), (85, [none, none], fun xs h kr kt => match xs with
  | [x0, x1] => zmch h x0 (F_M_parent x1 h kr)
  | _ => none), (297, [none, none, none], fun xs h kr kt => match xs with
  | [x0, x1, x2] => F_Lw_parent x0 x1 x2 h kr
  | _ => none)]) (zget (999, 0, 0, 0) zc_Lw_law) (zcut zu_Lw_law) (zorc [(904, [some (150, none), some (100, none), some (112, none), some (151, none), some (152, none), some (0, none), none, none, none], [], fun xs h => match xs with
  | [a0, a1, a2, a3, a4, a5] => c904 a0 a1 a2 a3 a4 a5 h
  | _ => none)]) kr (fun _ _ => none) 400 851 [some (150, a0), some (100, a1), some (112, a2), some (151, a3), some (152, a4), some (0, a5), none, none, none] [] h := by rfl
set_option maxRecDepth 100000 in
theorem qe_Lw_law_851 {ρ : Type} (kr : Int → zH → Option ρ) (r28 : Int → Int → Int → Int → Int → Int → zH → Option ρ) (a0 a1 a2 a3 a4 a5 : Int) (h : zH) : Lw_law_851 kr r28 a0 a1 a2 a3 a4 a5 h = zseg zPP true (zcal [(63, [none], fun xs h kr kt => match xs with
  | [x0] => zmch h x0 (M_thrown h kr)
  | _ => none), (85, [none, none], fun xs h kr kt => match xs with
  | [x0, x1] => zmch h x0 (M_parent x1 h kr)
  | _ => none), (297, [none, none, none], fun xs h kr kt => match xs with
  | [x0, x1, x2] => Lw_parent x0 x1 x2 h kr
  | _ => none)]) (zget (999, 0, 0, 0) zc_Lw_law) (zcut zu_Lw_law) (zorc [(904, [some (150, none), some (100, none), some (112, none), some (151, none), some (152, none), some (0, none), none, none, none], [], fun xs h => match xs with
  | [a0, a1, a2, a3, a4, a5] => Lw_law_904 kr r28 a0 a1 a2 a3 a4 a5 h
  | _ => none)]) kr (fun _ _ => none) 400 851 [some (150, a0), some (100, a1), some (112, a2), some (151, a3), some (152, a4), some (0, a5), none, none, none] [] h := qg_Lw_law_851 kr r28 M_thrown M_parent Lw_parent (Lw_law_904 kr r28) a0 a1 a2 a3 a4 a5 h
set_option maxRecDepth 100000 in
theorem qg_Lw_law_960 {ρ : Type} (kr : Int → zH → Option ρ) (r28 : Int → Int → Int → Int → Int → Int → zH → Option ρ) (c2355 : Int → Int → Int → Int → Int → Int → zH → Option ρ) (a0 a1 a2 a3 a4 a5 : Int) (h : zH) : (c2355 a0 a1 a2 a3 a4 a5 h) = zseg zPP true (zcal []) (zget (999, 0, 0, 0) zc_Lw_law) (zcut zu_Lw_law) (zorc [(2355, [some (150, none), some (100, none), some (112, none), some (151, none), some (152, none), some (0, none), none, none, none], [], fun xs h => match xs with
  | [a0, a1, a2, a3, a4, a5] => c2355 a0 a1 a2 a3 a4 a5 h
  | _ => none)]) kr (fun _ _ => none) 400 960 [some (150, a0), some (100, a1), some (112, a2), some (151, a3), some (152, a4), some (0, a5), none, none, none] [] h := by rfl
set_option maxRecDepth 100000 in
theorem qe_Lw_law_960 {ρ : Type} (kr : Int → zH → Option ρ) (r28 : Int → Int → Int → Int → Int → Int → zH → Option ρ) (a0 a1 a2 a3 a4 a5 : Int) (h : zH) : Lw_law_960 kr r28 a0 a1 a2 a3 a4 a5 h = zseg zPP true (zcal []) (zget (999, 0, 0, 0) zc_Lw_law) (zcut zu_Lw_law) (zorc [(2355, [some (150, none), some (100, none), some (112, none), some (151, none), some (152, none), some (0, none), none, none, none], [], fun xs h => match xs with
  | [a0, a1, a2, a3, a4, a5] => Lw_law_2355 kr r28 a0 a1 a2 a3 a4 a5 h
  | _ => none)]) kr (fun _ _ => none) 400 960 [some (150, a0), some (100, a1), some (112, a2), some (151, a3), some (152, a4), some (0, a5), none, none, none] [] h := qg_Lw_law_960 kr r28 (Lw_law_2355 kr r28) a0 a1 a2 a3 a4 a5 h
set_option maxRecDepth 100000 in
theorem qg_Lw_law_907 {ρ : Type} (kr : Int → zH → Option ρ) (r28 : Int → Int → Int → Int → Int → Int → zH → Option ρ) (F_M_thrown : zH → (Int → zH → Option ρ) → Option ρ) (F_M_given : Int → zH → (Int → zH → Option ρ) → Option ρ) (F_Lw_given : Int → Int → Int → zH → (Int → zH → Option ρ) → Option ρ) (c960 : Int → Int → Int → Int → Int → Int → zH → Option ρ) (a0 a1 a2 a3 a4 a5 : Int) (h : zH) : (zob h 50 a0 fun p1 =>
zix (zhL h 50 p1) (wr (a5 + 1)) fun j2 =>
F_Lw_given a1 (zhD h 50 p1 j2) a3 h  fun v3 h4 =>
zob h4 50 a0 fun p5 =>
zix (zhL h4 50 p5) (wr (a5 + 1)) fun j6 =>
zob h4 12 a2 fun _ =>
zmch h4 a2 (F_M_given (zhD h4 50 p5 j6) h4  fun v7 h8 =>
zob h8 12 a2 fun _ =>
zmch h8 a2 (F_M_thrown h8  fun v9 h10 =>
if v9 = v3 then (if v3 = 0 then (zob h10 51 a3 fun p11 =>
zix (zhL h10 51 p11) 0 fun j12 =>
if (zlcmp (zhD h10 51 p11 j12) v7) = 0 then c960 a0 a1 a2 a3 a4 a5 h10
else kr 0 h10)
else c960 a0 a1 a2 a3 a4 a5 h10)
else kr 0 h10))) = zseg zPP true (zcal [(63, [none], fun xs h kr kt => match xs with
  | [x0] => zmch h x0 (F_M_thrown h kr)
  | _ => none), (86, [none, none], fun xs h kr kt => match xs with
  | [x0, x1] => zmch h x0 (F_M_given x1 h kr)
  | _ => none), (298, [none, none, none], fun xs h kr kt => match xs with
  | [x0, x1, x2] => F_Lw_given x0 x1 x2 h kr
  | _ => none)]) (zget (999, 0, 0, 0) zc_Lw_law) (zcut zu_Lw_law) (zorc [(960, [some (150, none), some (100, none), some (112, none), some (151, none), some (152, none), some (0, none), none, none, none], [], fun xs h => match xs with
  | [a0, a1, a2, a3, a4, a5] => c960 a0 a1 a2 a3 a4 a5 h
  | _ => none)]) kr (fun _ _ => none) 400 907 [some (150, a0), some (100, a1), some (112, a2), some (151, a3), some (152, a4), some (0, a5), none, none, none] [] h := by rfl
set_option maxRecDepth 100000 in
theorem qe_Lw_law_907 {ρ : Type} (kr : Int → zH → Option ρ) (r28 : Int → Int → Int → Int → Int → Int → zH → Option ρ) (a0 a1 a2 a3 a4 a5 : Int) (h : zH) : Lw_law_907 kr r28 a0 a1 a2 a3 a4 a5 h = zseg zPP true (zcal [(63, [none], fun xs h kr kt => match xs with
  | [x0] => zmch h x0 (M_thrown h kr)
  | _ => none), (86, [none, none], fun xs h kr kt => match xs with
  | [x0, x1] => zmch h x0 (M_given x1 h kr)
  | _ => none), (298, [none, none, none], fun xs h kr kt => match xs with
  | [x0, x1, x2] => Lw_given x0 x1 x2 h kr
  | _ => none)]) (zget (999, 0, 0, 0) zc_Lw_law) (zcut zu_Lw_law) (zorc [(960, [some (150, none), some (100, none), some (112, none), some (151, none), some (152, none), some (0, none), none, none, none], [], fun xs h => match xs with
  | [a0, a1, a2, a3, a4, a5] => Lw_law_960 kr r28 a0 a1 a2 a3 a4 a5 h
  | _ => none)]) kr (fun _ _ => none) 400 907 [some (150, a0), some (100, a1), some (112, a2), some (151, a3), some (152, a4), some (0, a5), none, none, none] [] h := qg_Lw_law_907 kr r28 M_thrown M_given Lw_given (Lw_law_960 kr r28) a0 a1 a2 a3 a4 a5 h
set_option maxRecDepth 100000 in
theorem qg_Lw_law_1016 {ρ : Type} (kr : Int → zH → Option ρ) (r28 : Int → Int → Int → Int → Int → Int → zH → Option ρ) (c2355 : Int → Int → Int → Int → Int → Int → zH → Option ρ) (a0 a1 a2 a3 a4 a5 : Int) (h : zH) : (c2355 a0 a1 a2 a3 a4 a5 h) = zseg zPP true (zcal []) (zget (999, 0, 0, 0) zc_Lw_law) (zcut zu_Lw_law) (zorc [(2355, [some (150, none), some (100, none), some (112, none), some (151, none), some (152, none), some (0, none), none, none, none], [], fun xs h => match xs with
  | [a0, a1, a2, a3, a4, a5] => c2355 a0 a1 a2 a3 a4 a5 h
  | _ => none)]) kr (fun _ _ => none) 400 1016 [some (150, a0), some (100, a1), some (112, a2), some (151, a3), some (152, a4), some (0, a5), none, none, none] [] h := by rfl
set_option maxRecDepth 100000 in
theorem qe_Lw_law_1016 {ρ : Type} (kr : Int → zH → Option ρ) (r28 : Int → Int → Int → Int → Int → Int → zH → Option ρ) (a0 a1 a2 a3 a4 a5 : Int) (h : zH) : Lw_law_1016 kr r28 a0 a1 a2 a3 a4 a5 h = zseg zPP true (zcal []) (zget (999, 0, 0, 0) zc_Lw_law) (zcut zu_Lw_law) (zorc [(2355, [some (150, none), some (100, none), some (112, none), some (151, none), some (152, none), some (0, none), none, none, none], [], fun xs h => match xs with
  | [a0, a1, a2, a3, a4, a5] => Lw_law_2355 kr r28 a0 a1 a2 a3 a4 a5 h
  | _ => none)]) kr (fun _ _ => none) 400 1016 [some (150, a0), some (100, a1), some (112, a2), some (151, a3), some (152, a4), some (0, a5), none, none, none] [] h := qg_Lw_law_1016 kr r28 (Lw_law_2355 kr r28) a0 a1 a2 a3 a4 a5 h
set_option maxRecDepth 100000 in
theorem qg_Lw_law_963 {ρ : Type} (kr : Int → zH → Option ρ) (r28 : Int → Int → Int → Int → Int → Int → zH → Option ρ) (F_M_thrown : zH → (Int → zH → Option ρ) → Option ρ) (F_M_step : Int → zH → (Int → zH → Option ρ) → Option ρ) (F_Lw_step : Int → Int → Int → zH → (Int → zH → Option ρ) → Option ρ) (c1016 : Int → Int → Int → Int → Int → Int → zH → Option ρ) (a0 a1 a2 a3 a4 a5 : Int) (h : zH) : (zob h 50 a0 fun p1 =>
zix (zhL h 50 p1) (wr (a5 + 1)) fun j2 =>
F_Lw_step a1 (zhD h 50 p1 j2) a3 h  fun v3 h4 =>
zob h4 50 a0 fun p5 =>
zix (zhL h4 50 p5) (wr (a5 + 1)) fun j6 =>
zob h4 12 a2 fun _ =>
zmch h4 a2 (F_M_step (zhD h4 50 p5 j6) h4  fun v7 h8 =>
zob h8 12 a2 fun _ =>
zmch h8 a2 (F_M_thrown h8  fun v9 h10 =>
if v9 = v3 then (if v3 = 0 then (zob h10 51 a3 fun p11 =>
zix (zhL h10 51 p11) 0 fun j12 =>
if (zlcmp (zhD h10 51 p11 j12) v7) = 0 then c1016 a0 a1 a2 a3 a4 a5 h10
else kr 0 h10)
else c1016 a0 a1 a2 a3 a4 a5 h10)
else kr 0 h10))) = zseg zPP true (zcal [(63, [none], fun xs h kr kt => match xs with
  | [x0] => zmch h x0 (F_M_thrown h kr)
  | _ => none), (137, [none, none], fun xs h kr kt => match xs with
  | [x0, x1] => zmch h x0 (F_M_step x1 h kr)
  | _ => none), (299, [none, none, none], fun xs h kr kt => match xs with
  | [x0, x1, x2] => F_Lw_step x0 x1 x2 h kr
  | _ => none)]) (zget (999, 0, 0, 0) zc_Lw_law) (zcut zu_Lw_law) (zorc [(1016, [some (150, none), some (100, none), some (112, none), some (151, none), some (152, none), some (0, none), none, none, none], [], fun xs h => match xs with
  | [a0, a1, a2, a3, a4, a5] => c1016 a0 a1 a2 a3 a4 a5 h
  | _ => none)]) kr (fun _ _ => none) 400 963 [some (150, a0), some (100, a1), some (112, a2), some (151, a3), some (152, a4), some (0, a5), none, none, none] [] h := by rfl
set_option maxRecDepth 100000 in
theorem qe_Lw_law_963 {ρ : Type} (kr : Int → zH → Option ρ) (r28 : Int → Int → Int → Int → Int → Int → zH → Option ρ) (a0 a1 a2 a3 a4 a5 : Int) (h : zH) : Lw_law_963 kr r28 a0 a1 a2 a3 a4 a5 h = zseg zPP true (zcal [(63, [none], fun xs h kr kt => match xs with
  | [x0] => zmch h x0 (M_thrown h kr)
  | _ => none), (137, [none, none], fun xs h kr kt => match xs with
  | [x0, x1] => zmch h x0 (M_step x1 h kr)
  | _ => none), (299, [none, none, none], fun xs h kr kt => match xs with
  | [x0, x1, x2] => Lw_step x0 x1 x2 h kr
  | _ => none)]) (zget (999, 0, 0, 0) zc_Lw_law) (zcut zu_Lw_law) (zorc [(1016, [some (150, none), some (100, none), some (112, none), some (151, none), some (152, none), some (0, none), none, none, none], [], fun xs h => match xs with
  | [a0, a1, a2, a3, a4, a5] => Lw_law_1016 kr r28 a0 a1 a2 a3 a4 a5 h
  | _ => none)]) kr (fun _ _ => none) 400 963 [some (150, a0), some (100, a1), some (112, a2), some (151, a3), some (152, a4), some (0, a5), none, none, none] [] h := qg_Lw_law_963 kr r28 M_thrown M_step Lw_step (Lw_law_1016 kr r28) a0 a1 a2 a3 a4 a5 h
set_option maxRecDepth 100000 in
theorem qg_Lw_law_1072 {ρ : Type} (kr : Int → zH → Option ρ) (r28 : Int → Int → Int → Int → Int → Int → zH → Option ρ) (c2355 : Int → Int → Int → Int → Int → Int → zH → Option ρ) (a0 a1 a2 a3 a4 a5 : Int) (h : zH) : (c2355 a0 a1 a2 a3 a4 a5 h) = zseg zPP true (zcal []) (zget (999, 0, 0, 0) zc_Lw_law) (zcut zu_Lw_law) (zorc [(2355, [some (150, none), some (100, none), some (112, none), some (151, none), some (152, none), some (0, none), none, none, none], [], fun xs h => match xs with
  | [a0, a1, a2, a3, a4, a5] => c2355 a0 a1 a2 a3 a4 a5 h
  | _ => none)]) kr (fun _ _ => none) 400 1072 [some (150, a0), some (100, a1), some (112, a2), some (151, a3), some (152, a4), some (0, a5), none, none, none] [] h := by rfl
set_option maxRecDepth 100000 in
theorem qe_Lw_law_1072 {ρ : Type} (kr : Int → zH → Option ρ) (r28 : Int → Int → Int → Int → Int → Int → zH → Option ρ) (a0 a1 a2 a3 a4 a5 : Int) (h : zH) : Lw_law_1072 kr r28 a0 a1 a2 a3 a4 a5 h = zseg zPP true (zcal []) (zget (999, 0, 0, 0) zc_Lw_law) (zcut zu_Lw_law) (zorc [(2355, [some (150, none), some (100, none), some (112, none), some (151, none), some (152, none), some (0, none), none, none, none], [], fun xs h => match xs with
  | [a0, a1, a2, a3, a4, a5] => Lw_law_2355 kr r28 a0 a1 a2 a3 a4 a5 h
  | _ => none)]) kr (fun _ _ => none) 400 1072 [some (150, a0), some (100, a1), some (112, a2), some (151, a3), some (152, a4), some (0, a5), none, none, none] [] h := qg_Lw_law_1072 kr r28 (Lw_law_2355 kr r28) a0 a1 a2 a3 a4 a5 h
set_option maxRecDepth 100000 in
theorem qg_Lw_law_1019 {ρ : Type} (kr : Int → zH → Option ρ) (r28 : Int → Int → Int → Int → Int → Int → zH → Option ρ) (F_M_thrown : zH → (Int → zH → Option ρ) → Option ρ) (F_M_run : Int → zH → (Int → zH → Option ρ) → Option ρ) (F_Lw_run : Int → Int → Int → zH → (Int → zH → Option ρ) → Option ρ) (c1072 : Int → Int → Int → Int → Int → Int → zH → Option ρ) (a0 a1 a2 a3 a4 a5 : Int) (h : zH) : (zob h 50 a0 fun p1 =>
zix (zhL h 50 p1) (wr (a5 + 1)) fun j2 =>
F_Lw_run a1 (zhD h 50 p1 j2) a3 h  fun v3 h4 =>
zob h4 50 a0 fun p5 =>
zix (zhL h4 50 p5) (wr (a5 + 1)) fun j6 =>
zob h4 12 a2 fun _ =>
zmch h4 a2 (F_M_run (zhD h4 50 p5 j6) h4  fun v7 h8 =>
zob h8 12 a2 fun _ =>
zmch h8 a2 (F_M_thrown h8  fun v9 h10 =>
if v9 = v3 then (if v3 = 0 then (zob h10 51 a3 fun p11 =>
zix (zhL h10 51 p11) 0 fun j12 =>
if (zlcmp (zhD h10 51 p11 j12) v7) = 0 then c1072 a0 a1 a2 a3 a4 a5 h10
else kr 0 h10)
else c1072 a0 a1 a2 a3 a4 a5 h10)
else kr 0 h10))) = zseg zPP true (zcal [(63, [none], fun xs h kr kt => match xs with
  | [x0] => zmch h x0 (F_M_thrown h kr)
  | _ => none), (139, [none, none], fun xs h kr kt => match xs with
  | [x0, x1] => zmch h x0 (F_M_run x1 h kr)
  | _ => none), (300, [none, none, none], fun xs h kr kt => match xs with
  | [x0, x1, x2] => F_Lw_run x0 x1 x2 h kr
  | _ => none)]) (zget (999, 0, 0, 0) zc_Lw_law) (zcut zu_Lw_law) (zorc [(1072, [some (150, none), some (100, none), some (112, none), some (151, none), some (152, none), some (0, none), none, none, none], [], fun xs h => match xs with
  | [a0, a1, a2, a3, a4, a5] => c1072 a0 a1 a2 a3 a4 a5 h
  | _ => none)]) kr (fun _ _ => none) 400 1019 [some (150, a0), some (100, a1), some (112, a2), some (151, a3), some (152, a4), some (0, a5), none, none, none] [] h := by rfl
set_option maxRecDepth 100000 in
theorem qe_Lw_law_1019 {ρ : Type} (kr : Int → zH → Option ρ) (r28 : Int → Int → Int → Int → Int → Int → zH → Option ρ) (a0 a1 a2 a3 a4 a5 : Int) (h : zH) : Lw_law_1019 kr r28 a0 a1 a2 a3 a4 a5 h = zseg zPP true (zcal [(63, [none], fun xs h kr kt => match xs with
  | [x0] => zmch h x0 (M_thrown h kr)
  | _ => none), (139, [none, none], fun xs h kr kt => match xs with
  | [x0, x1] => zmch h x0 (M_run x1 h kr)
  | _ => none), (300, [none, none, none], fun xs h kr kt => match xs with
  | [x0, x1, x2] => Lw_run x0 x1 x2 h kr
  | _ => none)]) (zget (999, 0, 0, 0) zc_Lw_law) (zcut zu_Lw_law) (zorc [(1072, [some (150, none), some (100, none), some (112, none), some (151, none), some (152, none), some (0, none), none, none, none], [], fun xs h => match xs with
  | [a0, a1, a2, a3, a4, a5] => Lw_law_1072 kr r28 a0 a1 a2 a3 a4 a5 h
  | _ => none)]) kr (fun _ _ => none) 400 1019 [some (150, a0), some (100, a1), some (112, a2), some (151, a3), some (152, a4), some (0, a5), none, none, none] [] h := qg_Lw_law_1019 kr r28 M_thrown M_run Lw_run (Lw_law_1072 kr r28) a0 a1 a2 a3 a4 a5 h
set_option maxRecDepth 100000 in
theorem qg_Lw_law_1130 {ρ : Type} (kr : Int → zH → Option ρ) (r28 : Int → Int → Int → Int → Int → Int → zH → Option ρ) (c2355 : Int → Int → Int → Int → Int → Int → zH → Option ρ) (a0 a1 a2 a3 a4 a5 : Int) (h : zH) : (c2355 a0 a1 a2 a3 a4 a5 h) = zseg zPP true (zcal []) (zget (999, 0, 0, 0) zc_Lw_law) (zcut zu_Lw_law) (zorc [(2355, [some (150, none), some (100, none), some (112, none), some (151, none), some (152, none), some (0, none), none, none, none], [], fun xs h => match xs with
  | [a0, a1, a2, a3, a4, a5] => c2355 a0 a1 a2 a3 a4 a5 h
  | _ => none)]) kr (fun _ _ => none) 400 1130 [some (150, a0), some (100, a1), some (112, a2), some (151, a3), some (152, a4), some (0, a5), none, none, none] [] h := by rfl
set_option maxRecDepth 100000 in
theorem qe_Lw_law_1130 {ρ : Type} (kr : Int → zH → Option ρ) (r28 : Int → Int → Int → Int → Int → Int → zH → Option ρ) (a0 a1 a2 a3 a4 a5 : Int) (h : zH) : Lw_law_1130 kr r28 a0 a1 a2 a3 a4 a5 h = zseg zPP true (zcal []) (zget (999, 0, 0, 0) zc_Lw_law) (zcut zu_Lw_law) (zorc [(2355, [some (150, none), some (100, none), some (112, none), some (151, none), some (152, none), some (0, none), none, none, none], [], fun xs h => match xs with
  | [a0, a1, a2, a3, a4, a5] => Lw_law_2355 kr r28 a0 a1 a2 a3 a4 a5 h
  | _ => none)]) kr (fun _ _ => none) 400 1130 [some (150, a0), some (100, a1), some (112, a2), some (151, a3), some (152, a4), some (0, a5), none, none, none] [] h := qg_Lw_law_1130 kr r28 (Lw_law_2355 kr r28) a0 a1 a2 a3 a4 a5 h
set_option maxRecDepth 100000 in
theorem qg_Lw_law_1075 {ρ : Type} (kr : Int → zH → Option ρ) (r28 : Int → Int → Int → Int → Int → Int → zH → Option ρ) (F_M_thrown : zH → (Int → zH → Option ρ) → Option ρ) (F_M_setOrder : Int → zH → (Int → zH → Option ρ) → Option ρ) (F_Lw_setOrder : Int → Int → Int → zH → (Int → zH → Option ρ) → Option ρ) (c1130 : Int → Int → Int → Int → Int → Int → zH → Option ρ) (a0 a1 a2 a3 a4 a5 : Int) (h : zH) : (zob h 50 a0 fun p1 =>
zix (zhL h 50 p1) (wr (a5 + 1)) fun j2 =>
F_Lw_setOrder a1 ((zhD h 50 p1 j2) % 65536) a3 h  fun v3 h4 =>
zob h4 50 a0 fun p5 =>
zix (zhL h4 50 p5) (wr (a5 + 1)) fun j6 =>
zob h4 12 a2 fun _ =>
zmch h4 a2 (F_M_setOrder ((zhD h4 50 p5 j6) % 65536) h4  fun v7 h8 =>
zob h8 12 a2 fun _ =>
zmch h8 a2 (F_M_thrown h8  fun v9 h10 =>
if v9 = v3 then (if v3 = 0 then (zob h10 51 a3 fun p11 =>
zix (zhL h10 51 p11) 0 fun j12 =>
if (zlcmp (zhD h10 51 p11 j12) v7) = 0 then c1130 a0 a1 a2 a3 a4 a5 h10
else kr 0 h10)
else c1130 a0 a1 a2 a3 a4 a5 h10)
else kr 0 h10))) = zseg zPP true (zcal [(63, [none], fun xs h kr kt => match xs with
  | [x0] => zmch h x0 (F_M_thrown h kr)
  | _ => none), (140, [none, none], fun xs h kr kt => match xs with
  | [x0, x1] => zmch h x0 (F_M_setOrder x1 h kr)
  | _ => none), (301, [none, none, none], fun xs h kr kt => match xs with
  | [x0, x1, x2] => F_Lw_setOrder x0 x1 x2 h kr
  | _ => none)]) (zget (999, 0, 0, 0) zc_Lw_law) (zcut zu_Lw_law) (zorc [(1130, [some (150, none), some (100, none), some (112, none), some (151, none), some (152, none), some (0, none), none, none, none], [], fun xs h => match xs with
  | [a0, a1, a2, a3, a4, a5] => c1130 a0 a1 a2 a3 a4 a5 h
  | _ => none)]) kr (fun _ _ => none) 400 1075 [some (150, a0), some (100, a1), some (112, a2), some (151, a3), some (152, a4), some (0, a5), none, none, none] [] h := by rfl
set_option maxRecDepth 100000 in
theorem qe_Lw_law_1075 {ρ : Type} (kr : Int → zH → Option ρ) (r28 : Int → Int → Int → Int → Int → Int → zH → Option ρ) (a0 a1 a2 a3 a4 a5 : Int) (h : zH) : Lw_law_1075 kr r28 a0 a1 a2 a3 a4 a5 h = zseg zPP true (zcal [(63, [none], fun xs h kr kt => match xs with
  | [x0] => zmch h x0 (M_thrown h kr)
  | _ => none), (140, [none, none], fun xs h kr kt => match xs with
  | [x0, x1] => zmch h x0 (M_setOrder x1 h kr)
  | _ => none), (301, [none, none, none], fun xs h kr kt => match xs with
  | [x0, x1, x2] => Lw_setOrder x0 x1 x2 h kr
  | _ => none)]) (zget (999, 0, 0, 0) zc_Lw_law) (zcut zu_Lw_law) (zorc [(1130, [some (150, none), some (100, none), some (112, none), some (151, none), some (152, none), some (0, none), none, none, none], [], fun xs h => match xs with
  | [a0, a1, a2, a3, a4, a5] => Lw_law_1130 kr r28 a0 a1 a2 a3 a4 a5 h
  | _ => none)]) kr (fun _ _ => none) 400 1075 [some (150, a0), some (100, a1), some (112, a2), some (151, a3), some (152, a4), some (0, a5), none, none, none] [] h := qg_Lw_law_1075 kr r28 M_thrown M_setOrder Lw_setOrder (Lw_law_1130 kr r28) a0 a1 a2 a3 a4 a5 h
set_option maxRecDepth 100000 in
theorem qg_Lw_law_1133 {ρ : Type} (kr : Int → zH → Option ρ) (r28 : Int → Int → Int → Int → Int → Int → zH → Option ρ) (F_X_cycle : Int → zH → (Int → zH → Option ρ) → Option ρ) (F_M_cycle : zH → (Int → zH → Option ρ) → Option ρ) (c2355 : Int → Int → Int → Int → Int → Int → zH → Option ρ) (a0 a1 a2 a3 a4 a5 : Int) (h : zH) : (zob h 0 a1 fun _ =>
F_X_cycle a1 h  fun v1 h2 =>
zob h2 12 a2 fun _ =>
zmch h2 a2 (F_M_cycle h2  fun v3 h4 =>
if v1 = v3 then c2355 a0 a1 a2 a3 a4 a5 h4
else kr 0 h4)) = zseg zPP true (zcal [(24, [none], fun xs h kr kt => match xs with
  | [x0] => F_X_cycle x0 h kr
  | _ => none), (141, [none], fun xs h kr kt => match xs with
  | [x0] => zmch h x0 (F_M_cycle h kr)
  | _ => none)]) (zget (999, 0, 0, 0) zc_Lw_law) (zcut zu_Lw_law) (zorc [(2355, [some (150, none), some (100, none), some (112, none), some (151, none), some (152, none), some (0, none), none, none, none], [], fun xs h => match xs with
  | [a0, a1, a2, a3, a4, a5] => c2355 a0 a1 a2 a3 a4 a5 h
  | _ => none)]) kr (fun _ _ => none) 400 1133 [some (150, a0), some (100, a1), some (112, a2), some (151, a3), some (152, a4), some (0, a5), none, none, none] [] h := by rfl
set_option maxRecDepth 100000 in
theorem qe_Lw_law_1133 {ρ : Type} (kr : Int → zH → Option ρ) (r28 : Int → Int → Int → Int → Int → Int → zH → Option ρ) (a0 a1 a2 a3 a4 a5 : Int) (h : zH) : Lw_law_1133 kr r28 a0 a1 a2 a3 a4 a5 h = zseg zPP true (zcal [(24, [none], fun xs h kr kt => match xs with
  | [x0] => X_cycle x0 h kr
  | _ => none), (141, [none], fun xs h kr kt => match xs with
  | [x0] => zmch h x0 (M_cycle h kr)
  | _ => none)]) (zget (999, 0, 0, 0) zc_Lw_law) (zcut zu_Lw_law) (zorc [(2355, [some (150, none), some (100, none), some (112, none), some (151, none), some (152, none), some (0, none), none, none, none], [], fun xs h => match xs with
  | [a0, a1, a2, a3, a4, a5] => Lw_law_2355 kr r28 a0 a1 a2 a3 a4 a5 h
  | _ => none)]) kr (fun _ _ => none) 400 1133 [some (150, a0), some (100, a1), some (112, a2), some (151, a3), some (152, a4), some (0, a5), none, none, none] [] h := qg_Lw_law_1133 kr r28 X_cycle M_cycle (Lw_law_2355 kr r28) a0 a1 a2 a3 a4 a5 h
set_option maxRecDepth 100000 in
theorem qg_Lw_law_1199 {ρ : Type} (kr : Int → zH → Option ρ) (r28 : Int → Int → Int → Int → Int → Int → zH → Option ρ) (c2355 : Int → Int → Int → Int → Int → Int → zH → Option ρ) (a0 a1 a2 a3 a4 a5 : Int) (h : zH) : (c2355 a0 a1 a2 a3 a4 a5 h) = zseg zPP true (zcal []) (zget (999, 0, 0, 0) zc_Lw_law) (zcut zu_Lw_law) (zorc [(2355, [some (150, none), some (100, none), some (112, none), some (151, none), some (152, none), some (0, none), none, none, none], [], fun xs h => match xs with
  | [a0, a1, a2, a3, a4, a5] => c2355 a0 a1 a2 a3 a4 a5 h
  | _ => none)]) kr (fun _ _ => none) 400 1199 [some (150, a0), some (100, a1), some (112, a2), some (151, a3), some (152, a4), some (0, a5), none, none, none] [] h := by rfl
set_option maxRecDepth 100000 in
theorem qe_Lw_law_1199 {ρ : Type} (kr : Int → zH → Option ρ) (r28 : Int → Int → Int → Int → Int → Int → zH → Option ρ) (a0 a1 a2 a3 a4 a5 : Int) (h : zH) : Lw_law_1199 kr r28 a0 a1 a2 a3 a4 a5 h = zseg zPP true (zcal []) (zget (999, 0, 0, 0) zc_Lw_law) (zcut zu_Lw_law) (zorc [(2355, [some (150, none), some (100, none), some (112, none), some (151, none), some (152, none), some (0, none), none, none, none], [], fun xs h => match xs with
  | [a0, a1, a2, a3, a4, a5] => Lw_law_2355 kr r28 a0 a1 a2 a3 a4 a5 h
  | _ => none)]) kr (fun _ _ => none) 400 1199 [some (150, a0), some (100, a1), some (112, a2), some (151, a3), some (152, a4), some (0, a5), none, none, none] [] h := qg_Lw_law_1199 kr r28 (Lw_law_2355 kr r28) a0 a1 a2 a3 a4 a5 h
set_option maxRecDepth 100000 in
theorem qg_Lw_law_1146 {ρ : Type} (kr : Int → zH → Option ρ) (r28 : Int → Int → Int → Int → Int → Int → zH → Option ρ) (F_M_thrown : zH → (Int → zH → Option ρ) → Option ρ) (F_M_groups : Int → zH → (Int → zH → Option ρ) → Option ρ) (F_Lw_groups : Int → Int → Int → zH → (Int → zH → Option ρ) → Option ρ) (c1199 : Int → Int → Int → Int → Int → Int → zH → Option ρ) (a0 a1 a2 a3 a4 a5 : Int) (h : zH) : (zob h 50 a0 fun p1 =>
zix (zhL h 50 p1) (wr (a5 + 1)) fun j2 =>
F_Lw_groups a1 (zhD h 50 p1 j2) a3 h  fun v3 h4 =>
zob h4 50 a0 fun p5 =>
zix (zhL h4 50 p5) (wr (a5 + 1)) fun j6 =>
zob h4 12 a2 fun _ =>
zmch h4 a2 (F_M_groups (zhD h4 50 p5 j6) h4  fun v7 h8 =>
zob h8 12 a2 fun _ =>
zmch h8 a2 (F_M_thrown h8  fun v9 h10 =>
if v9 = v3 then (if v3 = 0 then (zob h10 51 a3 fun p11 =>
zix (zhL h10 51 p11) 0 fun j12 =>
if (zlcmp (zhD h10 51 p11 j12) v7) = 0 then c1199 a0 a1 a2 a3 a4 a5 h10
else kr 0 h10)
else c1199 a0 a1 a2 a3 a4 a5 h10)
else kr 0 h10))) = zseg zPP true (zcal [(63, [none], fun xs h kr kt => match xs with
  | [x0] => zmch h x0 (F_M_thrown h kr)
  | _ => none), (144, [none, none], fun xs h kr kt => match xs with
  | [x0, x1] => zmch h x0 (F_M_groups x1 h kr)
  | _ => none), (302, [none, none, none], fun xs h kr kt => match xs with
  | [x0, x1, x2] => F_Lw_groups x0 x1 x2 h kr
  | _ => none)]) (zget (999, 0, 0, 0) zc_Lw_law) (zcut zu_Lw_law) (zorc [(1199, [some (150, none), some (100, none), some (112, none), some (151, none), some (152, none), some (0, none), none, none, none], [], fun xs h => match xs with
  | [a0, a1, a2, a3, a4, a5] => c1199 a0 a1 a2 a3 a4 a5 h
  | _ => none)]) kr (fun _ _ => none) 400 1146 [some (150, a0), some (100, a1), some (112, a2), some (151, a3), some (152, a4), some (0, a5), none, none, none] [] h := by rfl
set_option maxRecDepth 100000 in
theorem qe_Lw_law_1146 {ρ : Type} (kr : Int → zH → Option ρ) (r28 : Int → Int → Int → Int → Int → Int → zH → Option ρ) (a0 a1 a2 a3 a4 a5 : Int) (h : zH) : Lw_law_1146 kr r28 a0 a1 a2 a3 a4 a5 h = zseg zPP true (zcal [(63, [none], fun xs h kr kt => match xs with
  | [x0] => zmch h x0 (M_thrown h kr)
  | _ => none), (144, [none, none], fun xs h kr kt => match xs with
  | [x0, x1] => zmch h x0 (M_groups x1 h kr)
  | _ => none), (302, [none, none, none], fun xs h kr kt => match xs with
  | [x0, x1, x2] => Lw_groups x0 x1 x2 h kr
  | _ => none)]) (zget (999, 0, 0, 0) zc_Lw_law) (zcut zu_Lw_law) (zorc [(1199, [some (150, none), some (100, none), some (112, none), some (151, none), some (152, none), some (0, none), none, none, none], [], fun xs h => match xs with
  | [a0, a1, a2, a3, a4, a5] => Lw_law_1199 kr r28 a0 a1 a2 a3 a4 a5 h
  | _ => none)]) kr (fun _ _ => none) 400 1146 [some (150, a0), some (100, a1), some (112, a2), some (151, a3), some (152, a4), some (0, a5), none, none, none] [] h := qg_Lw_law_1146 kr r28 M_thrown M_groups Lw_groups (Lw_law_1199 kr r28) a0 a1 a2 a3 a4 a5 h
set_option maxRecDepth 100000 in
theorem qg_Lw_law_1267 {ρ : Type} (kr : Int → zH → Option ρ) (r28 : Int → Int → Int → Int → Int → Int → zH → Option ρ) (c2355 : Int → Int → Int → Int → Int → Int → zH → Option ρ) (a0 a1 a2 a3 a4 a5 : Int) (h : zH) : (c2355 a0 a1 a2 a3 a4 a5 h) = zseg zPP true (zcal []) (zget (999, 0, 0, 0) zc_Lw_law) (zcut zu_Lw_law) (zorc [(2355, [some (150, none), some (100, none), some (112, none), some (151, none), some (152, none), some (0, none), none, none, none], [], fun xs h => match xs with
  | [a0, a1, a2, a3, a4, a5] => c2355 a0 a1 a2 a3 a4 a5 h
  | _ => none)]) kr (fun _ _ => none) 400 1267 [some (150, a0), some (100, a1), some (112, a2), some (151, a3), some (152, a4), some (0, a5), none, none, none] [] h := by rfl
set_option maxRecDepth 100000 in
theorem qe_Lw_law_1267 {ρ : Type} (kr : Int → zH → Option ρ) (r28 : Int → Int → Int → Int → Int → Int → zH → Option ρ) (a0 a1 a2 a3 a4 a5 : Int) (h : zH) : Lw_law_1267 kr r28 a0 a1 a2 a3 a4 a5 h = zseg zPP true (zcal []) (zget (999, 0, 0, 0) zc_Lw_law) (zcut zu_Lw_law) (zorc [(2355, [some (150, none), some (100, none), some (112, none), some (151, none), some (152, none), some (0, none), none, none, none], [], fun xs h => match xs with
  | [a0, a1, a2, a3, a4, a5] => Lw_law_2355 kr r28 a0 a1 a2 a3 a4 a5 h
  | _ => none)]) kr (fun _ _ => none) 400 1267 [some (150, a0), some (100, a1), some (112, a2), some (151, a3), some (152, a4), some (0, a5), none, none, none] [] h := qg_Lw_law_1267 kr r28 (Lw_law_2355 kr r28) a0 a1 a2 a3 a4 a5 h
set_option maxRecDepth 100000 in
theorem qg_Lw_law_1202 {ρ : Type} (kr : Int → zH → Option ρ) (r28 : Int → Int → Int → Int → Int → Int → zH → Option ρ) (F_M_thrown : zH → (Int → zH → Option ρ) → Option ρ) (F_M_threadAt : Int → Int → zH → (Int → zH → Option ρ) → Option ρ) (F_Lw_threadAt : Int → Int → Int → Int → zH → (Int → zH → Option ρ) → Option ρ) (c1267 : Int → Int → Int → Int → Int → Int → zH → Option ρ) (a0 a1 a2 a3 a4 a5 : Int) (h : zH) : (zob h 50 a0 fun p1 =>
zix (zhL h 50 p1) (wr (a5 + 1)) fun j2 =>
zob h 50 a0 fun p3 =>
zix (zhL h 50 p3) (wr (a5 + 2)) fun j4 =>
F_Lw_threadAt a1 (zhD h 50 p1 j2) (zhD h 50 p3 j4) a3 h  fun v5 h6 =>
zob h6 50 a0 fun p7 =>
zix (zhL h6 50 p7) (wr (a5 + 1)) fun j8 =>
zob h6 50 a0 fun p9 =>
zix (zhL h6 50 p9) (wr (a5 + 2)) fun j10 =>
zob h6 12 a2 fun _ =>
zmch h6 a2 (F_M_threadAt (zhD h6 50 p7 j8) (zhD h6 50 p9 j10) h6  fun v11 h12 =>
zob h12 12 a2 fun _ =>
zmch h12 a2 (F_M_thrown h12  fun v13 h14 =>
if v13 = v5 then (if v5 = 0 then (zob h14 51 a3 fun p15 =>
zix (zhL h14 51 p15) 0 fun j16 =>
if (zlcmp (zhD h14 51 p15 j16) v11) = 0 then c1267 a0 a1 a2 a3 a4 a5 h14
else kr 0 h14)
else c1267 a0 a1 a2 a3 a4 a5 h14)
else kr 0 h14))) = zseg zPP true (zcal [(63, [none], fun xs h kr kt => match xs with
  | [x0] => zmch h x0 (F_M_thrown h kr)
  | _ => none), (145, [none, none, none], fun xs h kr kt => match xs with
  | [x0, x1, x2] => zmch h x0 (F_M_threadAt x1 x2 h kr)
  | _ => none), (303, [none, none, none, none], fun xs h kr kt => match xs with
  | [x0, x1, x2, x3] => F_Lw_threadAt x0 x1 x2 x3 h kr
  | _ => none)]) (zget (999, 0, 0, 0) zc_Lw_law) (zcut zu_Lw_law) (zorc [(1267, [some (150, none), some (100, none), some (112, none), some (151, none), some (152, none), some (0, none), none, none, none], [], fun xs h => match xs with
  | [a0, a1, a2, a3, a4, a5] => c1267 a0 a1 a2 a3 a4 a5 h
  | _ => none)]) kr (fun _ _ => none) 400 1202 [some (150, a0), some (100, a1), some (112, a2), some (151, a3), some (152, a4), some (0, a5), none, none, none] [] h := by rfl
set_option maxRecDepth 100000 in
theorem qe_Lw_law_1202 {ρ : Type} (kr : Int → zH → Option ρ) (r28 : Int → Int → Int → Int → Int → Int → zH → Option ρ) (a0 a1 a2 a3 a4 a5 : Int) (h : zH) : Lw_law_1202 kr r28 a0 a1 a2 a3 a4 a5 h = zseg zPP true (zcal [(63, [none], fun xs h kr kt => match xs with
  | [x0] => zmch h x0 (M_thrown h kr)
  | _ => none), (145, [none, none, none], fun xs h kr kt => match xs with
  | [x0, x1, x2] => zmch h x0 (M_threadAt x1 x2 h kr)
  | _ => none), (303, [none, none, none, none], fun xs h kr kt => match xs with
  | [x0, x1, x2, x3] => Lw_threadAt x0 x1 x2 x3 h kr
  | _ => none)]) (zget (999, 0, 0, 0) zc_Lw_law) (zcut zu_Lw_law) (zorc [(1267, [some (150, none), some (100, none), some (112, none), some (151, none), some (152, none), some (0, none), none, none, none], [], fun xs h => match xs with
  | [a0, a1, a2, a3, a4, a5] => Lw_law_1267 kr r28 a0 a1 a2 a3 a4 a5 h
  | _ => none)]) kr (fun _ _ => none) 400 1202 [some (150, a0), some (100, a1), some (112, a2), some (151, a3), some (152, a4), some (0, a5), none, none, none] [] h := qg_Lw_law_1202 kr r28 M_thrown M_threadAt Lw_threadAt (Lw_law_1267 kr r28) a0 a1 a2 a3 a4 a5 h
set_option maxRecDepth 100000 in
theorem qg_Lw_law_1335 {ρ : Type} (kr : Int → zH → Option ρ) (r28 : Int → Int → Int → Int → Int → Int → zH → Option ρ) (c2355 : Int → Int → Int → Int → Int → Int → zH → Option ρ) (a0 a1 a2 a3 a4 a5 : Int) (h : zH) : (c2355 a0 a1 a2 a3 a4 a5 h) = zseg zPP true (zcal []) (zget (999, 0, 0, 0) zc_Lw_law) (zcut zu_Lw_law) (zorc [(2355, [some (150, none), some (100, none), some (112, none), some (151, none), some (152, none), some (0, none), none, none, none], [], fun xs h => match xs with
  | [a0, a1, a2, a3, a4, a5] => c2355 a0 a1 a2 a3 a4 a5 h
  | _ => none)]) kr (fun _ _ => none) 400 1335 [some (150, a0), some (100, a1), some (112, a2), some (151, a3), some (152, a4), some (0, a5), none, none, none] [] h := by rfl
set_option maxRecDepth 100000 in
theorem qe_Lw_law_1335 {ρ : Type} (kr : Int → zH → Option ρ) (r28 : Int → Int → Int → Int → Int → Int → zH → Option ρ) (a0 a1 a2 a3 a4 a5 : Int) (h : zH) : Lw_law_1335 kr r28 a0 a1 a2 a3 a4 a5 h = zseg zPP true (zcal []) (zget (999, 0, 0, 0) zc_Lw_law) (zcut zu_Lw_law) (zorc [(2355, [some (150, none), some (100, none), some (112, none), some (151, none), some (152, none), some (0, none), none, none, none], [], fun xs h => match xs with
  | [a0, a1, a2, a3, a4, a5] => Lw_law_2355 kr r28 a0 a1 a2 a3 a4 a5 h
  | _ => none)]) kr (fun _ _ => none) 400 1335 [some (150, a0), some (100, a1), some (112, a2), some (151, a3), some (152, a4), some (0, a5), none, none, none] [] h := qg_Lw_law_1335 kr r28 (Lw_law_2355 kr r28) a0 a1 a2 a3 a4 a5 h
set_option maxRecDepth 100000 in
theorem qg_Lw_law_1270 {ρ : Type} (kr : Int → zH → Option ρ) (r28 : Int → Int → Int → Int → Int → Int → zH → Option ρ) (F_M_thrown : zH → (Int → zH → Option ρ) → Option ρ) (F_M_place : Int → Int → zH → (Int → zH → Option ρ) → Option ρ) (F_Lw_place : Int → Int → Int → Int → zH → (Int → zH → Option ρ) → Option ρ) (c1335 : Int → Int → Int → Int → Int → Int → zH → Option ρ) (a0 a1 a2 a3 a4 a5 : Int) (h : zH) : (zob h 50 a0 fun p1 =>
zix (zhL h 50 p1) (wr (a5 + 1)) fun j2 =>
zob h 50 a0 fun p3 =>
zix (zhL h 50 p3) (wr (a5 + 2)) fun j4 =>
F_Lw_place a1 (zhD h 50 p1 j2) (zhD h 50 p3 j4) a3 h  fun v5 h6 =>
zob h6 50 a0 fun p7 =>
zix (zhL h6 50 p7) (wr (a5 + 1)) fun j8 =>
zob h6 50 a0 fun p9 =>
zix (zhL h6 50 p9) (wr (a5 + 2)) fun j10 =>
zob h6 12 a2 fun _ =>
zmch h6 a2 (F_M_place (zhD h6 50 p7 j8) (zhD h6 50 p9 j10) h6  fun v11 h12 =>
zob h12 12 a2 fun _ =>
zmch h12 a2 (F_M_thrown h12  fun v13 h14 =>
if v13 = v5 then (if v5 = 0 then (zob h14 51 a3 fun p15 =>
zix (zhL h14 51 p15) 0 fun j16 =>
if (zlcmp (zhD h14 51 p15 j16) v11) = 0 then c1335 a0 a1 a2 a3 a4 a5 h14
else kr 0 h14)
else c1335 a0 a1 a2 a3 a4 a5 h14)
else kr 0 h14))) = zseg zPP true (zcal [(63, [none], fun xs h kr kt => match xs with
  | [x0] => zmch h x0 (F_M_thrown h kr)
  | _ => none), (146, [none, none, none], fun xs h kr kt => match xs with
  | [x0, x1, x2] => zmch h x0 (F_M_place x1 x2 h kr)
  | _ => none), (304, [none, none, none, none], fun xs h kr kt => match xs with
  | [x0, x1, x2, x3] => F_Lw_place x0 x1 x2 x3 h kr
  | _ => none)]) (zget (999, 0, 0, 0) zc_Lw_law) (zcut zu_Lw_law) (zorc [(1335, [some (150, none), some (100, none), some (112, none), some (151, none), some (152, none), some (0, none), none, none, none], [], fun xs h => match xs with
  | [a0, a1, a2, a3, a4, a5] => c1335 a0 a1 a2 a3 a4 a5 h
  | _ => none)]) kr (fun _ _ => none) 400 1270 [some (150, a0), some (100, a1), some (112, a2), some (151, a3), some (152, a4), some (0, a5), none, none, none] [] h := by rfl
set_option maxRecDepth 100000 in
theorem qe_Lw_law_1270 {ρ : Type} (kr : Int → zH → Option ρ) (r28 : Int → Int → Int → Int → Int → Int → zH → Option ρ) (a0 a1 a2 a3 a4 a5 : Int) (h : zH) : Lw_law_1270 kr r28 a0 a1 a2 a3 a4 a5 h = zseg zPP true (zcal [(63, [none], fun xs h kr kt => match xs with
  | [x0] => zmch h x0 (M_thrown h kr)
  | _ => none), (146, [none, none, none], fun xs h kr kt => match xs with
  | [x0, x1, x2] => zmch h x0 (M_place x1 x2 h kr)
  | _ => none), (304, [none, none, none, none], fun xs h kr kt => match xs with
  | [x0, x1, x2, x3] => Lw_place x0 x1 x2 x3 h kr
  | _ => none)]) (zget (999, 0, 0, 0) zc_Lw_law) (zcut zu_Lw_law) (zorc [(1335, [some (150, none), some (100, none), some (112, none), some (151, none), some (152, none), some (0, none), none, none, none], [], fun xs h => match xs with
  | [a0, a1, a2, a3, a4, a5] => Lw_law_1335 kr r28 a0 a1 a2 a3 a4 a5 h
  | _ => none)]) kr (fun _ _ => none) 400 1270 [some (150, a0), some (100, a1), some (112, a2), some (151, a3), some (152, a4), some (0, a5), none, none, none] [] h := qg_Lw_law_1270 kr r28 M_thrown M_place Lw_place (Lw_law_1335 kr r28) a0 a1 a2 a3 a4 a5 h
set_option maxRecDepth 100000 in
theorem qg_Lw_law_1403 {ρ : Type} (kr : Int → zH → Option ρ) (r28 : Int → Int → Int → Int → Int → Int → zH → Option ρ) (c2355 : Int → Int → Int → Int → Int → Int → zH → Option ρ) (a0 a1 a2 a3 a4 a5 : Int) (h : zH) : (c2355 a0 a1 a2 a3 a4 a5 h) = zseg zPP true (zcal []) (zget (999, 0, 0, 0) zc_Lw_law) (zcut zu_Lw_law) (zorc [(2355, [some (150, none), some (100, none), some (112, none), some (151, none), some (152, none), some (0, none), none, none, none], [], fun xs h => match xs with
  | [a0, a1, a2, a3, a4, a5] => c2355 a0 a1 a2 a3 a4 a5 h
  | _ => none)]) kr (fun _ _ => none) 400 1403 [some (150, a0), some (100, a1), some (112, a2), some (151, a3), some (152, a4), some (0, a5), none, none, none] [] h := by rfl
set_option maxRecDepth 100000 in
theorem qe_Lw_law_1403 {ρ : Type} (kr : Int → zH → Option ρ) (r28 : Int → Int → Int → Int → Int → Int → zH → Option ρ) (a0 a1 a2 a3 a4 a5 : Int) (h : zH) : Lw_law_1403 kr r28 a0 a1 a2 a3 a4 a5 h = zseg zPP true (zcal []) (zget (999, 0, 0, 0) zc_Lw_law) (zcut zu_Lw_law) (zorc [(2355, [some (150, none), some (100, none), some (112, none), some (151, none), some (152, none), some (0, none), none, none, none], [], fun xs h => match xs with
  | [a0, a1, a2, a3, a4, a5] => Lw_law_2355 kr r28 a0 a1 a2 a3 a4 a5 h
  | _ => none)]) kr (fun _ _ => none) 400 1403 [some (150, a0), some (100, a1), some (112, a2), some (151, a3), some (152, a4), some (0, a5), none, none, none] [] h := qg_Lw_law_1403 kr r28 (Lw_law_2355 kr r28) a0 a1 a2 a3 a4 a5 h
set_option maxRecDepth 100000 in
theorem qg_Lw_law_1338 {ρ : Type} (kr : Int → zH → Option ρ) (r28 : Int → Int → Int → Int → Int → Int → zH → Option ρ) (F_M_thrown : zH → (Int → zH → Option ρ) → Option ρ) (F_M_mask : Int → Int → zH → (Int → zH → Option ρ) → Option ρ) (F_Lw_mask : Int → Int → Int → Int → zH → (Int → zH → Option ρ) → Option ρ) (c1403 : Int → Int → Int → Int → Int → Int → zH → Option ρ) (a0 a1 a2 a3 a4 a5 : Int) (h : zH) : (zob h 50 a0 fun p1 =>
zix (zhL h 50 p1) (wr (a5 + 1)) fun j2 =>
zob h 50 a0 fun p3 =>
zix (zhL h 50 p3) (wr (a5 + 2)) fun j4 =>
F_Lw_mask a1 (zhD h 50 p1 j2) (zhD h 50 p3 j4) a3 h  fun v5 h6 =>
zob h6 50 a0 fun p7 =>
zix (zhL h6 50 p7) (wr (a5 + 1)) fun j8 =>
zob h6 50 a0 fun p9 =>
zix (zhL h6 50 p9) (wr (a5 + 2)) fun j10 =>
zob h6 12 a2 fun _ =>
zmch h6 a2 (F_M_mask (zhD h6 50 p7 j8) (zhD h6 50 p9 j10) h6  fun v11 h12 =>
zob h12 12 a2 fun _ =>
zmch h12 a2 (F_M_thrown h12  fun v13 h14 =>
if v13 = v5 then (if v5 = 0 then (zob h14 51 a3 fun p15 =>
zix (zhL h14 51 p15) 0 fun j16 =>
if (zlcmp (zhD h14 51 p15 j16) v11) = 0 then c1403 a0 a1 a2 a3 a4 a5 h14
else kr 0 h14)
else c1403 a0 a1 a2 a3 a4 a5 h14)
else kr 0 h14))) = zseg zPP true (zcal [(63, [none], fun xs h kr kt => match xs with
  | [x0] => zmch h x0 (F_M_thrown h kr)
  | _ => none), (147, [none, none, none], fun xs h kr kt => match xs with
  | [x0, x1, x2] => zmch h x0 (F_M_mask x1 x2 h kr)
  | _ => none), (305, [none, none, none, none], fun xs h kr kt => match xs with
  | [x0, x1, x2, x3] => F_Lw_mask x0 x1 x2 x3 h kr
  | _ => none)]) (zget (999, 0, 0, 0) zc_Lw_law) (zcut zu_Lw_law) (zorc [(1403, [some (150, none), some (100, none), some (112, none), some (151, none), some (152, none), some (0, none), none, none, none], [], fun xs h => match xs with
  | [a0, a1, a2, a3, a4, a5] => c1403 a0 a1 a2 a3 a4 a5 h
  | _ => none)]) kr (fun _ _ => none) 400 1338 [some (150, a0), some (100, a1), some (112, a2), some (151, a3), some (152, a4), some (0, a5), none, none, none] [] h := by rfl
set_option maxRecDepth 100000 in
theorem qe_Lw_law_1338 {ρ : Type} (kr : Int → zH → Option ρ) (r28 : Int → Int → Int → Int → Int → Int → zH → Option ρ) (a0 a1 a2 a3 a4 a5 : Int) (h : zH) : Lw_law_1338 kr r28 a0 a1 a2 a3 a4 a5 h = zseg zPP true (zcal [(63, [none], fun xs h kr kt => match xs with
  | [x0] => zmch h x0 (M_thrown h kr)
  | _ => none), (147, [none, none, none], fun xs h kr kt => match xs with
  | [x0, x1, x2] => zmch h x0 (M_mask x1 x2 h kr)
  | _ => none), (305, [none, none, none, none], fun xs h kr kt => match xs with
  | [x0, x1, x2, x3] => Lw_mask x0 x1 x2 x3 h kr
  | _ => none)]) (zget (999, 0, 0, 0) zc_Lw_law) (zcut zu_Lw_law) (zorc [(1403, [some (150, none), some (100, none), some (112, none), some (151, none), some (152, none), some (0, none), none, none, none], [], fun xs h => match xs with
  | [a0, a1, a2, a3, a4, a5] => Lw_law_1403 kr r28 a0 a1 a2 a3 a4 a5 h
  | _ => none)]) kr (fun _ _ => none) 400 1338 [some (150, a0), some (100, a1), some (112, a2), some (151, a3), some (152, a4), some (0, a5), none, none, none] [] h := qg_Lw_law_1338 kr r28 M_thrown M_mask Lw_mask (Lw_law_1403 kr r28) a0 a1 a2 a3 a4 a5 h
set_option maxRecDepth 100000 in
theorem qg_Lw_law_1471 {ρ : Type} (kr : Int → zH → Option ρ) (r28 : Int → Int → Int → Int → Int → Int → zH → Option ρ) (c2355 : Int → Int → Int → Int → Int → Int → zH → Option ρ) (a0 a1 a2 a3 a4 a5 : Int) (h : zH) : (c2355 a0 a1 a2 a3 a4 a5 h) = zseg zPP true (zcal []) (zget (999, 0, 0, 0) zc_Lw_law) (zcut zu_Lw_law) (zorc [(2355, [some (150, none), some (100, none), some (112, none), some (151, none), some (152, none), some (0, none), none, none, none], [], fun xs h => match xs with
  | [a0, a1, a2, a3, a4, a5] => c2355 a0 a1 a2 a3 a4 a5 h
  | _ => none)]) kr (fun _ _ => none) 400 1471 [some (150, a0), some (100, a1), some (112, a2), some (151, a3), some (152, a4), some (0, a5), none, none, none] [] h := by rfl
set_option maxRecDepth 100000 in
theorem qe_Lw_law_1471 {ρ : Type} (kr : Int → zH → Option ρ) (r28 : Int → Int → Int → Int → Int → Int → zH → Option ρ) (a0 a1 a2 a3 a4 a5 : Int) (h : zH) : Lw_law_1471 kr r28 a0 a1 a2 a3 a4 a5 h = zseg zPP true (zcal []) (zget (999, 0, 0, 0) zc_Lw_law) (zcut zu_Lw_law) (zorc [(2355, [some (150, none), some (100, none), some (112, none), some (151, none), some (152, none), some (0, none), none, none, none], [], fun xs h => match xs with
  | [a0, a1, a2, a3, a4, a5] => Lw_law_2355 kr r28 a0 a1 a2 a3 a4 a5 h
  | _ => none)]) kr (fun _ _ => none) 400 1471 [some (150, a0), some (100, a1), some (112, a2), some (151, a3), some (152, a4), some (0, a5), none, none, none] [] h := qg_Lw_law_1471 kr r28 (Lw_law_2355 kr r28) a0 a1 a2 a3 a4 a5 h
set_option maxRecDepth 100000 in
theorem qg_Lw_law_1406 {ρ : Type} (kr : Int → zH → Option ρ) (r28 : Int → Int → Int → Int → Int → Int → zH → Option ρ) (F_M_thrown : zH → (Int → zH → Option ρ) → Option ρ) (F_M_places : Int → Int → zH → (Int → zH → Option ρ) → Option ρ) (F_Lw_places : Int → Int → Int → Int → zH → (Int → zH → Option ρ) → Option ρ) (c1471 : Int → Int → Int → Int → Int → Int → zH → Option ρ) (a0 a1 a2 a3 a4 a5 : Int) (h : zH) : (zob h 50 a0 fun p1 =>
zix (zhL h 50 p1) (wr (a5 + 1)) fun j2 =>
zob h 50 a0 fun p3 =>
zix (zhL h 50 p3) (wr (a5 + 2)) fun j4 =>
F_Lw_places a1 (zhD h 50 p1 j2) (zhD h 50 p3 j4) a3 h  fun v5 h6 =>
zob h6 50 a0 fun p7 =>
zix (zhL h6 50 p7) (wr (a5 + 1)) fun j8 =>
zob h6 50 a0 fun p9 =>
zix (zhL h6 50 p9) (wr (a5 + 2)) fun j10 =>
zob h6 12 a2 fun _ =>
zmch h6 a2 (F_M_places (zhD h6 50 p7 j8) (zhD h6 50 p9 j10) h6  fun v11 h12 =>
zob h12 12 a2 fun _ =>
zmch h12 a2 (F_M_thrown h12  fun v13 h14 =>
if v13 = v5 then (if v5 = 0 then (zob h14 51 a3 fun p15 =>
zix (zhL h14 51 p15) 0 fun j16 =>
if (zlcmp (zhD h14 51 p15 j16) v11) = 0 then c1471 a0 a1 a2 a3 a4 a5 h14
else kr 0 h14)
else c1471 a0 a1 a2 a3 a4 a5 h14)
else kr 0 h14))) = zseg zPP true (zcal [(63, [none], fun xs h kr kt => match xs with
  | [x0] => zmch h x0 (F_M_thrown h kr)
  | _ => none), (148, [none, none, none], fun xs h kr kt => match xs with
  | [x0, x1, x2] => zmch h x0 (F_M_places x1 x2 h kr)
  | _ => none), (306, [none, none, none, none], fun xs h kr kt => match xs with
  | [x0, x1, x2, x3] => F_Lw_places x0 x1 x2 x3 h kr
  | _ => none)]) (zget (999, 0, 0, 0) zc_Lw_law) (zcut zu_Lw_law) (zorc [(1471, [some (150, none), some (100, none), some (112, none), some (151, none), some (152, none), some (0, none), none, none, none], [], fun xs h => match xs with
  | [a0, a1, a2, a3, a4, a5] => c1471 a0 a1 a2 a3 a4 a5 h
  | _ => none)]) kr (fun _ _ => none) 400 1406 [some (150, a0), some (100, a1), some (112, a2), some (151, a3), some (152, a4), some (0, a5), none, none, none] [] h := by rfl
set_option maxRecDepth 100000 in
theorem qe_Lw_law_1406 {ρ : Type} (kr : Int → zH → Option ρ) (r28 : Int → Int → Int → Int → Int → Int → zH → Option ρ) (a0 a1 a2 a3 a4 a5 : Int) (h : zH) : Lw_law_1406 kr r28 a0 a1 a2 a3 a4 a5 h = zseg zPP true (zcal [(63, [none], fun xs h kr kt => match xs with
  | [x0] => zmch h x0 (M_thrown h kr)
  | _ => none), (148, [none, none, none], fun xs h kr kt => match xs with
  | [x0, x1, x2] => zmch h x0 (M_places x1 x2 h kr)
  | _ => none), (306, [none, none, none, none], fun xs h kr kt => match xs with
  | [x0, x1, x2, x3] => Lw_places x0 x1 x2 x3 h kr
  | _ => none)]) (zget (999, 0, 0, 0) zc_Lw_law) (zcut zu_Lw_law) (zorc [(1471, [some (150, none), some (100, none), some (112, none), some (151, none), some (152, none), some (0, none), none, none, none], [], fun xs h => match xs with
  | [a0, a1, a2, a3, a4, a5] => Lw_law_1471 kr r28 a0 a1 a2 a3 a4 a5 h
  | _ => none)]) kr (fun _ _ => none) 400 1406 [some (150, a0), some (100, a1), some (112, a2), some (151, a3), some (152, a4), some (0, a5), none, none, none] [] h := qg_Lw_law_1406 kr r28 M_thrown M_places Lw_places (Lw_law_1471 kr r28) a0 a1 a2 a3 a4 a5 h
set_option maxRecDepth 100000 in
theorem qg_Lw_law_1539 {ρ : Type} (kr : Int → zH → Option ρ) (r28 : Int → Int → Int → Int → Int → Int → zH → Option ρ) (c2355 : Int → Int → Int → Int → Int → Int → zH → Option ρ) (a0 a1 a2 a3 a4 a5 : Int) (h : zH) : (c2355 a0 a1 a2 a3 a4 a5 h) = zseg zPP true (zcal []) (zget (999, 0, 0, 0) zc_Lw_law) (zcut zu_Lw_law) (zorc [(2355, [some (150, none), some (100, none), some (112, none), some (151, none), some (152, none), some (0, none), none, none, none], [], fun xs h => match xs with
  | [a0, a1, a2, a3, a4, a5] => c2355 a0 a1 a2 a3 a4 a5 h
  | _ => none)]) kr (fun _ _ => none) 400 1539 [some (150, a0), some (100, a1), some (112, a2), some (151, a3), some (152, a4), some (0, a5), none, none, none] [] h := by rfl
set_option maxRecDepth 100000 in
theorem qe_Lw_law_1539 {ρ : Type} (kr : Int → zH → Option ρ) (r28 : Int → Int → Int → Int → Int → Int → zH → Option ρ) (a0 a1 a2 a3 a4 a5 : Int) (h : zH) : Lw_law_1539 kr r28 a0 a1 a2 a3 a4 a5 h = zseg zPP true (zcal []) (zget (999, 0, 0, 0) zc_Lw_law) (zcut zu_Lw_law) (zorc [(2355, [some (150, none), some (100, none), some (112, none), some (151, none), some (152, none), some (0, none), none, none, none], [], fun xs h => match xs with
  | [a0, a1, a2, a3, a4, a5] => Lw_law_2355 kr r28 a0 a1 a2 a3 a4 a5 h
  | _ => none)]) kr (fun _ _ => none) 400 1539 [some (150, a0), some (100, a1), some (112, a2), some (151, a3), some (152, a4), some (0, a5), none, none, none] [] h := qg_Lw_law_1539 kr r28 (Lw_law_2355 kr r28) a0 a1 a2 a3 a4 a5 h
set_option maxRecDepth 100000 in
theorem qg_Lw_law_1474 {ρ : Type} (kr : Int → zH → Option ρ) (r28 : Int → Int → Int → Int → Int → Int → zH → Option ρ) (F_M_thrown : zH → (Int → zH → Option ρ) → Option ρ) (F_M_reason : Int → Int → zH → (Int → zH → Option ρ) → Option ρ) (F_Lw_reason : Int → Int → Int → Int → zH → (Int → zH → Option ρ) → Option ρ) (c1539 : Int → Int → Int → Int → Int → Int → zH → Option ρ) (a0 a1 a2 a3 a4 a5 : Int) (h : zH) : (zob h 50 a0 fun p1 =>
zix (zhL h 50 p1) (wr (a5 + 1)) fun j2 =>
zob h 50 a0 fun p3 =>
zix (zhL h 50 p3) (wr (a5 + 2)) fun j4 =>
F_Lw_reason a1 (zhD h 50 p1 j2) (zhD h 50 p3 j4) a3 h  fun v5 h6 =>
zob h6 50 a0 fun p7 =>
zix (zhL h6 50 p7) (wr (a5 + 1)) fun j8 =>
zob h6 50 a0 fun p9 =>
zix (zhL h6 50 p9) (wr (a5 + 2)) fun j10 =>
zob h6 12 a2 fun _ =>
zmch h6 a2 (F_M_reason (zhD h6 50 p7 j8) (zhD h6 50 p9 j10) h6  fun v11 h12 =>
zob h12 12 a2 fun _ =>
zmch h12 a2 (F_M_thrown h12  fun v13 h14 =>
if v13 = v5 then (if v5 = 0 then (zob h14 51 a3 fun p15 =>
zix (zhL h14 51 p15) 0 fun j16 =>
if (zlcmp (zhD h14 51 p15 j16) v11) = 0 then c1539 a0 a1 a2 a3 a4 a5 h14
else kr 0 h14)
else c1539 a0 a1 a2 a3 a4 a5 h14)
else kr 0 h14))) = zseg zPP true (zcal [(63, [none], fun xs h kr kt => match xs with
  | [x0] => zmch h x0 (F_M_thrown h kr)
  | _ => none), (149, [none, none, none], fun xs h kr kt => match xs with
  | [x0, x1, x2] => zmch h x0 (F_M_reason x1 x2 h kr)
  | _ => none), (307, [none, none, none, none], fun xs h kr kt => match xs with
  | [x0, x1, x2, x3] => F_Lw_reason x0 x1 x2 x3 h kr
  | _ => none)]) (zget (999, 0, 0, 0) zc_Lw_law) (zcut zu_Lw_law) (zorc [(1539, [some (150, none), some (100, none), some (112, none), some (151, none), some (152, none), some (0, none), none, none, none], [], fun xs h => match xs with
  | [a0, a1, a2, a3, a4, a5] => c1539 a0 a1 a2 a3 a4 a5 h
  | _ => none)]) kr (fun _ _ => none) 400 1474 [some (150, a0), some (100, a1), some (112, a2), some (151, a3), some (152, a4), some (0, a5), none, none, none] [] h := by rfl
set_option maxRecDepth 100000 in
theorem qe_Lw_law_1474 {ρ : Type} (kr : Int → zH → Option ρ) (r28 : Int → Int → Int → Int → Int → Int → zH → Option ρ) (a0 a1 a2 a3 a4 a5 : Int) (h : zH) : Lw_law_1474 kr r28 a0 a1 a2 a3 a4 a5 h = zseg zPP true (zcal [(63, [none], fun xs h kr kt => match xs with
  | [x0] => zmch h x0 (M_thrown h kr)
  | _ => none), (149, [none, none, none], fun xs h kr kt => match xs with
  | [x0, x1, x2] => zmch h x0 (M_reason x1 x2 h kr)
  | _ => none), (307, [none, none, none, none], fun xs h kr kt => match xs with
  | [x0, x1, x2, x3] => Lw_reason x0 x1 x2 x3 h kr
  | _ => none)]) (zget (999, 0, 0, 0) zc_Lw_law) (zcut zu_Lw_law) (zorc [(1539, [some (150, none), some (100, none), some (112, none), some (151, none), some (152, none), some (0, none), none, none, none], [], fun xs h => match xs with
  | [a0, a1, a2, a3, a4, a5] => Lw_law_1539 kr r28 a0 a1 a2 a3 a4 a5 h
  | _ => none)]) kr (fun _ _ => none) 400 1474 [some (150, a0), some (100, a1), some (112, a2), some (151, a3), some (152, a4), some (0, a5), none, none, none] [] h := qg_Lw_law_1474 kr r28 M_thrown M_reason Lw_reason (Lw_law_1539 kr r28) a0 a1 a2 a3 a4 a5 h
set_option maxRecDepth 100000 in
theorem qg_Lw_law_1631 {ρ : Type} (kr : Int → zH → Option ρ) (r28 : Int → Int → Int → Int → Int → Int → zH → Option ρ) (c2355 : Int → Int → Int → Int → Int → Int → zH → Option ρ) (a0 a1 a2 a3 a4 a5 : Int) (h : zH) : (c2355 a0 a1 a2 a3 a4 a5 h) = zseg zPP true (zcal []) (zget (999, 0, 0, 0) zc_Lw_law) (zcut zu_Lw_law) (zorc [(2355, [some (150, none), some (100, none), some (112, none), some (151, none), some (152, none), some (0, none), none, none, none], [], fun xs h => match xs with
  | [a0, a1, a2, a3, a4, a5] => c2355 a0 a1 a2 a3 a4 a5 h
  | _ => none)]) kr (fun _ _ => none) 400 1631 [some (150, a0), some (100, a1), some (112, a2), some (151, a3), some (152, a4), some (0, a5), none, none, none] [] h := by rfl
set_option maxRecDepth 100000 in
theorem qe_Lw_law_1631 {ρ : Type} (kr : Int → zH → Option ρ) (r28 : Int → Int → Int → Int → Int → Int → zH → Option ρ) (a0 a1 a2 a3 a4 a5 : Int) (h : zH) : Lw_law_1631 kr r28 a0 a1 a2 a3 a4 a5 h = zseg zPP true (zcal []) (zget (999, 0, 0, 0) zc_Lw_law) (zcut zu_Lw_law) (zorc [(2355, [some (150, none), some (100, none), some (112, none), some (151, none), some (152, none), some (0, none), none, none, none], [], fun xs h => match xs with
  | [a0, a1, a2, a3, a4, a5] => Lw_law_2355 kr r28 a0 a1 a2 a3 a4 a5 h
  | _ => none)]) kr (fun _ _ => none) 400 1631 [some (150, a0), some (100, a1), some (112, a2), some (151, a3), some (152, a4), some (0, a5), none, none, none] [] h := qg_Lw_law_1631 kr r28 (Lw_law_2355 kr r28) a0 a1 a2 a3 a4 a5 h
set_option maxRecDepth 100000 in
theorem qg_Lw_law_1542 {ρ : Type} (kr : Int → zH → Option ρ) (r28 : Int → Int → Int → Int → Int → Int → zH → Option ρ) (F_M_thrown : zH → (Int → zH → Option ρ) → Option ρ) (F_M_register : Int → Int → Int → Int → zH → (Int → zH → Option ρ) → Option ρ) (F_Lw_register : Int → Int → Int → Int → Int → Int → zH → (Int → zH → Option ρ) → Option ρ) (c1631 : Int → Int → Int → Int → Int → Int → zH → Option ρ) (a0 a1 a2 a3 a4 a5 : Int) (h : zH) : (zob h 50 a0 fun p1 =>
zix (zhL h 50 p1) (wr (a5 + 1)) fun j2 =>
zob h 50 a0 fun p3 =>
zix (zhL h 50 p3) (wr (a5 + 2)) fun j4 =>
zob h 50 a0 fun p5 =>
zix (zhL h 50 p5) (wr (a5 + 3)) fun j6 =>
zob h 50 a0 fun p7 =>
zix (zhL h 50 p7) (wr (a5 + 4)) fun j8 =>
F_Lw_register a1 (zhD h 50 p1 j2) (zhD h 50 p3 j4) (zhD h 50 p5 j6) (zhD h 50 p7 j8) a3 h  fun v9 h10 =>
zob h10 50 a0 fun p11 =>
zix (zhL h10 50 p11) (wr (a5 + 1)) fun j12 =>
zob h10 50 a0 fun p13 =>
zix (zhL h10 50 p13) (wr (a5 + 2)) fun j14 =>
zob h10 50 a0 fun p15 =>
zix (zhL h10 50 p15) (wr (a5 + 3)) fun j16 =>
zob h10 50 a0 fun p17 =>
zix (zhL h10 50 p17) (wr (a5 + 4)) fun j18 =>
zob h10 12 a2 fun _ =>
zmch h10 a2 (F_M_register (zhD h10 50 p11 j12) (zhD h10 50 p13 j14) (zhD h10 50 p15 j16) (zhD h10 50 p17 j18) h10  fun v19 h20 =>
zob h20 12 a2 fun _ =>
zmch h20 a2 (F_M_thrown h20  fun v21 h22 =>
if v21 = v9 then (if v9 = 0 then (zob h22 51 a3 fun p23 =>
zix (zhL h22 51 p23) 0 fun j24 =>
if (zlcmp (zhD h22 51 p23 j24) v19) = 0 then c1631 a0 a1 a2 a3 a4 a5 h22
else kr 0 h22)
else c1631 a0 a1 a2 a3 a4 a5 h22)
else kr 0 h22))) = zseg zPP true (zcal [(63, [none], fun xs h kr kt => match xs with
  | [x0] => zmch h x0 (F_M_thrown h kr)
  | _ => none), (150, [none, none, none, none, none], fun xs h kr kt => match xs with
  | [x0, x1, x2, x3, x4] => zmch h x0 (F_M_register x1 x2 x3 x4 h kr)
  | _ => none), (308, [none, none, none, none, none, none], fun xs h kr kt => match xs with
  | [x0, x1, x2, x3, x4, x5] => F_Lw_register x0 x1 x2 x3 x4 x5 h kr
  | _ => none)]) (zget (999, 0, 0, 0) zc_Lw_law) (zcut zu_Lw_law) (zorc [(1631, [some (150, none), some (100, none), some (112, none), some (151, none), some (152, none), some (0, none), none, none, none], [], fun xs h => match xs with
  | [a0, a1, a2, a3, a4, a5] => c1631 a0 a1 a2 a3 a4 a5 h
  | _ => none)]) kr (fun _ _ => none) 400 1542 [some (150, a0), some (100, a1), some (112, a2), some (151, a3), some (152, a4), some (0, a5), none, none, none] [] h := by rfl
set_option maxRecDepth 100000 in
theorem qe_Lw_law_1542 {ρ : Type} (kr : Int → zH → Option ρ) (r28 : Int → Int → Int → Int → Int → Int → zH → Option ρ) (a0 a1 a2 a3 a4 a5 : Int) (h : zH) : Lw_law_1542 kr r28 a0 a1 a2 a3 a4 a5 h = zseg zPP true (zcal [(63, [none], fun xs h kr kt => match xs with
  | [x0] => zmch h x0 (M_thrown h kr)
  | _ => none), (150, [none, none, none, none, none], fun xs h kr kt => match xs with
  | [x0, x1, x2, x3, x4] => zmch h x0 (M_register x1 x2 x3 x4 h kr)
  | _ => none), (308, [none, none, none, none, none, none], fun xs h kr kt => match xs with
  | [x0, x1, x2, x3, x4, x5] => Lw_register x0 x1 x2 x3 x4 x5 h kr
  | _ => none)]) (zget (999, 0, 0, 0) zc_Lw_law) (zcut zu_Lw_law) (zorc [(1631, [some (150, none), some (100, none), some (112, none), some (151, none), some (152, none), some (0, none), none, none, none], [], fun xs h => match xs with
  | [a0, a1, a2, a3, a4, a5] => Lw_law_1631 kr r28 a0 a1 a2 a3 a4 a5 h
  | _ => none)]) kr (fun _ _ => none) 400 1542 [some (150, a0), some (100, a1), some (112, a2), some (151, a3), some (152, a4), some (0, a5), none, none, none] [] h := qg_Lw_law_1542 kr r28 M_thrown M_register Lw_register (Lw_law_1631 kr r28) a0 a1 a2 a3 a4 a5 h
set_option maxRecDepth 100000 in
theorem qg_Lw_law_1711 {ρ : Type} (kr : Int → zH → Option ρ) (r28 : Int → Int → Int → Int → Int → Int → zH → Option ρ) (c2355 : Int → Int → Int → Int → Int → Int → zH → Option ρ) (a0 a1 a2 a3 a4 a5 : Int) (h : zH) : (c2355 a0 a1 a2 a3 a4 a5 h) = zseg zPP true (zcal []) (zget (999, 0, 0, 0) zc_Lw_law) (zcut zu_Lw_law) (zorc [(2355, [some (150, none), some (100, none), some (112, none), some (151, none), some (152, none), some (0, none), none, none, none], [], fun xs h => match xs with
  | [a0, a1, a2, a3, a4, a5] => c2355 a0 a1 a2 a3 a4 a5 h
  | _ => none)]) kr (fun _ _ => none) 400 1711 [some (150, a0), some (100, a1), some (112, a2), some (151, a3), some (152, a4), some (0, a5), none, none, none] [] h := by rfl
set_option maxRecDepth 100000 in
theorem qe_Lw_law_1711 {ρ : Type} (kr : Int → zH → Option ρ) (r28 : Int → Int → Int → Int → Int → Int → zH → Option ρ) (a0 a1 a2 a3 a4 a5 : Int) (h : zH) : Lw_law_1711 kr r28 a0 a1 a2 a3 a4 a5 h = zseg zPP true (zcal []) (zget (999, 0, 0, 0) zc_Lw_law) (zcut zu_Lw_law) (zorc [(2355, [some (150, none), some (100, none), some (112, none), some (151, none), some (152, none), some (0, none), none, none, none], [], fun xs h => match xs with
  | [a0, a1, a2, a3, a4, a5] => Lw_law_2355 kr r28 a0 a1 a2 a3 a4 a5 h
  | _ => none)]) kr (fun _ _ => none) 400 1711 [some (150, a0), some (100, a1), some (112, a2), some (151, a3), some (152, a4), some (0, a5), none, none, none] [] h := qg_Lw_law_1711 kr r28 (Lw_law_2355 kr r28) a0 a1 a2 a3 a4 a5 h
set_option maxRecDepth 100000 in
theorem qg_Lw_law_1634 {ρ : Type} (kr : Int → zH → Option ρ) (r28 : Int → Int → Int → Int → Int → Int → zH → Option ρ) (F_M_thrown : zH → (Int → zH → Option ρ) → Option ρ) (F_M_shared : Int → Int → Int → zH → (Int → zH → Option ρ) → Option ρ) (F_Lw_shared : Int → Int → Int → Int → Int → zH → (Int → zH → Option ρ) → Option ρ) (c1711 : Int → Int → Int → Int → Int → Int → zH → Option ρ) (a0 a1 a2 a3 a4 a5 : Int) (h : zH) : (zob h 50 a0 fun p1 =>
zix (zhL h 50 p1) (wr (a5 + 1)) fun j2 =>
zob h 50 a0 fun p3 =>
zix (zhL h 50 p3) (wr (a5 + 2)) fun j4 =>
zob h 50 a0 fun p5 =>
zix (zhL h 50 p5) (wr (a5 + 3)) fun j6 =>
F_Lw_shared a1 (zhD h 50 p1 j2) (zhD h 50 p3 j4) (zhD h 50 p5 j6) a3 h  fun v7 h8 =>
zob h8 50 a0 fun p9 =>
zix (zhL h8 50 p9) (wr (a5 + 1)) fun j10 =>
zob h8 50 a0 fun p11 =>
zix (zhL h8 50 p11) (wr (a5 + 2)) fun j12 =>
zob h8 50 a0 fun p13 =>
zix (zhL h8 50 p13) (wr (a5 + 3)) fun j14 =>
zob h8 12 a2 fun _ =>
zmch h8 a2 (F_M_shared (zhD h8 50 p9 j10) (zhD h8 50 p11 j12) (zhD h8 50 p13 j14) h8  fun v15 h16 =>
zob h16 12 a2 fun _ =>
zmch h16 a2 (F_M_thrown h16  fun v17 h18 =>
if v17 = v7 then (if v7 = 0 then (zob h18 51 a3 fun p19 =>
zix (zhL h18 51 p19) 0 fun j20 =>
if (zlcmp (zhD h18 51 p19 j20) v15) = 0 then c1711 a0 a1 a2 a3 a4 a5 h18
else kr 0 h18)
else c1711 a0 a1 a2 a3 a4 a5 h18)
else kr 0 h18))) = zseg zPP true (zcal [(63, [none], fun xs h kr kt => match xs with
  | [x0] => zmch h x0 (F_M_thrown h kr)
  | _ => none), (151, [none, none, none, none], fun xs h kr kt => match xs with
  | [x0, x1, x2, x3] => zmch h x0 (F_M_shared x1 x2 x3 h kr)
  | _ => none), (309, [none, none, none, none, none], fun xs h kr kt => match xs with
  | [x0, x1, x2, x3, x4] => F_Lw_shared x0 x1 x2 x3 x4 h kr
  | _ => none)]) (zget (999, 0, 0, 0) zc_Lw_law) (zcut zu_Lw_law) (zorc [(1711, [some (150, none), some (100, none), some (112, none), some (151, none), some (152, none), some (0, none), none, none, none], [], fun xs h => match xs with
  | [a0, a1, a2, a3, a4, a5] => c1711 a0 a1 a2 a3 a4 a5 h
  | _ => none)]) kr (fun _ _ => none) 400 1634 [some (150, a0), some (100, a1), some (112, a2), some (151, a3), some (152, a4), some (0, a5), none, none, none] [] h := by rfl
set_option maxRecDepth 100000 in
theorem qe_Lw_law_1634 {ρ : Type} (kr : Int → zH → Option ρ) (r28 : Int → Int → Int → Int → Int → Int → zH → Option ρ) (a0 a1 a2 a3 a4 a5 : Int) (h : zH) : Lw_law_1634 kr r28 a0 a1 a2 a3 a4 a5 h = zseg zPP true (zcal [(63, [none], fun xs h kr kt => match xs with
  | [x0] => zmch h x0 (M_thrown h kr)
  | _ => none), (151, [none, none, none, none], fun xs h kr kt => match xs with
  | [x0, x1, x2, x3] => zmch h x0 (M_shared x1 x2 x3 h kr)
  | _ => none), (309, [none, none, none, none, none], fun xs h kr kt => match xs with
  | [x0, x1, x2, x3, x4] => Lw_shared x0 x1 x2 x3 x4 h kr
  | _ => none)]) (zget (999, 0, 0, 0) zc_Lw_law) (zcut zu_Lw_law) (zorc [(1711, [some (150, none), some (100, none), some (112, none), some (151, none), some (152, none), some (0, none), none, none, none], [], fun xs h => match xs with
  | [a0, a1, a2, a3, a4, a5] => Lw_law_1711 kr r28 a0 a1 a2 a3 a4 a5 h
  | _ => none)]) kr (fun _ _ => none) 400 1634 [some (150, a0), some (100, a1), some (112, a2), some (151, a3), some (152, a4), some (0, a5), none, none, none] [] h := qg_Lw_law_1634 kr r28 M_thrown M_shared Lw_shared (Lw_law_1711 kr r28) a0 a1 a2 a3 a4 a5 h
set_option maxRecDepth 100000 in
theorem qg_Lw_law_1779 {ρ : Type} (kr : Int → zH → Option ρ) (r28 : Int → Int → Int → Int → Int → Int → zH → Option ρ) (c2355 : Int → Int → Int → Int → Int → Int → zH → Option ρ) (a0 a1 a2 a3 a4 a5 : Int) (h : zH) : (c2355 a0 a1 a2 a3 a4 a5 h) = zseg zPP true (zcal []) (zget (999, 0, 0, 0) zc_Lw_law) (zcut zu_Lw_law) (zorc [(2355, [some (150, none), some (100, none), some (112, none), some (151, none), some (152, none), some (0, none), none, none, none], [], fun xs h => match xs with
  | [a0, a1, a2, a3, a4, a5] => c2355 a0 a1 a2 a3 a4 a5 h
  | _ => none)]) kr (fun _ _ => none) 400 1779 [some (150, a0), some (100, a1), some (112, a2), some (151, a3), some (152, a4), some (0, a5), none, none, none] [] h := by rfl
set_option maxRecDepth 100000 in
theorem qe_Lw_law_1779 {ρ : Type} (kr : Int → zH → Option ρ) (r28 : Int → Int → Int → Int → Int → Int → zH → Option ρ) (a0 a1 a2 a3 a4 a5 : Int) (h : zH) : Lw_law_1779 kr r28 a0 a1 a2 a3 a4 a5 h = zseg zPP true (zcal []) (zget (999, 0, 0, 0) zc_Lw_law) (zcut zu_Lw_law) (zorc [(2355, [some (150, none), some (100, none), some (112, none), some (151, none), some (152, none), some (0, none), none, none, none], [], fun xs h => match xs with
  | [a0, a1, a2, a3, a4, a5] => Lw_law_2355 kr r28 a0 a1 a2 a3 a4 a5 h
  | _ => none)]) kr (fun _ _ => none) 400 1779 [some (150, a0), some (100, a1), some (112, a2), some (151, a3), some (152, a4), some (0, a5), none, none, none] [] h := qg_Lw_law_1779 kr r28 (Lw_law_2355 kr r28) a0 a1 a2 a3 a4 a5 h
set_option maxRecDepth 100000 in
theorem qg_Lw_law_1714 {ρ : Type} (kr : Int → zH → Option ρ) (r28 : Int → Int → Int → Int → Int → Int → zH → Option ρ) (F_M_thrown : zH → (Int → zH → Option ρ) → Option ρ) (F_M_buffered : Int → Int → zH → (Int → zH → Option ρ) → Option ρ) (F_Lw_buffered : Int → Int → Int → Int → zH → (Int → zH → Option ρ) → Option ρ) (c1779 : Int → Int → Int → Int → Int → Int → zH → Option ρ) (a0 a1 a2 a3 a4 a5 : Int) (h : zH) : (zob h 50 a0 fun p1 =>
zix (zhL h 50 p1) (wr (a5 + 1)) fun j2 =>
zob h 50 a0 fun p3 =>
zix (zhL h 50 p3) (wr (a5 + 2)) fun j4 =>
F_Lw_buffered a1 (zhD h 50 p1 j2) (zhD h 50 p3 j4) a3 h  fun v5 h6 =>
zob h6 50 a0 fun p7 =>
zix (zhL h6 50 p7) (wr (a5 + 1)) fun j8 =>
zob h6 50 a0 fun p9 =>
zix (zhL h6 50 p9) (wr (a5 + 2)) fun j10 =>
zob h6 12 a2 fun _ =>
zmch h6 a2 (F_M_buffered (zhD h6 50 p7 j8) (zhD h6 50 p9 j10) h6  fun v11 h12 =>
zob h12 12 a2 fun _ =>
zmch h12 a2 (F_M_thrown h12  fun v13 h14 =>
if v13 = v5 then (if v5 = 0 then (zob h14 51 a3 fun p15 =>
zix (zhL h14 51 p15) 0 fun j16 =>
if (zlcmp (zhD h14 51 p15 j16) v11) = 0 then c1779 a0 a1 a2 a3 a4 a5 h14
else kr 0 h14)
else c1779 a0 a1 a2 a3 a4 a5 h14)
else kr 0 h14))) = zseg zPP true (zcal [(63, [none], fun xs h kr kt => match xs with
  | [x0] => zmch h x0 (F_M_thrown h kr)
  | _ => none), (152, [none, none, none], fun xs h kr kt => match xs with
  | [x0, x1, x2] => zmch h x0 (F_M_buffered x1 x2 h kr)
  | _ => none), (310, [none, none, none, none], fun xs h kr kt => match xs with
  | [x0, x1, x2, x3] => F_Lw_buffered x0 x1 x2 x3 h kr
  | _ => none)]) (zget (999, 0, 0, 0) zc_Lw_law) (zcut zu_Lw_law) (zorc [(1779, [some (150, none), some (100, none), some (112, none), some (151, none), some (152, none), some (0, none), none, none, none], [], fun xs h => match xs with
  | [a0, a1, a2, a3, a4, a5] => c1779 a0 a1 a2 a3 a4 a5 h
  | _ => none)]) kr (fun _ _ => none) 400 1714 [some (150, a0), some (100, a1), some (112, a2), some (151, a3), some (152, a4), some (0, a5), none, none, none] [] h := by rfl
set_option maxRecDepth 100000 in
theorem qe_Lw_law_1714 {ρ : Type} (kr : Int → zH → Option ρ) (r28 : Int → Int → Int → Int → Int → Int → zH → Option ρ) (a0 a1 a2 a3 a4 a5 : Int) (h : zH) : Lw_law_1714 kr r28 a0 a1 a2 a3 a4 a5 h = zseg zPP true (zcal [(63, [none], fun xs h kr kt => match xs with
  | [x0] => zmch h x0 (M_thrown h kr)
  | _ => none), (152, [none, none, none], fun xs h kr kt => match xs with
  | [x0, x1, x2] => zmch h x0 (M_buffered x1 x2 h kr)
  | _ => none), (310, [none, none, none, none], fun xs h kr kt => match xs with
  | [x0, x1, x2, x3] => Lw_buffered x0 x1 x2 x3 h kr
  | _ => none)]) (zget (999, 0, 0, 0) zc_Lw_law) (zcut zu_Lw_law) (zorc [(1779, [some (150, none), some (100, none), some (112, none), some (151, none), some (152, none), some (0, none), none, none, none], [], fun xs h => match xs with
  | [a0, a1, a2, a3, a4, a5] => Lw_law_1779 kr r28 a0 a1 a2 a3 a4 a5 h
  | _ => none)]) kr (fun _ _ => none) 400 1714 [some (150, a0), some (100, a1), some (112, a2), some (151, a3), some (152, a4), some (0, a5), none, none, none] [] h := qg_Lw_law_1714 kr r28 M_thrown M_buffered Lw_buffered (Lw_law_1779 kr r28) a0 a1 a2 a3 a4 a5 h
set_option maxRecDepth 100000 in
theorem qg_Lw_law_1835 {ρ : Type} (kr : Int → zH → Option ρ) (r28 : Int → Int → Int → Int → Int → Int → zH → Option ρ) (c2355 : Int → Int → Int → Int → Int → Int → zH → Option ρ) (a0 a1 a2 a3 a4 a5 : Int) (h : zH) : (c2355 a0 a1 a2 a3 a4 a5 h) = zseg zPP true (zcal []) (zget (999, 0, 0, 0) zc_Lw_law) (zcut zu_Lw_law) (zorc [(2355, [some (150, none), some (100, none), some (112, none), some (151, none), some (152, none), some (0, none), none, none, none], [], fun xs h => match xs with
  | [a0, a1, a2, a3, a4, a5] => c2355 a0 a1 a2 a3 a4 a5 h
  | _ => none)]) kr (fun _ _ => none) 400 1835 [some (150, a0), some (100, a1), some (112, a2), some (151, a3), some (152, a4), some (0, a5), none, none, none] [] h := by rfl
set_option maxRecDepth 100000 in
theorem qe_Lw_law_1835 {ρ : Type} (kr : Int → zH → Option ρ) (r28 : Int → Int → Int → Int → Int → Int → zH → Option ρ) (a0 a1 a2 a3 a4 a5 : Int) (h : zH) : Lw_law_1835 kr r28 a0 a1 a2 a3 a4 a5 h = zseg zPP true (zcal []) (zget (999, 0, 0, 0) zc_Lw_law) (zcut zu_Lw_law) (zorc [(2355, [some (150, none), some (100, none), some (112, none), some (151, none), some (152, none), some (0, none), none, none, none], [], fun xs h => match xs with
  | [a0, a1, a2, a3, a4, a5] => Lw_law_2355 kr r28 a0 a1 a2 a3 a4 a5 h
  | _ => none)]) kr (fun _ _ => none) 400 1835 [some (150, a0), some (100, a1), some (112, a2), some (151, a3), some (152, a4), some (0, a5), none, none, none] [] h := qg_Lw_law_1835 kr r28 (Lw_law_2355 kr r28) a0 a1 a2 a3 a4 a5 h
set_option maxRecDepth 100000 in
theorem qg_Lw_law_1782 {ρ : Type} (kr : Int → zH → Option ρ) (r28 : Int → Int → Int → Int → Int → Int → zH → Option ρ) (F_M_thrown : zH → (Int → zH → Option ρ) → Option ρ) (F_M_fault : Int → zH → (Int → zH → Option ρ) → Option ρ) (F_Lw_fault : Int → Int → Int → zH → (Int → zH → Option ρ) → Option ρ) (c1835 : Int → Int → Int → Int → Int → Int → zH → Option ρ) (a0 a1 a2 a3 a4 a5 : Int) (h : zH) : (zob h 50 a0 fun p1 =>
zix (zhL h 50 p1) (wr (a5 + 1)) fun j2 =>
F_Lw_fault a1 (zhD h 50 p1 j2) a3 h  fun v3 h4 =>
zob h4 50 a0 fun p5 =>
zix (zhL h4 50 p5) (wr (a5 + 1)) fun j6 =>
zob h4 12 a2 fun _ =>
zmch h4 a2 (F_M_fault (zhD h4 50 p5 j6) h4  fun v7 h8 =>
zob h8 12 a2 fun _ =>
zmch h8 a2 (F_M_thrown h8  fun v9 h10 =>
if v9 = v3 then (if v3 = 0 then (zob h10 51 a3 fun p11 =>
zix (zhL h10 51 p11) 0 fun j12 =>
if (zlcmp (zhD h10 51 p11 j12) v7) = 0 then c1835 a0 a1 a2 a3 a4 a5 h10
else kr 0 h10)
else c1835 a0 a1 a2 a3 a4 a5 h10)
else kr 0 h10))) = zseg zPP true (zcal [(63, [none], fun xs h kr kt => match xs with
  | [x0] => zmch h x0 (F_M_thrown h kr)
  | _ => none), (153, [none, none], fun xs h kr kt => match xs with
  | [x0, x1] => zmch h x0 (F_M_fault x1 h kr)
  | _ => none), (311, [none, none, none], fun xs h kr kt => match xs with
  | [x0, x1, x2] => F_Lw_fault x0 x1 x2 h kr
  | _ => none)]) (zget (999, 0, 0, 0) zc_Lw_law) (zcut zu_Lw_law) (zorc [(1835, [some (150, none), some (100, none), some (112, none), some (151, none), some (152, none), some (0, none), none, none, none], [], fun xs h => match xs with
  | [a0, a1, a2, a3, a4, a5] => c1835 a0 a1 a2 a3 a4 a5 h
  | _ => none)]) kr (fun _ _ => none) 400 1782 [some (150, a0), some (100, a1), some (112, a2), some (151, a3), some (152, a4), some (0, a5), none, none, none] [] h := by rfl
set_option maxRecDepth 100000 in
theorem qe_Lw_law_1782 {ρ : Type} (kr : Int → zH → Option ρ) (r28 : Int → Int → Int → Int → Int → Int → zH → Option ρ) (a0 a1 a2 a3 a4 a5 : Int) (h : zH) : Lw_law_1782 kr r28 a0 a1 a2 a3 a4 a5 h = zseg zPP true (zcal [(63, [none], fun xs h kr kt => match xs with
  | [x0] => zmch h x0 (M_thrown h kr)
  | _ => none), (153, [none, none], fun xs h kr kt => match xs with
  | [x0, x1] => zmch h x0 (M_fault x1 h kr)
  | _ => none), (311, [none, none, none], fun xs h kr kt => match xs with
  | [x0, x1, x2] => Lw_fault x0 x1 x2 h kr
  | _ => none)]) (zget (999, 0, 0, 0) zc_Lw_law) (zcut zu_Lw_law) (zorc [(1835, [some (150, none), some (100, none), some (112, none), some (151, none), some (152, none), some (0, none), none, none, none], [], fun xs h => match xs with
  | [a0, a1, a2, a3, a4, a5] => Lw_law_1835 kr r28 a0 a1 a2 a3 a4 a5 h
  | _ => none)]) kr (fun _ _ => none) 400 1782 [some (150, a0), some (100, a1), some (112, a2), some (151, a3), some (152, a4), some (0, a5), none, none, none] [] h := qg_Lw_law_1782 kr r28 M_thrown M_fault Lw_fault (Lw_law_1835 kr r28) a0 a1 a2 a3 a4 a5 h
set_option maxRecDepth 100000 in
theorem qg_Lw_law_1891 {ρ : Type} (kr : Int → zH → Option ρ) (r28 : Int → Int → Int → Int → Int → Int → zH → Option ρ) (c2355 : Int → Int → Int → Int → Int → Int → zH → Option ρ) (a0 a1 a2 a3 a4 a5 : Int) (h : zH) : (c2355 a0 a1 a2 a3 a4 a5 h) = zseg zPP true (zcal []) (zget (999, 0, 0, 0) zc_Lw_law) (zcut zu_Lw_law) (zorc [(2355, [some (150, none), some (100, none), some (112, none), some (151, none), some (152, none), some (0, none), none, none, none], [], fun xs h => match xs with
  | [a0, a1, a2, a3, a4, a5] => c2355 a0 a1 a2 a3 a4 a5 h
  | _ => none)]) kr (fun _ _ => none) 400 1891 [some (150, a0), some (100, a1), some (112, a2), some (151, a3), some (152, a4), some (0, a5), none, none, none] [] h := by rfl
set_option maxRecDepth 100000 in
theorem qe_Lw_law_1891 {ρ : Type} (kr : Int → zH → Option ρ) (r28 : Int → Int → Int → Int → Int → Int → zH → Option ρ) (a0 a1 a2 a3 a4 a5 : Int) (h : zH) : Lw_law_1891 kr r28 a0 a1 a2 a3 a4 a5 h = zseg zPP true (zcal []) (zget (999, 0, 0, 0) zc_Lw_law) (zcut zu_Lw_law) (zorc [(2355, [some (150, none), some (100, none), some (112, none), some (151, none), some (152, none), some (0, none), none, none, none], [], fun xs h => match xs with
  | [a0, a1, a2, a3, a4, a5] => Lw_law_2355 kr r28 a0 a1 a2 a3 a4 a5 h
  | _ => none)]) kr (fun _ _ => none) 400 1891 [some (150, a0), some (100, a1), some (112, a2), some (151, a3), some (152, a4), some (0, a5), none, none, none] [] h := qg_Lw_law_1891 kr r28 (Lw_law_2355 kr r28) a0 a1 a2 a3 a4 a5 h
set_option maxRecDepth 100000 in
theorem qg_Lw_law_1838 {ρ : Type} (kr : Int → zH → Option ρ) (r28 : Int → Int → Int → Int → Int → Int → zH → Option ρ) (F_M_thrown : zH → (Int → zH → Option ρ) → Option ρ) (F_M_faultAt : Int → zH → (Int → zH → Option ρ) → Option ρ) (F_Lw_faultAt : Int → Int → Int → zH → (Int → zH → Option ρ) → Option ρ) (c1891 : Int → Int → Int → Int → Int → Int → zH → Option ρ) (a0 a1 a2 a3 a4 a5 : Int) (h : zH) : (zob h 50 a0 fun p1 =>
zix (zhL h 50 p1) (wr (a5 + 1)) fun j2 =>
F_Lw_faultAt a1 (zhD h 50 p1 j2) a3 h  fun v3 h4 =>
zob h4 50 a0 fun p5 =>
zix (zhL h4 50 p5) (wr (a5 + 1)) fun j6 =>
zob h4 12 a2 fun _ =>
zmch h4 a2 (F_M_faultAt (zhD h4 50 p5 j6) h4  fun v7 h8 =>
zob h8 12 a2 fun _ =>
zmch h8 a2 (F_M_thrown h8  fun v9 h10 =>
if v9 = v3 then (if v3 = 0 then (zob h10 51 a3 fun p11 =>
zix (zhL h10 51 p11) 0 fun j12 =>
if (zlcmp (zhD h10 51 p11 j12) v7) = 0 then c1891 a0 a1 a2 a3 a4 a5 h10
else kr 0 h10)
else c1891 a0 a1 a2 a3 a4 a5 h10)
else kr 0 h10))) = zseg zPP true (zcal [(63, [none], fun xs h kr kt => match xs with
  | [x0] => zmch h x0 (F_M_thrown h kr)
  | _ => none), (154, [none, none], fun xs h kr kt => match xs with
  | [x0, x1] => zmch h x0 (F_M_faultAt x1 h kr)
  | _ => none), (312, [none, none, none], fun xs h kr kt => match xs with
  | [x0, x1, x2] => F_Lw_faultAt x0 x1 x2 h kr
  | _ => none)]) (zget (999, 0, 0, 0) zc_Lw_law) (zcut zu_Lw_law) (zorc [(1891, [some (150, none), some (100, none), some (112, none), some (151, none), some (152, none), some (0, none), none, none, none], [], fun xs h => match xs with
  | [a0, a1, a2, a3, a4, a5] => c1891 a0 a1 a2 a3 a4 a5 h
  | _ => none)]) kr (fun _ _ => none) 400 1838 [some (150, a0), some (100, a1), some (112, a2), some (151, a3), some (152, a4), some (0, a5), none, none, none] [] h := by rfl
set_option maxRecDepth 100000 in
theorem qe_Lw_law_1838 {ρ : Type} (kr : Int → zH → Option ρ) (r28 : Int → Int → Int → Int → Int → Int → zH → Option ρ) (a0 a1 a2 a3 a4 a5 : Int) (h : zH) : Lw_law_1838 kr r28 a0 a1 a2 a3 a4 a5 h = zseg zPP true (zcal [(63, [none], fun xs h kr kt => match xs with
  | [x0] => zmch h x0 (M_thrown h kr)
  | _ => none), (154, [none, none], fun xs h kr kt => match xs with
  | [x0, x1] => zmch h x0 (M_faultAt x1 h kr)
  | _ => none), (312, [none, none, none], fun xs h kr kt => match xs with
  | [x0, x1, x2] => Lw_faultAt x0 x1 x2 h kr
  | _ => none)]) (zget (999, 0, 0, 0) zc_Lw_law) (zcut zu_Lw_law) (zorc [(1891, [some (150, none), some (100, none), some (112, none), some (151, none), some (152, none), some (0, none), none, none, none], [], fun xs h => match xs with
  | [a0, a1, a2, a3, a4, a5] => Lw_law_1891 kr r28 a0 a1 a2 a3 a4 a5 h
  | _ => none)]) kr (fun _ _ => none) 400 1838 [some (150, a0), some (100, a1), some (112, a2), some (151, a3), some (152, a4), some (0, a5), none, none, none] [] h := qg_Lw_law_1838 kr r28 M_thrown M_faultAt Lw_faultAt (Lw_law_1891 kr r28) a0 a1 a2 a3 a4 a5 h
set_option maxRecDepth 100000 in
theorem qg_Lw_law_1966 {ρ : Type} (kr : Int → zH → Option ρ) (r28 : Int → Int → Int → Int → Int → Int → zH → Option ρ) (c2355 : Int → Int → Int → Int → Int → Int → zH → Option ρ) (a0 a1 a2 a3 a4 a5 : Int) (h : zH) : (c2355 a0 a1 a2 a3 a4 a5 h) = zseg zPP true (zcal []) (zget (999, 0, 0, 0) zc_Lw_law) (zcut zu_Lw_law) (zorc [(2355, [some (150, none), some (100, none), some (112, none), some (151, none), some (152, none), some (0, none), none, none, none], [], fun xs h => match xs with
  | [a0, a1, a2, a3, a4, a5] => c2355 a0 a1 a2 a3 a4 a5 h
  | _ => none)]) kr (fun _ _ => none) 400 1966 [some (150, a0), some (100, a1), some (112, a2), some (151, a3), some (152, a4), some (0, a5), none, none, none] [] h := by rfl
set_option maxRecDepth 100000 in
theorem qe_Lw_law_1966 {ρ : Type} (kr : Int → zH → Option ρ) (r28 : Int → Int → Int → Int → Int → Int → zH → Option ρ) (a0 a1 a2 a3 a4 a5 : Int) (h : zH) : Lw_law_1966 kr r28 a0 a1 a2 a3 a4 a5 h = zseg zPP true (zcal []) (zget (999, 0, 0, 0) zc_Lw_law) (zcut zu_Lw_law) (zorc [(2355, [some (150, none), some (100, none), some (112, none), some (151, none), some (152, none), some (0, none), none, none, none], [], fun xs h => match xs with
  | [a0, a1, a2, a3, a4, a5] => Lw_law_2355 kr r28 a0 a1 a2 a3 a4 a5 h
  | _ => none)]) kr (fun _ _ => none) 400 1966 [some (150, a0), some (100, a1), some (112, a2), some (151, a3), some (152, a4), some (0, a5), none, none, none] [] h := qg_Lw_law_1966 kr r28 (Lw_law_2355 kr r28) a0 a1 a2 a3 a4 a5 h
set_option maxRecDepth 100000 in
theorem qg_Lw_law_1960 {ρ : Type} (kr : Int → zH → Option ρ) (r28 : Int → Int → Int → Int → Int → Int → zH → Option ρ) (c1966 : Int → Int → Int → Int → Int → Int → zH → Option ρ) (a0 a1 a2 a3 a4 a5 t0 t1 : Int) (h : zH) : (if (zlcmp t1 t0) = 0 then c1966 a0 a1 a2 a3 a4 a5 h
else kr 0 h) = zseg zPP true (zcal []) (zget (999, 0, 0, 0) zc_Lw_law) (zcut zu_Lw_law) (zorc [(1966, [some (150, none), some (100, none), some (112, none), some (151, none), some (152, none), some (0, none), none, none, none], [], fun xs h => match xs with
  | [a0, a1, a2, a3, a4, a5] => c1966 a0 a1 a2 a3 a4 a5 h
  | _ => none)]) kr (fun _ _ => none) 400 1960 [some (150, a0), some (100, a1), some (112, a2), some (151, a3), some (152, a4), some (0, a5), none, none, none] [(1, t0), (1, t1)] h := by rfl
set_option maxRecDepth 100000 in
theorem qe_Lw_law_1960 {ρ : Type} (kr : Int → zH → Option ρ) (r28 : Int → Int → Int → Int → Int → Int → zH → Option ρ) (a0 a1 a2 a3 a4 a5 t0 t1 : Int) (h : zH) : Lw_law_1960 kr r28 a0 a1 a2 a3 a4 a5 t0 t1 h = zseg zPP true (zcal []) (zget (999, 0, 0, 0) zc_Lw_law) (zcut zu_Lw_law) (zorc [(1966, [some (150, none), some (100, none), some (112, none), some (151, none), some (152, none), some (0, none), none, none, none], [], fun xs h => match xs with
  | [a0, a1, a2, a3, a4, a5] => Lw_law_1966 kr r28 a0 a1 a2 a3 a4 a5 h
  | _ => none)]) kr (fun _ _ => none) 400 1960 [some (150, a0), some (100, a1), some (112, a2), some (151, a3), some (152, a4), some (0, a5), none, none, none] [(1, t0), (1, t1)] h := qg_Lw_law_1960 kr r28 (Lw_law_1966 kr r28) a0 a1 a2 a3 a4 a5 t0 t1 h
set_option maxRecDepth 100000 in
theorem qg_Lw_law_1894 {ρ : Type} (kr : Int → zH → Option ρ) (r28 : Int → Int → Int → Int → Int → Int → zH → Option ρ) (F_M_thrown : zH → (Int → zH → Option ρ) → Option ρ) (F_M_isRacing : Int → Int → zH → (Int → zH → Option ρ) → Option ρ) (F_Lw_isRacing : Int → Int → Int → Int → zH → (Int → zH → Option ρ) → Option ρ) (c1960 : Int → Int → Int → Int → Int → Int → Int → Int → zH → Option ρ) (c1966 : Int → Int → Int → Int → Int → Int → zH → Option ρ) (a0 a1 a2 a3 a4 a5 : Int) (h : zH) : (zob h 50 a0 fun p1 =>
zix (zhL h 50 p1) (wr (a5 + 1)) fun j2 =>
zob h 50 a0 fun p3 =>
zix (zhL h 50 p3) (wr (a5 + 2)) fun j4 =>
F_Lw_isRacing a1 (zhD h 50 p1 j2) (zhD h 50 p3 j4) a3 h  fun v5 h6 =>
zob h6 50 a0 fun p7 =>
zix (zhL h6 50 p7) (wr (a5 + 1)) fun j8 =>
zob h6 50 a0 fun p9 =>
zix (zhL h6 50 p9) (wr (a5 + 2)) fun j10 =>
zob h6 12 a2 fun _ =>
zmch h6 a2 (F_M_isRacing (zhD h6 50 p7 j8) (zhD h6 50 p9 j10) h6  fun v11 h12 =>
zob h12 12 a2 fun _ =>
zmch h12 a2 (F_M_thrown h12  fun v13 h14 =>
if v13 = v5 then (if v5 = 0 then (zob h14 51 a3 fun p15 =>
zix (zhL h14 51 p15) 0 fun j16 =>
if v11 = 0 then c1960 a0 a1 a2 a3 a4 a5 0 (zhD h14 51 p15 j16) h14
else c1960 a0 a1 a2 a3 a4 a5 1 (zhD h14 51 p15 j16) h14)
else c1966 a0 a1 a2 a3 a4 a5 h14)
else kr 0 h14))) = zseg zPP true (zcal [(63, [none], fun xs h kr kt => match xs with
  | [x0] => zmch h x0 (F_M_thrown h kr)
  | _ => none), (155, [none, none, none], fun xs h kr kt => match xs with
  | [x0, x1, x2] => zmch h x0 (F_M_isRacing x1 x2 h kr)
  | _ => none), (313, [none, none, none, none], fun xs h kr kt => match xs with
  | [x0, x1, x2, x3] => F_Lw_isRacing x0 x1 x2 x3 h kr
  | _ => none)]) (zget (999, 0, 0, 0) zc_Lw_law) (zcut zu_Lw_law) (zorc [(1960, [some (150, none), some (100, none), some (112, none), some (151, none), some (152, none), some (0, none), none, none, none], [(1, none), (1, none)], fun xs h => match xs with
  | [a0, a1, a2, a3, a4, a5, t0, t1] => c1960 a0 a1 a2 a3 a4 a5 t0 t1 h
  | _ => none), (1966, [some (150, none), some (100, none), some (112, none), some (151, none), some (152, none), some (0, none), none, none, none], [], fun xs h => match xs with
  | [a0, a1, a2, a3, a4, a5] => c1966 a0 a1 a2 a3 a4 a5 h
  | _ => none)]) kr (fun _ _ => none) 400 1894 [some (150, a0), some (100, a1), some (112, a2), some (151, a3), some (152, a4), some (0, a5), none, none, none] [] h := by rfl
set_option maxRecDepth 100000 in
theorem qe_Lw_law_1894 {ρ : Type} (kr : Int → zH → Option ρ) (r28 : Int → Int → Int → Int → Int → Int → zH → Option ρ) (a0 a1 a2 a3 a4 a5 : Int) (h : zH) : Lw_law_1894 kr r28 a0 a1 a2 a3 a4 a5 h = zseg zPP true (zcal [(63, [none], fun xs h kr kt => match xs with
  | [x0] => zmch h x0 (M_thrown h kr)
  | _ => none), (155, [none, none, none], fun xs h kr kt => match xs with
  | [x0, x1, x2] => zmch h x0 (M_isRacing x1 x2 h kr)
  | _ => none), (313, [none, none, none, none], fun xs h kr kt => match xs with
  | [x0, x1, x2, x3] => Lw_isRacing x0 x1 x2 x3 h kr
  | _ => none)]) (zget (999, 0, 0, 0) zc_Lw_law) (zcut zu_Lw_law) (zorc [(1960, [some (150, none), some (100, none), some (112, none), some (151, none), some (152, none), some (0, none), none, none, none], [(1, none), (1, none)], fun xs h => match xs with
  | [a0, a1, a2, a3, a4, a5, t0, t1] => Lw_law_1960 kr r28 a0 a1 a2 a3 a4 a5 t0 t1 h
  | _ => none), (1966, [some (150, none), some (100, none), some (112, none), some (151, none), some (152, none), some (0, none), none, none, none], [], fun xs h => match xs with
  | [a0, a1, a2, a3, a4, a5] => Lw_law_1966 kr r28 a0 a1 a2 a3 a4 a5 h
  | _ => none)]) kr (fun _ _ => none) 400 1894 [some (150, a0), some (100, a1), some (112, a2), some (151, a3), some (152, a4), some (0, a5), none, none, none] [] h := qg_Lw_law_1894 kr r28 M_thrown M_isRacing Lw_isRacing (Lw_law_1960 kr r28) (Lw_law_1966 kr r28) a0 a1 a2 a3 a4 a5 h
set_option maxRecDepth 100000 in
theorem qg_Lw_law_2022 {ρ : Type} (kr : Int → zH → Option ρ) (r28 : Int → Int → Int → Int → Int → Int → zH → Option ρ) (c2355 : Int → Int → Int → Int → Int → Int → zH → Option ρ) (a0 a1 a2 a3 a4 a5 : Int) (h : zH) : (c2355 a0 a1 a2 a3 a4 a5 h) = zseg zPP true (zcal []) (zget (999, 0, 0, 0) zc_Lw_law) (zcut zu_Lw_law) (zorc [(2355, [some (150, none), some (100, none), some (112, none), some (151, none), some (152, none), some (0, none), none, none, none], [], fun xs h => match xs with
  | [a0, a1, a2, a3, a4, a5] => c2355 a0 a1 a2 a3 a4 a5 h
  | _ => none)]) kr (fun _ _ => none) 400 2022 [some (150, a0), some (100, a1), some (112, a2), some (151, a3), some (152, a4), some (0, a5), none, none, none] [] h := by rfl
set_option maxRecDepth 100000 in
theorem qe_Lw_law_2022 {ρ : Type} (kr : Int → zH → Option ρ) (r28 : Int → Int → Int → Int → Int → Int → zH → Option ρ) (a0 a1 a2 a3 a4 a5 : Int) (h : zH) : Lw_law_2022 kr r28 a0 a1 a2 a3 a4 a5 h = zseg zPP true (zcal []) (zget (999, 0, 0, 0) zc_Lw_law) (zcut zu_Lw_law) (zorc [(2355, [some (150, none), some (100, none), some (112, none), some (151, none), some (152, none), some (0, none), none, none, none], [], fun xs h => match xs with
  | [a0, a1, a2, a3, a4, a5] => Lw_law_2355 kr r28 a0 a1 a2 a3 a4 a5 h
  | _ => none)]) kr (fun _ _ => none) 400 2022 [some (150, a0), some (100, a1), some (112, a2), some (151, a3), some (152, a4), some (0, a5), none, none, none] [] h := qg_Lw_law_2022 kr r28 (Lw_law_2355 kr r28) a0 a1 a2 a3 a4 a5 h
set_option maxRecDepth 100000 in
theorem qg_Lw_law_1969 {ρ : Type} (kr : Int → zH → Option ρ) (r28 : Int → Int → Int → Int → Int → Int → zH → Option ρ) (F_M_thrown : zH → (Int → zH → Option ρ) → Option ρ) (F_M_races : Int → zH → (Int → zH → Option ρ) → Option ρ) (F_Lw_races : Int → Int → Int → zH → (Int → zH → Option ρ) → Option ρ) (c2022 : Int → Int → Int → Int → Int → Int → zH → Option ρ) (a0 a1 a2 a3 a4 a5 : Int) (h : zH) : (zob h 50 a0 fun p1 =>
zix (zhL h 50 p1) (wr (a5 + 1)) fun j2 =>
F_Lw_races a1 (zhD h 50 p1 j2) a3 h  fun v3 h4 =>
zob h4 50 a0 fun p5 =>
zix (zhL h4 50 p5) (wr (a5 + 1)) fun j6 =>
zob h4 12 a2 fun _ =>
zmch h4 a2 (F_M_races (zhD h4 50 p5 j6) h4  fun v7 h8 =>
zob h8 12 a2 fun _ =>
zmch h8 a2 (F_M_thrown h8  fun v9 h10 =>
if v9 = v3 then (if v3 = 0 then (zob h10 51 a3 fun p11 =>
zix (zhL h10 51 p11) 0 fun j12 =>
if (zlcmp (zhD h10 51 p11 j12) v7) = 0 then c2022 a0 a1 a2 a3 a4 a5 h10
else kr 0 h10)
else c2022 a0 a1 a2 a3 a4 a5 h10)
else kr 0 h10))) = zseg zPP true (zcal [(63, [none], fun xs h kr kt => match xs with
  | [x0] => zmch h x0 (F_M_thrown h kr)
  | _ => none), (156, [none, none], fun xs h kr kt => match xs with
  | [x0, x1] => zmch h x0 (F_M_races x1 h kr)
  | _ => none), (314, [none, none, none], fun xs h kr kt => match xs with
  | [x0, x1, x2] => F_Lw_races x0 x1 x2 h kr
  | _ => none)]) (zget (999, 0, 0, 0) zc_Lw_law) (zcut zu_Lw_law) (zorc [(2022, [some (150, none), some (100, none), some (112, none), some (151, none), some (152, none), some (0, none), none, none, none], [], fun xs h => match xs with
  | [a0, a1, a2, a3, a4, a5] => c2022 a0 a1 a2 a3 a4 a5 h
  | _ => none)]) kr (fun _ _ => none) 400 1969 [some (150, a0), some (100, a1), some (112, a2), some (151, a3), some (152, a4), some (0, a5), none, none, none] [] h := by rfl
set_option maxRecDepth 100000 in
theorem qe_Lw_law_1969 {ρ : Type} (kr : Int → zH → Option ρ) (r28 : Int → Int → Int → Int → Int → Int → zH → Option ρ) (a0 a1 a2 a3 a4 a5 : Int) (h : zH) : Lw_law_1969 kr r28 a0 a1 a2 a3 a4 a5 h = zseg zPP true (zcal [(63, [none], fun xs h kr kt => match xs with
  | [x0] => zmch h x0 (M_thrown h kr)
  | _ => none), (156, [none, none], fun xs h kr kt => match xs with
  | [x0, x1] => zmch h x0 (M_races x1 h kr)
  | _ => none), (314, [none, none, none], fun xs h kr kt => match xs with
  | [x0, x1, x2] => Lw_races x0 x1 x2 h kr
  | _ => none)]) (zget (999, 0, 0, 0) zc_Lw_law) (zcut zu_Lw_law) (zorc [(2022, [some (150, none), some (100, none), some (112, none), some (151, none), some (152, none), some (0, none), none, none, none], [], fun xs h => match xs with
  | [a0, a1, a2, a3, a4, a5] => Lw_law_2022 kr r28 a0 a1 a2 a3 a4 a5 h
  | _ => none)]) kr (fun _ _ => none) 400 1969 [some (150, a0), some (100, a1), some (112, a2), some (151, a3), some (152, a4), some (0, a5), none, none, none] [] h := qg_Lw_law_1969 kr r28 M_thrown M_races Lw_races (Lw_law_2022 kr r28) a0 a1 a2 a3 a4 a5 h
set_option maxRecDepth 100000 in
theorem qg_Lw_law_2142 {ρ : Type} (kr : Int → zH → Option ρ) (r28 : Int → Int → Int → Int → Int → Int → zH → Option ρ) (c2355 : Int → Int → Int → Int → Int → Int → zH → Option ρ) (a0 a1 a2 a3 a4 a5 : Int) (h : zH) : (c2355 a0 a1 a2 a3 a4 a5 h) = zseg zPP true (zcal []) (zget (999, 0, 0, 0) zc_Lw_law) (zcut zu_Lw_law) (zorc [(2355, [some (150, none), some (100, none), some (112, none), some (151, none), some (152, none), some (0, none), none, none, none], [], fun xs h => match xs with
  | [a0, a1, a2, a3, a4, a5] => c2355 a0 a1 a2 a3 a4 a5 h
  | _ => none)]) kr (fun _ _ => none) 400 2142 [some (150, a0), some (100, a1), some (112, a2), some (151, a3), some (152, a4), some (0, a5), none, none, none] [] h := by rfl
set_option maxRecDepth 100000 in
theorem qe_Lw_law_2142 {ρ : Type} (kr : Int → zH → Option ρ) (r28 : Int → Int → Int → Int → Int → Int → zH → Option ρ) (a0 a1 a2 a3 a4 a5 : Int) (h : zH) : Lw_law_2142 kr r28 a0 a1 a2 a3 a4 a5 h = zseg zPP true (zcal []) (zget (999, 0, 0, 0) zc_Lw_law) (zcut zu_Lw_law) (zorc [(2355, [some (150, none), some (100, none), some (112, none), some (151, none), some (152, none), some (0, none), none, none, none], [], fun xs h => match xs with
  | [a0, a1, a2, a3, a4, a5] => Lw_law_2355 kr r28 a0 a1 a2 a3 a4 a5 h
  | _ => none)]) kr (fun _ _ => none) 400 2142 [some (150, a0), some (100, a1), some (112, a2), some (151, a3), some (152, a4), some (0, a5), none, none, none] [] h := qg_Lw_law_2142 kr r28 (Lw_law_2355 kr r28) a0 a1 a2 a3 a4 a5 h
set_option maxRecDepth 100000 in
theorem qg_Lw_law_2103 {ρ : Type} (kr : Int → zH → Option ρ) (r28 : Int → Int → Int → Int → Int → Int → zH → Option ρ) (F_M_thrown : zH → (Int → zH → Option ρ) → Option ρ) (F_M_serial : Int → Int → Int → Int → Int → zH → (Int → zH → Option ρ) → Option ρ) (c2142 : Int → Int → Int → Int → Int → Int → zH → Option ρ) (a0 a1 a2 a3 a4 a5 a6 t0 t1 t2 t3 t4 : Int) (h : zH) : (zob h 50 a0 fun p1 =>
zix (zhL h 50 p1) (wr (a5 + 5)) fun j2 =>
zob h 12 t4 fun _ =>
zmch h t4 (F_M_serial t3 t2 t1 t0 (zhD h 50 p1 j2) h  fun v3 h4 =>
zob h4 12 a2 fun _ =>
zmch h4 a2 (F_M_thrown h4  fun v5 h6 =>
if v5 = a6 then (if a6 = 0 then (zob h6 51 a3 fun p7 =>
zix (zhL h6 51 p7) 0 fun j8 =>
if (zlcmp (zhD h6 51 p7 j8) v3) = 0 then c2142 a0 a1 a2 a3 a4 a5 h6
else kr 0 h6)
else c2142 a0 a1 a2 a3 a4 a5 h6)
else kr 0 h6))) = zseg zPP true (zcal [(63, [none], fun xs h kr kt => match xs with
  | [x0] => zmch h x0 (F_M_thrown h kr)
  | _ => none), (160, [none, none, none, none, none, none], fun xs h kr kt => match xs with
  | [x0, x1, x2, x3, x4, x5] => zmch h x0 (F_M_serial x1 x2 x3 x4 x5 h kr)
  | _ => none)]) (zget (999, 0, 0, 0) zc_Lw_law) (zcut zu_Lw_law) (zorc [(2142, [some (150, none), some (100, none), some (112, none), some (151, none), some (152, none), some (0, none), none, none, none], [], fun xs h => match xs with
  | [a0, a1, a2, a3, a4, a5] => c2142 a0 a1 a2 a3 a4 a5 h
  | _ => none)]) kr (fun _ _ => none) 400 2103 [some (150, a0), some (100, a1), some (112, a2), some (151, a3), some (152, a4), some (0, a5), some (0, a6), none, none] [(0, t0), (0, t1), (0, t2), (0, t3), (112, t4)] h := by rfl
set_option maxRecDepth 100000 in
theorem qe_Lw_law_2103 {ρ : Type} (kr : Int → zH → Option ρ) (r28 : Int → Int → Int → Int → Int → Int → zH → Option ρ) (a0 a1 a2 a3 a4 a5 a6 t0 t1 t2 t3 t4 : Int) (h : zH) : Lw_law_2103 kr r28 a0 a1 a2 a3 a4 a5 a6 t0 t1 t2 t3 t4 h = zseg zPP true (zcal [(63, [none], fun xs h kr kt => match xs with
  | [x0] => zmch h x0 (M_thrown h kr)
  | _ => none), (160, [none, none, none, none, none, none], fun xs h kr kt => match xs with
  | [x0, x1, x2, x3, x4, x5] => zmch h x0 (M_serial x1 x2 x3 x4 x5 h kr)
  | _ => none)]) (zget (999, 0, 0, 0) zc_Lw_law) (zcut zu_Lw_law) (zorc [(2142, [some (150, none), some (100, none), some (112, none), some (151, none), some (152, none), some (0, none), none, none, none], [], fun xs h => match xs with
  | [a0, a1, a2, a3, a4, a5] => Lw_law_2142 kr r28 a0 a1 a2 a3 a4 a5 h
  | _ => none)]) kr (fun _ _ => none) 400 2103 [some (150, a0), some (100, a1), some (112, a2), some (151, a3), some (152, a4), some (0, a5), some (0, a6), none, none] [(0, t0), (0, t1), (0, t2), (0, t3), (112, t4)] h := qg_Lw_law_2103 kr r28 M_thrown M_serial (Lw_law_2142 kr r28) a0 a1 a2 a3 a4 a5 a6 t0 t1 t2 t3 t4 h
set_option maxRecDepth 100000 in
theorem qg_Lw_law_2058 {ρ : Type} (kr : Int → zH → Option ρ) (r28 : Int → Int → Int → Int → Int → Int → zH → Option ρ) (F_Lw_serial : Int → Int → Int → Int → Int → Int → Int → zH → (Int → zH → Option ρ) → Option ρ) (c2103 : Int → Int → Int → Int → Int → Int → Int → Int → Int → Int → Int → Int → zH → Option ρ) (a0 a1 a2 a3 a4 a5 t0 t1 t2 t3 t4 : Int) (h : zH) : (zob h 50 a0 fun p1 =>
zix (zhL h 50 p1) (wr (a5 + 5)) fun j2 =>
F_Lw_serial t4 t3 t2 t1 t0 (zhD h 50 p1 j2) a3 h  fun v3 h4 =>
zob h4 50 a0 fun p5 =>
zix (zhL h4 50 p5) (wr (a5 + 1)) fun j6 =>
zob h4 50 a0 fun p7 =>
zix (zhL h4 50 p7) (wr (a5 + 2)) fun j8 =>
zob h4 50 a0 fun p9 =>
zix (zhL h4 50 p9) (wr (a5 + 3)) fun j10 =>
zob h4 50 a0 fun p11 =>
zix (zhL h4 50 p11) (wr (a5 + 4)) fun j12 =>
if (zhD h4 50 p11 j12) = 0 then c2103 a0 a1 a2 a3 a4 a5 v3 0 (zhD h4 50 p9 j10) (zhD h4 50 p7 j8) (zhD h4 50 p5 j6) a2 h4
else c2103 a0 a1 a2 a3 a4 a5 v3 1 (zhD h4 50 p9 j10) (zhD h4 50 p7 j8) (zhD h4 50 p5 j6) a2 h4) = zseg zPP true (zcal [(315, [none, none, none, none, none, none, none], fun xs h kr kt => match xs with
  | [x0, x1, x2, x3, x4, x5, x6] => F_Lw_serial x0 x1 x2 x3 x4 x5 x6 h kr
  | _ => none)]) (zget (999, 0, 0, 0) zc_Lw_law) (zcut zu_Lw_law) (zorc [(2103, [some (150, none), some (100, none), some (112, none), some (151, none), some (152, none), some (0, none), some (0, none), none, none], [(0, none), (0, none), (0, none), (0, none), (112, none)], fun xs h => match xs with
  | [a0, a1, a2, a3, a4, a5, a6, t0, t1, t2, t3, t4] => c2103 a0 a1 a2 a3 a4 a5 a6 t0 t1 t2 t3 t4 h
  | _ => none)]) kr (fun _ _ => none) 400 2058 [some (150, a0), some (100, a1), some (112, a2), some (151, a3), some (152, a4), some (0, a5), none, none, none] [(0, t0), (0, t1), (0, t2), (0, t3), (100, t4)] h := by rfl
set_option maxRecDepth 100000 in
theorem qe_Lw_law_2058 {ρ : Type} (kr : Int → zH → Option ρ) (r28 : Int → Int → Int → Int → Int → Int → zH → Option ρ) (a0 a1 a2 a3 a4 a5 t0 t1 t2 t3 t4 : Int) (h : zH) : Lw_law_2058 kr r28 a0 a1 a2 a3 a4 a5 t0 t1 t2 t3 t4 h = zseg zPP true (zcal [(315, [none, none, none, none, none, none, none], fun xs h kr kt => match xs with
  | [x0, x1, x2, x3, x4, x5, x6] => Lw_serial x0 x1 x2 x3 x4 x5 x6 h kr
  | _ => none)]) (zget (999, 0, 0, 0) zc_Lw_law) (zcut zu_Lw_law) (zorc [(2103, [some (150, none), some (100, none), some (112, none), some (151, none), some (152, none), some (0, none), some (0, none), none, none], [(0, none), (0, none), (0, none), (0, none), (112, none)], fun xs h => match xs with
  | [a0, a1, a2, a3, a4, a5, a6, t0, t1, t2, t3, t4] => Lw_law_2103 kr r28 a0 a1 a2 a3 a4 a5 a6 t0 t1 t2 t3 t4 h
  | _ => none)]) kr (fun _ _ => none) 400 2058 [some (150, a0), some (100, a1), some (112, a2), some (151, a3), some (152, a4), some (0, a5), none, none, none] [(0, t0), (0, t1), (0, t2), (0, t3), (100, t4)] h := qg_Lw_law_2058 kr r28 Lw_serial (Lw_law_2103 kr r28) a0 a1 a2 a3 a4 a5 t0 t1 t2 t3 t4 h
set_option maxRecDepth 100000 in
theorem qg_Lw_law_2025 {ρ : Type} (kr : Int → zH → Option ρ) (r28 : Int → Int → Int → Int → Int → Int → zH → Option ρ) (c2058 : Int → Int → Int → Int → Int → Int → Int → Int → Int → Int → Int → zH → Option ρ) (a0 a1 a2 a3 a4 a5 : Int) (h : zH) : (zob h 50 a0 fun p1 =>
zix (zhL h 50 p1) (wr (a5 + 1)) fun j2 =>
zob h 50 a0 fun p3 =>
zix (zhL h 50 p3) (wr (a5 + 2)) fun j4 =>
zob h 50 a0 fun p5 =>
zix (zhL h 50 p5) (wr (a5 + 3)) fun j6 =>
zob h 50 a0 fun p7 =>
zix (zhL h 50 p7) (wr (a5 + 4)) fun j8 =>
if (zhD h 50 p7 j8) = 0 then c2058 a0 a1 a2 a3 a4 a5 0 (zhD h 50 p5 j6) (zhD h 50 p3 j4) (zhD h 50 p1 j2) a1 h
else c2058 a0 a1 a2 a3 a4 a5 1 (zhD h 50 p5 j6) (zhD h 50 p3 j4) (zhD h 50 p1 j2) a1 h) = zseg zPP true (zcal []) (zget (999, 0, 0, 0) zc_Lw_law) (zcut zu_Lw_law) (zorc [(2058, [some (150, none), some (100, none), some (112, none), some (151, none), some (152, none), some (0, none), none, none, none], [(0, none), (0, none), (0, none), (0, none), (100, none)], fun xs h => match xs with
  | [a0, a1, a2, a3, a4, a5, t0, t1, t2, t3, t4] => c2058 a0 a1 a2 a3 a4 a5 t0 t1 t2 t3 t4 h
  | _ => none)]) kr (fun _ _ => none) 400 2025 [some (150, a0), some (100, a1), some (112, a2), some (151, a3), some (152, a4), some (0, a5), none, none, none] [] h := by rfl
set_option maxRecDepth 100000 in
theorem qe_Lw_law_2025 {ρ : Type} (kr : Int → zH → Option ρ) (r28 : Int → Int → Int → Int → Int → Int → zH → Option ρ) (a0 a1 a2 a3 a4 a5 : Int) (h : zH) : Lw_law_2025 kr r28 a0 a1 a2 a3 a4 a5 h = zseg zPP true (zcal []) (zget (999, 0, 0, 0) zc_Lw_law) (zcut zu_Lw_law) (zorc [(2058, [some (150, none), some (100, none), some (112, none), some (151, none), some (152, none), some (0, none), none, none, none], [(0, none), (0, none), (0, none), (0, none), (100, none)], fun xs h => match xs with
  | [a0, a1, a2, a3, a4, a5, t0, t1, t2, t3, t4] => Lw_law_2058 kr r28 a0 a1 a2 a3 a4 a5 t0 t1 t2 t3 t4 h
  | _ => none)]) kr (fun _ _ => none) 400 2025 [some (150, a0), some (100, a1), some (112, a2), some (151, a3), some (152, a4), some (0, a5), none, none, none] [] h := qg_Lw_law_2025 kr r28 (Lw_law_2058 kr r28) a0 a1 a2 a3 a4 a5 h
set_option maxRecDepth 100000 in
theorem qg_Lw_law_2145 {ρ : Type} (kr : Int → zH → Option ρ) (r28 : Int → Int → Int → Int → Int → Int → zH → Option ρ) (F_X_lanes : Int → zH → (Int → zH → Option ρ) → Option ρ) (F_M_lanes : zH → (Int → zH → Option ρ) → Option ρ) (c2355 : Int → Int → Int → Int → Int → Int → zH → Option ρ) (a0 a1 a2 a3 a4 a5 : Int) (h : zH) : (zob h 0 a1 fun _ =>
F_X_lanes a1 h  fun v1 h2 =>
zob h2 12 a2 fun _ =>
zmch h2 a2 (F_M_lanes h2  fun v3 h4 =>
if (zlcmp v1 v3) = 0 then c2355 a0 a1 a2 a3 a4 a5 h4
else kr 0 h4)) = zseg zPP true (zcal [(39, [none], fun xs h kr kt => match xs with
  | [x0] => F_X_lanes x0 h kr
  | _ => none), (161, [none], fun xs h kr kt => match xs with
  | [x0] => zmch h x0 (F_M_lanes h kr)
  | _ => none)]) (zget (999, 0, 0, 0) zc_Lw_law) (zcut zu_Lw_law) (zorc [(2355, [some (150, none), some (100, none), some (112, none), some (151, none), some (152, none), some (0, none), none, none, none], [], fun xs h => match xs with
  | [a0, a1, a2, a3, a4, a5] => c2355 a0 a1 a2 a3 a4 a5 h
  | _ => none)]) kr (fun _ _ => none) 400 2145 [some (150, a0), some (100, a1), some (112, a2), some (151, a3), some (152, a4), some (0, a5), none, none, none] [] h := by rfl
set_option maxRecDepth 100000 in
theorem qe_Lw_law_2145 {ρ : Type} (kr : Int → zH → Option ρ) (r28 : Int → Int → Int → Int → Int → Int → zH → Option ρ) (a0 a1 a2 a3 a4 a5 : Int) (h : zH) : Lw_law_2145 kr r28 a0 a1 a2 a3 a4 a5 h = zseg zPP true (zcal [(39, [none], fun xs h kr kt => match xs with
  | [x0] => X_lanes x0 h kr
  | _ => none), (161, [none], fun xs h kr kt => match xs with
  | [x0] => zmch h x0 (M_lanes h kr)
  | _ => none)]) (zget (999, 0, 0, 0) zc_Lw_law) (zcut zu_Lw_law) (zorc [(2355, [some (150, none), some (100, none), some (112, none), some (151, none), some (152, none), some (0, none), none, none, none], [], fun xs h => match xs with
  | [a0, a1, a2, a3, a4, a5] => Lw_law_2355 kr r28 a0 a1 a2 a3 a4 a5 h
  | _ => none)]) kr (fun _ _ => none) 400 2145 [some (150, a0), some (100, a1), some (112, a2), some (151, a3), some (152, a4), some (0, a5), none, none, none] [] h := qg_Lw_law_2145 kr r28 X_lanes M_lanes (Lw_law_2355 kr r28) a0 a1 a2 a3 a4 a5 h
set_option maxRecDepth 100000 in
theorem qg_Lw_law_2159 {ρ : Type} (kr : Int → zH → Option ρ) (r28 : Int → Int → Int → Int → Int → Int → zH → Option ρ) (F_X_misses : Int → zH → (Int → zH → Option ρ) → Option ρ) (F_M_misses : zH → (Int → zH → Option ρ) → Option ρ) (c2355 : Int → Int → Int → Int → Int → Int → zH → Option ρ) (a0 a1 a2 a3 a4 a5 : Int) (h : zH) : (zob h 0 a1 fun _ =>
F_X_misses a1 h  fun v1 h2 =>
zob h2 12 a2 fun _ =>
zmch h2 a2 (F_M_misses h2  fun v3 h4 =>
if v1 = v3 then c2355 a0 a1 a2 a3 a4 a5 h4
else kr 0 h4)) = zseg zPP true (zcal [(40, [none], fun xs h kr kt => match xs with
  | [x0] => F_X_misses x0 h kr
  | _ => none), (162, [none], fun xs h kr kt => match xs with
  | [x0] => zmch h x0 (F_M_misses h kr)
  | _ => none)]) (zget (999, 0, 0, 0) zc_Lw_law) (zcut zu_Lw_law) (zorc [(2355, [some (150, none), some (100, none), some (112, none), some (151, none), some (152, none), some (0, none), none, none, none], [], fun xs h => match xs with
  | [a0, a1, a2, a3, a4, a5] => c2355 a0 a1 a2 a3 a4 a5 h
  | _ => none)]) kr (fun _ _ => none) 400 2159 [some (150, a0), some (100, a1), some (112, a2), some (151, a3), some (152, a4), some (0, a5), none, none, none] [] h := by rfl
set_option maxRecDepth 100000 in
theorem qe_Lw_law_2159 {ρ : Type} (kr : Int → zH → Option ρ) (r28 : Int → Int → Int → Int → Int → Int → zH → Option ρ) (a0 a1 a2 a3 a4 a5 : Int) (h : zH) : Lw_law_2159 kr r28 a0 a1 a2 a3 a4 a5 h = zseg zPP true (zcal [(40, [none], fun xs h kr kt => match xs with
  | [x0] => X_misses x0 h kr
  | _ => none), (162, [none], fun xs h kr kt => match xs with
  | [x0] => zmch h x0 (M_misses h kr)
  | _ => none)]) (zget (999, 0, 0, 0) zc_Lw_law) (zcut zu_Lw_law) (zorc [(2355, [some (150, none), some (100, none), some (112, none), some (151, none), some (152, none), some (0, none), none, none, none], [], fun xs h => match xs with
  | [a0, a1, a2, a3, a4, a5] => Lw_law_2355 kr r28 a0 a1 a2 a3 a4 a5 h
  | _ => none)]) kr (fun _ _ => none) 400 2159 [some (150, a0), some (100, a1), some (112, a2), some (151, a3), some (152, a4), some (0, a5), none, none, none] [] h := qg_Lw_law_2159 kr r28 X_misses M_misses (Lw_law_2355 kr r28) a0 a1 a2 a3 a4 a5 h
set_option maxRecDepth 100000 in
theorem qg_Lw_law_2172 {ρ : Type} (kr : Int → zH → Option ρ) (r28 : Int → Int → Int → Int → Int → Int → zH → Option ρ) (F_X_lost : Int → zH → (Int → zH → Option ρ) → Option ρ) (F_M_lost : zH → (Int → zH → Option ρ) → Option ρ) (c2355 : Int → Int → Int → Int → Int → Int → zH → Option ρ) (a0 a1 a2 a3 a4 a5 : Int) (h : zH) : (zob h 0 a1 fun _ =>
F_X_lost a1 h  fun v1 h2 =>
zob h2 12 a2 fun _ =>
zmch h2 a2 (F_M_lost h2  fun v3 h4 =>
if v1 = v3 then c2355 a0 a1 a2 a3 a4 a5 h4
else kr 0 h4)) = zseg zPP true (zcal [(41, [none], fun xs h kr kt => match xs with
  | [x0] => F_X_lost x0 h kr
  | _ => none), (163, [none], fun xs h kr kt => match xs with
  | [x0] => zmch h x0 (F_M_lost h kr)
  | _ => none)]) (zget (999, 0, 0, 0) zc_Lw_law) (zcut zu_Lw_law) (zorc [(2355, [some (150, none), some (100, none), some (112, none), some (151, none), some (152, none), some (0, none), none, none, none], [], fun xs h => match xs with
  | [a0, a1, a2, a3, a4, a5] => c2355 a0 a1 a2 a3 a4 a5 h
  | _ => none)]) kr (fun _ _ => none) 400 2172 [some (150, a0), some (100, a1), some (112, a2), some (151, a3), some (152, a4), some (0, a5), none, none, none] [] h := by rfl
set_option maxRecDepth 100000 in
theorem qe_Lw_law_2172 {ρ : Type} (kr : Int → zH → Option ρ) (r28 : Int → Int → Int → Int → Int → Int → zH → Option ρ) (a0 a1 a2 a3 a4 a5 : Int) (h : zH) : Lw_law_2172 kr r28 a0 a1 a2 a3 a4 a5 h = zseg zPP true (zcal [(41, [none], fun xs h kr kt => match xs with
  | [x0] => X_lost x0 h kr
  | _ => none), (163, [none], fun xs h kr kt => match xs with
  | [x0] => zmch h x0 (M_lost h kr)
  | _ => none)]) (zget (999, 0, 0, 0) zc_Lw_law) (zcut zu_Lw_law) (zorc [(2355, [some (150, none), some (100, none), some (112, none), some (151, none), some (152, none), some (0, none), none, none, none], [], fun xs h => match xs with
  | [a0, a1, a2, a3, a4, a5] => Lw_law_2355 kr r28 a0 a1 a2 a3 a4 a5 h
  | _ => none)]) kr (fun _ _ => none) 400 2172 [some (150, a0), some (100, a1), some (112, a2), some (151, a3), some (152, a4), some (0, a5), none, none, none] [] h := qg_Lw_law_2172 kr r28 X_lost M_lost (Lw_law_2355 kr r28) a0 a1 a2 a3 a4 a5 h
set_option maxRecDepth 100000 in
theorem qg_Lw_law_2185 {ρ : Type} (kr : Int → zH → Option ρ) (r28 : Int → Int → Int → Int → Int → Int → zH → Option ρ) (F_X_barriers : Int → zH → (Int → zH → Option ρ) → Option ρ) (F_M_barriers : zH → (Int → zH → Option ρ) → Option ρ) (c2355 : Int → Int → Int → Int → Int → Int → zH → Option ρ) (a0 a1 a2 a3 a4 a5 : Int) (h : zH) : (zob h 0 a1 fun _ =>
F_X_barriers a1 h  fun v1 h2 =>
zob h2 12 a2 fun _ =>
zmch h2 a2 (F_M_barriers h2  fun v3 h4 =>
if v1 = v3 then c2355 a0 a1 a2 a3 a4 a5 h4
else kr 0 h4)) = zseg zPP true (zcal [(42, [none], fun xs h kr kt => match xs with
  | [x0] => F_X_barriers x0 h kr
  | _ => none), (164, [none], fun xs h kr kt => match xs with
  | [x0] => zmch h x0 (F_M_barriers h kr)
  | _ => none)]) (zget (999, 0, 0, 0) zc_Lw_law) (zcut zu_Lw_law) (zorc [(2355, [some (150, none), some (100, none), some (112, none), some (151, none), some (152, none), some (0, none), none, none, none], [], fun xs h => match xs with
  | [a0, a1, a2, a3, a4, a5] => c2355 a0 a1 a2 a3 a4 a5 h
  | _ => none)]) kr (fun _ _ => none) 400 2185 [some (150, a0), some (100, a1), some (112, a2), some (151, a3), some (152, a4), some (0, a5), none, none, none] [] h := by rfl
set_option maxRecDepth 100000 in
theorem qe_Lw_law_2185 {ρ : Type} (kr : Int → zH → Option ρ) (r28 : Int → Int → Int → Int → Int → Int → zH → Option ρ) (a0 a1 a2 a3 a4 a5 : Int) (h : zH) : Lw_law_2185 kr r28 a0 a1 a2 a3 a4 a5 h = zseg zPP true (zcal [(42, [none], fun xs h kr kt => match xs with
  | [x0] => X_barriers x0 h kr
  | _ => none), (164, [none], fun xs h kr kt => match xs with
  | [x0] => zmch h x0 (M_barriers h kr)
  | _ => none)]) (zget (999, 0, 0, 0) zc_Lw_law) (zcut zu_Lw_law) (zorc [(2355, [some (150, none), some (100, none), some (112, none), some (151, none), some (152, none), some (0, none), none, none, none], [], fun xs h => match xs with
  | [a0, a1, a2, a3, a4, a5] => Lw_law_2355 kr r28 a0 a1 a2 a3 a4 a5 h
  | _ => none)]) kr (fun _ _ => none) 400 2185 [some (150, a0), some (100, a1), some (112, a2), some (151, a3), some (152, a4), some (0, a5), none, none, none] [] h := qg_Lw_law_2185 kr r28 X_barriers M_barriers (Lw_law_2355 kr r28) a0 a1 a2 a3 a4 a5 h
set_option maxRecDepth 100000 in
theorem qg_Lw_law_2198 {ρ : Type} (kr : Int → zH → Option ρ) (r28 : Int → Int → Int → Int → Int → Int → zH → Option ρ) (F_X_refused : Int → zH → (Int → zH → Option ρ) → Option ρ) (F_M_refused : zH → (Int → zH → Option ρ) → Option ρ) (c2355 : Int → Int → Int → Int → Int → Int → zH → Option ρ) (a0 a1 a2 a3 a4 a5 : Int) (h : zH) : (zob h 0 a1 fun _ =>
F_X_refused a1 h  fun v1 h2 =>
zob h2 12 a2 fun _ =>
zmch h2 a2 (F_M_refused h2  fun v3 h4 =>
if v1 = v3 then c2355 a0 a1 a2 a3 a4 a5 h4
else kr 0 h4)) = zseg zPP true (zcal [(43, [none], fun xs h kr kt => match xs with
  | [x0] => F_X_refused x0 h kr
  | _ => none), (165, [none], fun xs h kr kt => match xs with
  | [x0] => zmch h x0 (F_M_refused h kr)
  | _ => none)]) (zget (999, 0, 0, 0) zc_Lw_law) (zcut zu_Lw_law) (zorc [(2355, [some (150, none), some (100, none), some (112, none), some (151, none), some (152, none), some (0, none), none, none, none], [], fun xs h => match xs with
  | [a0, a1, a2, a3, a4, a5] => c2355 a0 a1 a2 a3 a4 a5 h
  | _ => none)]) kr (fun _ _ => none) 400 2198 [some (150, a0), some (100, a1), some (112, a2), some (151, a3), some (152, a4), some (0, a5), none, none, none] [] h := by rfl
set_option maxRecDepth 100000 in
theorem qe_Lw_law_2198 {ρ : Type} (kr : Int → zH → Option ρ) (r28 : Int → Int → Int → Int → Int → Int → zH → Option ρ) (a0 a1 a2 a3 a4 a5 : Int) (h : zH) : Lw_law_2198 kr r28 a0 a1 a2 a3 a4 a5 h = zseg zPP true (zcal [(43, [none], fun xs h kr kt => match xs with
  | [x0] => X_refused x0 h kr
  | _ => none), (165, [none], fun xs h kr kt => match xs with
  | [x0] => zmch h x0 (M_refused h kr)
  | _ => none)]) (zget (999, 0, 0, 0) zc_Lw_law) (zcut zu_Lw_law) (zorc [(2355, [some (150, none), some (100, none), some (112, none), some (151, none), some (152, none), some (0, none), none, none, none], [], fun xs h => match xs with
  | [a0, a1, a2, a3, a4, a5] => Lw_law_2355 kr r28 a0 a1 a2 a3 a4 a5 h
  | _ => none)]) kr (fun _ _ => none) 400 2198 [some (150, a0), some (100, a1), some (112, a2), some (151, a3), some (152, a4), some (0, a5), none, none, none] [] h := qg_Lw_law_2198 kr r28 X_refused M_refused (Lw_law_2355 kr r28) a0 a1 a2 a3 a4 a5 h
set_option maxRecDepth 100000 in
theorem qg_Lw_law_2272 {ρ : Type} (kr : Int → zH → Option ρ) (h : zH) : (kr 0 h) = zseg zPP true (zcal []) (zget (999, 0, 0, 0) zc_Lw_law) (zcut zu_Lw_law) (zorc []) kr (fun _ _ => none) 400 2272 [none, none, none, none, none, none, none, none, none] [] h := by rfl
set_option maxRecDepth 100000 in
theorem qe_Lw_law_2272 {ρ : Type} (kr : Int → zH → Option ρ) (h : zH) : Lw_law_2272 kr h = zseg zPP true (zcal []) (zget (999, 0, 0, 0) zc_Lw_law) (zcut zu_Lw_law) (zorc []) kr (fun _ _ => none) 400 2272 [none, none, none, none, none, none, none, none, none] [] h := qg_Lw_law_2272 kr h
set_option maxRecDepth 100000 in
theorem qg_Lw_law_2274 {ρ : Type} (kr : Int → zH → Option ρ) (r28 : Int → Int → Int → Int → Int → Int → zH → Option ρ) (c2355 : Int → Int → Int → Int → Int → Int → zH → Option ρ) (a0 a1 a2 a3 a4 a5 : Int) (h : zH) : (c2355 a0 a1 a2 a3 a4 a5 h) = zseg zPP true (zcal []) (zget (999, 0, 0, 0) zc_Lw_law) (zcut zu_Lw_law) (zorc [(2355, [some (150, none), some (100, none), some (112, none), some (151, none), some (152, none), some (0, none), none, none, none], [], fun xs h => match xs with
  | [a0, a1, a2, a3, a4, a5] => c2355 a0 a1 a2 a3 a4 a5 h
  | _ => none)]) kr (fun _ _ => none) 400 2274 [some (150, a0), some (100, a1), some (112, a2), some (151, a3), some (152, a4), some (0, a5), none, none, none] [] h := by rfl
set_option maxRecDepth 100000 in
theorem qe_Lw_law_2274 {ρ : Type} (kr : Int → zH → Option ρ) (r28 : Int → Int → Int → Int → Int → Int → zH → Option ρ) (a0 a1 a2 a3 a4 a5 : Int) (h : zH) : Lw_law_2274 kr r28 a0 a1 a2 a3 a4 a5 h = zseg zPP true (zcal []) (zget (999, 0, 0, 0) zc_Lw_law) (zcut zu_Lw_law) (zorc [(2355, [some (150, none), some (100, none), some (112, none), some (151, none), some (152, none), some (0, none), none, none, none], [], fun xs h => match xs with
  | [a0, a1, a2, a3, a4, a5] => Lw_law_2355 kr r28 a0 a1 a2 a3 a4 a5 h
  | _ => none)]) kr (fun _ _ => none) 400 2274 [some (150, a0), some (100, a1), some (112, a2), some (151, a3), some (152, a4), some (0, a5), none, none, none] [] h := qg_Lw_law_2274 kr r28 (Lw_law_2355 kr r28) a0 a1 a2 a3 a4 a5 h
set_option maxRecDepth 100000 in
theorem qg_Lw_law_2211 {ρ : Type} (kr : Int → zH → Option ρ) (r28 : Int → Int → Int → Int → Int → Int → zH → Option ρ) (F_M_thrown : zH → (Int → zH → Option ρ) → Option ρ) (F_M_usedShare : zH → (Int → zH → Option ρ) → Option ρ) (F_Lw_usedShare : Int → Int → zH → (Int → zH → Option ρ) → Option ρ) (c2272 : zH → Option ρ) (c2274 : Int → Int → Int → Int → Int → Int → zH → Option ρ) (a0 a1 a2 a3 a4 a5 : Int) (h : zH) : (F_Lw_usedShare a1 a4 h  fun v1 h2 =>
zob h2 12 a2 fun _ =>
zmch h2 a2 (F_M_usedShare h2  fun v3 h4 =>
zob h4 12 a2 fun _ =>
zmch h4 a2 (F_M_thrown h4  fun v5 h6 =>
if v5 = v1 then (if v1 = 0 then (zob h6 52 a4 fun p7 =>
zix (zhL h6 52 p7) 0 fun j8 =>
zn64 (FP.f2d (zf32 v3)) fun x9 =>
if (zdcmp (zhD h6 52 p7 j8) x9) = 0 then c2274 a0 a1 a2 a3 a4 a5 h6
else zob h6 52 a4 fun p10 =>
zix (zhL h6 52 p10) 0 fun j11 =>
zob h6 52 a4 fun p12 =>
zix (zhL h6 52 p12) 0 fun j13 =>
if (zdcmp (zhD h6 52 p10 j11) (zhD h6 52 p12 j13)) = 0 then c2272 h6
else if (zfcmp v3 v3) = 0 then c2272 h6
else c2274 a0 a1 a2 a3 a4 a5 h6)
else c2274 a0 a1 a2 a3 a4 a5 h6)
else kr 0 h6))) = zseg zPP true (zcal [(63, [none], fun xs h kr kt => match xs with
  | [x0] => zmch h x0 (F_M_thrown h kr)
  | _ => none), (166, [none], fun xs h kr kt => match xs with
  | [x0] => zmch h x0 (F_M_usedShare h kr)
  | _ => none), (316, [none, none], fun xs h kr kt => match xs with
  | [x0, x1] => F_Lw_usedShare x0 x1 h kr
  | _ => none)]) (zget (999, 0, 0, 0) zc_Lw_law) (zcut zu_Lw_law) (zorc [(2272, [none, none, none, none, none, none, none, none, none], [], fun xs h => match xs with
  | [] => c2272 h
  | _ => none), (2274, [some (150, none), some (100, none), some (112, none), some (151, none), some (152, none), some (0, none), none, none, none], [], fun xs h => match xs with
  | [a0, a1, a2, a3, a4, a5] => c2274 a0 a1 a2 a3 a4 a5 h
  | _ => none)]) kr (fun _ _ => none) 400 2211 [some (150, a0), some (100, a1), some (112, a2), some (151, a3), some (152, a4), some (0, a5), none, none, none] [] h := by rfl
set_option maxRecDepth 100000 in
theorem qe_Lw_law_2211 {ρ : Type} (kr : Int → zH → Option ρ) (r28 : Int → Int → Int → Int → Int → Int → zH → Option ρ) (a0 a1 a2 a3 a4 a5 : Int) (h : zH) : Lw_law_2211 kr r28 a0 a1 a2 a3 a4 a5 h = zseg zPP true (zcal [(63, [none], fun xs h kr kt => match xs with
  | [x0] => zmch h x0 (M_thrown h kr)
  | _ => none), (166, [none], fun xs h kr kt => match xs with
  | [x0] => zmch h x0 (M_usedShare h kr)
  | _ => none), (316, [none, none], fun xs h kr kt => match xs with
  | [x0, x1] => Lw_usedShare x0 x1 h kr
  | _ => none)]) (zget (999, 0, 0, 0) zc_Lw_law) (zcut zu_Lw_law) (zorc [(2272, [none, none, none, none, none, none, none, none, none], [], fun xs h => match xs with
  | [] => Lw_law_2272 kr h
  | _ => none), (2274, [some (150, none), some (100, none), some (112, none), some (151, none), some (152, none), some (0, none), none, none, none], [], fun xs h => match xs with
  | [a0, a1, a2, a3, a4, a5] => Lw_law_2274 kr r28 a0 a1 a2 a3 a4 a5 h
  | _ => none)]) kr (fun _ _ => none) 400 2211 [some (150, a0), some (100, a1), some (112, a2), some (151, a3), some (152, a4), some (0, a5), none, none, none] [] h := qg_Lw_law_2211 kr r28 M_thrown M_usedShare Lw_usedShare (Lw_law_2272 kr) (Lw_law_2274 kr r28) a0 a1 a2 a3 a4 a5 h
set_option maxRecDepth 100000 in
theorem qg_Lw_law_2337 {ρ : Type} (kr : Int → zH → Option ρ) (h : zH) : (kr 0 h) = zseg zPP true (zcal []) (zget (999, 0, 0, 0) zc_Lw_law) (zcut zu_Lw_law) (zorc []) kr (fun _ _ => none) 400 2337 [none, none, none, none, none, none, none, none, none] [] h := by rfl
set_option maxRecDepth 100000 in
theorem qe_Lw_law_2337 {ρ : Type} (kr : Int → zH → Option ρ) (h : zH) : Lw_law_2337 kr h = zseg zPP true (zcal []) (zget (999, 0, 0, 0) zc_Lw_law) (zcut zu_Lw_law) (zorc []) kr (fun _ _ => none) 400 2337 [none, none, none, none, none, none, none, none, none] [] h := qg_Lw_law_2337 kr h
set_option maxRecDepth 100000 in
theorem qg_Lw_law_2339 {ρ : Type} (kr : Int → zH → Option ρ) (r28 : Int → Int → Int → Int → Int → Int → zH → Option ρ) (c2355 : Int → Int → Int → Int → Int → Int → zH → Option ρ) (a0 a1 a2 a3 a4 a5 : Int) (h : zH) : (c2355 a0 a1 a2 a3 a4 a5 h) = zseg zPP true (zcal []) (zget (999, 0, 0, 0) zc_Lw_law) (zcut zu_Lw_law) (zorc [(2355, [some (150, none), some (100, none), some (112, none), some (151, none), some (152, none), some (0, none), none, none, none], [], fun xs h => match xs with
  | [a0, a1, a2, a3, a4, a5] => c2355 a0 a1 a2 a3 a4 a5 h
  | _ => none)]) kr (fun _ _ => none) 400 2339 [some (150, a0), some (100, a1), some (112, a2), some (151, a3), some (152, a4), some (0, a5), none, none, none] [] h := by rfl
set_option maxRecDepth 100000 in
theorem qe_Lw_law_2339 {ρ : Type} (kr : Int → zH → Option ρ) (r28 : Int → Int → Int → Int → Int → Int → zH → Option ρ) (a0 a1 a2 a3 a4 a5 : Int) (h : zH) : Lw_law_2339 kr r28 a0 a1 a2 a3 a4 a5 h = zseg zPP true (zcal []) (zget (999, 0, 0, 0) zc_Lw_law) (zcut zu_Lw_law) (zorc [(2355, [some (150, none), some (100, none), some (112, none), some (151, none), some (152, none), some (0, none), none, none, none], [], fun xs h => match xs with
  | [a0, a1, a2, a3, a4, a5] => Lw_law_2355 kr r28 a0 a1 a2 a3 a4 a5 h
  | _ => none)]) kr (fun _ _ => none) 400 2339 [some (150, a0), some (100, a1), some (112, a2), some (151, a3), some (152, a4), some (0, a5), none, none, none] [] h := qg_Lw_law_2339 kr r28 (Lw_law_2355 kr r28) a0 a1 a2 a3 a4 a5 h
set_option maxRecDepth 100000 in
theorem qg_Lw_law_2277 {ρ : Type} (kr : Int → zH → Option ρ) (r28 : Int → Int → Int → Int → Int → Int → zH → Option ρ) (F_M_thrown : zH → (Int → zH → Option ρ) → Option ρ) (F_M_meanDelay : zH → (Int → zH → Option ρ) → Option ρ) (F_Lw_meanDelay : Int → Int → zH → (Int → zH → Option ρ) → Option ρ) (c2337 : zH → Option ρ) (c2339 : Int → Int → Int → Int → Int → Int → zH → Option ρ) (a0 a1 a2 a3 a4 a5 : Int) (h : zH) : (F_Lw_meanDelay a1 a4 h  fun v1 h2 =>
zob h2 12 a2 fun _ =>
zmch h2 a2 (F_M_meanDelay h2  fun v3 h4 =>
zob h4 12 a2 fun _ =>
zmch h4 a2 (F_M_thrown h4  fun v5 h6 =>
if v5 = v1 then (if v1 = 0 then (zob h6 52 a4 fun p7 =>
zix (zhL h6 52 p7) 0 fun j8 =>
if (zdcmp (zhD h6 52 p7 j8) v3) = 0 then c2339 a0 a1 a2 a3 a4 a5 h6
else zob h6 52 a4 fun p9 =>
zix (zhL h6 52 p9) 0 fun j10 =>
zob h6 52 a4 fun p11 =>
zix (zhL h6 52 p11) 0 fun j12 =>
if (zdcmp (zhD h6 52 p9 j10) (zhD h6 52 p11 j12)) = 0 then c2337 h6
else if (zdcmp v3 v3) = 0 then c2337 h6
else c2339 a0 a1 a2 a3 a4 a5 h6)
else c2339 a0 a1 a2 a3 a4 a5 h6)
else kr 0 h6))) = zseg zPP true (zcal [(63, [none], fun xs h kr kt => match xs with
  | [x0] => zmch h x0 (F_M_thrown h kr)
  | _ => none), (167, [none], fun xs h kr kt => match xs with
  | [x0] => zmch h x0 (F_M_meanDelay h kr)
  | _ => none), (317, [none, none], fun xs h kr kt => match xs with
  | [x0, x1] => F_Lw_meanDelay x0 x1 h kr
  | _ => none)]) (zget (999, 0, 0, 0) zc_Lw_law) (zcut zu_Lw_law) (zorc [(2337, [none, none, none, none, none, none, none, none, none], [], fun xs h => match xs with
  | [] => c2337 h
  | _ => none), (2339, [some (150, none), some (100, none), some (112, none), some (151, none), some (152, none), some (0, none), none, none, none], [], fun xs h => match xs with
  | [a0, a1, a2, a3, a4, a5] => c2339 a0 a1 a2 a3 a4 a5 h
  | _ => none)]) kr (fun _ _ => none) 400 2277 [some (150, a0), some (100, a1), some (112, a2), some (151, a3), some (152, a4), some (0, a5), none, none, none] [] h := by rfl
set_option maxRecDepth 100000 in
theorem qe_Lw_law_2277 {ρ : Type} (kr : Int → zH → Option ρ) (r28 : Int → Int → Int → Int → Int → Int → zH → Option ρ) (a0 a1 a2 a3 a4 a5 : Int) (h : zH) : Lw_law_2277 kr r28 a0 a1 a2 a3 a4 a5 h = zseg zPP true (zcal [(63, [none], fun xs h kr kt => match xs with
  | [x0] => zmch h x0 (M_thrown h kr)
  | _ => none), (167, [none], fun xs h kr kt => match xs with
  | [x0] => zmch h x0 (M_meanDelay h kr)
  | _ => none), (317, [none, none], fun xs h kr kt => match xs with
  | [x0, x1] => Lw_meanDelay x0 x1 h kr
  | _ => none)]) (zget (999, 0, 0, 0) zc_Lw_law) (zcut zu_Lw_law) (zorc [(2337, [none, none, none, none, none, none, none, none, none], [], fun xs h => match xs with
  | [] => Lw_law_2337 kr h
  | _ => none), (2339, [some (150, none), some (100, none), some (112, none), some (151, none), some (152, none), some (0, none), none, none, none], [], fun xs h => match xs with
  | [a0, a1, a2, a3, a4, a5] => Lw_law_2339 kr r28 a0 a1 a2 a3 a4 a5 h
  | _ => none)]) kr (fun _ _ => none) 400 2277 [some (150, a0), some (100, a1), some (112, a2), some (151, a3), some (152, a4), some (0, a5), none, none, none] [] h := qg_Lw_law_2277 kr r28 M_thrown M_meanDelay Lw_meanDelay (Lw_law_2337 kr) (Lw_law_2339 kr r28) a0 a1 a2 a3 a4 a5 h
set_option maxRecDepth 100000 in
theorem qg_Lw_law_2342 {ρ : Type} (kr : Int → zH → Option ρ) (r28 : Int → Int → Int → Int → Int → Int → zH → Option ρ) (F_X_isSound : Int → zH → (Int → zH → Option ρ) → Option ρ) (F_M_isSound : zH → (Int → zH → Option ρ) → Option ρ) (c2355 : Int → Int → Int → Int → Int → Int → zH → Option ρ) (a0 a1 a2 a3 a4 a5 : Int) (h : zH) : (zob h 0 a1 fun _ =>
F_X_isSound a1 h  fun v1 h2 =>
zob h2 12 a2 fun _ =>
zmch h2 a2 (F_M_isSound h2  fun v3 h4 =>
if v1 = v3 then c2355 a0 a1 a2 a3 a4 a5 h4
else kr 0 h4)) = zseg zPP true (zcal [(46, [none], fun xs h kr kt => match xs with
  | [x0] => F_X_isSound x0 h kr
  | _ => none), (168, [none], fun xs h kr kt => match xs with
  | [x0] => zmch h x0 (F_M_isSound h kr)
  | _ => none)]) (zget (999, 0, 0, 0) zc_Lw_law) (zcut zu_Lw_law) (zorc [(2355, [some (150, none), some (100, none), some (112, none), some (151, none), some (152, none), some (0, none), none, none, none], [], fun xs h => match xs with
  | [a0, a1, a2, a3, a4, a5] => c2355 a0 a1 a2 a3 a4 a5 h
  | _ => none)]) kr (fun _ _ => none) 400 2342 [some (150, a0), some (100, a1), some (112, a2), some (151, a3), some (152, a4), some (0, a5), none, none, none] [] h := by rfl
set_option maxRecDepth 100000 in
theorem qe_Lw_law_2342 {ρ : Type} (kr : Int → zH → Option ρ) (r28 : Int → Int → Int → Int → Int → Int → zH → Option ρ) (a0 a1 a2 a3 a4 a5 : Int) (h : zH) : Lw_law_2342 kr r28 a0 a1 a2 a3 a4 a5 h = zseg zPP true (zcal [(46, [none], fun xs h kr kt => match xs with
  | [x0] => X_isSound x0 h kr
  | _ => none), (168, [none], fun xs h kr kt => match xs with
  | [x0] => zmch h x0 (M_isSound h kr)
  | _ => none)]) (zget (999, 0, 0, 0) zc_Lw_law) (zcut zu_Lw_law) (zorc [(2355, [some (150, none), some (100, none), some (112, none), some (151, none), some (152, none), some (0, none), none, none, none], [], fun xs h => match xs with
  | [a0, a1, a2, a3, a4, a5] => Lw_law_2355 kr r28 a0 a1 a2 a3 a4 a5 h
  | _ => none)]) kr (fun _ _ => none) 400 2342 [some (150, a0), some (100, a1), some (112, a2), some (151, a3), some (152, a4), some (0, a5), none, none, none] [] h := qg_Lw_law_2342 kr r28 X_isSound M_isSound (Lw_law_2355 kr r28) a0 a1 a2 a3 a4 a5 h
set_option maxRecDepth 100000 in
theorem qg_Lw_law_28b {ρ : Type} (kr : Int → zH → Option ρ) (r28 : Int → Int → Int → Int → Int → Int → zH → Option ρ) (c208 : Int → Int → Int → Int → Int → Int → zH → Option ρ) (c276 : Int → Int → Int → Int → Int → Int → zH → Option ρ) (c382 : Int → Int → Int → Int → Int → Int → zH → Option ρ) (c450 : Int → Int → Int → Int → Int → Int → zH → Option ρ) (c518 : Int → Int → Int → Int → Int → Int → zH → Option ρ) (c574 : Int → Int → Int → Int → Int → Int → zH → Option ρ) (c678 : Int → Int → Int → Int → Int → Int → zH → Option ρ) (c782 : Int → Int → Int → Int → Int → Int → zH → Option ρ) (c795 : Int → Int → Int → Int → Int → Int → zH → Option ρ) (c851 : Int → Int → Int → Int → Int → Int → zH → Option ρ) (c907 : Int → Int → Int → Int → Int → Int → zH → Option ρ) (c963 : Int → Int → Int → Int → Int → Int → zH → Option ρ) (c1019 : Int → Int → Int → Int → Int → Int → zH → Option ρ) (c1075 : Int → Int → Int → Int → Int → Int → zH → Option ρ) (c1133 : Int → Int → Int → Int → Int → Int → zH → Option ρ) (c1146 : Int → Int → Int → Int → Int → Int → zH → Option ρ) (c1202 : Int → Int → Int → Int → Int → Int → zH → Option ρ) (c1270 : Int → Int → Int → Int → Int → Int → zH → Option ρ) (c1338 : Int → Int → Int → Int → Int → Int → zH → Option ρ) (c1406 : Int → Int → Int → Int → Int → Int → zH → Option ρ) (c1474 : Int → Int → Int → Int → Int → Int → zH → Option ρ) (c1542 : Int → Int → Int → Int → Int → Int → zH → Option ρ) (c1634 : Int → Int → Int → Int → Int → Int → zH → Option ρ) (c1714 : Int → Int → Int → Int → Int → Int → zH → Option ρ) (c1782 : Int → Int → Int → Int → Int → Int → zH → Option ρ) (c1838 : Int → Int → Int → Int → Int → Int → zH → Option ρ) (c1894 : Int → Int → Int → Int → Int → Int → zH → Option ρ) (c1969 : Int → Int → Int → Int → Int → Int → zH → Option ρ) (c2025 : Int → Int → Int → Int → Int → Int → zH → Option ρ) (c2145 : Int → Int → Int → Int → Int → Int → zH → Option ρ) (c2159 : Int → Int → Int → Int → Int → Int → zH → Option ρ) (c2172 : Int → Int → Int → Int → Int → Int → zH → Option ρ) (c2185 : Int → Int → Int → Int → Int → Int → zH → Option ρ) (c2198 : Int → Int → Int → Int → Int → Int → zH → Option ρ) (c2211 : Int → Int → Int → Int → Int → Int → zH → Option ρ) (c2277 : Int → Int → Int → Int → Int → Int → zH → Option ρ) (c2342 : Int → Int → Int → Int → Int → Int → zH → Option ρ) (c2355 : Int → Int → Int → Int → Int → Int → zH → Option ρ) (a0 a1 a2 a3 a4 a5 : Int) (h : zH) : (zob h 50 a0 fun p1 =>
if (wr ((zhL h 50 p1 : Int) - 6)) < a5 then kr 1 h
else zob h 50 a0 fun p2 =>
zix (zhL h 50 p2) a5 fun j3 =>
if (zand (zhD h 50 p2 j3) 63) = 0 then c208 a0 a1 a2 a3 a4 a5 h
else if (zand (zhD h 50 p2 j3) 63) = 1 then c276 a0 a1 a2 a3 a4 a5 h
else if (zand (zhD h 50 p2 j3) 63) = 2 then c382 a0 a1 a2 a3 a4 a5 h
else if (zand (zhD h 50 p2 j3) 63) = 3 then c450 a0 a1 a2 a3 a4 a5 h
else if (zand (zhD h 50 p2 j3) 63) = 4 then c518 a0 a1 a2 a3 a4 a5 h
else if (zand (zhD h 50 p2 j3) 63) = 5 then c574 a0 a1 a2 a3 a4 a5 h
else if (zand (zhD h 50 p2 j3) 63) = 6 then c678 a0 a1 a2 a3 a4 a5 h
else if (zand (zhD h 50 p2 j3) 63) = 7 then c782 a0 a1 a2 a3 a4 a5 h
else if (zand (zhD h 50 p2 j3) 63) = 8 then c795 a0 a1 a2 a3 a4 a5 h
else if (zand (zhD h 50 p2 j3) 63) = 9 then c851 a0 a1 a2 a3 a4 a5 h
else if (zand (zhD h 50 p2 j3) 63) = 10 then c907 a0 a1 a2 a3 a4 a5 h
else if (zand (zhD h 50 p2 j3) 63) = 11 then c963 a0 a1 a2 a3 a4 a5 h
else if (zand (zhD h 50 p2 j3) 63) = 12 then c1019 a0 a1 a2 a3 a4 a5 h
else if (zand (zhD h 50 p2 j3) 63) = 13 then c1075 a0 a1 a2 a3 a4 a5 h
else if (zand (zhD h 50 p2 j3) 63) = 14 then c1133 a0 a1 a2 a3 a4 a5 h
else if (zand (zhD h 50 p2 j3) 63) = 15 then c1146 a0 a1 a2 a3 a4 a5 h
else if (zand (zhD h 50 p2 j3) 63) = 16 then c1202 a0 a1 a2 a3 a4 a5 h
else if (zand (zhD h 50 p2 j3) 63) = 17 then c1270 a0 a1 a2 a3 a4 a5 h
else if (zand (zhD h 50 p2 j3) 63) = 18 then c1338 a0 a1 a2 a3 a4 a5 h
else if (zand (zhD h 50 p2 j3) 63) = 19 then c1406 a0 a1 a2 a3 a4 a5 h
else if (zand (zhD h 50 p2 j3) 63) = 20 then c1474 a0 a1 a2 a3 a4 a5 h
else if (zand (zhD h 50 p2 j3) 63) = 21 then c1542 a0 a1 a2 a3 a4 a5 h
else if (zand (zhD h 50 p2 j3) 63) = 22 then c1634 a0 a1 a2 a3 a4 a5 h
else if (zand (zhD h 50 p2 j3) 63) = 23 then c1714 a0 a1 a2 a3 a4 a5 h
else if (zand (zhD h 50 p2 j3) 63) = 24 then c1782 a0 a1 a2 a3 a4 a5 h
else if (zand (zhD h 50 p2 j3) 63) = 25 then c1838 a0 a1 a2 a3 a4 a5 h
else if (zand (zhD h 50 p2 j3) 63) = 26 then c1894 a0 a1 a2 a3 a4 a5 h
else if (zand (zhD h 50 p2 j3) 63) = 27 then c1969 a0 a1 a2 a3 a4 a5 h
else if (zand (zhD h 50 p2 j3) 63) = 28 then c2025 a0 a1 a2 a3 a4 a5 h
else if (zand (zhD h 50 p2 j3) 63) = 29 then c2145 a0 a1 a2 a3 a4 a5 h
else if (zand (zhD h 50 p2 j3) 63) = 30 then c2159 a0 a1 a2 a3 a4 a5 h
else if (zand (zhD h 50 p2 j3) 63) = 31 then c2172 a0 a1 a2 a3 a4 a5 h
else if (zand (zhD h 50 p2 j3) 63) = 32 then c2185 a0 a1 a2 a3 a4 a5 h
else if (zand (zhD h 50 p2 j3) 63) = 33 then c2198 a0 a1 a2 a3 a4 a5 h
else if (zand (zhD h 50 p2 j3) 63) = 34 then c2211 a0 a1 a2 a3 a4 a5 h
else if (zand (zhD h 50 p2 j3) 63) = 35 then c2277 a0 a1 a2 a3 a4 a5 h
else if (zand (zhD h 50 p2 j3) 63) = 36 then c2342 a0 a1 a2 a3 a4 a5 h
else c2355 a0 a1 a2 a3 a4 a5 h) = zseg zPP true (zcal []) (zget (999, 0, 0, 0) zc_Lw_law) (zcut zu_Lw_law) (zorc [(208, [some (150, none), some (100, none), some (112, none), some (151, none), some (152, none), some (0, none), none, none, none], [], fun xs h => match xs with
  | [a0, a1, a2, a3, a4, a5] => c208 a0 a1 a2 a3 a4 a5 h
  | _ => none), (276, [some (150, none), some (100, none), some (112, none), some (151, none), some (152, none), some (0, none), none, none, none], [], fun xs h => match xs with
  | [a0, a1, a2, a3, a4, a5] => c276 a0 a1 a2 a3 a4 a5 h
  | _ => none), (382, [some (150, none), some (100, none), some (112, none), some (151, none), some (152, none), some (0, none), none, none, none], [], fun xs h => match xs with
  | [a0, a1, a2, a3, a4, a5] => c382 a0 a1 a2 a3 a4 a5 h
  | _ => none), (450, [some (150, none), some (100, none), some (112, none), some (151, none), some (152, none), some (0, none), none, none, none], [], fun xs h => match xs with
  | [a0, a1, a2, a3, a4, a5] => c450 a0 a1 a2 a3 a4 a5 h
  | _ => none), (518, [some (150, none), some (100, none), some (112, none), some (151, none), some (152, none), some (0, none), none, none, none], [], fun xs h => match xs with
  | [a0, a1, a2, a3, a4, a5] => c518 a0 a1 a2 a3 a4 a5 h
  | _ => none), (574, [some (150, none), some (100, none), some (112, none), some (151, none), some (152, none), some (0, none), none, none, none], [], fun xs h => match xs with
  | [a0, a1, a2, a3, a4, a5] => c574 a0 a1 a2 a3 a4 a5 h
  | _ => none), (678, [some (150, none), some (100, none), some (112, none), some (151, none), some (152, none), some (0, none), none, none, none], [], fun xs h => match xs with
  | [a0, a1, a2, a3, a4, a5] => c678 a0 a1 a2 a3 a4 a5 h
  | _ => none), (782, [some (150, none), some (100, none), some (112, none), some (151, none), some (152, none), some (0, none), none, none, none], [], fun xs h => match xs with
  | [a0, a1, a2, a3, a4, a5] => c782 a0 a1 a2 a3 a4 a5 h
  | _ => none), (795, [some (150, none), some (100, none), some (112, none), some (151, none), some (152, none), some (0, none), none, none, none], [], fun xs h => match xs with
  | [a0, a1, a2, a3, a4, a5] => c795 a0 a1 a2 a3 a4 a5 h
  | _ => none), (851, [some (150, none), some (100, none), some (112, none), some (151, none), some (152, none), some (0, none), none, none, none], [], fun xs h => match xs with
  | [a0, a1, a2, a3, a4, a5] => c851 a0 a1 a2 a3 a4 a5 h
  | _ => none), (907, [some (150, none), some (100, none), some (112, none), some (151, none), some (152, none), some (0, none), none, none, none], [], fun xs h => match xs with
  | [a0, a1, a2, a3, a4, a5] => c907 a0 a1 a2 a3 a4 a5 h
  | _ => none), (963, [some (150, none), some (100, none), some (112, none), some (151, none), some (152, none), some (0, none), none, none, none], [], fun xs h => match xs with
  | [a0, a1, a2, a3, a4, a5] => c963 a0 a1 a2 a3 a4 a5 h
  | _ => none), (1019, [some (150, none), some (100, none), some (112, none), some (151, none), some (152, none), some (0, none), none, none, none], [], fun xs h => match xs with
  | [a0, a1, a2, a3, a4, a5] => c1019 a0 a1 a2 a3 a4 a5 h
  | _ => none), (1075, [some (150, none), some (100, none), some (112, none), some (151, none), some (152, none), some (0, none), none, none, none], [], fun xs h => match xs with
  | [a0, a1, a2, a3, a4, a5] => c1075 a0 a1 a2 a3 a4 a5 h
  | _ => none), (1133, [some (150, none), some (100, none), some (112, none), some (151, none), some (152, none), some (0, none), none, none, none], [], fun xs h => match xs with
  | [a0, a1, a2, a3, a4, a5] => c1133 a0 a1 a2 a3 a4 a5 h
  | _ => none), (1146, [some (150, none), some (100, none), some (112, none), some (151, none), some (152, none), some (0, none), none, none, none], [], fun xs h => match xs with
  | [a0, a1, a2, a3, a4, a5] => c1146 a0 a1 a2 a3 a4 a5 h
  | _ => none), (1202, [some (150, none), some (100, none), some (112, none), some (151, none), some (152, none), some (0, none), none, none, none], [], fun xs h => match xs with
  | [a0, a1, a2, a3, a4, a5] => c1202 a0 a1 a2 a3 a4 a5 h
  | _ => none), (1270, [some (150, none), some (100, none), some (112, none), some (151, none), some (152, none), some (0, none), none, none, none], [], fun xs h => match xs with
  | [a0, a1, a2, a3, a4, a5] => c1270 a0 a1 a2 a3 a4 a5 h
  | _ => none), (1338, [some (150, none), some (100, none), some (112, none), some (151, none), some (152, none), some (0, none), none, none, none], [], fun xs h => match xs with
  | [a0, a1, a2, a3, a4, a5] => c1338 a0 a1 a2 a3 a4 a5 h
  | _ => none), (1406, [some (150, none), some (100, none), some (112, none), some (151, none), some (152, none), some (0, none), none, none, none], [], fun xs h => match xs with
  | [a0, a1, a2, a3, a4, a5] => c1406 a0 a1 a2 a3 a4 a5 h
  | _ => none), (1474, [some (150, none), some (100, none), some (112, none), some (151, none), some (152, none), some (0, none), none, none, none], [], fun xs h => match xs with
  | [a0, a1, a2, a3, a4, a5] => c1474 a0 a1 a2 a3 a4 a5 h
  | _ => none), (1542, [some (150, none), some (100, none), some (112, none), some (151, none), some (152, none), some (0, none), none, none, none], [], fun xs h => match xs with
  | [a0, a1, a2, a3, a4, a5] => c1542 a0 a1 a2 a3 a4 a5 h
  | _ => none), (1634, [some (150, none), some (100, none), some (112, none), some (151, none), some (152, none), some (0, none), none, none, none], [], fun xs h => match xs with
  | [a0, a1, a2, a3, a4, a5] => c1634 a0 a1 a2 a3 a4 a5 h
  | _ => none), (1714, [some (150, none), some (100, none), some (112, none), some (151, none), some (152, none), some (0, none), none, none, none], [], fun xs h => match xs with
  | [a0, a1, a2, a3, a4, a5] => c1714 a0 a1 a2 a3 a4 a5 h
  | _ => none), (1782, [some (150, none), some (100, none), some (112, none), some (151, none), some (152, none), some (0, none), none, none, none], [], fun xs h => match xs with
  | [a0, a1, a2, a3, a4, a5] => c1782 a0 a1 a2 a3 a4 a5 h
  | _ => none), (1838, [some (150, none), some (100, none), some (112, none), some (151, none), some (152, none), some (0, none), none, none, none], [], fun xs h => match xs with
  | [a0, a1, a2, a3, a4, a5] => c1838 a0 a1 a2 a3 a4 a5 h
  | _ => none), (1894, [some (150, none), some (100, none), some (112, none), some (151, none), some (152, none), some (0, none), none, none, none], [], fun xs h => match xs with
  | [a0, a1, a2, a3, a4, a5] => c1894 a0 a1 a2 a3 a4 a5 h
  | _ => none), (1969, [some (150, none), some (100, none), some (112, none), some (151, none), some (152, none), some (0, none), none, none, none], [], fun xs h => match xs with
  | [a0, a1, a2, a3, a4, a5] => c1969 a0 a1 a2 a3 a4 a5 h
  | _ => none), (2025, [some (150, none), some (100, none), some (112, none), some (151, none), some (152, none), some (0, none), none, none, none], [], fun xs h => match xs with
  | [a0, a1, a2, a3, a4, a5] => c2025 a0 a1 a2 a3 a4 a5 h
  | _ => none), (2145, [some (150, none), some (100, none), some (112, none), some (151, none), some (152, none), some (0, none), none, none, none], [], fun xs h => match xs with
  | [a0, a1, a2, a3, a4, a5] => c2145 a0 a1 a2 a3 a4 a5 h
  | _ => none), (2159, [some (150, none), some (100, none), some (112, none), some (151, none), some (152, none), some (0, none), none, none, none], [], fun xs h => match xs with
  | [a0, a1, a2, a3, a4, a5] => c2159 a0 a1 a2 a3 a4 a5 h
  | _ => none), (2172, [some (150, none), some (100, none), some (112, none), some (151, none), some (152, none), some (0, none), none, none, none], [], fun xs h => match xs with
  | [a0, a1, a2, a3, a4, a5] => c2172 a0 a1 a2 a3 a4 a5 h
  | _ => none), (2185, [some (150, none), some (100, none), some (112, none), some (151, none), some (152, none), some (0, none), none, none, none], [], fun xs h => match xs with
  | [a0, a1, a2, a3, a4, a5] => c2185 a0 a1 a2 a3 a4 a5 h
  | _ => none), (2198, [some (150, none), some (100, none), some (112, none), some (151, none), some (152, none), some (0, none), none, none, none], [], fun xs h => match xs with
  | [a0, a1, a2, a3, a4, a5] => c2198 a0 a1 a2 a3 a4 a5 h
  | _ => none), (2211, [some (150, none), some (100, none), some (112, none), some (151, none), some (152, none), some (0, none), none, none, none], [], fun xs h => match xs with
  | [a0, a1, a2, a3, a4, a5] => c2211 a0 a1 a2 a3 a4 a5 h
  | _ => none), (2277, [some (150, none), some (100, none), some (112, none), some (151, none), some (152, none), some (0, none), none, none, none], [], fun xs h => match xs with
  | [a0, a1, a2, a3, a4, a5] => c2277 a0 a1 a2 a3 a4 a5 h
  | _ => none), (2342, [some (150, none), some (100, none), some (112, none), some (151, none), some (152, none), some (0, none), none, none, none], [], fun xs h => match xs with
  | [a0, a1, a2, a3, a4, a5] => c2342 a0 a1 a2 a3 a4 a5 h
  | _ => none), (2355, [some (150, none), some (100, none), some (112, none), some (151, none), some (152, none), some (0, none), none, none, none], [], fun xs h => match xs with
  | [a0, a1, a2, a3, a4, a5] => c2355 a0 a1 a2 a3 a4 a5 h
  | _ => none)]) kr (fun _ _ => none) 400 28 [some (150, a0), some (100, a1), some (112, a2), some (151, a3), some (152, a4), some (0, a5), none, none, none] [] h := by rfl
set_option maxRecDepth 100000 in
theorem qe_Lw_law_28b {ρ : Type} (kr : Int → zH → Option ρ) (r28 : Int → Int → Int → Int → Int → Int → zH → Option ρ) (a0 a1 a2 a3 a4 a5 : Int) (h : zH) : Lw_law_28b kr r28 a0 a1 a2 a3 a4 a5 h = zseg zPP true (zcal []) (zget (999, 0, 0, 0) zc_Lw_law) (zcut zu_Lw_law) (zorc [(208, [some (150, none), some (100, none), some (112, none), some (151, none), some (152, none), some (0, none), none, none, none], [], fun xs h => match xs with
  | [a0, a1, a2, a3, a4, a5] => Lw_law_208 kr r28 a0 a1 a2 a3 a4 a5 h
  | _ => none), (276, [some (150, none), some (100, none), some (112, none), some (151, none), some (152, none), some (0, none), none, none, none], [], fun xs h => match xs with
  | [a0, a1, a2, a3, a4, a5] => Lw_law_276 kr r28 a0 a1 a2 a3 a4 a5 h
  | _ => none), (382, [some (150, none), some (100, none), some (112, none), some (151, none), some (152, none), some (0, none), none, none, none], [], fun xs h => match xs with
  | [a0, a1, a2, a3, a4, a5] => Lw_law_382 kr r28 a0 a1 a2 a3 a4 a5 h
  | _ => none), (450, [some (150, none), some (100, none), some (112, none), some (151, none), some (152, none), some (0, none), none, none, none], [], fun xs h => match xs with
  | [a0, a1, a2, a3, a4, a5] => Lw_law_450 kr r28 a0 a1 a2 a3 a4 a5 h
  | _ => none), (518, [some (150, none), some (100, none), some (112, none), some (151, none), some (152, none), some (0, none), none, none, none], [], fun xs h => match xs with
  | [a0, a1, a2, a3, a4, a5] => Lw_law_518 kr r28 a0 a1 a2 a3 a4 a5 h
  | _ => none), (574, [some (150, none), some (100, none), some (112, none), some (151, none), some (152, none), some (0, none), none, none, none], [], fun xs h => match xs with
  | [a0, a1, a2, a3, a4, a5] => Lw_law_574 kr r28 a0 a1 a2 a3 a4 a5 h
  | _ => none), (678, [some (150, none), some (100, none), some (112, none), some (151, none), some (152, none), some (0, none), none, none, none], [], fun xs h => match xs with
  | [a0, a1, a2, a3, a4, a5] => Lw_law_678 kr r28 a0 a1 a2 a3 a4 a5 h
  | _ => none), (782, [some (150, none), some (100, none), some (112, none), some (151, none), some (152, none), some (0, none), none, none, none], [], fun xs h => match xs with
  | [a0, a1, a2, a3, a4, a5] => Lw_law_782 kr r28 a0 a1 a2 a3 a4 a5 h
  | _ => none), (795, [some (150, none), some (100, none), some (112, none), some (151, none), some (152, none), some (0, none), none, none, none], [], fun xs h => match xs with
  | [a0, a1, a2, a3, a4, a5] => Lw_law_795 kr r28 a0 a1 a2 a3 a4 a5 h
  | _ => none), (851, [some (150, none), some (100, none), some (112, none), some (151, none), some (152, none), some (0, none), none, none, none], [], fun xs h => match xs with
  | [a0, a1, a2, a3, a4, a5] => Lw_law_851 kr r28 a0 a1 a2 a3 a4 a5 h
  | _ => none), (907, [some (150, none), some (100, none), some (112, none), some (151, none), some (152, none), some (0, none), none, none, none], [], fun xs h => match xs with
  | [a0, a1, a2, a3, a4, a5] => Lw_law_907 kr r28 a0 a1 a2 a3 a4 a5 h
  | _ => none), (963, [some (150, none), some (100, none), some (112, none), some (151, none), some (152, none), some (0, none), none, none, none], [], fun xs h => match xs with
  | [a0, a1, a2, a3, a4, a5] => Lw_law_963 kr r28 a0 a1 a2 a3 a4 a5 h
  | _ => none), (1019, [some (150, none), some (100, none), some (112, none), some (151, none), some (152, none), some (0, none), none, none, none], [], fun xs h => match xs with
  | [a0, a1, a2, a3, a4, a5] => Lw_law_1019 kr r28 a0 a1 a2 a3 a4 a5 h
  | _ => none), (1075, [some (150, none), some (100, none), some (112, none), some (151, none), some (152, none), some (0, none), none, none, none], [], fun xs h => match xs with
  | [a0, a1, a2, a3, a4, a5] => Lw_law_1075 kr r28 a0 a1 a2 a3 a4 a5 h
  | _ => none), (1133, [some (150, none), some (100, none), some (112, none), some (151, none), some (152, none), some (0, none), none, none, none], [], fun xs h => match xs with
  | [a0, a1, a2, a3, a4, a5] => Lw_law_1133 kr r28 a0 a1 a2 a3 a4 a5 h
  | _ => none), (1146, [some (150, none), some (100, none), some (112, none), some (151, none), some (152, none), some (0, none), none, none, none], [], fun xs h => match xs with
  | [a0, a1, a2, a3, a4, a5] => Lw_law_1146 kr r28 a0 a1 a2 a3 a4 a5 h
  | _ => none), (1202, [some (150, none), some (100, none), some (112, none), some (151, none), some (152, none), some (0, none), none, none, none], [], fun xs h => match xs with
  | [a0, a1, a2, a3, a4, a5] => Lw_law_1202 kr r28 a0 a1 a2 a3 a4 a5 h
  | _ => none), (1270, [some (150, none), some (100, none), some (112, none), some (151, none), some (152, none), some (0, none), none, none, none], [], fun xs h => match xs with
  | [a0, a1, a2, a3, a4, a5] => Lw_law_1270 kr r28 a0 a1 a2 a3 a4 a5 h
  | _ => none), (1338, [some (150, none), some (100, none), some (112, none), some (151, none), some (152, none), some (0, none), none, none, none], [], fun xs h => match xs with
  | [a0, a1, a2, a3, a4, a5] => Lw_law_1338 kr r28 a0 a1 a2 a3 a4 a5 h
  | _ => none), (1406, [some (150, none), some (100, none), some (112, none), some (151, none), some (152, none), some (0, none), none, none, none], [], fun xs h => match xs with
  | [a0, a1, a2, a3, a4, a5] => Lw_law_1406 kr r28 a0 a1 a2 a3 a4 a5 h
  | _ => none), (1474, [some (150, none), some (100, none), some (112, none), some (151, none), some (152, none), some (0, none), none, none, none], [], fun xs h => match xs with
  | [a0, a1, a2, a3, a4, a5] => Lw_law_1474 kr r28 a0 a1 a2 a3 a4 a5 h
  | _ => none), (1542, [some (150, none), some (100, none), some (112, none), some (151, none), some (152, none), some (0, none), none, none, none], [], fun xs h => match xs with
  | [a0, a1, a2, a3, a4, a5] => Lw_law_1542 kr r28 a0 a1 a2 a3 a4 a5 h
  | _ => none), (1634, [some (150, none), some (100, none), some (112, none), some (151, none), some (152, none), some (0, none), none, none, none], [], fun xs h => match xs with
  | [a0, a1, a2, a3, a4, a5] => Lw_law_1634 kr r28 a0 a1 a2 a3 a4 a5 h
  | _ => none), (1714, [some (150, none), some (100, none), some (112, none), some (151, none), some (152, none), some (0, none), none, none, none], [], fun xs h => match xs with
  | [a0, a1, a2, a3, a4, a5] => Lw_law_1714 kr r28 a0 a1 a2 a3 a4 a5 h
  | _ => none), (1782, [some (150, none), some (100, none), some (112, none), some (151, none), some (152, none), some (0, none), none, none, none], [], fun xs h => match xs with
  | [a0, a1, a2, a3, a4, a5] => Lw_law_1782 kr r28 a0 a1 a2 a3 a4 a5 h
  | _ => none), (1838, [some (150, none), some (100, none), some (112, none), some (151, none), some (152, none), some (0, none), none, none, none], [], fun xs h => match xs with
  | [a0, a1, a2, a3, a4, a5] => Lw_law_1838 kr r28 a0 a1 a2 a3 a4 a5 h
  | _ => none), (1894, [some (150, none), some (100, none), some (112, none), some (151, none), some (152, none), some (0, none), none, none, none], [], fun xs h => match xs with
  | [a0, a1, a2, a3, a4, a5] => Lw_law_1894 kr r28 a0 a1 a2 a3 a4 a5 h
  | _ => none), (1969, [some (150, none), some (100, none), some (112, none), some (151, none), some (152, none), some (0, none), none, none, none], [], fun xs h => match xs with
  | [a0, a1, a2, a3, a4, a5] => Lw_law_1969 kr r28 a0 a1 a2 a3 a4 a5 h
  | _ => none), (2025, [some (150, none), some (100, none), some (112, none), some (151, none), some (152, none), some (0, none), none, none, none], [], fun xs h => match xs with
  | [a0, a1, a2, a3, a4, a5] => Lw_law_2025 kr r28 a0 a1 a2 a3 a4 a5 h
  | _ => none), (2145, [some (150, none), some (100, none), some (112, none), some (151, none), some (152, none), some (0, none), none, none, none], [], fun xs h => match xs with
  | [a0, a1, a2, a3, a4, a5] => Lw_law_2145 kr r28 a0 a1 a2 a3 a4 a5 h
  | _ => none), (2159, [some (150, none), some (100, none), some (112, none), some (151, none), some (152, none), some (0, none), none, none, none], [], fun xs h => match xs with
  | [a0, a1, a2, a3, a4, a5] => Lw_law_2159 kr r28 a0 a1 a2 a3 a4 a5 h
  | _ => none), (2172, [some (150, none), some (100, none), some (112, none), some (151, none), some (152, none), some (0, none), none, none, none], [], fun xs h => match xs with
  | [a0, a1, a2, a3, a4, a5] => Lw_law_2172 kr r28 a0 a1 a2 a3 a4 a5 h
  | _ => none), (2185, [some (150, none), some (100, none), some (112, none), some (151, none), some (152, none), some (0, none), none, none, none], [], fun xs h => match xs with
  | [a0, a1, a2, a3, a4, a5] => Lw_law_2185 kr r28 a0 a1 a2 a3 a4 a5 h
  | _ => none), (2198, [some (150, none), some (100, none), some (112, none), some (151, none), some (152, none), some (0, none), none, none, none], [], fun xs h => match xs with
  | [a0, a1, a2, a3, a4, a5] => Lw_law_2198 kr r28 a0 a1 a2 a3 a4 a5 h
  | _ => none), (2211, [some (150, none), some (100, none), some (112, none), some (151, none), some (152, none), some (0, none), none, none, none], [], fun xs h => match xs with
  | [a0, a1, a2, a3, a4, a5] => Lw_law_2211 kr r28 a0 a1 a2 a3 a4 a5 h
  | _ => none), (2277, [some (150, none), some (100, none), some (112, none), some (151, none), some (152, none), some (0, none), none, none, none], [], fun xs h => match xs with
  | [a0, a1, a2, a3, a4, a5] => Lw_law_2277 kr r28 a0 a1 a2 a3 a4 a5 h
  | _ => none), (2342, [some (150, none), some (100, none), some (112, none), some (151, none), some (152, none), some (0, none), none, none, none], [], fun xs h => match xs with
  | [a0, a1, a2, a3, a4, a5] => Lw_law_2342 kr r28 a0 a1 a2 a3 a4 a5 h
  | _ => none), (2355, [some (150, none), some (100, none), some (112, none), some (151, none), some (152, none), some (0, none), none, none, none], [], fun xs h => match xs with
  | [a0, a1, a2, a3, a4, a5] => Lw_law_2355 kr r28 a0 a1 a2 a3 a4 a5 h
  | _ => none)]) kr (fun _ _ => none) 400 28 [some (150, a0), some (100, a1), some (112, a2), some (151, a3), some (152, a4), some (0, a5), none, none, none] [] h := qg_Lw_law_28b kr r28 (Lw_law_208 kr r28) (Lw_law_276 kr r28) (Lw_law_382 kr r28) (Lw_law_450 kr r28) (Lw_law_518 kr r28) (Lw_law_574 kr r28) (Lw_law_678 kr r28) (Lw_law_782 kr r28) (Lw_law_795 kr r28) (Lw_law_851 kr r28) (Lw_law_907 kr r28) (Lw_law_963 kr r28) (Lw_law_1019 kr r28) (Lw_law_1075 kr r28) (Lw_law_1133 kr r28) (Lw_law_1146 kr r28) (Lw_law_1202 kr r28) (Lw_law_1270 kr r28) (Lw_law_1338 kr r28) (Lw_law_1406 kr r28) (Lw_law_1474 kr r28) (Lw_law_1542 kr r28) (Lw_law_1634 kr r28) (Lw_law_1714 kr r28) (Lw_law_1782 kr r28) (Lw_law_1838 kr r28) (Lw_law_1894 kr r28) (Lw_law_1969 kr r28) (Lw_law_2025 kr r28) (Lw_law_2145 kr r28) (Lw_law_2159 kr r28) (Lw_law_2172 kr r28) (Lw_law_2185 kr r28) (Lw_law_2198 kr r28) (Lw_law_2211 kr r28) (Lw_law_2277 kr r28) (Lw_law_2342 kr r28) (Lw_law_2355 kr r28) a0 a1 a2 a3 a4 a5 h
set_option maxRecDepth 100000 in
theorem qg_Lw_law {ρ : Type} (kr : Int → zH → Option ρ) (F_X_init : Int → zH → (Int → zH → Option ρ) → Option ρ) (F_M_init : Int → zH → (Int → zH → Option ρ) → Option ρ) (c28 : Int → Int → Int → Int → Int → Int → zH → Option ρ) (a0 : Int) (h : zH) : (zlet (znew h 0 0 (znf zPP 0) (fun k => zdef (zft zPP 0 k))) fun h1 =>
zob h1 0 (zhN h 0 : Int) fun _ =>
F_X_init (zhN h 0 : Int) h1  fun _ h3 =>
zlet (znew h3 12 0 (znf zPP 12) (fun k => zdef (zft zPP 12 k))) fun h4 =>
zob h4 12 (zhN h3 12 : Int) fun _ =>
F_M_init (zhN h3 12 : Int) h4  fun _ h6 =>
zix 100000 1 fun n7 =>
zlet (znew h6 51 n7 n7 (fun _ => 0)) fun h8 =>
zix 100000 1 fun n9 =>
zlet (znew h8 52 n9 n9 (fun _ => 0)) fun h10 =>
c28 a0 (zhN h 0 : Int) (zhN h3 12 : Int) (zhN h6 51 : Int) (zhN h8 52 : Int) 0 h10) = zseg zPP true (zcal [(9, [none], fun xs h kr kt => match xs with
  | [x0] => F_X_init x0 h kr
  | _ => none), (62, [none], fun xs h kr kt => match xs with
  | [x0] => F_M_init x0 h kr
  | _ => none)]) (zget (999, 0, 0, 0) zc_Lw_law) (zcut zu_Lw_law) (zorc [(28, [some (150, none), some (100, none), some (112, none), some (151, none), some (152, none), some (0, none), none, none, none], [], fun xs h => match xs with
  | [a0, a1, a2, a3, a4, a5] => c28 a0 a1 a2 a3 a4 a5 h
  | _ => none)]) kr (fun _ _ => none) 400 0 [some (150, a0), none, none, none, none, none, none, none, none] [] h := by rfl
set_option maxRecDepth 100000 in
theorem qe_Lw_law {ρ : Type} (kr : Int → zH → Option ρ) (a0 : Int) (h : zH) : Lw_law a0 h kr = zseg zPP true (zcal [(9, [none], fun xs h kr kt => match xs with
  | [x0] => X_init x0 h kr
  | _ => none), (62, [none], fun xs h kr kt => match xs with
  | [x0] => M_init x0 h kr
  | _ => none)]) (zget (999, 0, 0, 0) zc_Lw_law) (zcut zu_Lw_law) (zorc [(28, [some (150, none), some (100, none), some (112, none), some (151, none), some (152, none), some (0, none), none, none, none], [], fun xs h => match xs with
  | [a0, a1, a2, a3, a4, a5] => Lw_law_28 kr a0 a1 a2 a3 a4 a5 h
  | _ => none)]) kr (fun _ _ => none) 400 0 [some (150, a0), none, none, none, none, none, none, none, none] [] h := qg_Lw_law kr X_init M_init (Lw_law_28 kr) a0 h
