def zc_M_finish : List zI := [(0, 0, 0, 0), (16, 0, 1, 0), (10, 0, 1, 0), (0, 3, 0, 0), (69, 136, 140, 0), (999, 0, 0, 0), (999, 0, 0, 0), (0, 0, 0, 0), (16, 0, 2, 0), (10, 0, 2, 0), (14, 0, 0, 112), (80, 12, 196, 13), (999, 0, 0, 0), (999, 0, 0, 0), (69, 120, 134, 0), (999, 0, 0, 0), (999, 0, 0, 0), (14, 0, 0, 112), (80, 12, 43, 14), (999, 0, 0, 0), (999, 0, 0, 0), (10, 0, 2, 0), (92, 0, 0, 69), (1, 114, 0, 0), (999, 0, 0, 0), (67, 32, 57, 0), (999, 0, 0, 0), (999, 0, 0, 0), (14, 0, 0, 112), (80, 12, 46, 15), (999, 0, 0, 0), (999, 0, 0, 0), (10, 0, 2, 0), (90, 0, 0, 70), (0, (-1), 0, 0), (66, 22, 57, 0), (999, 0, 0, 0), (999, 0, 0, 0), (14, 0, 0, 112), (80, 12, 73, 24), (999, 0, 0, 0), (999, 0, 0, 0), (10, 0, 2, 0), (90, 0, 0, 79), (14, 0, 0, 112), (80, 12, 52, 17), (999, 0, 0, 0), (999, 0, 0, 0), (10, 0, 2, 0), (90, 0, 0, 72), (67, 7, 57, 0), (999, 0, 0, 0), (999, 0, 0, 0), (0, 1, 0, 0), (72, 4, 58, 0), (999, 0, 0, 0), (999, 0, 0, 0), (0, 0, 0, 0), (16, 0, 3, 0), (0, 0, 0, 0), (17, 0, 4, 0), (999, 0, 0, 0), (11, 0, 4, 0), (999, 0, 0, 0), (14, 0, 0, 112), (80, 12, 196, 13), (999, 0, 0, 0), (999, 0, 0, 0), (69, 39, 107, 0), (999, 0, 0, 0), (999, 0, 0, 0), (10, 0, 3, 0), (60, 27, 99, 0), (999, 0, 0, 0), (999, 0, 0, 0), (14, 0, 0, 112), (80, 12, 64, 21), (999, 0, 0, 0), (999, 0, 0, 0), (11, 0, 4, 0), (999, 0, 0, 0), (90, 0, 0, 76), (10, 0, 2, 0), (67, 12, 95, 0), (999, 0, 0, 0), (999, 0, 0, 0), (14, 0, 0, 112), (11, 0, 4, 0), (999, 0, 0, 0), (110, 0, 225, 78), (999, 0, 0, 0), (999, 0, 0, 0), (60, 7, 99, 0), (999, 0, 0, 0), (999, 0, 0, 0), (0, 1, 0, 0), (72, 4, 100, 0), (999, 0, 0, 0), (999, 0, 0, 0), (0, 0, 0, 0), (16, 0, 3, 0), (22, 1, 4, 0), (999, 0, 0, 0), (999, 0, 0, 0), (72, (-42), 62, 0), (999, 0, 0, 0), (999, 0, 0, 0), (14, 0, 0, 112), (80, 12, 43, 14), (999, 0, 0, 0), (999, 0, 0, 0), (10, 0, 2, 0), (10, 0, 3, 0), (60, 8, 121, 0), (999, 0, 0, 0), (999, 0, 0, 0), (1, 100, 0, 0), (999, 0, 0, 0), (72, 9, 127, 0), (999, 0, 0, 0), (999, 0, 0, 0), (14, 0, 0, 112), (80, 12, 43, 14), (999, 0, 0, 0), (999, 0, 0, 0), (10, 0, 2, 0), (92, 0, 0, 69), (97, 0, 0, 69), (22, 1, 2, 0), (999, 0, 0, 0), (999, 0, 0, 0), (72, (-122), 9, 0), (999, 0, 0, 0), (999, 0, 0, 0), (22, 1, 1, 0), (999, 0, 0, 0), (999, 0, 0, 0), (72, (-135), 2, 0), (999, 0, 0, 0), (999, 0, 0, 0), (133, 0, 0, 0)]
def zu_M_finish : List (Nat × List Bool) := [(2, [true, true, false, false, false]), (9, [true, true, true, false, false]), (57, [true, true, true, false, false]), (58, [true, true, true, false, false]), (62, [true, true, true, true, true]), (95, [true, true, true, false, true]), (99, [true, true, true, false, true]), (100, [true, true, true, false, true]), (127, [true, true, true, false, false])]
set_option maxRecDepth 100000 in
theorem qg_M_finish_100 {ρ : Type} (kr : Int → zH → Option ρ) (r2 : Int → zH → Option ρ) (r9 : Int → Int → zH → Option ρ) (r62 : Int → Int → Int → Int → zH → Option ρ) (a1 a2 a4 t0 : Int) (h : zH) : (r62 a1 a2 t0 (wr (a4 + 1)) h) = zseg zPP false (zcal []) (zget (999, 0, 0, 0) zc_M_finish) (zcut zu_M_finish) (zorc [(62, [some (112, some 0), some (0, none), some (0, none), some (0, none), some (0, none)], [], fun xs h => match xs with
  | [a1, a2, a3, a4] => r62 a1 a2 a3 a4 h
  | _ => none)]) kr (fun _ _ => none) 400 100 [some (112, 0), some (0, a1), some (0, a2), none, some (0, a4)] [(0, t0)] h := by rfl
set_option maxRecDepth 100000 in
theorem qe_M_finish_100 {ρ : Type} (kr : Int → zH → Option ρ) (r2 : Int → zH → Option ρ) (r9 : Int → Int → zH → Option ρ) (r62 : Int → Int → Int → Int → zH → Option ρ) (a1 a2 a4 t0 : Int) (h : zH) : M_finish_100 kr r2 r9 r62 a1 a2 a4 t0 h = zseg zPP false (zcal []) (zget (999, 0, 0, 0) zc_M_finish) (zcut zu_M_finish) (zorc [(62, [some (112, some 0), some (0, none), some (0, none), some (0, none), some (0, none)], [], fun xs h => match xs with
  | [a1, a2, a3, a4] => r62 a1 a2 a3 a4 h
  | _ => none)]) kr (fun _ _ => none) 400 100 [some (112, 0), some (0, a1), some (0, a2), none, some (0, a4)] [(0, t0)] h := qg_M_finish_100 kr r2 r9 r62 a1 a2 a4 t0 h
set_option maxRecDepth 100000 in
theorem qg_M_finish_95 {ρ : Type} (kr : Int → zH → Option ρ) (r2 : Int → zH → Option ρ) (r9 : Int → Int → zH → Option ρ) (r62 : Int → Int → Int → Int → zH → Option ρ) (c100 : Int → Int → Int → Int → zH → Option ρ) (a1 a2 a4 : Int) (h : zH) : (c100 a1 a2 a4 1 h) = zseg zPP false (zcal []) (zget (999, 0, 0, 0) zc_M_finish) (zcut zu_M_finish) (zorc [(100, [some (112, some 0), some (0, none), some (0, none), none, some (0, none)], [(0, none)], fun xs h => match xs with
  | [a1, a2, a4, t0] => c100 a1 a2 a4 t0 h
  | _ => none)]) kr (fun _ _ => none) 400 95 [some (112, 0), some (0, a1), some (0, a2), none, some (0, a4)] [] h := by rfl
set_option maxRecDepth 100000 in
theorem qe_M_finish_95 {ρ : Type} (kr : Int → zH → Option ρ) (r2 : Int → zH → Option ρ) (r9 : Int → Int → zH → Option ρ) (r62 : Int → Int → Int → Int → zH → Option ρ) (a1 a2 a4 : Int) (h : zH) : M_finish_95 kr r2 r9 r62 a1 a2 a4 h = zseg zPP false (zcal []) (zget (999, 0, 0, 0) zc_M_finish) (zcut zu_M_finish) (zorc [(100, [some (112, some 0), some (0, none), some (0, none), none, some (0, none)], [(0, none)], fun xs h => match xs with
  | [a1, a2, a4, t0] => M_finish_100 kr r2 r9 r62 a1 a2 a4 t0 h
  | _ => none)]) kr (fun _ _ => none) 400 95 [some (112, 0), some (0, a1), some (0, a2), none, some (0, a4)] [] h := qg_M_finish_95 kr r2 r9 r62 (M_finish_100 kr r2 r9 r62) a1 a2 a4 h
set_option maxRecDepth 100000 in
theorem qg_M_finish_99 {ρ : Type} (kr : Int → zH → Option ρ) (r2 : Int → zH → Option ρ) (r9 : Int → Int → zH → Option ρ) (r62 : Int → Int → Int → Int → zH → Option ρ) (c100 : Int → Int → Int → Int → zH → Option ρ) (a1 a2 a4 : Int) (h : zH) : (c100 a1 a2 a4 0 h) = zseg zPP false (zcal []) (zget (999, 0, 0, 0) zc_M_finish) (zcut zu_M_finish) (zorc [(100, [some (112, some 0), some (0, none), some (0, none), none, some (0, none)], [(0, none)], fun xs h => match xs with
  | [a1, a2, a4, t0] => c100 a1 a2 a4 t0 h
  | _ => none)]) kr (fun _ _ => none) 400 99 [some (112, 0), some (0, a1), some (0, a2), none, some (0, a4)] [] h := by rfl
set_option maxRecDepth 100000 in
theorem qe_M_finish_99 {ρ : Type} (kr : Int → zH → Option ρ) (r2 : Int → zH → Option ρ) (r9 : Int → Int → zH → Option ρ) (r62 : Int → Int → Int → Int → zH → Option ρ) (a1 a2 a4 : Int) (h : zH) : M_finish_99 kr r2 r9 r62 a1 a2 a4 h = zseg zPP false (zcal []) (zget (999, 0, 0, 0) zc_M_finish) (zcut zu_M_finish) (zorc [(100, [some (112, some 0), some (0, none), some (0, none), none, some (0, none)], [(0, none)], fun xs h => match xs with
  | [a1, a2, a4, t0] => M_finish_100 kr r2 r9 r62 a1 a2 a4 t0 h
  | _ => none)]) kr (fun _ _ => none) 400 99 [some (112, 0), some (0, a1), some (0, a2), none, some (0, a4)] [] h := qg_M_finish_99 kr r2 r9 r62 (M_finish_100 kr r2 r9 r62) a1 a2 a4 h
set_option maxRecDepth 100000 in
theorem qg_M_finish_127 {ρ : Type} (kr : Int → zH → Option ρ) (r2 : Int → zH → Option ρ) (r9 : Int → Int → zH → Option ρ) (a1 a2 t0 t1 : Int) (h : zH) : (zix 12 t1 fun j1 =>
znar 2 t0 fun x2 =>
zlet (zset h 69 0 j1 x2) fun h3 =>
r9 a1 (wr (a2 + 1)) h3) = zseg zPP false (zcal []) (zget (999, 0, 0, 0) zc_M_finish) (zcut zu_M_finish) (zorc [(9, [some (112, some 0), some (0, none), some (0, none), none, none], [], fun xs h => match xs with
  | [a1, a2] => r9 a1 a2 h
  | _ => none)]) kr (fun _ _ => none) 400 127 [some (112, 0), some (0, a1), some (0, a2), none, none] [(0, t0), (0, t1), (169, 0)] h := by rfl
set_option maxRecDepth 100000 in
theorem qe_M_finish_127 {ρ : Type} (kr : Int → zH → Option ρ) (r2 : Int → zH → Option ρ) (r9 : Int → Int → zH → Option ρ) (a1 a2 t0 t1 : Int) (h : zH) : M_finish_127 kr r2 r9 a1 a2 t0 t1 h = zseg zPP false (zcal []) (zget (999, 0, 0, 0) zc_M_finish) (zcut zu_M_finish) (zorc [(9, [some (112, some 0), some (0, none), some (0, none), none, none], [], fun xs h => match xs with
  | [a1, a2] => r9 a1 a2 h
  | _ => none)]) kr (fun _ _ => none) 400 127 [some (112, 0), some (0, a1), some (0, a2), none, none] [(0, t0), (0, t1), (169, 0)] h := qg_M_finish_127 kr r2 r9 a1 a2 t0 t1 h
set_option maxRecDepth 100000 in
theorem qg_M_finish_62b {ρ : Type} (kr : Int → zH → Option ρ) (r2 : Int → zH → Option ρ) (r9 : Int → Int → zH → Option ρ) (r62 : Int → Int → Int → Int → zH → Option ρ) (F_M_isOver : Int → zH → (Int → zH → Option ρ) → Option ρ) (c95 : Int → Int → Int → zH → Option ρ) (c99 : Int → Int → Int → zH → Option ρ) (c127 : Int → Int → Int → Int → zH → Option ρ) (a1 a2 a3 a4 : Int) (h : zH) : (if a4 < (zhD h 12 0 13) then (if a3 = 0 then c99 a1 a2 a4 h
else zix 12 a4 fun j2 =>
if (zhD h 76 0 j2) = a2 then (F_M_isOver a4 h  fun v3 h4 =>
if v3 = 0 then c99 a1 a2 a4 h4
else c95 a1 a2 a4 h4)
else c95 a1 a2 a4 h)
else if a3 = 0 then (zix 12 a2 fun j1 =>
c127 a1 a2 (zhD h 69 0 j1) a2 h)
else c127 a1 a2 100 a2 h) = zseg zPP false (zcal [(78, [some 0, none], fun xs h kr kt => match xs with
  | [x1] => F_M_isOver x1 h kr
  | _ => none)]) (zget (999, 0, 0, 0) zc_M_finish) (zcut zu_M_finish) (zorc [(95, [some (112, some 0), some (0, none), some (0, none), none, some (0, none)], [], fun xs h => match xs with
  | [a1, a2, a4] => c95 a1 a2 a4 h
  | _ => none), (99, [some (112, some 0), some (0, none), some (0, none), none, some (0, none)], [], fun xs h => match xs with
  | [a1, a2, a4] => c99 a1 a2 a4 h
  | _ => none), (127, [some (112, some 0), some (0, none), some (0, none), none, none], [(0, none), (0, none), (169, some 0)], fun xs h => match xs with
  | [a1, a2, t0, t1] => c127 a1 a2 t0 t1 h
  | _ => none)]) kr (fun _ _ => none) 400 62 [some (112, 0), some (0, a1), some (0, a2), some (0, a3), some (0, a4)] [] h := by rfl
set_option maxRecDepth 100000 in
theorem qe_M_finish_62b {ρ : Type} (kr : Int → zH → Option ρ) (r2 : Int → zH → Option ρ) (r9 : Int → Int → zH → Option ρ) (r62 : Int → Int → Int → Int → zH → Option ρ) (a1 a2 a3 a4 : Int) (h : zH) : M_finish_62b kr r2 r9 r62 a1 a2 a3 a4 h = zseg zPP false (zcal [(78, [some 0, none], fun xs h kr kt => match xs with
  | [x1] => M_isOver x1 h kr
  | _ => none)]) (zget (999, 0, 0, 0) zc_M_finish) (zcut zu_M_finish) (zorc [(95, [some (112, some 0), some (0, none), some (0, none), none, some (0, none)], [], fun xs h => match xs with
  | [a1, a2, a4] => M_finish_95 kr r2 r9 r62 a1 a2 a4 h
  | _ => none), (99, [some (112, some 0), some (0, none), some (0, none), none, some (0, none)], [], fun xs h => match xs with
  | [a1, a2, a4] => M_finish_99 kr r2 r9 r62 a1 a2 a4 h
  | _ => none), (127, [some (112, some 0), some (0, none), some (0, none), none, none], [(0, none), (0, none), (169, some 0)], fun xs h => match xs with
  | [a1, a2, t0, t1] => M_finish_127 kr r2 r9 a1 a2 t0 t1 h
  | _ => none)]) kr (fun _ _ => none) 400 62 [some (112, 0), some (0, a1), some (0, a2), some (0, a3), some (0, a4)] [] h := qg_M_finish_62b kr r2 r9 r62 M_isOver (M_finish_95 kr r2 r9 r62) (M_finish_99 kr r2 r9 r62) (M_finish_127 kr r2 r9) a1 a2 a3 a4 h
set_option maxRecDepth 100000 in
theorem qg_M_finish_58 {ρ : Type} (kr : Int → zH → Option ρ) (r2 : Int → zH → Option ρ) (r9 : Int → Int → zH → Option ρ) (c62 : Int → Int → Int → Int → zH → Option ρ) (a1 a2 t0 : Int) (h : zH) : (c62 a1 a2 t0 0 h) = zseg zPP false (zcal []) (zget (999, 0, 0, 0) zc_M_finish) (zcut zu_M_finish) (zorc [(62, [some (112, some 0), some (0, none), some (0, none), some (0, none), some (0, none)], [], fun xs h => match xs with
  | [a1, a2, a3, a4] => c62 a1 a2 a3 a4 h
  | _ => none)]) kr (fun _ _ => none) 400 58 [some (112, 0), some (0, a1), some (0, a2), none, none] [(0, t0)] h := by rfl
set_option maxRecDepth 100000 in
theorem qe_M_finish_58 {ρ : Type} (kr : Int → zH → Option ρ) (r2 : Int → zH → Option ρ) (r9 : Int → Int → zH → Option ρ) (a1 a2 t0 : Int) (h : zH) : M_finish_58 kr r2 r9 a1 a2 t0 h = zseg zPP false (zcal []) (zget (999, 0, 0, 0) zc_M_finish) (zcut zu_M_finish) (zorc [(62, [some (112, some 0), some (0, none), some (0, none), some (0, none), some (0, none)], [], fun xs h => match xs with
  | [a1, a2, a3, a4] => M_finish_62 kr r2 r9 a1 a2 a3 a4 h
  | _ => none)]) kr (fun _ _ => none) 400 58 [some (112, 0), some (0, a1), some (0, a2), none, none] [(0, t0)] h := qg_M_finish_58 kr r2 r9 (M_finish_62 kr r2 r9) a1 a2 t0 h
set_option maxRecDepth 100000 in
theorem qg_M_finish_57 {ρ : Type} (kr : Int → zH → Option ρ) (r2 : Int → zH → Option ρ) (r9 : Int → Int → zH → Option ρ) (c58 : Int → Int → Int → zH → Option ρ) (a1 a2 : Int) (h : zH) : (c58 a1 a2 0 h) = zseg zPP false (zcal []) (zget (999, 0, 0, 0) zc_M_finish) (zcut zu_M_finish) (zorc [(58, [some (112, some 0), some (0, none), some (0, none), none, none], [(0, none)], fun xs h => match xs with
  | [a1, a2, t0] => c58 a1 a2 t0 h
  | _ => none)]) kr (fun _ _ => none) 400 57 [some (112, 0), some (0, a1), some (0, a2), none, none] [] h := by rfl
set_option maxRecDepth 100000 in
theorem qe_M_finish_57 {ρ : Type} (kr : Int → zH → Option ρ) (r2 : Int → zH → Option ρ) (r9 : Int → Int → zH → Option ρ) (a1 a2 : Int) (h : zH) : M_finish_57 kr r2 r9 a1 a2 h = zseg zPP false (zcal []) (zget (999, 0, 0, 0) zc_M_finish) (zcut zu_M_finish) (zorc [(58, [some (112, some 0), some (0, none), some (0, none), none, none], [(0, none)], fun xs h => match xs with
  | [a1, a2, t0] => M_finish_58 kr r2 r9 a1 a2 t0 h
  | _ => none)]) kr (fun _ _ => none) 400 57 [some (112, 0), some (0, a1), some (0, a2), none, none] [] h := qg_M_finish_57 kr r2 r9 (M_finish_58 kr r2 r9) a1 a2 h
set_option maxRecDepth 100000 in
theorem qg_M_finish_9b {ρ : Type} (kr : Int → zH → Option ρ) (r2 : Int → zH → Option ρ) (r9 : Int → Int → zH → Option ρ) (c57 : Int → Int → zH → Option ρ) (c58 : Int → Int → Int → zH → Option ρ) (a1 a2 : Int) (h : zH) : (if a2 < (zhD h 12 0 13) then (zix 12 a2 fun j1 =>
if (zhD h 69 0 j1) = 114 then (zix 12 a2 fun j2 =>
if (zhD h 70 0 j2) = (-1) then c57 a1 a2 h
else zix 12 a2 fun j3 =>
zix 12 a2 fun j4 =>
if (zhD h 79 0 j3) = (zhD h 72 0 j4) then c58 a1 a2 1 h
else c57 a1 a2 h)
else c57 a1 a2 h)
else r2 (wr (a1 + 1)) h) = zseg zPP false (zcal []) (zget (999, 0, 0, 0) zc_M_finish) (zcut zu_M_finish) (zorc [(2, [some (112, some 0), some (0, none), none, none, none], [], fun xs h => match xs with
  | [a1] => r2 a1 h
  | _ => none), (57, [some (112, some 0), some (0, none), some (0, none), none, none], [], fun xs h => match xs with
  | [a1, a2] => c57 a1 a2 h
  | _ => none), (58, [some (112, some 0), some (0, none), some (0, none), none, none], [(0, none)], fun xs h => match xs with
  | [a1, a2, t0] => c58 a1 a2 t0 h
  | _ => none)]) kr (fun _ _ => none) 400 9 [some (112, 0), some (0, a1), some (0, a2), none, none] [] h := by rfl
set_option maxRecDepth 100000 in
theorem qe_M_finish_9b {ρ : Type} (kr : Int → zH → Option ρ) (r2 : Int → zH → Option ρ) (r9 : Int → Int → zH → Option ρ) (a1 a2 : Int) (h : zH) : M_finish_9b kr r2 r9 a1 a2 h = zseg zPP false (zcal []) (zget (999, 0, 0, 0) zc_M_finish) (zcut zu_M_finish) (zorc [(2, [some (112, some 0), some (0, none), none, none, none], [], fun xs h => match xs with
  | [a1] => r2 a1 h
  | _ => none), (57, [some (112, some 0), some (0, none), some (0, none), none, none], [], fun xs h => match xs with
  | [a1, a2] => M_finish_57 kr r2 r9 a1 a2 h
  | _ => none), (58, [some (112, some 0), some (0, none), some (0, none), none, none], [(0, none)], fun xs h => match xs with
  | [a1, a2, t0] => M_finish_58 kr r2 r9 a1 a2 t0 h
  | _ => none)]) kr (fun _ _ => none) 400 9 [some (112, 0), some (0, a1), some (0, a2), none, none] [] h := qg_M_finish_9b kr r2 r9 (M_finish_57 kr r2 r9) (M_finish_58 kr r2 r9) a1 a2 h
set_option maxRecDepth 100000 in
theorem qg_M_finish_2b {ρ : Type} (kr : Int → zH → Option ρ) (r2 : Int → zH → Option ρ) (c9 : Int → Int → zH → Option ρ) (a1 : Int) (h : zH) : (if a1 < 3 then c9 a1 0 h
else kr 0 h) = zseg zPP false (zcal []) (zget (999, 0, 0, 0) zc_M_finish) (zcut zu_M_finish) (zorc [(9, [some (112, some 0), some (0, none), some (0, none), none, none], [], fun xs h => match xs with
  | [a1, a2] => c9 a1 a2 h
  | _ => none)]) kr (fun _ _ => none) 400 2 [some (112, 0), some (0, a1), none, none, none] [] h := by rfl
set_option maxRecDepth 100000 in
theorem qe_M_finish_2b {ρ : Type} (kr : Int → zH → Option ρ) (r2 : Int → zH → Option ρ) (a1 : Int) (h : zH) : M_finish_2b kr r2 a1 h = zseg zPP false (zcal []) (zget (999, 0, 0, 0) zc_M_finish) (zcut zu_M_finish) (zorc [(9, [some (112, some 0), some (0, none), some (0, none), none, none], [], fun xs h => match xs with
  | [a1, a2] => M_finish_9 kr r2 a1 a2 h
  | _ => none)]) kr (fun _ _ => none) 400 2 [some (112, 0), some (0, a1), none, none, none] [] h := qg_M_finish_2b kr r2 (M_finish_9 kr r2) a1 h
set_option maxRecDepth 100000 in
theorem qg_M_finish {ρ : Type} (kr : Int → zH → Option ρ) (c2 : Int → zH → Option ρ) (h : zH) : (c2 0 h) = zseg zPP false (zcal []) (zget (999, 0, 0, 0) zc_M_finish) (zcut zu_M_finish) (zorc [(2, [some (112, some 0), some (0, none), none, none, none], [], fun xs h => match xs with
  | [a1] => c2 a1 h
  | _ => none)]) kr (fun _ _ => none) 400 0 [some (112, 0), none, none, none, none] [] h := by rfl
set_option maxRecDepth 100000 in
theorem qe_M_finish {ρ : Type} (kr : Int → zH → Option ρ) (h : zH) : M_finish h kr = zseg zPP false (zcal []) (zget (999, 0, 0, 0) zc_M_finish) (zcut zu_M_finish) (zorc [(2, [some (112, some 0), some (0, none), none, none, none], [], fun xs h => match xs with
  | [a1] => M_finish_2 kr a1 h
  | _ => none)]) kr (fun _ _ => none) 400 0 [some (112, 0), none, none, none, none] [] h := qg_M_finish kr (M_finish_2 kr) h
def zc_M_blockOf : List zI := [(1, 6, 0, 0), (999, 0, 0, 0), (10, 0, 0, 0), (32, 0, 0, 0), (10, 0, 1, 0), (30, 0, 0, 0), (130, 0, 0, 0)]
def zu_M_blockOf : List (Nat × List Bool) := []
set_option maxRecDepth 100000 in
theorem qg_M_blockOf {ρ : Type} (kr : Int → zH → Option ρ) (a0 a1 : Int) (h : zH) : (kr (wr ((wr (6 * a0)) + a1)) h) = zseg zPP false (zcal []) (zget (999, 0, 0, 0) zc_M_blockOf) (zcut zu_M_blockOf) (zorc []) kr (fun _ _ => none) 400 0 [some (0, a0), some (0, a1)] [] h := by rfl
set_option maxRecDepth 100000 in
theorem qe_M_blockOf {ρ : Type} (kr : Int → zH → Option ρ) (a0 a1 : Int) (h : zH) : M_blockOf a0 a1 h kr = zseg zPP false (zcal []) (zget (999, 0, 0, 0) zc_M_blockOf) (zcut zu_M_blockOf) (zorc []) kr (fun _ _ => none) 400 0 [some (0, a0), some (0, a1)] [] h := qg_M_blockOf kr a0 a1 h
def zc_M_groupsOf : List zI := [(14, 0, 0, 112), (80, 12, 55, 18), (999, 0, 0, 0), (999, 0, 0, 0), (10, 0, 1, 0), (90, 0, 0, 73), (113, 0, 211, 72), (999, 0, 0, 0), (999, 0, 0, 0), (130, 0, 0, 0)]
def zu_M_groupsOf : List (Nat × List Bool) := []
set_option maxRecDepth 100000 in
theorem qg_M_groupsOf {ρ : Type} (kr : Int → zH → Option ρ) (F_M_groupsFor : Int → zH → (Int → zH → Option ρ) → Option ρ) (a1 : Int) (h : zH) : (zix 12 a1 fun j1 =>
F_M_groupsFor (zhD h 73 0 j1) h  fun v2 h3 =>
kr v2 h3) = zseg zPP false (zcal [(72, [none], fun xs h kr kt => match xs with
  | [x0] => F_M_groupsFor x0 h kr
  | _ => none)]) (zget (999, 0, 0, 0) zc_M_groupsOf) (zcut zu_M_groupsOf) (zorc []) kr (fun _ _ => none) 400 0 [some (112, 0), some (0, a1)] [] h := by rfl
set_option maxRecDepth 100000 in
theorem qe_M_groupsOf {ρ : Type} (kr : Int → zH → Option ρ) (a1 : Int) (h : zH) : M_groupsOf a1 h kr = zseg zPP false (zcal [(72, [none], fun xs h kr kt => match xs with
  | [x0] => M_groupsFor x0 h kr
  | _ => none)]) (zget (999, 0, 0, 0) zc_M_groupsOf) (zcut zu_M_groupsOf) (zorc []) kr (fun _ _ => none) 400 0 [some (112, 0), some (0, a1)] [] h := qg_M_groupsOf kr M_groupsFor a1 h
def zc_M_removeGroup : List zI := [(14, 0, 0, 112), (80, 12, 115, 38), (999, 0, 0, 0), (999, 0, 0, 0), (10, 0, 1, 0), (51, 0, 0, 0), (90, 0, 0, 93), (0, 1, 0, 0), (31, 0, 0, 0), (95, 0, 0, 93), (0, 4, 0, 0), (10, 0, 1, 0), (32, 0, 0, 0), (10, 0, 2, 0), (30, 0, 0, 0), (16, 0, 3, 0), (10, 0, 3, 0), (0, 4, 0, 0), (10, 0, 1, 0), (32, 0, 0, 0), (14, 0, 0, 112), (80, 12, 115, 38), (999, 0, 0, 0), (999, 0, 0, 0), (10, 0, 1, 0), (90, 0, 0, 93), (30, 0, 0, 0), (69, 128, 155, 0), (999, 0, 0, 0), (999, 0, 0, 0), (14, 0, 0, 112), (80, 12, 118, 39), (999, 0, 0, 0), (999, 0, 0, 0), (10, 0, 3, 0), (14, 0, 0, 112), (80, 12, 118, 39), (999, 0, 0, 0), (999, 0, 0, 0), (10, 0, 3, 0), (0, 1, 0, 0), (30, 0, 0, 0), (90, 0, 0, 94), (95, 0, 0, 94), (14, 0, 0, 112), (80, 12, 121, 40), (999, 0, 0, 0), (999, 0, 0, 0), (10, 0, 3, 0), (14, 0, 0, 112), (80, 12, 121, 40), (999, 0, 0, 0), (999, 0, 0, 0), (10, 0, 3, 0), (0, 1, 0, 0), (30, 0, 0, 0), (90, 0, 0, 95), (95, 0, 0, 95), (14, 0, 0, 112), (80, 12, 124, 41), (999, 0, 0, 0), (999, 0, 0, 0), (10, 0, 3, 0), (14, 0, 0, 112), (80, 12, 124, 41), (999, 0, 0, 0), (999, 0, 0, 0), (10, 0, 3, 0), (0, 1, 0, 0), (30, 0, 0, 0), (90, 0, 0, 96), (95, 0, 0, 96), (14, 0, 0, 112), (80, 12, 127, 42), (999, 0, 0, 0), (999, 0, 0, 0), (10, 0, 3, 0), (14, 0, 0, 112), (80, 12, 127, 42), (999, 0, 0, 0), (999, 0, 0, 0), (10, 0, 3, 0), (0, 1, 0, 0), (30, 0, 0, 0), (90, 0, 0, 97), (95, 0, 0, 97), (0, 0, 0, 0), (17, 0, 4, 0), (999, 0, 0, 0), (11, 0, 4, 0), (999, 0, 0, 0), (0, 4, 0, 0), (69, 57, 149, 0), (999, 0, 0, 0), (999, 0, 0, 0), (14, 0, 0, 112), (80, 12, 130, 43), (999, 0, 0, 0), (999, 0, 0, 0), (0, 4, 0, 0), (10, 0, 3, 0), (32, 0, 0, 0), (11, 0, 4, 0), (999, 0, 0, 0), (30, 0, 0, 0), (14, 0, 0, 112), (80, 12, 130, 43), (999, 0, 0, 0), (999, 0, 0, 0), (0, 4, 0, 0), (10, 0, 3, 0), (32, 0, 0, 0), (0, 4, 0, 0), (30, 0, 0, 0), (11, 0, 4, 0), (999, 0, 0, 0), (30, 0, 0, 0), (90, 0, 0, 98), (95, 0, 0, 98), (14, 0, 0, 112), (80, 12, 133, 44), (999, 0, 0, 0), (999, 0, 0, 0), (0, 4, 0, 0), (10, 0, 3, 0), (32, 0, 0, 0), (11, 0, 4, 0), (999, 0, 0, 0), (30, 0, 0, 0), (14, 0, 0, 112), (80, 12, 133, 44), (999, 0, 0, 0), (999, 0, 0, 0), (0, 4, 0, 0), (10, 0, 3, 0), (32, 0, 0, 0), (0, 4, 0, 0), (30, 0, 0, 0), (11, 0, 4, 0), (999, 0, 0, 0), (30, 0, 0, 0), (90, 0, 0, 99), (95, 0, 0, 99), (22, 1, 4, 0), (999, 0, 0, 0), (999, 0, 0, 0), (72, (-57), 89, 0), (999, 0, 0, 0), (999, 0, 0, 0), (22, 1, 3, 0), (999, 0, 0, 0), (999, 0, 0, 0), (72, (-136), 16, 0), (999, 0, 0, 0), (999, 0, 0, 0), (133, 0, 0, 0)]
def zu_M_removeGroup : List (Nat × List Bool) := [(16, [true, true, false, true, false]), (89, [true, true, false, true, true])]
set_option maxRecDepth 100000 in
theorem qg_M_removeGroup_89b {ρ : Type} (kr : Int → zH → Option ρ) (r16 : Int → Int → zH → Option ρ) (r89 : Int → Int → Int → zH → Option ρ) (a1 a3 a4 : Int) (h : zH) : (if a4 < 4 then (zix 32 (wr ((wr ((wr (4 * a3)) + 4)) + a4)) fun j1 =>
zix 32 (wr ((wr (4 * a3)) + a4)) fun j2 =>
zlet (zset h 98 0 j2 (zhD h 98 0 j1)) fun h3 =>
zix 32 (wr ((wr ((wr (4 * a3)) + 4)) + a4)) fun j4 =>
zix 32 (wr ((wr (4 * a3)) + a4)) fun j5 =>
zlet (zset h3 99 0 j5 (zhD h3 99 0 j4)) fun h6 =>
r89 a1 a3 (wr (a4 + 1)) h6)
else r16 a1 (wr (a3 + 1)) h) = zseg zPP false (zcal []) (zget (999, 0, 0, 0) zc_M_removeGroup) (zcut zu_M_removeGroup) (zorc [(16, [some (112, some 0), some (0, none), none, some (0, none), none], [], fun xs h => match xs with
  | [a1, a3] => r16 a1 a3 h
  | _ => none), (89, [some (112, some 0), some (0, none), none, some (0, none), some (0, none)], [], fun xs h => match xs with
  | [a1, a3, a4] => r89 a1 a3 a4 h
  | _ => none)]) kr (fun _ _ => none) 400 89 [some (112, 0), some (0, a1), none, some (0, a3), some (0, a4)] [] h := by rfl
set_option maxRecDepth 100000 in
theorem qe_M_removeGroup_89b {ρ : Type} (kr : Int → zH → Option ρ) (r16 : Int → Int → zH → Option ρ) (r89 : Int → Int → Int → zH → Option ρ) (a1 a3 a4 : Int) (h : zH) : M_removeGroup_89b kr r16 r89 a1 a3 a4 h = zseg zPP false (zcal []) (zget (999, 0, 0, 0) zc_M_removeGroup) (zcut zu_M_removeGroup) (zorc [(16, [some (112, some 0), some (0, none), none, some (0, none), none], [], fun xs h => match xs with
  | [a1, a3] => r16 a1 a3 h
  | _ => none), (89, [some (112, some 0), some (0, none), none, some (0, none), some (0, none)], [], fun xs h => match xs with
  | [a1, a3, a4] => r89 a1 a3 a4 h
  | _ => none)]) kr (fun _ _ => none) 400 89 [some (112, 0), some (0, a1), none, some (0, a3), some (0, a4)] [] h := qg_M_removeGroup_89b kr r16 r89 a1 a3 a4 h
set_option maxRecDepth 100000 in
theorem qg_M_removeGroup_16b {ρ : Type} (kr : Int → zH → Option ρ) (r16 : Int → Int → zH → Option ρ) (c89 : Int → Int → Int → zH → Option ρ) (a1 a3 : Int) (h : zH) : (zix 2 a1 fun j1 =>
if a3 < (wr ((wr (4 * a1)) + (zhD h 93 0 j1))) then (zix 8 (wr (a3 + 1)) fun j2 =>
zix 8 a3 fun j3 =>
zlet (zset h 94 0 j3 (zhD h 94 0 j2)) fun h4 =>
zix 8 (wr (a3 + 1)) fun j5 =>
zix 8 a3 fun j6 =>
zlet (zset h4 95 0 j6 (zhD h4 95 0 j5)) fun h7 =>
zix 8 (wr (a3 + 1)) fun j8 =>
zix 8 a3 fun j9 =>
zlet (zset h7 96 0 j9 (zhD h7 96 0 j8)) fun h10 =>
zix 8 (wr (a3 + 1)) fun j11 =>
zix 8 a3 fun j12 =>
zlet (zset h10 97 0 j12 (zhD h10 97 0 j11)) fun h13 =>
c89 a1 a3 0 h13)
else kr 0 h) = zseg zPP false (zcal []) (zget (999, 0, 0, 0) zc_M_removeGroup) (zcut zu_M_removeGroup) (zorc [(89, [some (112, some 0), some (0, none), none, some (0, none), some (0, none)], [], fun xs h => match xs with
  | [a1, a3, a4] => c89 a1 a3 a4 h
  | _ => none)]) kr (fun _ _ => none) 400 16 [some (112, 0), some (0, a1), none, some (0, a3), none] [] h := by rfl
set_option maxRecDepth 100000 in
theorem qe_M_removeGroup_16b {ρ : Type} (kr : Int → zH → Option ρ) (r16 : Int → Int → zH → Option ρ) (a1 a3 : Int) (h : zH) : M_removeGroup_16b kr r16 a1 a3 h = zseg zPP false (zcal []) (zget (999, 0, 0, 0) zc_M_removeGroup) (zcut zu_M_removeGroup) (zorc [(89, [some (112, some 0), some (0, none), none, some (0, none), some (0, none)], [], fun xs h => match xs with
  | [a1, a3, a4] => M_removeGroup_89 kr r16 a1 a3 a4 h
  | _ => none)]) kr (fun _ _ => none) 400 16 [some (112, 0), some (0, a1), none, some (0, a3), none] [] h := qg_M_removeGroup_16b kr r16 (M_removeGroup_89 kr r16) a1 a3 h
set_option maxRecDepth 100000 in
theorem qg_M_removeGroup {ρ : Type} (kr : Int → zH → Option ρ) (c16 : Int → Int → zH → Option ρ) (a1 a2 : Int) (h : zH) : (zix 2 a1 fun j1 =>
zix 2 a1 fun j2 =>
zlet (zset h 93 0 j2 (wr ((zhD h 93 0 j1) - 1))) fun h3 =>
c16 a1 (wr ((wr (4 * a1)) + a2)) h3) = zseg zPP false (zcal []) (zget (999, 0, 0, 0) zc_M_removeGroup) (zcut zu_M_removeGroup) (zorc [(16, [some (112, some 0), some (0, none), none, some (0, none), none], [], fun xs h => match xs with
  | [a1, a3] => c16 a1 a3 h
  | _ => none)]) kr (fun _ _ => none) 400 0 [some (112, 0), some (0, a1), some (0, a2), none, none] [] h := by rfl
set_option maxRecDepth 100000 in
theorem qe_M_removeGroup {ρ : Type} (kr : Int → zH → Option ρ) (a1 a2 : Int) (h : zH) : M_removeGroup a1 a2 h kr = zseg zPP false (zcal []) (zget (999, 0, 0, 0) zc_M_removeGroup) (zcut zu_M_removeGroup) (zorc [(16, [some (112, some 0), some (0, none), none, some (0, none), none], [], fun xs h => match xs with
  | [a1, a3] => M_removeGroup_16 kr a1 a3 h
  | _ => none)]) kr (fun _ _ => none) 400 0 [some (112, 0), some (0, a1), some (0, a2), none, none] [] h := qg_M_removeGroup kr (M_removeGroup_16 kr) a1 a2 h
def zc_M_leave : List zI := [(14, 0, 0, 112), (80, 12, 100, 33), (999, 0, 0, 0), (999, 0, 0, 0), (10, 0, 1, 0), (90, 0, 0, 88), (16, 0, 2, 0), (14, 0, 0, 112), (80, 12, 115, 38), (999, 0, 0, 0), (999, 0, 0, 0), (10, 0, 2, 0), (90, 0, 0, 93), (0, 1, 0, 0), (31, 0, 0, 0), (16, 0, 3, 0), (10, 0, 3, 0), (62, 29, 46, 0), (999, 0, 0, 0), (999, 0, 0, 0), (14, 0, 0, 112), (80, 12, 118, 39), (999, 0, 0, 0), (999, 0, 0, 0), (0, 4, 0, 0), (10, 0, 2, 0), (32, 0, 0, 0), (10, 0, 3, 0), (30, 0, 0, 0), (90, 0, 0, 94), (10, 0, 1, 0), (67, 9, 40, 0), (999, 0, 0, 0), (999, 0, 0, 0), (14, 0, 0, 112), (10, 0, 2, 0), (10, 0, 3, 0), (110, 0, 238, 90), (999, 0, 0, 0), (999, 0, 0, 0), (22, (-1), 3, 0), (999, 0, 0, 0), (999, 0, 0, 0), (72, (-27), 16, 0), (999, 0, 0, 0), (999, 0, 0, 0), (14, 0, 0, 112), (80, 12, 136, 45), (999, 0, 0, 0), (999, 0, 0, 0), (10, 0, 2, 0), (90, 0, 0, 100), (10, 0, 1, 0), (67, 10, 63, 0), (999, 0, 0, 0), (999, 0, 0, 0), (14, 0, 0, 112), (80, 12, 136, 45), (999, 0, 0, 0), (999, 0, 0, 0), (10, 0, 2, 0), (0, (-1), 0, 0), (95, 0, 0, 100), (14, 0, 0, 112), (80, 12, 97, 32), (999, 0, 0, 0), (999, 0, 0, 0), (10, 0, 1, 0), (0, 0, 0, 0), (96, 0, 0, 87), (133, 0, 0, 0)]
def zu_M_leave : List (Nat × List Bool) := [(16, [true, true, true, true]), (40, [true, true, true, true]), (63, [true, true, false, false])]
set_option maxRecDepth 100000 in
theorem qg_M_leave_40 {ρ : Type} (kr : Int → zH → Option ρ) (r16 : Int → Int → Int → zH → Option ρ) (a1 a2 a3 : Int) (h : zH) : (r16 a1 a2 (wr (a3 + (-1))) h) = zseg zPP false (zcal []) (zget (999, 0, 0, 0) zc_M_leave) (zcut zu_M_leave) (zorc [(16, [some (112, some 0), some (0, none), some (0, none), some (0, none)], [], fun xs h => match xs with
  | [a1, a2, a3] => r16 a1 a2 a3 h
  | _ => none)]) kr (fun _ _ => none) 400 40 [some (112, 0), some (0, a1), some (0, a2), some (0, a3)] [] h := by rfl
set_option maxRecDepth 100000 in
theorem qe_M_leave_40 {ρ : Type} (kr : Int → zH → Option ρ) (r16 : Int → Int → Int → zH → Option ρ) (a1 a2 a3 : Int) (h : zH) : M_leave_40 kr r16 a1 a2 a3 h = zseg zPP false (zcal []) (zget (999, 0, 0, 0) zc_M_leave) (zcut zu_M_leave) (zorc [(16, [some (112, some 0), some (0, none), some (0, none), some (0, none)], [], fun xs h => match xs with
  | [a1, a2, a3] => r16 a1 a2 a3 h
  | _ => none)]) kr (fun _ _ => none) 400 40 [some (112, 0), some (0, a1), some (0, a2), some (0, a3)] [] h := qg_M_leave_40 kr r16 a1 a2 a3 h
set_option maxRecDepth 100000 in
theorem qg_M_leave_63 {ρ : Type} (kr : Int → zH → Option ρ) (a1 : Int) (h : zH) : (zix 72 a1 fun j1 =>
zlet (zset h 87 0 j1 0) fun h2 =>
kr 0 h2) = zseg zPP false (zcal []) (zget (999, 0, 0, 0) zc_M_leave) (zcut zu_M_leave) (zorc []) kr (fun _ _ => none) 400 63 [some (112, 0), some (0, a1), none, none] [] h := by rfl
set_option maxRecDepth 100000 in
theorem qe_M_leave_63 {ρ : Type} (kr : Int → zH → Option ρ) (a1 : Int) (h : zH) : M_leave_63 kr a1 h = zseg zPP false (zcal []) (zget (999, 0, 0, 0) zc_M_leave) (zcut zu_M_leave) (zorc []) kr (fun _ _ => none) 400 63 [some (112, 0), some (0, a1), none, none] [] h := qg_M_leave_63 kr a1 h
set_option maxRecDepth 100000 in
theorem qg_M_leave_16b {ρ : Type} (kr : Int → zH → Option ρ) (r16 : Int → Int → Int → zH → Option ρ) (F_M_removeGroup : Int → Int → zH → (Int → zH → Option ρ) → Option ρ) (c40 : Int → Int → Int → zH → Option ρ) (c63 : Int → zH → Option ρ) (a1 a2 a3 : Int) (h : zH) : (if a3 < 0 then (zix 2 a2 fun j1 =>
if (zhD h 100 0 j1) = a1 then (zix 2 a2 fun j2 =>
zlet (zset h 100 0 j2 (-1)) fun h3 =>
c63 a1 h3)
else c63 a1 h)
else zix 8 (wr ((wr (4 * a2)) + a3)) fun j4 =>
if (zhD h 94 0 j4) = a1 then (F_M_removeGroup a2 a3 h  fun _ h6 =>
c40 a1 a2 a3 h6)
else c40 a1 a2 a3 h) = zseg zPP false (zcal [(90, [some 0, none, none], fun xs h kr kt => match xs with
  | [x1, x2] => F_M_removeGroup x1 x2 h kr
  | _ => none)]) (zget (999, 0, 0, 0) zc_M_leave) (zcut zu_M_leave) (zorc [(40, [some (112, some 0), some (0, none), some (0, none), some (0, none)], [], fun xs h => match xs with
  | [a1, a2, a3] => c40 a1 a2 a3 h
  | _ => none), (63, [some (112, some 0), some (0, none), none, none], [], fun xs h => match xs with
  | [a1] => c63 a1 h
  | _ => none)]) kr (fun _ _ => none) 400 16 [some (112, 0), some (0, a1), some (0, a2), some (0, a3)] [] h := by rfl
set_option maxRecDepth 100000 in
theorem qe_M_leave_16b {ρ : Type} (kr : Int → zH → Option ρ) (r16 : Int → Int → Int → zH → Option ρ) (a1 a2 a3 : Int) (h : zH) : M_leave_16b kr r16 a1 a2 a3 h = zseg zPP false (zcal [(90, [some 0, none, none], fun xs h kr kt => match xs with
  | [x1, x2] => M_removeGroup x1 x2 h kr
  | _ => none)]) (zget (999, 0, 0, 0) zc_M_leave) (zcut zu_M_leave) (zorc [(40, [some (112, some 0), some (0, none), some (0, none), some (0, none)], [], fun xs h => match xs with
  | [a1, a2, a3] => M_leave_40 kr r16 a1 a2 a3 h
  | _ => none), (63, [some (112, some 0), some (0, none), none, none], [], fun xs h => match xs with
  | [a1] => M_leave_63 kr a1 h
  | _ => none)]) kr (fun _ _ => none) 400 16 [some (112, 0), some (0, a1), some (0, a2), some (0, a3)] [] h := qg_M_leave_16b kr r16 M_removeGroup (M_leave_40 kr r16) (M_leave_63 kr) a1 a2 a3 h
set_option maxRecDepth 100000 in
theorem qg_M_leave {ρ : Type} (kr : Int → zH → Option ρ) (c16 : Int → Int → Int → zH → Option ρ) (a1 : Int) (h : zH) : (zix 72 a1 fun j1 =>
zix 2 (zhD h 88 0 j1) fun j2 =>
c16 a1 (zhD h 88 0 j1) (wr ((zhD h 93 0 j2) - 1)) h) = zseg zPP false (zcal []) (zget (999, 0, 0, 0) zc_M_leave) (zcut zu_M_leave) (zorc [(16, [some (112, some 0), some (0, none), some (0, none), some (0, none)], [], fun xs h => match xs with
  | [a1, a2, a3] => c16 a1 a2 a3 h
  | _ => none)]) kr (fun _ _ => none) 400 0 [some (112, 0), some (0, a1), none, none] [] h := by rfl
set_option maxRecDepth 100000 in
theorem qe_M_leave {ρ : Type} (kr : Int → zH → Option ρ) (a1 : Int) (h : zH) : M_leave a1 h kr = zseg zPP false (zcal []) (zget (999, 0, 0, 0) zc_M_leave) (zcut zu_M_leave) (zorc [(16, [some (112, some 0), some (0, none), some (0, none), some (0, none)], [], fun xs h => match xs with
  | [a1, a2, a3] => M_leave_16 kr a1 a2 a3 h
  | _ => none)]) kr (fun _ _ => none) 400 0 [some (112, 0), some (0, a1), none, none] [] h := qg_M_leave kr (M_leave_16 kr) a1 h
def zc_M_fail : List zI := [(14, 0, 0, 112), (80, 12, 43, 14), (999, 0, 0, 0), (999, 0, 0, 0), (10, 0, 1, 0), (92, 0, 0, 69), (1, 114, 0, 0), (999, 0, 0, 0), (66, 4, 12, 0), (999, 0, 0, 0), (999, 0, 0, 0), (133, 0, 0, 0), (14, 0, 0, 112), (80, 12, 43, 14), (999, 0, 0, 0), (999, 0, 0, 0), (10, 0, 1, 0), (1, 102, 0, 0), (999, 0, 0, 0), (97, 0, 0, 69), (14, 0, 0, 112), (80, 12, 88, 29), (999, 0, 0, 0), (999, 0, 0, 0), (10, 0, 1, 0), (10, 0, 2, 0), (97, 0, 0, 84), (14, 0, 0, 112), (80, 12, 91, 30), (999, 0, 0, 0), (999, 0, 0, 0), (10, 0, 1, 0), (2, 10000, 0, 0), (999, 0, 0, 0), (999, 0, 0, 0), (10, 0, 3, 0), (32, 0, 0, 0), (1, 100, 0, 0), (999, 0, 0, 0), (11, 0, 4, 0), (999, 0, 0, 0), (32, 0, 0, 0), (30, 0, 0, 0), (11, 0, 5, 0), (999, 0, 0, 0), (30, 0, 0, 0), (95, 0, 0, 85), (0, 0, 0, 0), (17, 0, 6, 0), (999, 0, 0, 0), (11, 0, 6, 0), (999, 0, 0, 0), (14, 0, 0, 112), (80, 12, 52, 17), (999, 0, 0, 0), (999, 0, 0, 0), (10, 0, 1, 0), (90, 0, 0, 72), (69, 33, 91, 0), (999, 0, 0, 0), (999, 0, 0, 0), (14, 0, 0, 112), (80, 12, 97, 32), (999, 0, 0, 0), (999, 0, 0, 0), (10, 0, 1, 0), (11, 0, 6, 0), (999, 0, 0, 0), (113, 0, 242, 88), (999, 0, 0, 0), (999, 0, 0, 0), (91, 0, 0, 87), (60, 13, 85, 0), (999, 0, 0, 0), (999, 0, 0, 0), (14, 0, 0, 112), (10, 0, 1, 0), (11, 0, 6, 0), (999, 0, 0, 0), (113, 0, 242, 88), (999, 0, 0, 0), (999, 0, 0, 0), (110, 0, 245, 91), (999, 0, 0, 0), (999, 0, 0, 0), (22, 1, 6, 0), (999, 0, 0, 0), (999, 0, 0, 0), (72, (-38), 50, 0), (999, 0, 0, 0), (999, 0, 0, 0), (133, 0, 0, 0)]
def zu_M_fail : List (Nat × List Bool) := [(50, [true, true, false, false, false, false, true]), (85, [true, true, false, false, false, false, true])]
set_option maxRecDepth 100000 in
theorem qg_M_fail_85 {ρ : Type} (kr : Int → zH → Option ρ) (r50 : Int → Int → zH → Option ρ) (a1 a6 : Int) (h : zH) : (r50 a1 (wr (a6 + 1)) h) = zseg zPP false (zcal []) (zget (999, 0, 0, 0) zc_M_fail) (zcut zu_M_fail) (zorc [(50, [some (112, some 0), some (0, none), none, none, none, none, some (0, none)], [], fun xs h => match xs with
  | [a1, a6] => r50 a1 a6 h
  | _ => none)]) kr (fun _ _ => none) 400 85 [some (112, 0), some (0, a1), none, none, none, none, some (0, a6)] [] h := by rfl
set_option maxRecDepth 100000 in
theorem qe_M_fail_85 {ρ : Type} (kr : Int → zH → Option ρ) (r50 : Int → Int → zH → Option ρ) (a1 a6 : Int) (h : zH) : M_fail_85 kr r50 a1 a6 h = zseg zPP false (zcal []) (zget (999, 0, 0, 0) zc_M_fail) (zcut zu_M_fail) (zorc [(50, [some (112, some 0), some (0, none), none, none, none, none, some (0, none)], [], fun xs h => match xs with
  | [a1, a6] => r50 a1 a6 h
  | _ => none)]) kr (fun _ _ => none) 400 85 [some (112, 0), some (0, a1), none, none, none, none, some (0, a6)] [] h := qg_M_fail_85 kr r50 a1 a6 h
set_option maxRecDepth 100000 in
theorem qg_M_fail_50b {ρ : Type} (kr : Int → zH → Option ρ) (r50 : Int → Int → zH → Option ρ) (F_M_blockOf : Int → Int → zH → (Int → zH → Option ρ) → Option ρ) (F_M_leave : Int → zH → (Int → zH → Option ρ) → Option ρ) (c85 : Int → Int → zH → Option ρ) (a1 a6 : Int) (h : zH) : (zix 12 a1 fun j1 =>
if a6 < (zhD h 72 0 j1) then (F_M_blockOf a1 a6 h  fun v2 h3 =>
zix 72 v2 fun j4 =>
if (zhD h3 87 0 j4) = 0 then c85 a1 a6 h3
else F_M_blockOf a1 a6 h3  fun v5 h6 =>
F_M_leave v5 h6  fun _ h8 =>
c85 a1 a6 h8)
else kr 0 h) = zseg zPP false (zcal [(88, [none, none], fun xs h kr kt => match xs with
  | [x0, x1] => F_M_blockOf x0 x1 h kr
  | _ => none), (91, [some 0, none], fun xs h kr kt => match xs with
  | [x1] => F_M_leave x1 h kr
  | _ => none)]) (zget (999, 0, 0, 0) zc_M_fail) (zcut zu_M_fail) (zorc [(85, [some (112, some 0), some (0, none), none, none, none, none, some (0, none)], [], fun xs h => match xs with
  | [a1, a6] => c85 a1 a6 h
  | _ => none)]) kr (fun _ _ => none) 400 50 [some (112, 0), some (0, a1), none, none, none, none, some (0, a6)] [] h := by rfl
set_option maxRecDepth 100000 in
theorem qe_M_fail_50b {ρ : Type} (kr : Int → zH → Option ρ) (r50 : Int → Int → zH → Option ρ) (a1 a6 : Int) (h : zH) : M_fail_50b kr r50 a1 a6 h = zseg zPP false (zcal [(88, [none, none], fun xs h kr kt => match xs with
  | [x0, x1] => M_blockOf x0 x1 h kr
  | _ => none), (91, [some 0, none], fun xs h kr kt => match xs with
  | [x1] => M_leave x1 h kr
  | _ => none)]) (zget (999, 0, 0, 0) zc_M_fail) (zcut zu_M_fail) (zorc [(85, [some (112, some 0), some (0, none), none, none, none, none, some (0, none)], [], fun xs h => match xs with
  | [a1, a6] => M_fail_85 kr r50 a1 a6 h
  | _ => none)]) kr (fun _ _ => none) 400 50 [some (112, 0), some (0, a1), none, none, none, none, some (0, a6)] [] h := qg_M_fail_50b kr r50 M_blockOf M_leave (M_fail_85 kr r50) a1 a6 h
set_option maxRecDepth 100000 in
theorem qg_M_fail {ρ : Type} (kr : Int → zH → Option ρ) (c50 : Int → Int → zH → Option ρ) (a1 a2 a3 a4 a5 : Int) (h : zH) : (zix 12 a1 fun j1 =>
if (zhD h 69 0 j1) = 114 then (zix 12 a1 fun j2 =>
zlet (zset h 69 0 j2 102) fun h3 =>
zix 12 a1 fun j4 =>
znar 2 a2 fun x5 =>
zlet (zset h3 84 0 j4 x5) fun h6 =>
zix 12 a1 fun j7 =>
zlet (zset h6 85 0 j7 (wr ((wr ((wr (10000 * a3)) + (wr (100 * a4)))) + a5))) fun h8 =>
c50 a1 0 h8)
else kr 0 h) = zseg zPP false (zcal []) (zget (999, 0, 0, 0) zc_M_fail) (zcut zu_M_fail) (zorc [(50, [some (112, some 0), some (0, none), none, none, none, none, some (0, none)], [], fun xs h => match xs with
  | [a1, a6] => c50 a1 a6 h
  | _ => none)]) kr (fun _ _ => none) 400 0 [some (112, 0), some (0, a1), some (0, a2), some (0, a3), some (0, a4), some (0, a5), none] [] h := by rfl
set_option maxRecDepth 100000 in
theorem qe_M_fail {ρ : Type} (kr : Int → zH → Option ρ) (a1 a2 a3 a4 a5 : Int) (h : zH) : M_fail a1 a2 a3 a4 a5 h kr = zseg zPP false (zcal []) (zget (999, 0, 0, 0) zc_M_fail) (zcut zu_M_fail) (zorc [(50, [some (112, some 0), some (0, none), none, none, none, none, some (0, none)], [], fun xs h => match xs with
  | [a1, a6] => M_fail_50 kr a1 a6 h
  | _ => none)]) kr (fun _ _ => none) 400 0 [some (112, 0), some (0, a1), some (0, a2), some (0, a3), some (0, a4), some (0, a5), none] [] h := qg_M_fail kr (M_fail_50 kr) a1 a2 a3 a4 a5 h
def zc_M_threadCell : List zI := [(1, 16, 0, 0), (999, 0, 0, 0), (10, 0, 1, 0), (32, 0, 0, 0), (10, 0, 2, 0), (30, 0, 0, 0), (130, 0, 0, 0)]
def zu_M_threadCell : List (Nat × List Bool) := []
set_option maxRecDepth 100000 in
theorem qg_M_threadCell {ρ : Type} (kr : Int → zH → Option ρ) (a1 a2 : Int) (h : zH) : (kr (wr ((wr (16 * a1)) + a2)) h) = zseg zPP false (zcal []) (zget (999, 0, 0, 0) zc_M_threadCell) (zcut zu_M_threadCell) (zorc []) kr (fun _ _ => none) 400 0 [some (112, 0), some (0, a1), some (0, a2)] [] h := by rfl
set_option maxRecDepth 100000 in
theorem qe_M_threadCell {ρ : Type} (kr : Int → zH → Option ρ) (a1 a2 : Int) (h : zH) : M_threadCell a1 a2 h kr = zseg zPP false (zcal []) (zget (999, 0, 0, 0) zc_M_threadCell) (zcut zu_M_threadCell) (zorc []) kr (fun _ _ => none) 400 0 [some (112, 0), some (0, a1), some (0, a2)] [] h := qg_M_threadCell kr a1 a2 h
def zc_M_count : List zI := [(0, 0, 0, 0), (16, 0, 3, 0), (0, 0, 0, 0), (17, 0, 4, 0), (999, 0, 0, 0), (11, 0, 4, 0), (999, 0, 0, 0), (14, 0, 0, 112), (80, 12, 55, 18), (999, 0, 0, 0), (999, 0, 0, 0), (10, 0, 1, 0), (1, 6, 0, 0), (999, 0, 0, 0), (33, 0, 0, 0), (90, 0, 0, 73), (69, 33, 49, 0), (999, 0, 0, 0), (999, 0, 0, 0), (10, 0, 3, 0), (14, 0, 0, 112), (80, 12, 103, 34), (999, 0, 0, 0), (999, 0, 0, 0), (14, 0, 0, 112), (10, 0, 1, 0), (11, 0, 4, 0), (999, 0, 0, 0), (110, 0, 249, 93), (999, 0, 0, 0), (999, 0, 0, 0), (92, 0, 0, 89), (10, 0, 2, 0), (67, 7, 40, 0), (999, 0, 0, 0), (999, 0, 0, 0), (0, 1, 0, 0), (72, 4, 41, 0), (999, 0, 0, 0), (999, 0, 0, 0), (0, 0, 0, 0), (30, 0, 0, 0), (16, 0, 3, 0), (22, 1, 4, 0), (999, 0, 0, 0), (999, 0, 0, 0), (72, (-41), 5, 0), (999, 0, 0, 0), (999, 0, 0, 0), (10, 0, 3, 0), (130, 0, 0, 0)]
def zu_M_count : List (Nat × List Bool) := [(5, [true, true, true, true, true]), (41, [true, true, true, false, true])]
set_option maxRecDepth 100000 in
theorem qg_M_count_41 {ρ : Type} (kr : Int → zH → Option ρ) (r5 : Int → Int → Int → Int → zH → Option ρ) (a1 a2 a4 t0 t1 : Int) (h : zH) : (r5 a1 a2 (wr (t1 + t0)) (wr (a4 + 1)) h) = zseg zPP false (zcal []) (zget (999, 0, 0, 0) zc_M_count) (zcut zu_M_count) (zorc [(5, [some (112, some 0), some (0, none), some (0, none), some (0, none), some (0, none)], [], fun xs h => match xs with
  | [a1, a2, a3, a4] => r5 a1 a2 a3 a4 h
  | _ => none)]) kr (fun _ _ => none) 400 41 [some (112, 0), some (0, a1), some (0, a2), none, some (0, a4)] [(0, t0), (0, t1)] h := by rfl
set_option maxRecDepth 100000 in
theorem qe_M_count_41 {ρ : Type} (kr : Int → zH → Option ρ) (r5 : Int → Int → Int → Int → zH → Option ρ) (a1 a2 a4 t0 t1 : Int) (h : zH) : M_count_41 kr r5 a1 a2 a4 t0 t1 h = zseg zPP false (zcal []) (zget (999, 0, 0, 0) zc_M_count) (zcut zu_M_count) (zorc [(5, [some (112, some 0), some (0, none), some (0, none), some (0, none), some (0, none)], [], fun xs h => match xs with
  | [a1, a2, a3, a4] => r5 a1 a2 a3 a4 h
  | _ => none)]) kr (fun _ _ => none) 400 41 [some (112, 0), some (0, a1), some (0, a2), none, some (0, a4)] [(0, t0), (0, t1)] h := qg_M_count_41 kr r5 a1 a2 a4 t0 t1 h
set_option maxRecDepth 100000 in
theorem qg_M_count_5b {ρ : Type} (kr : Int → zH → Option ρ) (r5 : Int → Int → Int → Int → zH → Option ρ) (F_M_threadCell : Int → Int → zH → (Int → zH → Option ρ) → Option ρ) (c41 : Int → Int → Int → Int → Int → zH → Option ρ) (a1 a2 a3 a4 : Int) (h : zH) : (zix 12 (wr (Int.tdiv a1 6)) fun j1 =>
if a4 < (zhD h 73 0 j1) then (F_M_threadCell a1 a4 h  fun v2 h3 =>
zix 1152 v2 fun j4 =>
if (zhD h3 89 0 j4) = a2 then c41 a1 a2 a4 1 a3 h3
else c41 a1 a2 a4 0 a3 h3)
else kr a3 h) = zseg zPP false (zcal [(93, [some 0, none, none], fun xs h kr kt => match xs with
  | [x1, x2] => F_M_threadCell x1 x2 h kr
  | _ => none)]) (zget (999, 0, 0, 0) zc_M_count) (zcut zu_M_count) (zorc [(41, [some (112, some 0), some (0, none), some (0, none), none, some (0, none)], [(0, none), (0, none)], fun xs h => match xs with
  | [a1, a2, a4, t0, t1] => c41 a1 a2 a4 t0 t1 h
  | _ => none)]) kr (fun _ _ => none) 400 5 [some (112, 0), some (0, a1), some (0, a2), some (0, a3), some (0, a4)] [] h := by rfl
set_option maxRecDepth 100000 in
theorem qe_M_count_5b {ρ : Type} (kr : Int → zH → Option ρ) (r5 : Int → Int → Int → Int → zH → Option ρ) (a1 a2 a3 a4 : Int) (h : zH) : M_count_5b kr r5 a1 a2 a3 a4 h = zseg zPP false (zcal [(93, [some 0, none, none], fun xs h kr kt => match xs with
  | [x1, x2] => M_threadCell x1 x2 h kr
  | _ => none)]) (zget (999, 0, 0, 0) zc_M_count) (zcut zu_M_count) (zorc [(41, [some (112, some 0), some (0, none), some (0, none), none, some (0, none)], [(0, none), (0, none)], fun xs h => match xs with
  | [a1, a2, a4, t0, t1] => M_count_41 kr r5 a1 a2 a4 t0 t1 h
  | _ => none)]) kr (fun _ _ => none) 400 5 [some (112, 0), some (0, a1), some (0, a2), some (0, a3), some (0, a4)] [] h := qg_M_count_5b kr r5 M_threadCell (M_count_41 kr r5) a1 a2 a3 a4 h
set_option maxRecDepth 100000 in
theorem qg_M_count {ρ : Type} (kr : Int → zH → Option ρ) (c5 : Int → Int → Int → Int → zH → Option ρ) (a1 a2 : Int) (h : zH) : (c5 a1 a2 0 0 h) = zseg zPP false (zcal []) (zget (999, 0, 0, 0) zc_M_count) (zcut zu_M_count) (zorc [(5, [some (112, some 0), some (0, none), some (0, none), some (0, none), some (0, none)], [], fun xs h => match xs with
  | [a1, a2, a3, a4] => c5 a1 a2 a3 a4 h
  | _ => none)]) kr (fun _ _ => none) 400 0 [some (112, 0), some (0, a1), some (0, a2), none, none] [] h := by rfl
set_option maxRecDepth 100000 in
theorem qe_M_count {ρ : Type} (kr : Int → zH → Option ρ) (a1 a2 : Int) (h : zH) : M_count a1 a2 h kr = zseg zPP false (zcal []) (zget (999, 0, 0, 0) zc_M_count) (zcut zu_M_count) (zorc [(5, [some (112, some 0), some (0, none), some (0, none), some (0, none), some (0, none)], [], fun xs h => match xs with
  | [a1, a2, a3, a4] => M_count_5 kr a1 a2 a3 a4 h
  | _ => none)]) kr (fun _ _ => none) 400 0 [some (112, 0), some (0, a1), some (0, a2), none, none] [] h := qg_M_count kr (M_count_5 kr) a1 a2 h
def zc_M_lookAt : List zI := [(10, 0, 1, 0), (1, 6, 0, 0), (999, 0, 0, 0), (33, 0, 0, 0), (16, 0, 2, 0), (14, 0, 0, 112), (80, 12, 97, 32), (999, 0, 0, 0), (999, 0, 0, 0), (10, 0, 1, 0), (91, 0, 0, 87), (60, 13, 24, 0), (999, 0, 0, 0), (999, 0, 0, 0), (14, 0, 0, 112), (10, 0, 1, 0), (1, 114, 0, 0), (999, 0, 0, 0), (110, 0, 252, 94), (999, 0, 0, 0), (999, 0, 0, 0), (65, 4, 25, 0), (999, 0, 0, 0), (999, 0, 0, 0), (133, 0, 0, 0), (14, 0, 0, 112), (10, 0, 1, 0), (1, 119, 0, 0), (999, 0, 0, 0), (110, 0, 252, 94), (999, 0, 0, 0), (999, 0, 0, 0), (61, 19, 51, 0), (999, 0, 0, 0), (999, 0, 0, 0), (14, 0, 0, 112), (80, 12, 73, 24), (999, 0, 0, 0), (999, 0, 0, 0), (10, 0, 2, 0), (51, 0, 0, 0), (90, 0, 0, 79), (0, 1, 0, 0), (30, 0, 0, 0), (95, 0, 0, 79), (14, 0, 0, 112), (10, 0, 1, 0), (110, 0, 245, 91), (999, 0, 0, 0), (999, 0, 0, 0), (133, 0, 0, 0), (0, (-1), 0, 0), (16, 0, 3, 0), (0, 1, 0, 0), (17, 0, 4, 0), (999, 0, 0, 0), (14, 0, 0, 112), (80, 12, 55, 18), (999, 0, 0, 0), (999, 0, 0, 0), (10, 0, 2, 0), (90, 0, 0, 73), (0, 1, 0, 0), (31, 0, 0, 0), (17, 0, 5, 0), (999, 0, 0, 0), (11, 0, 5, 0), (999, 0, 0, 0), (62, 71, 139, 0), (999, 0, 0, 0), (999, 0, 0, 0), (14, 0, 0, 112), (10, 0, 1, 0), (11, 0, 5, 0), (999, 0, 0, 0), (110, 0, 249, 93), (999, 0, 0, 0), (999, 0, 0, 0), (17, 0, 6, 0), (999, 0, 0, 0), (14, 0, 0, 112), (80, 12, 103, 34), (999, 0, 0, 0), (999, 0, 0, 0), (11, 0, 6, 0), (999, 0, 0, 0), (92, 0, 0, 89), (1, 119, 0, 0), (999, 0, 0, 0), (67, 44, 133, 0), (999, 0, 0, 0), (999, 0, 0, 0), (11, 0, 4, 0), (999, 0, 0, 0), (60, 33, 127, 0), (999, 0, 0, 0), (999, 0, 0, 0), (10, 0, 3, 0), (0, (-1), 0, 0), (66, 24, 123, 0), (999, 0, 0, 0), (999, 0, 0, 0), (14, 0, 0, 112), (80, 12, 106, 35), (999, 0, 0, 0), (999, 0, 0, 0), (11, 0, 6, 0), (999, 0, 0, 0), (90, 0, 0, 90), (14, 0, 0, 112), (80, 12, 106, 35), (999, 0, 0, 0), (999, 0, 0, 0), (14, 0, 0, 112), (10, 0, 1, 0), (10, 0, 3, 0), (110, 0, 249, 93), (999, 0, 0, 0), (999, 0, 0, 0), (90, 0, 0, 90), (67, 7, 127, 0), (999, 0, 0, 0), (999, 0, 0, 0), (0, 1, 0, 0), (72, 4, 128, 0), (999, 0, 0, 0), (999, 0, 0, 0), (0, 0, 0, 0), (17, 0, 4, 0), (999, 0, 0, 0), (11, 0, 5, 0), (999, 0, 0, 0), (16, 0, 3, 0), (22, (-1), 5, 0), (999, 0, 0, 0), (999, 0, 0, 0), (72, (-70), 66, 0), (999, 0, 0, 0), (999, 0, 0, 0), (11, 0, 4, 0), (999, 0, 0, 0), (61, 27, 168, 0), (999, 0, 0, 0), (999, 0, 0, 0), (14, 0, 0, 112), (10, 0, 2, 0), (1, 98, 0, 0), (999, 0, 0, 0), (10, 0, 1, 0), (1, 6, 0, 0), (999, 0, 0, 0), (34, 0, 0, 0), (10, 0, 3, 0), (14, 0, 0, 112), (80, 12, 106, 35), (999, 0, 0, 0), (999, 0, 0, 0), (14, 0, 0, 112), (10, 0, 1, 0), (10, 0, 3, 0), (110, 0, 249, 93), (999, 0, 0, 0), (999, 0, 0, 0), (90, 0, 0, 90), (110, 0, 256, 92), (999, 0, 0, 0), (999, 0, 0, 0), (133, 0, 0, 0), (14, 0, 0, 112), (50, 0, 0, 0), (80, 12, 260, 60), (999, 0, 0, 0), (999, 0, 0, 0), (0, 1, 0, 0), (30, 0, 0, 0), (82, 12, 260, 60), (999, 0, 0, 0), (999, 0, 0, 0), (14, 0, 0, 112), (80, 12, 94, 31), (999, 0, 0, 0), (999, 0, 0, 0), (10, 0, 1, 0), (51, 0, 0, 0), (90, 0, 0, 86), (0, 1, 0, 0), (30, 0, 0, 0), (95, 0, 0, 86), (0, 0, 0, 0), (17, 0, 5, 0), (999, 0, 0, 0), (11, 0, 5, 0), (999, 0, 0, 0), (14, 0, 0, 112), (80, 12, 55, 18), (999, 0, 0, 0), (999, 0, 0, 0), (10, 0, 2, 0), (90, 0, 0, 73), (69, 85, 284, 0), (999, 0, 0, 0), (999, 0, 0, 0), (14, 0, 0, 112), (10, 0, 1, 0), (11, 0, 5, 0), (999, 0, 0, 0), (110, 0, 249, 93), (999, 0, 0, 0), (999, 0, 0, 0), (17, 0, 6, 0), (999, 0, 0, 0), (14, 0, 0, 112), (80, 12, 103, 34), (999, 0, 0, 0), (999, 0, 0, 0), (11, 0, 6, 0), (999, 0, 0, 0), (92, 0, 0, 89), (1, 119, 0, 0), (999, 0, 0, 0), (67, 58, 278, 0), (999, 0, 0, 0), (999, 0, 0, 0), (14, 0, 0, 112), (80, 12, 103, 34), (999, 0, 0, 0), (999, 0, 0, 0), (11, 0, 6, 0), (999, 0, 0, 0), (1, 114, 0, 0), (999, 0, 0, 0), (97, 0, 0, 89), (14, 0, 0, 112), (80, 12, 106, 35), (999, 0, 0, 0), (999, 0, 0, 0), (11, 0, 6, 0), (999, 0, 0, 0), (51, 0, 0, 0), (90, 0, 0, 90), (0, 1, 0, 0), (30, 0, 0, 0), (95, 0, 0, 90), (14, 0, 0, 112), (80, 12, 103, 34), (999, 0, 0, 0), (999, 0, 0, 0), (11, 0, 6, 0), (999, 0, 0, 0), (14, 0, 0, 112), (80, 12, 106, 35), (999, 0, 0, 0), (999, 0, 0, 0), (11, 0, 6, 0), (999, 0, 0, 0), (90, 0, 0, 90), (14, 0, 0, 112), (80, 12, 23, 7), (999, 0, 0, 0), (999, 0, 0, 0), (14, 0, 0, 112), (80, 12, 46, 15), (999, 0, 0, 0), (999, 0, 0, 0), (10, 0, 2, 0), (90, 0, 0, 70), (90, 0, 0, 63), (68, 8, 275, 0), (999, 0, 0, 0), (999, 0, 0, 0), (1, 101, 0, 0), (999, 0, 0, 0), (72, 5, 277, 0), (999, 0, 0, 0), (999, 0, 0, 0), (1, 114, 0, 0), (999, 0, 0, 0), (97, 0, 0, 89), (22, 1, 5, 0), (999, 0, 0, 0), (999, 0, 0, 0), (72, (-90), 191, 0), (999, 0, 0, 0), (999, 0, 0, 0), (133, 0, 0, 0)]
def zu_M_lookAt : List (Nat × List Bool) := [(24, [false, false, false, false, false, false, false]), (66, [true, true, true, true, true, true, false]), (123, [true, true, true, false, false, true, false]), (127, [true, true, true, false, false, true, false]), (128, [true, true, true, false, false, true, false]), (133, [true, true, true, true, true, true, false]), (191, [true, true, true, false, false, true, false]), (277, [true, true, true, false, false, true, false]), (278, [true, true, true, false, false, true, false])]
set_option maxRecDepth 100000 in
theorem qg_M_lookAt_24 {ρ : Type} (kr : Int → zH → Option ρ) (h : zH) : (kr 0 h) = zseg zPP false (zcal []) (zget (999, 0, 0, 0) zc_M_lookAt) (zcut zu_M_lookAt) (zorc []) kr (fun _ _ => none) 400 24 [none, none, none, none, none, none, none] [] h := by rfl
set_option maxRecDepth 100000 in
theorem qe_M_lookAt_24 {ρ : Type} (kr : Int → zH → Option ρ) (h : zH) : M_lookAt_24 kr h = zseg zPP false (zcal []) (zget (999, 0, 0, 0) zc_M_lookAt) (zcut zu_M_lookAt) (zorc []) kr (fun _ _ => none) 400 24 [none, none, none, none, none, none, none] [] h := qg_M_lookAt_24 kr h
set_option maxRecDepth 100000 in
theorem qg_M_lookAt_133 {ρ : Type} (kr : Int → zH → Option ρ) (r66 : Int → Int → Int → Int → Int → zH → Option ρ) (a1 a2 a3 a4 a5 : Int) (h : zH) : (r66 a1 a2 a3 a4 (wr (a5 + (-1))) h) = zseg zPP false (zcal []) (zget (999, 0, 0, 0) zc_M_lookAt) (zcut zu_M_lookAt) (zorc [(66, [some (112, some 0), some (0, none), some (0, none), some (0, none), some (0, none), some (0, none), none], [], fun xs h => match xs with
  | [a1, a2, a3, a4, a5] => r66 a1 a2 a3 a4 a5 h
  | _ => none)]) kr (fun _ _ => none) 400 133 [some (112, 0), some (0, a1), some (0, a2), some (0, a3), some (0, a4), some (0, a5), none] [] h := by rfl
set_option maxRecDepth 100000 in
theorem qe_M_lookAt_133 {ρ : Type} (kr : Int → zH → Option ρ) (r66 : Int → Int → Int → Int → Int → zH → Option ρ) (a1 a2 a3 a4 a5 : Int) (h : zH) : M_lookAt_133 kr r66 a1 a2 a3 a4 a5 h = zseg zPP false (zcal []) (zget (999, 0, 0, 0) zc_M_lookAt) (zcut zu_M_lookAt) (zorc [(66, [some (112, some 0), some (0, none), some (0, none), some (0, none), some (0, none), some (0, none), none], [], fun xs h => match xs with
  | [a1, a2, a3, a4, a5] => r66 a1 a2 a3 a4 a5 h
  | _ => none)]) kr (fun _ _ => none) 400 133 [some (112, 0), some (0, a1), some (0, a2), some (0, a3), some (0, a4), some (0, a5), none] [] h := qg_M_lookAt_133 kr r66 a1 a2 a3 a4 a5 h
set_option maxRecDepth 100000 in
theorem qg_M_lookAt_128 {ρ : Type} (kr : Int → zH → Option ρ) (r66 : Int → Int → Int → Int → Int → zH → Option ρ) (c133 : Int → Int → Int → Int → Int → zH → Option ρ) (a1 a2 a5 t0 : Int) (h : zH) : (c133 a1 a2 a5 t0 a5 h) = zseg zPP false (zcal []) (zget (999, 0, 0, 0) zc_M_lookAt) (zcut zu_M_lookAt) (zorc [(133, [some (112, some 0), some (0, none), some (0, none), some (0, none), some (0, none), some (0, none), none], [], fun xs h => match xs with
  | [a1, a2, a3, a4, a5] => c133 a1 a2 a3 a4 a5 h
  | _ => none)]) kr (fun _ _ => none) 400 128 [some (112, 0), some (0, a1), some (0, a2), none, none, some (0, a5), none] [(0, t0)] h := by rfl
set_option maxRecDepth 100000 in
theorem qe_M_lookAt_128 {ρ : Type} (kr : Int → zH → Option ρ) (r66 : Int → Int → Int → Int → Int → zH → Option ρ) (a1 a2 a5 t0 : Int) (h : zH) : M_lookAt_128 kr r66 a1 a2 a5 t0 h = zseg zPP false (zcal []) (zget (999, 0, 0, 0) zc_M_lookAt) (zcut zu_M_lookAt) (zorc [(133, [some (112, some 0), some (0, none), some (0, none), some (0, none), some (0, none), some (0, none), none], [], fun xs h => match xs with
  | [a1, a2, a3, a4, a5] => M_lookAt_133 kr r66 a1 a2 a3 a4 a5 h
  | _ => none)]) kr (fun _ _ => none) 400 128 [some (112, 0), some (0, a1), some (0, a2), none, none, some (0, a5), none] [(0, t0)] h := qg_M_lookAt_128 kr r66 (M_lookAt_133 kr r66) a1 a2 a5 t0 h
set_option maxRecDepth 100000 in
theorem qg_M_lookAt_123 {ρ : Type} (kr : Int → zH → Option ρ) (r66 : Int → Int → Int → Int → Int → zH → Option ρ) (c128 : Int → Int → Int → Int → zH → Option ρ) (a1 a2 a5 : Int) (h : zH) : (c128 a1 a2 a5 1 h) = zseg zPP false (zcal []) (zget (999, 0, 0, 0) zc_M_lookAt) (zcut zu_M_lookAt) (zorc [(128, [some (112, some 0), some (0, none), some (0, none), none, none, some (0, none), none], [(0, none)], fun xs h => match xs with
  | [a1, a2, a5, t0] => c128 a1 a2 a5 t0 h
  | _ => none)]) kr (fun _ _ => none) 400 123 [some (112, 0), some (0, a1), some (0, a2), none, none, some (0, a5), none] [] h := by rfl
set_option maxRecDepth 100000 in
theorem qe_M_lookAt_123 {ρ : Type} (kr : Int → zH → Option ρ) (r66 : Int → Int → Int → Int → Int → zH → Option ρ) (a1 a2 a5 : Int) (h : zH) : M_lookAt_123 kr r66 a1 a2 a5 h = zseg zPP false (zcal []) (zget (999, 0, 0, 0) zc_M_lookAt) (zcut zu_M_lookAt) (zorc [(128, [some (112, some 0), some (0, none), some (0, none), none, none, some (0, none), none], [(0, none)], fun xs h => match xs with
  | [a1, a2, a5, t0] => M_lookAt_128 kr r66 a1 a2 a5 t0 h
  | _ => none)]) kr (fun _ _ => none) 400 123 [some (112, 0), some (0, a1), some (0, a2), none, none, some (0, a5), none] [] h := qg_M_lookAt_123 kr r66 (M_lookAt_128 kr r66) a1 a2 a5 h
set_option maxRecDepth 100000 in
theorem qg_M_lookAt_127 {ρ : Type} (kr : Int → zH → Option ρ) (r66 : Int → Int → Int → Int → Int → zH → Option ρ) (c128 : Int → Int → Int → Int → zH → Option ρ) (a1 a2 a5 : Int) (h : zH) : (c128 a1 a2 a5 0 h) = zseg zPP false (zcal []) (zget (999, 0, 0, 0) zc_M_lookAt) (zcut zu_M_lookAt) (zorc [(128, [some (112, some 0), some (0, none), some (0, none), none, none, some (0, none), none], [(0, none)], fun xs h => match xs with
  | [a1, a2, a5, t0] => c128 a1 a2 a5 t0 h
  | _ => none)]) kr (fun _ _ => none) 400 127 [some (112, 0), some (0, a1), some (0, a2), none, none, some (0, a5), none] [] h := by rfl
set_option maxRecDepth 100000 in
theorem qe_M_lookAt_127 {ρ : Type} (kr : Int → zH → Option ρ) (r66 : Int → Int → Int → Int → Int → zH → Option ρ) (a1 a2 a5 : Int) (h : zH) : M_lookAt_127 kr r66 a1 a2 a5 h = zseg zPP false (zcal []) (zget (999, 0, 0, 0) zc_M_lookAt) (zcut zu_M_lookAt) (zorc [(128, [some (112, some 0), some (0, none), some (0, none), none, none, some (0, none), none], [(0, none)], fun xs h => match xs with
  | [a1, a2, a5, t0] => M_lookAt_128 kr r66 a1 a2 a5 t0 h
  | _ => none)]) kr (fun _ _ => none) 400 127 [some (112, 0), some (0, a1), some (0, a2), none, none, some (0, a5), none] [] h := qg_M_lookAt_127 kr r66 (M_lookAt_128 kr r66) a1 a2 a5 h
set_option maxRecDepth 100000 in
theorem qg_M_lookAt_278 {ρ : Type} (kr : Int → zH → Option ρ) (r191 : Int → Int → Int → zH → Option ρ) (a1 a2 a5 : Int) (h : zH) : (r191 a1 a2 (wr (a5 + 1)) h) = zseg zPP false (zcal []) (zget (999, 0, 0, 0) zc_M_lookAt) (zcut zu_M_lookAt) (zorc [(191, [some (112, some 0), some (0, none), some (0, none), none, none, some (0, none), none], [], fun xs h => match xs with
  | [a1, a2, a5] => r191 a1 a2 a5 h
  | _ => none)]) kr (fun _ _ => none) 400 278 [some (112, 0), some (0, a1), some (0, a2), none, none, some (0, a5), none] [] h := by rfl
set_option maxRecDepth 100000 in
theorem qe_M_lookAt_278 {ρ : Type} (kr : Int → zH → Option ρ) (r191 : Int → Int → Int → zH → Option ρ) (a1 a2 a5 : Int) (h : zH) : M_lookAt_278 kr r191 a1 a2 a5 h = zseg zPP false (zcal []) (zget (999, 0, 0, 0) zc_M_lookAt) (zcut zu_M_lookAt) (zorc [(191, [some (112, some 0), some (0, none), some (0, none), none, none, some (0, none), none], [], fun xs h => match xs with
  | [a1, a2, a5] => r191 a1 a2 a5 h
  | _ => none)]) kr (fun _ _ => none) 400 278 [some (112, 0), some (0, a1), some (0, a2), none, none, some (0, a5), none] [] h := qg_M_lookAt_278 kr r191 a1 a2 a5 h
set_option maxRecDepth 100000 in
theorem qg_M_lookAt_277 {ρ : Type} (kr : Int → zH → Option ρ) (r191 : Int → Int → Int → zH → Option ρ) (c278 : Int → Int → Int → zH → Option ρ) (a1 a2 a5 t0 t1 : Int) (h : zH) : (zix 1152 t1 fun j1 =>
znar 2 t0 fun x2 =>
zlet (zset h 89 0 j1 x2) fun h3 =>
c278 a1 a2 a5 h3) = zseg zPP false (zcal []) (zget (999, 0, 0, 0) zc_M_lookAt) (zcut zu_M_lookAt) (zorc [(278, [some (112, some 0), some (0, none), some (0, none), none, none, some (0, none), none], [], fun xs h => match xs with
  | [a1, a2, a5] => c278 a1 a2 a5 h
  | _ => none)]) kr (fun _ _ => none) 400 277 [some (112, 0), some (0, a1), some (0, a2), none, none, some (0, a5), none] [(0, t0), (0, t1), (189, 0)] h := by rfl
set_option maxRecDepth 100000 in
theorem qe_M_lookAt_277 {ρ : Type} (kr : Int → zH → Option ρ) (r191 : Int → Int → Int → zH → Option ρ) (a1 a2 a5 t0 t1 : Int) (h : zH) : M_lookAt_277 kr r191 a1 a2 a5 t0 t1 h = zseg zPP false (zcal []) (zget (999, 0, 0, 0) zc_M_lookAt) (zcut zu_M_lookAt) (zorc [(278, [some (112, some 0), some (0, none), some (0, none), none, none, some (0, none), none], [], fun xs h => match xs with
  | [a1, a2, a5] => M_lookAt_278 kr r191 a1 a2 a5 h
  | _ => none)]) kr (fun _ _ => none) 400 277 [some (112, 0), some (0, a1), some (0, a2), none, none, some (0, a5), none] [(0, t0), (0, t1), (189, 0)] h := qg_M_lookAt_277 kr r191 (M_lookAt_278 kr r191) a1 a2 a5 t0 t1 h
set_option maxRecDepth 100000 in
theorem qg_M_lookAt_191b {ρ : Type} (kr : Int → zH → Option ρ) (r191 : Int → Int → Int → zH → Option ρ) (F_M_threadCell : Int → Int → zH → (Int → zH → Option ρ) → Option ρ) (c277 : Int → Int → Int → Int → Int → zH → Option ρ) (c278 : Int → Int → Int → zH → Option ρ) (a1 a2 a5 : Int) (h : zH) : (zix 12 a2 fun j1 =>
if a5 < (zhD h 73 0 j1) then (F_M_threadCell a1 a5 h  fun v2 h3 =>
zix 1152 v2 fun j4 =>
if (zhD h3 89 0 j4) = 119 then (zix 1152 v2 fun j5 =>
zlet (zset h3 89 0 j5 114) fun h6 =>
zix 1152 v2 fun j7 =>
zix 1152 v2 fun j8 =>
zlet (zset h6 90 0 j8 (wr ((zhD h6 90 0 j7) + 1))) fun h9 =>
zix 1152 v2 fun j10 =>
zix 12 a2 fun j11 =>
zix 4 (zhD h9 70 0 j11) fun j12 =>
if (zhD h9 90 0 j10) < (zhD h9 63 0 j12) then c277 a1 a2 a5 114 v2 h9
else c277 a1 a2 a5 101 v2 h9)
else c278 a1 a2 a5 h3)
else kr 0 h) = zseg zPP false (zcal [(93, [some 0, none, none], fun xs h kr kt => match xs with
  | [x1, x2] => F_M_threadCell x1 x2 h kr
  | _ => none)]) (zget (999, 0, 0, 0) zc_M_lookAt) (zcut zu_M_lookAt) (zorc [(277, [some (112, some 0), some (0, none), some (0, none), none, none, some (0, none), none], [(0, none), (0, none), (189, some 0)], fun xs h => match xs with
  | [a1, a2, a5, t0, t1] => c277 a1 a2 a5 t0 t1 h
  | _ => none), (278, [some (112, some 0), some (0, none), some (0, none), none, none, some (0, none), none], [], fun xs h => match xs with
  | [a1, a2, a5] => c278 a1 a2 a5 h
  | _ => none)]) kr (fun _ _ => none) 400 191 [some (112, 0), some (0, a1), some (0, a2), none, none, some (0, a5), none] [] h := by rfl
set_option maxRecDepth 100000 in
theorem qe_M_lookAt_191b {ρ : Type} (kr : Int → zH → Option ρ) (r191 : Int → Int → Int → zH → Option ρ) (a1 a2 a5 : Int) (h : zH) : M_lookAt_191b kr r191 a1 a2 a5 h = zseg zPP false (zcal [(93, [some 0, none, none], fun xs h kr kt => match xs with
  | [x1, x2] => M_threadCell x1 x2 h kr
  | _ => none)]) (zget (999, 0, 0, 0) zc_M_lookAt) (zcut zu_M_lookAt) (zorc [(277, [some (112, some 0), some (0, none), some (0, none), none, none, some (0, none), none], [(0, none), (0, none), (189, some 0)], fun xs h => match xs with
  | [a1, a2, a5, t0, t1] => M_lookAt_277 kr r191 a1 a2 a5 t0 t1 h
  | _ => none), (278, [some (112, some 0), some (0, none), some (0, none), none, none, some (0, none), none], [], fun xs h => match xs with
  | [a1, a2, a5] => M_lookAt_278 kr r191 a1 a2 a5 h
  | _ => none)]) kr (fun _ _ => none) 400 191 [some (112, 0), some (0, a1), some (0, a2), none, none, some (0, a5), none] [] h := qg_M_lookAt_191b kr r191 M_threadCell (M_lookAt_277 kr r191) (M_lookAt_278 kr r191) a1 a2 a5 h
set_option maxRecDepth 100000 in
theorem qg_M_lookAt_66b {ρ : Type} (kr : Int → zH → Option ρ) (r66 : Int → Int → Int → Int → Int → zH → Option ρ) (F_M_fail : Int → Int → Int → Int → Int → zH → (Int → zH → Option ρ) → Option ρ) (F_M_threadCell : Int → Int → zH → (Int → zH → Option ρ) → Option ρ) (c123 : Int → Int → Int → zH → Option ρ) (c127 : Int → Int → Int → zH → Option ρ) (c133 : Int → Int → Int → Int → Int → zH → Option ρ) (c191 : Int → Int → Int → zH → Option ρ) (a1 a2 a3 a4 a5 : Int) (h : zH) : (if a5 < 0 then (if a4 = 0 then (F_M_threadCell a1 a3 h  fun v5 h6 =>
zix 1152 v5 fun j7 =>
F_M_fail a2 98 (Int.tmod a1 6) a3 (zhD h6 90 0 j7) h6  fun _ h9 =>
kr 0 h9)
else zlet (zset h 12 0 60 (wr ((zhD h 12 0 60) + 1))) fun h1 =>
zix 72 a1 fun j2 =>
zix 72 a1 fun j3 =>
zlet (zset h1 86 0 j3 (wr ((zhD h1 86 0 j2) + 1))) fun h4 =>
c191 a1 a2 0 h4)
else F_M_threadCell a1 a5 h  fun v10 h11 =>
zix 1152 v10 fun j12 =>
if (zhD h11 89 0 j12) = 119 then (if a4 = 0 then c127 a1 a2 a5 h11
else if a3 = (-1) then c123 a1 a2 a5 h11
else zix 1152 v10 fun j13 =>
F_M_threadCell a1 a3 h11  fun v14 h15 =>
zix 1152 v14 fun j16 =>
if (zhD h11 90 0 j13) = (zhD h15 90 0 j16) then c123 a1 a2 a5 h15
else c127 a1 a2 a5 h15)
else c133 a1 a2 a3 a4 a5 h11) = zseg zPP false (zcal [(92, [some 0, none, none, none, none, none], fun xs h kr kt => match xs with
  | [x1, x2, x3, x4, x5] => F_M_fail x1 x2 x3 x4 x5 h kr
  | _ => none), (93, [some 0, none, none], fun xs h kr kt => match xs with
  | [x1, x2] => F_M_threadCell x1 x2 h kr
  | _ => none)]) (zget (999, 0, 0, 0) zc_M_lookAt) (zcut zu_M_lookAt) (zorc [(123, [some (112, some 0), some (0, none), some (0, none), none, none, some (0, none), none], [], fun xs h => match xs with
  | [a1, a2, a5] => c123 a1 a2 a5 h
  | _ => none), (127, [some (112, some 0), some (0, none), some (0, none), none, none, some (0, none), none], [], fun xs h => match xs with
  | [a1, a2, a5] => c127 a1 a2 a5 h
  | _ => none), (133, [some (112, some 0), some (0, none), some (0, none), some (0, none), some (0, none), some (0, none), none], [], fun xs h => match xs with
  | [a1, a2, a3, a4, a5] => c133 a1 a2 a3 a4 a5 h
  | _ => none), (191, [some (112, some 0), some (0, none), some (0, none), none, none, some (0, none), none], [], fun xs h => match xs with
  | [a1, a2, a5] => c191 a1 a2 a5 h
  | _ => none)]) kr (fun _ _ => none) 400 66 [some (112, 0), some (0, a1), some (0, a2), some (0, a3), some (0, a4), some (0, a5), none] [] h := by rfl
set_option maxRecDepth 100000 in
theorem qe_M_lookAt_66b {ρ : Type} (kr : Int → zH → Option ρ) (r66 : Int → Int → Int → Int → Int → zH → Option ρ) (a1 a2 a3 a4 a5 : Int) (h : zH) : M_lookAt_66b kr r66 a1 a2 a3 a4 a5 h = zseg zPP false (zcal [(92, [some 0, none, none, none, none, none], fun xs h kr kt => match xs with
  | [x1, x2, x3, x4, x5] => M_fail x1 x2 x3 x4 x5 h kr
  | _ => none), (93, [some 0, none, none], fun xs h kr kt => match xs with
  | [x1, x2] => M_threadCell x1 x2 h kr
  | _ => none)]) (zget (999, 0, 0, 0) zc_M_lookAt) (zcut zu_M_lookAt) (zorc [(123, [some (112, some 0), some (0, none), some (0, none), none, none, some (0, none), none], [], fun xs h => match xs with
  | [a1, a2, a5] => M_lookAt_123 kr r66 a1 a2 a5 h
  | _ => none), (127, [some (112, some 0), some (0, none), some (0, none), none, none, some (0, none), none], [], fun xs h => match xs with
  | [a1, a2, a5] => M_lookAt_127 kr r66 a1 a2 a5 h
  | _ => none), (133, [some (112, some 0), some (0, none), some (0, none), some (0, none), some (0, none), some (0, none), none], [], fun xs h => match xs with
  | [a1, a2, a3, a4, a5] => M_lookAt_133 kr r66 a1 a2 a3 a4 a5 h
  | _ => none), (191, [some (112, some 0), some (0, none), some (0, none), none, none, some (0, none), none], [], fun xs h => match xs with
  | [a1, a2, a5] => M_lookAt_191 kr a1 a2 a5 h
  | _ => none)]) kr (fun _ _ => none) 400 66 [some (112, 0), some (0, a1), some (0, a2), some (0, a3), some (0, a4), some (0, a5), none] [] h := qg_M_lookAt_66b kr r66 M_fail M_threadCell (M_lookAt_123 kr r66) (M_lookAt_127 kr r66) (M_lookAt_133 kr r66) (M_lookAt_191 kr) a1 a2 a3 a4 a5 h
set_option maxRecDepth 100000 in
theorem qg_M_lookAt {ρ : Type} (kr : Int → zH → Option ρ) (F_M_leave : Int → zH → (Int → zH → Option ρ) → Option ρ) (F_M_count : Int → Int → zH → (Int → zH → Option ρ) → Option ρ) (c24 : zH → Option ρ) (c66 : Int → Int → Int → Int → Int → zH → Option ρ) (a1 : Int) (h : zH) : (zix 72 a1 fun j1 =>
if (zhD h 87 0 j1) = 0 then c24 h
else F_M_count a1 114 h  fun v2 h3 =>
if 0 < v2 then c24 h3
else F_M_count a1 119 h3  fun v4 h5 =>
if v4 = 0 then (zix 12 (wr (Int.tdiv a1 6)) fun j7 =>
zix 12 (wr (Int.tdiv a1 6)) fun j8 =>
zlet (zset h5 79 0 j8 (wr ((zhD h5 79 0 j7) + 1))) fun h9 =>
F_M_leave a1 h9  fun _ h11 =>
kr 0 h11)
else zix 12 (wr (Int.tdiv a1 6)) fun j6 =>
c66 a1 (wr (Int.tdiv a1 6)) (-1) 1 (wr ((zhD h5 73 0 j6) - 1)) h5) = zseg zPP false (zcal [(91, [some 0, none], fun xs h kr kt => match xs with
  | [x1] => F_M_leave x1 h kr
  | _ => none), (94, [some 0, none, none], fun xs h kr kt => match xs with
  | [x1, x2] => F_M_count x1 x2 h kr
  | _ => none)]) (zget (999, 0, 0, 0) zc_M_lookAt) (zcut zu_M_lookAt) (zorc [(24, [none, none, none, none, none, none, none], [], fun xs h => match xs with
  | [] => c24 h
  | _ => none), (66, [some (112, some 0), some (0, none), some (0, none), some (0, none), some (0, none), some (0, none), none], [], fun xs h => match xs with
  | [a1, a2, a3, a4, a5] => c66 a1 a2 a3 a4 a5 h
  | _ => none)]) kr (fun _ _ => none) 400 0 [some (112, 0), some (0, a1), none, none, none, none, none] [] h := by rfl
set_option maxRecDepth 100000 in
theorem qe_M_lookAt {ρ : Type} (kr : Int → zH → Option ρ) (a1 : Int) (h : zH) : M_lookAt a1 h kr = zseg zPP false (zcal [(91, [some 0, none], fun xs h kr kt => match xs with
  | [x1] => M_leave x1 h kr
  | _ => none), (94, [some 0, none, none], fun xs h kr kt => match xs with
  | [x1, x2] => M_count x1 x2 h kr
  | _ => none)]) (zget (999, 0, 0, 0) zc_M_lookAt) (zcut zu_M_lookAt) (zorc [(24, [none, none, none, none, none, none, none], [], fun xs h => match xs with
  | [] => M_lookAt_24 kr h
  | _ => none), (66, [some (112, some 0), some (0, none), some (0, none), some (0, none), some (0, none), some (0, none), none], [], fun xs h => match xs with
  | [a1, a2, a3, a4, a5] => M_lookAt_66 kr a1 a2 a3 a4 a5 h
  | _ => none)]) kr (fun _ _ => none) 400 0 [some (112, 0), some (0, a1), none, none, none, none, none] [] h := qg_M_lookAt kr M_leave M_count (M_lookAt_24 kr) (M_lookAt_66 kr) a1 h
def zc_M_hasEnded : List zI := [(14, 0, 0, 112), (80, 12, 118, 39), (999, 0, 0, 0), (999, 0, 0, 0), (10, 0, 1, 0), (90, 0, 0, 94), (16, 0, 2, 0), (0, 1, 0, 0), (16, 0, 3, 0), (0, 4, 0, 0), (14, 0, 0, 112), (80, 12, 121, 40), (999, 0, 0, 0), (999, 0, 0, 0), (10, 0, 1, 0), (90, 0, 0, 95), (32, 0, 0, 0), (17, 0, 4, 0), (999, 0, 0, 0), (11, 0, 4, 0), (999, 0, 0, 0), (0, 4, 0, 0), (14, 0, 0, 112), (80, 12, 121, 40), (999, 0, 0, 0), (999, 0, 0, 0), (10, 0, 1, 0), (90, 0, 0, 95), (32, 0, 0, 0), (0, 4, 0, 0), (30, 0, 0, 0), (69, 50, 81, 0), (999, 0, 0, 0), (999, 0, 0, 0), (11, 0, 4, 0), (999, 0, 0, 0), (14, 0, 0, 112), (80, 12, 55, 18), (999, 0, 0, 0), (999, 0, 0, 0), (10, 0, 2, 0), (1, 6, 0, 0), (999, 0, 0, 0), (33, 0, 0, 0), (90, 0, 0, 73), (69, 36, 81, 0), (999, 0, 0, 0), (999, 0, 0, 0), (10, 0, 3, 0), (60, 24, 73, 0), (999, 0, 0, 0), (999, 0, 0, 0), (14, 0, 0, 112), (80, 12, 103, 34), (999, 0, 0, 0), (999, 0, 0, 0), (14, 0, 0, 112), (10, 0, 2, 0), (11, 0, 4, 0), (999, 0, 0, 0), (110, 0, 249, 93), (999, 0, 0, 0), (999, 0, 0, 0), (92, 0, 0, 89), (1, 101, 0, 0), (999, 0, 0, 0), (67, 7, 73, 0), (999, 0, 0, 0), (999, 0, 0, 0), (0, 1, 0, 0), (72, 4, 74, 0), (999, 0, 0, 0), (999, 0, 0, 0), (0, 0, 0, 0), (16, 0, 3, 0), (22, 1, 4, 0), (999, 0, 0, 0), (999, 0, 0, 0), (72, (-59), 19, 0), (999, 0, 0, 0), (999, 0, 0, 0), (10, 0, 3, 0), (130, 0, 1, 0)]
def zu_M_hasEnded : List (Nat × List Bool) := [(19, [true, true, true, true, true]), (73, [true, true, true, false, true]), (74, [true, true, true, false, true]), (81, [false, false, false, true, false])]
set_option maxRecDepth 100000 in
theorem qg_M_hasEnded_74 {ρ : Type} (kr : Int → zH → Option ρ) (r19 : Int → Int → Int → Int → zH → Option ρ) (a1 a2 a4 t0 : Int) (h : zH) : (r19 a1 a2 t0 (wr (a4 + 1)) h) = zseg zPP false (zcal []) (zget (999, 0, 0, 0) zc_M_hasEnded) (zcut zu_M_hasEnded) (zorc [(19, [some (112, some 0), some (0, none), some (0, none), some (0, none), some (0, none)], [], fun xs h => match xs with
  | [a1, a2, a3, a4] => r19 a1 a2 a3 a4 h
  | _ => none)]) kr (fun _ _ => none) 400 74 [some (112, 0), some (0, a1), some (0, a2), none, some (0, a4)] [(0, t0)] h := by rfl
set_option maxRecDepth 100000 in
theorem qe_M_hasEnded_74 {ρ : Type} (kr : Int → zH → Option ρ) (r19 : Int → Int → Int → Int → zH → Option ρ) (a1 a2 a4 t0 : Int) (h : zH) : M_hasEnded_74 kr r19 a1 a2 a4 t0 h = zseg zPP false (zcal []) (zget (999, 0, 0, 0) zc_M_hasEnded) (zcut zu_M_hasEnded) (zorc [(19, [some (112, some 0), some (0, none), some (0, none), some (0, none), some (0, none)], [], fun xs h => match xs with
  | [a1, a2, a3, a4] => r19 a1 a2 a3 a4 h
  | _ => none)]) kr (fun _ _ => none) 400 74 [some (112, 0), some (0, a1), some (0, a2), none, some (0, a4)] [(0, t0)] h := qg_M_hasEnded_74 kr r19 a1 a2 a4 t0 h
set_option maxRecDepth 100000 in
theorem qg_M_hasEnded_73 {ρ : Type} (kr : Int → zH → Option ρ) (r19 : Int → Int → Int → Int → zH → Option ρ) (c74 : Int → Int → Int → Int → zH → Option ρ) (a1 a2 a4 : Int) (h : zH) : (c74 a1 a2 a4 0 h) = zseg zPP false (zcal []) (zget (999, 0, 0, 0) zc_M_hasEnded) (zcut zu_M_hasEnded) (zorc [(74, [some (112, some 0), some (0, none), some (0, none), none, some (0, none)], [(0, none)], fun xs h => match xs with
  | [a1, a2, a4, t0] => c74 a1 a2 a4 t0 h
  | _ => none)]) kr (fun _ _ => none) 400 73 [some (112, 0), some (0, a1), some (0, a2), none, some (0, a4)] [] h := by rfl
set_option maxRecDepth 100000 in
theorem qe_M_hasEnded_73 {ρ : Type} (kr : Int → zH → Option ρ) (r19 : Int → Int → Int → Int → zH → Option ρ) (a1 a2 a4 : Int) (h : zH) : M_hasEnded_73 kr r19 a1 a2 a4 h = zseg zPP false (zcal []) (zget (999, 0, 0, 0) zc_M_hasEnded) (zcut zu_M_hasEnded) (zorc [(74, [some (112, some 0), some (0, none), some (0, none), none, some (0, none)], [(0, none)], fun xs h => match xs with
  | [a1, a2, a4, t0] => M_hasEnded_74 kr r19 a1 a2 a4 t0 h
  | _ => none)]) kr (fun _ _ => none) 400 73 [some (112, 0), some (0, a1), some (0, a2), none, some (0, a4)] [] h := qg_M_hasEnded_73 kr r19 (M_hasEnded_74 kr r19) a1 a2 a4 h
set_option maxRecDepth 100000 in
theorem qg_M_hasEnded_81 {ρ : Type} (kr : Int → zH → Option ρ) (a3 : Int) (h : zH) : (znar 1 a3 fun x1 => kr x1 h) = zseg zPP false (zcal []) (zget (999, 0, 0, 0) zc_M_hasEnded) (zcut zu_M_hasEnded) (zorc []) kr (fun _ _ => none) 400 81 [none, none, none, some (0, a3), none] [] h := by rfl
set_option maxRecDepth 100000 in
theorem qe_M_hasEnded_81 {ρ : Type} (kr : Int → zH → Option ρ) (a3 : Int) (h : zH) : M_hasEnded_81 kr a3 h = zseg zPP false (zcal []) (zget (999, 0, 0, 0) zc_M_hasEnded) (zcut zu_M_hasEnded) (zorc []) kr (fun _ _ => none) 400 81 [none, none, none, some (0, a3), none] [] h := qg_M_hasEnded_81 kr a3 h
set_option maxRecDepth 100000 in
theorem qg_M_hasEnded_19b {ρ : Type} (kr : Int → zH → Option ρ) (r19 : Int → Int → Int → Int → zH → Option ρ) (F_M_threadCell : Int → Int → zH → (Int → zH → Option ρ) → Option ρ) (c73 : Int → Int → Int → zH → Option ρ) (c74 : Int → Int → Int → Int → zH → Option ρ) (c81 : Int → zH → Option ρ) (a1 a2 a3 a4 : Int) (h : zH) : (zix 8 a1 fun j1 =>
if a4 < (wr ((wr (4 * (zhD h 95 0 j1))) + 4)) then (zix 12 (wr (Int.tdiv a2 6)) fun j2 =>
if a4 < (zhD h 73 0 j2) then (if a3 = 0 then c73 a1 a2 a4 h
else F_M_threadCell a2 a4 h  fun v3 h4 =>
zix 1152 v3 fun j5 =>
if (zhD h4 89 0 j5) = 101 then c74 a1 a2 a4 1 h4
else c73 a1 a2 a4 h4)
else c81 a3 h)
else c81 a3 h) = zseg zPP false (zcal [(93, [some 0, none, none], fun xs h kr kt => match xs with
  | [x1, x2] => F_M_threadCell x1 x2 h kr
  | _ => none)]) (zget (999, 0, 0, 0) zc_M_hasEnded) (zcut zu_M_hasEnded) (zorc [(73, [some (112, some 0), some (0, none), some (0, none), none, some (0, none)], [], fun xs h => match xs with
  | [a1, a2, a4] => c73 a1 a2 a4 h
  | _ => none), (74, [some (112, some 0), some (0, none), some (0, none), none, some (0, none)], [(0, none)], fun xs h => match xs with
  | [a1, a2, a4, t0] => c74 a1 a2 a4 t0 h
  | _ => none), (81, [none, none, none, some (0, none), none], [], fun xs h => match xs with
  | [a3] => c81 a3 h
  | _ => none)]) kr (fun _ _ => none) 400 19 [some (112, 0), some (0, a1), some (0, a2), some (0, a3), some (0, a4)] [] h := by rfl
set_option maxRecDepth 100000 in
theorem qe_M_hasEnded_19b {ρ : Type} (kr : Int → zH → Option ρ) (r19 : Int → Int → Int → Int → zH → Option ρ) (a1 a2 a3 a4 : Int) (h : zH) : M_hasEnded_19b kr r19 a1 a2 a3 a4 h = zseg zPP false (zcal [(93, [some 0, none, none], fun xs h kr kt => match xs with
  | [x1, x2] => M_threadCell x1 x2 h kr
  | _ => none)]) (zget (999, 0, 0, 0) zc_M_hasEnded) (zcut zu_M_hasEnded) (zorc [(73, [some (112, some 0), some (0, none), some (0, none), none, some (0, none)], [], fun xs h => match xs with
  | [a1, a2, a4] => M_hasEnded_73 kr r19 a1 a2 a4 h
  | _ => none), (74, [some (112, some 0), some (0, none), some (0, none), none, some (0, none)], [(0, none)], fun xs h => match xs with
  | [a1, a2, a4, t0] => M_hasEnded_74 kr r19 a1 a2 a4 t0 h
  | _ => none), (81, [none, none, none, some (0, none), none], [], fun xs h => match xs with
  | [a3] => M_hasEnded_81 kr a3 h
  | _ => none)]) kr (fun _ _ => none) 400 19 [some (112, 0), some (0, a1), some (0, a2), some (0, a3), some (0, a4)] [] h := qg_M_hasEnded_19b kr r19 M_threadCell (M_hasEnded_73 kr r19) (M_hasEnded_74 kr r19) (M_hasEnded_81 kr) a1 a2 a3 a4 h
set_option maxRecDepth 100000 in
theorem qg_M_hasEnded {ρ : Type} (kr : Int → zH → Option ρ) (c19 : Int → Int → Int → Int → zH → Option ρ) (a1 : Int) (h : zH) : (zix 8 a1 fun j1 =>
zix 8 a1 fun j2 =>
c19 a1 (zhD h 94 0 j1) 1 (wr (4 * (zhD h 95 0 j2))) h) = zseg zPP false (zcal []) (zget (999, 0, 0, 0) zc_M_hasEnded) (zcut zu_M_hasEnded) (zorc [(19, [some (112, some 0), some (0, none), some (0, none), some (0, none), some (0, none)], [], fun xs h => match xs with
  | [a1, a2, a3, a4] => c19 a1 a2 a3 a4 h
  | _ => none)]) kr (fun _ _ => none) 400 0 [some (112, 0), some (0, a1), none, none, none] [] h := by rfl
set_option maxRecDepth 100000 in
theorem qe_M_hasEnded {ρ : Type} (kr : Int → zH → Option ρ) (a1 : Int) (h : zH) : M_hasEnded a1 h kr = zseg zPP false (zcal []) (zget (999, 0, 0, 0) zc_M_hasEnded) (zcut zu_M_hasEnded) (zorc [(19, [some (112, some 0), some (0, none), some (0, none), some (0, none), some (0, none)], [], fun xs h => match xs with
  | [a1, a2, a3, a4] => M_hasEnded_19 kr a1 a2 a3 a4 h
  | _ => none)]) kr (fun _ _ => none) 400 0 [some (112, 0), some (0, a1), none, none, none] [] h := qg_M_hasEnded kr (M_hasEnded_19 kr) a1 h
def zc_M_writeFirst : List zI := [(14, 0, 0, 112), (80, 12, 13, 3), (999, 0, 0, 0), (999, 0, 0, 0), (14, 0, 0, 112), (80, 12, 130, 43), (999, 0, 0, 0), (999, 0, 0, 0), (0, 4, 0, 0), (10, 0, 1, 0), (32, 0, 0, 0), (90, 0, 0, 98), (14, 0, 0, 112), (80, 12, 133, 44), (999, 0, 0, 0), (999, 0, 0, 0), (0, 4, 0, 0), (10, 0, 1, 0), (32, 0, 0, 0), (90, 0, 0, 99), (95, 0, 0, 60), (14, 0, 0, 112), (80, 12, 127, 42), (999, 0, 0, 0), (999, 0, 0, 0), (10, 0, 1, 0), (51, 0, 0, 0), (90, 0, 0, 97), (0, 1, 0, 0), (31, 0, 0, 0), (95, 0, 0, 97), (0, 4, 0, 0), (10, 0, 1, 0), (32, 0, 0, 0), (16, 0, 2, 0), (10, 0, 2, 0), (0, 4, 0, 0), (10, 0, 1, 0), (32, 0, 0, 0), (14, 0, 0, 112), (80, 12, 127, 42), (999, 0, 0, 0), (999, 0, 0, 0), (10, 0, 1, 0), (90, 0, 0, 97), (30, 0, 0, 0), (69, 37, 83, 0), (999, 0, 0, 0), (999, 0, 0, 0), (14, 0, 0, 112), (80, 12, 130, 43), (999, 0, 0, 0), (999, 0, 0, 0), (10, 0, 2, 0), (14, 0, 0, 112), (80, 12, 130, 43), (999, 0, 0, 0), (999, 0, 0, 0), (10, 0, 2, 0), (0, 1, 0, 0), (30, 0, 0, 0), (90, 0, 0, 98), (95, 0, 0, 98), (14, 0, 0, 112), (80, 12, 133, 44), (999, 0, 0, 0), (999, 0, 0, 0), (10, 0, 2, 0), (14, 0, 0, 112), (80, 12, 133, 44), (999, 0, 0, 0), (999, 0, 0, 0), (10, 0, 2, 0), (0, 1, 0, 0), (30, 0, 0, 0), (90, 0, 0, 99), (95, 0, 0, 99), (22, 1, 2, 0), (999, 0, 0, 0), (999, 0, 0, 0), (72, (-45), 35, 0), (999, 0, 0, 0), (999, 0, 0, 0), (133, 0, 0, 0)]
def zu_M_writeFirst : List (Nat × List Bool) := [(35, [true, true, true])]
set_option maxRecDepth 100000 in
theorem qg_M_writeFirst_35b {ρ : Type} (kr : Int → zH → Option ρ) (r35 : Int → Int → zH → Option ρ) (a1 a2 : Int) (h : zH) : (zix 8 a1 fun j1 =>
if a2 < (wr ((wr (4 * a1)) + (zhD h 97 0 j1))) then (zix 32 (wr (a2 + 1)) fun j2 =>
zix 32 a2 fun j3 =>
zlet (zset h 98 0 j3 (zhD h 98 0 j2)) fun h4 =>
zix 32 (wr (a2 + 1)) fun j5 =>
zix 32 a2 fun j6 =>
zlet (zset h4 99 0 j6 (zhD h4 99 0 j5)) fun h7 =>
r35 a1 (wr (a2 + 1)) h7)
else kr 0 h) = zseg zPP false (zcal []) (zget (999, 0, 0, 0) zc_M_writeFirst) (zcut zu_M_writeFirst) (zorc [(35, [some (112, some 0), some (0, none), some (0, none)], [], fun xs h => match xs with
  | [a1, a2] => r35 a1 a2 h
  | _ => none)]) kr (fun _ _ => none) 400 35 [some (112, 0), some (0, a1), some (0, a2)] [] h := by rfl
set_option maxRecDepth 100000 in
theorem qe_M_writeFirst_35b {ρ : Type} (kr : Int → zH → Option ρ) (r35 : Int → Int → zH → Option ρ) (a1 a2 : Int) (h : zH) : M_writeFirst_35b kr r35 a1 a2 h = zseg zPP false (zcal []) (zget (999, 0, 0, 0) zc_M_writeFirst) (zcut zu_M_writeFirst) (zorc [(35, [some (112, some 0), some (0, none), some (0, none)], [], fun xs h => match xs with
  | [a1, a2] => r35 a1 a2 h
  | _ => none)]) kr (fun _ _ => none) 400 35 [some (112, 0), some (0, a1), some (0, a2)] [] h := qg_M_writeFirst_35b kr r35 a1 a2 h
set_option maxRecDepth 100000 in
theorem qg_M_writeFirst {ρ : Type} (kr : Int → zH → Option ρ) (c35 : Int → Int → zH → Option ρ) (a1 : Int) (h : zH) : (zix 32 (wr (4 * a1)) fun j1 =>
zix 32 (wr (4 * a1)) fun j2 =>
zix 64 (zhD h 98 0 j1) fun j3 =>
zlet (zset h 60 0 j3 (zhD h 99 0 j2)) fun h4 =>
zix 8 a1 fun j5 =>
zix 8 a1 fun j6 =>
zlet (zset h4 97 0 j6 (wr ((zhD h4 97 0 j5) - 1))) fun h7 =>
c35 a1 (wr (4 * a1)) h7) = zseg zPP false (zcal []) (zget (999, 0, 0, 0) zc_M_writeFirst) (zcut zu_M_writeFirst) (zorc [(35, [some (112, some 0), some (0, none), some (0, none)], [], fun xs h => match xs with
  | [a1, a2] => c35 a1 a2 h
  | _ => none)]) kr (fun _ _ => none) 400 0 [some (112, 0), some (0, a1), none] [] h := by rfl
set_option maxRecDepth 100000 in
theorem qe_M_writeFirst {ρ : Type} (kr : Int → zH → Option ρ) (a1 : Int) (h : zH) : M_writeFirst a1 h kr = zseg zPP false (zcal []) (zget (999, 0, 0, 0) zc_M_writeFirst) (zcut zu_M_writeFirst) (zorc [(35, [some (112, some 0), some (0, none), some (0, none)], [], fun xs h => match xs with
  | [a1, a2] => M_writeFirst_35 kr a1 a2 h
  | _ => none)]) kr (fun _ _ => none) 400 0 [some (112, 0), some (0, a1), none] [] h := qg_M_writeFirst kr (M_writeFirst_35 kr) a1 h
def zc_M_writeAll : List zI := [(14, 0, 0, 112), (80, 12, 127, 42), (999, 0, 0, 0), (999, 0, 0, 0), (10, 0, 1, 0), (90, 0, 0, 97), (16, 0, 2, 0), (14, 0, 0, 112), (80, 12, 127, 42), (999, 0, 0, 0), (999, 0, 0, 0), (10, 0, 1, 0), (90, 0, 0, 97), (65, 11, 24, 0), (999, 0, 0, 0), (999, 0, 0, 0), (14, 0, 0, 112), (10, 0, 1, 0), (110, 0, 263, 97), (999, 0, 0, 0), (999, 0, 0, 0), (72, (-14), 7, 0), (999, 0, 0, 0), (999, 0, 0, 0), (10, 0, 2, 0), (130, 0, 0, 0)]
def zu_M_writeAll : List (Nat × List Bool) := [(7, [true, true, true])]
set_option maxRecDepth 100000 in
theorem qg_M_writeAll_7b {ρ : Type} (kr : Int → zH → Option ρ) (r7 : Int → Int → zH → Option ρ) (F_M_writeFirst : Int → zH → (Int → zH → Option ρ) → Option ρ) (a1 a2 : Int) (h : zH) : (zix 8 a1 fun j1 =>
if 0 < (zhD h 97 0 j1) then (F_M_writeFirst a1 h  fun _ h3 =>
r7 a1 a2 h3)
else kr a2 h) = zseg zPP false (zcal [(97, [some 0, none], fun xs h kr kt => match xs with
  | [x1] => F_M_writeFirst x1 h kr
  | _ => none)]) (zget (999, 0, 0, 0) zc_M_writeAll) (zcut zu_M_writeAll) (zorc [(7, [some (112, some 0), some (0, none), some (0, none)], [], fun xs h => match xs with
  | [a1, a2] => r7 a1 a2 h
  | _ => none)]) kr (fun _ _ => none) 400 7 [some (112, 0), some (0, a1), some (0, a2)] [] h := by rfl
set_option maxRecDepth 100000 in
theorem qe_M_writeAll_7b {ρ : Type} (kr : Int → zH → Option ρ) (r7 : Int → Int → zH → Option ρ) (a1 a2 : Int) (h : zH) : M_writeAll_7b kr r7 a1 a2 h = zseg zPP false (zcal [(97, [some 0, none], fun xs h kr kt => match xs with
  | [x1] => M_writeFirst x1 h kr
  | _ => none)]) (zget (999, 0, 0, 0) zc_M_writeAll) (zcut zu_M_writeAll) (zorc [(7, [some (112, some 0), some (0, none), some (0, none)], [], fun xs h => match xs with
  | [a1, a2] => r7 a1 a2 h
  | _ => none)]) kr (fun _ _ => none) 400 7 [some (112, 0), some (0, a1), some (0, a2)] [] h := qg_M_writeAll_7b kr r7 M_writeFirst a1 a2 h
set_option maxRecDepth 100000 in
theorem qg_M_writeAll {ρ : Type} (kr : Int → zH → Option ρ) (c7 : Int → Int → zH → Option ρ) (a1 : Int) (h : zH) : (zix 8 a1 fun j1 =>
c7 a1 (zhD h 97 0 j1) h) = zseg zPP false (zcal []) (zget (999, 0, 0, 0) zc_M_writeAll) (zcut zu_M_writeAll) (zorc [(7, [some (112, some 0), some (0, none), some (0, none)], [], fun xs h => match xs with
  | [a1, a2] => c7 a1 a2 h
  | _ => none)]) kr (fun _ _ => none) 400 0 [some (112, 0), some (0, a1), none] [] h := by rfl
set_option maxRecDepth 100000 in
theorem qe_M_writeAll {ρ : Type} (kr : Int → zH → Option ρ) (a1 : Int) (h : zH) : M_writeAll a1 h kr = zseg zPP false (zcal []) (zget (999, 0, 0, 0) zc_M_writeAll) (zcut zu_M_writeAll) (zorc [(7, [some (112, some 0), some (0, none), some (0, none)], [], fun xs h => match xs with
  | [a1, a2] => M_writeAll_7 kr a1 a2 h
  | _ => none)]) kr (fun _ _ => none) 400 0 [some (112, 0), some (0, a1), none] [] h := qg_M_writeAll kr (M_writeAll_7 kr) a1 h
def zc_M_writeEnded : List zI := [(14, 0, 0, 112), (80, 12, 100, 33), (999, 0, 0, 0), (999, 0, 0, 0), (10, 0, 1, 0), (90, 0, 0, 88), (16, 0, 2, 0), (0, 0, 0, 0), (16, 0, 3, 0), (10, 0, 3, 0), (14, 0, 0, 112), (80, 12, 115, 38), (999, 0, 0, 0), (999, 0, 0, 0), (10, 0, 2, 0), (90, 0, 0, 93), (69, 43, 59, 0), (999, 0, 0, 0), (999, 0, 0, 0), (0, 4, 0, 0), (10, 0, 2, 0), (32, 0, 0, 0), (10, 0, 3, 0), (30, 0, 0, 0), (17, 0, 4, 0), (999, 0, 0, 0), (14, 0, 0, 112), (80, 12, 118, 39), (999, 0, 0, 0), (999, 0, 0, 0), (11, 0, 4, 0), (999, 0, 0, 0), (90, 0, 0, 94), (10, 0, 1, 0), (67, 19, 53, 0), (999, 0, 0, 0), (999, 0, 0, 0), (14, 0, 0, 112), (11, 0, 4, 0), (999, 0, 0, 0), (110, 0, 266, 96), (999, 0, 0, 0), (999, 0, 0, 0), (60, 10, 53, 0), (999, 0, 0, 0), (999, 0, 0, 0), (14, 0, 0, 112), (11, 0, 4, 0), (999, 0, 0, 0), (110, 0, 269, 98), (999, 0, 0, 0), (999, 0, 0, 0), (52, 0, 0, 0), (22, 1, 3, 0), (999, 0, 0, 0), (999, 0, 0, 0), (72, (-47), 9, 0), (999, 0, 0, 0), (999, 0, 0, 0), (133, 0, 0, 0)]
def zu_M_writeEnded : List (Nat × List Bool) := [(9, [true, true, true, true, false]), (53, [true, true, true, true, false])]
set_option maxRecDepth 100000 in
theorem qg_M_writeEnded_53 {ρ : Type} (kr : Int → zH → Option ρ) (r9 : Int → Int → Int → zH → Option ρ) (a1 a2 a3 : Int) (h : zH) : (r9 a1 a2 (wr (a3 + 1)) h) = zseg zPP false (zcal []) (zget (999, 0, 0, 0) zc_M_writeEnded) (zcut zu_M_writeEnded) (zorc [(9, [some (112, some 0), some (0, none), some (0, none), some (0, none), none], [], fun xs h => match xs with
  | [a1, a2, a3] => r9 a1 a2 a3 h
  | _ => none)]) kr (fun _ _ => none) 400 53 [some (112, 0), some (0, a1), some (0, a2), some (0, a3), none] [] h := by rfl
set_option maxRecDepth 100000 in
theorem qe_M_writeEnded_53 {ρ : Type} (kr : Int → zH → Option ρ) (r9 : Int → Int → Int → zH → Option ρ) (a1 a2 a3 : Int) (h : zH) : M_writeEnded_53 kr r9 a1 a2 a3 h = zseg zPP false (zcal []) (zget (999, 0, 0, 0) zc_M_writeEnded) (zcut zu_M_writeEnded) (zorc [(9, [some (112, some 0), some (0, none), some (0, none), some (0, none), none], [], fun xs h => match xs with
  | [a1, a2, a3] => r9 a1 a2 a3 h
  | _ => none)]) kr (fun _ _ => none) 400 53 [some (112, 0), some (0, a1), some (0, a2), some (0, a3), none] [] h := qg_M_writeEnded_53 kr r9 a1 a2 a3 h
set_option maxRecDepth 100000 in
theorem qg_M_writeEnded_9b {ρ : Type} (kr : Int → zH → Option ρ) (r9 : Int → Int → Int → zH → Option ρ) (F_M_hasEnded : Int → zH → (Int → zH → Option ρ) → Option ρ) (F_M_writeAll : Int → zH → (Int → zH → Option ρ) → Option ρ) (c53 : Int → Int → Int → zH → Option ρ) (a1 a2 a3 : Int) (h : zH) : (zix 2 a2 fun j1 =>
if a3 < (zhD h 93 0 j1) then (zix 8 (wr ((wr (4 * a2)) + a3)) fun j2 =>
if (zhD h 94 0 j2) = a1 then (F_M_hasEnded (wr ((wr (4 * a2)) + a3)) h  fun v3 h4 =>
if v3 = 0 then c53 a1 a2 a3 h4
else F_M_writeAll (wr ((wr (4 * a2)) + a3)) h4  fun v5 h6 =>
c53 a1 a2 a3 h6)
else c53 a1 a2 a3 h)
else kr 0 h) = zseg zPP false (zcal [(96, [some 0, none], fun xs h kr kt => match xs with
  | [x1] => F_M_hasEnded x1 h kr
  | _ => none), (98, [some 0, none], fun xs h kr kt => match xs with
  | [x1] => F_M_writeAll x1 h kr
  | _ => none)]) (zget (999, 0, 0, 0) zc_M_writeEnded) (zcut zu_M_writeEnded) (zorc [(53, [some (112, some 0), some (0, none), some (0, none), some (0, none), none], [], fun xs h => match xs with
  | [a1, a2, a3] => c53 a1 a2 a3 h
  | _ => none)]) kr (fun _ _ => none) 400 9 [some (112, 0), some (0, a1), some (0, a2), some (0, a3), none] [] h := by rfl
set_option maxRecDepth 100000 in
theorem qe_M_writeEnded_9b {ρ : Type} (kr : Int → zH → Option ρ) (r9 : Int → Int → Int → zH → Option ρ) (a1 a2 a3 : Int) (h : zH) : M_writeEnded_9b kr r9 a1 a2 a3 h = zseg zPP false (zcal [(96, [some 0, none], fun xs h kr kt => match xs with
  | [x1] => M_hasEnded x1 h kr
  | _ => none), (98, [some 0, none], fun xs h kr kt => match xs with
  | [x1] => M_writeAll x1 h kr
  | _ => none)]) (zget (999, 0, 0, 0) zc_M_writeEnded) (zcut zu_M_writeEnded) (zorc [(53, [some (112, some 0), some (0, none), some (0, none), some (0, none), none], [], fun xs h => match xs with
  | [a1, a2, a3] => M_writeEnded_53 kr r9 a1 a2 a3 h
  | _ => none)]) kr (fun _ _ => none) 400 9 [some (112, 0), some (0, a1), some (0, a2), some (0, a3), none] [] h := qg_M_writeEnded_9b kr r9 M_hasEnded M_writeAll (M_writeEnded_53 kr r9) a1 a2 a3 h
set_option maxRecDepth 100000 in
theorem qg_M_writeEnded {ρ : Type} (kr : Int → zH → Option ρ) (c9 : Int → Int → Int → zH → Option ρ) (a1 : Int) (h : zH) : (zix 72 a1 fun j1 =>
c9 a1 (zhD h 88 0 j1) 0 h) = zseg zPP false (zcal []) (zget (999, 0, 0, 0) zc_M_writeEnded) (zcut zu_M_writeEnded) (zorc [(9, [some (112, some 0), some (0, none), some (0, none), some (0, none), none], [], fun xs h => match xs with
  | [a1, a2, a3] => c9 a1 a2 a3 h
  | _ => none)]) kr (fun _ _ => none) 400 0 [some (112, 0), some (0, a1), none, none, none] [] h := by rfl
set_option maxRecDepth 100000 in
theorem qe_M_writeEnded {ρ : Type} (kr : Int → zH → Option ρ) (a1 : Int) (h : zH) : M_writeEnded a1 h kr = zseg zPP false (zcal []) (zget (999, 0, 0, 0) zc_M_writeEnded) (zcut zu_M_writeEnded) (zorc [(9, [some (112, some 0), some (0, none), some (0, none), some (0, none), none], [], fun xs h => match xs with
  | [a1, a2, a3] => M_writeEnded_9 kr a1 a2 a3 h
  | _ => none)]) kr (fun _ _ => none) 400 0 [some (112, 0), some (0, a1), none, none, none] [] h := qg_M_writeEnded kr (M_writeEnded_9 kr) a1 h
def zc_M_settle : List zI := [(0, (-1), 0, 0), (16, 0, 2, 0), (14, 0, 0, 112), (80, 12, 97, 32), (999, 0, 0, 0), (999, 0, 0, 0), (10, 0, 1, 0), (91, 0, 0, 87), (60, 29, 37, 0), (999, 0, 0, 0), (999, 0, 0, 0), (10, 0, 2, 0), (14, 0, 0, 112), (80, 12, 260, 60), (999, 0, 0, 0), (999, 0, 0, 0), (66, 21, 37, 0), (999, 0, 0, 0), (999, 0, 0, 0), (14, 0, 0, 112), (80, 12, 260, 60), (999, 0, 0, 0), (999, 0, 0, 0), (16, 0, 2, 0), (14, 0, 0, 112), (10, 0, 1, 0), (110, 0, 272, 99), (999, 0, 0, 0), (999, 0, 0, 0), (14, 0, 0, 112), (10, 0, 1, 0), (110, 0, 275, 95), (999, 0, 0, 0), (999, 0, 0, 0), (72, (-32), 2, 0), (999, 0, 0, 0), (999, 0, 0, 0), (133, 0, 0, 0)]
def zu_M_settle : List (Nat × List Bool) := [(2, [true, true, true]), (37, [false, false, false])]
set_option maxRecDepth 100000 in
theorem qg_M_settle_37 {ρ : Type} (kr : Int → zH → Option ρ) (h : zH) : (kr 0 h) = zseg zPP false (zcal []) (zget (999, 0, 0, 0) zc_M_settle) (zcut zu_M_settle) (zorc []) kr (fun _ _ => none) 400 37 [none, none, none] [] h := by rfl
set_option maxRecDepth 100000 in
theorem qe_M_settle_37 {ρ : Type} (kr : Int → zH → Option ρ) (h : zH) : M_settle_37 kr h = zseg zPP false (zcal []) (zget (999, 0, 0, 0) zc_M_settle) (zcut zu_M_settle) (zorc []) kr (fun _ _ => none) 400 37 [none, none, none] [] h := qg_M_settle_37 kr h
set_option maxRecDepth 100000 in
theorem qg_M_settle_2b {ρ : Type} (kr : Int → zH → Option ρ) (r2 : Int → Int → zH → Option ρ) (F_M_lookAt : Int → zH → (Int → zH → Option ρ) → Option ρ) (F_M_writeEnded : Int → zH → (Int → zH → Option ρ) → Option ρ) (c37 : zH → Option ρ) (a1 a2 : Int) (h : zH) : (zix 72 a1 fun j1 =>
if (zhD h 87 0 j1) = 0 then c37 h
else if a2 = (zhD h 12 0 60) then c37 h
else F_M_writeEnded a1 h  fun _ h3 =>
F_M_lookAt a1 h3  fun _ h5 =>
r2 a1 (zhD h 12 0 60) h5) = zseg zPP false (zcal [(95, [some 0, none], fun xs h kr kt => match xs with
  | [x1] => F_M_lookAt x1 h kr
  | _ => none), (99, [some 0, none], fun xs h kr kt => match xs with
  | [x1] => F_M_writeEnded x1 h kr
  | _ => none)]) (zget (999, 0, 0, 0) zc_M_settle) (zcut zu_M_settle) (zorc [(2, [some (112, some 0), some (0, none), some (0, none)], [], fun xs h => match xs with
  | [a1, a2] => r2 a1 a2 h
  | _ => none), (37, [none, none, none], [], fun xs h => match xs with
  | [] => c37 h
  | _ => none)]) kr (fun _ _ => none) 400 2 [some (112, 0), some (0, a1), some (0, a2)] [] h := by rfl
set_option maxRecDepth 100000 in
theorem qe_M_settle_2b {ρ : Type} (kr : Int → zH → Option ρ) (r2 : Int → Int → zH → Option ρ) (a1 a2 : Int) (h : zH) : M_settle_2b kr r2 a1 a2 h = zseg zPP false (zcal [(95, [some 0, none], fun xs h kr kt => match xs with
  | [x1] => M_lookAt x1 h kr
  | _ => none), (99, [some 0, none], fun xs h kr kt => match xs with
  | [x1] => M_writeEnded x1 h kr
  | _ => none)]) (zget (999, 0, 0, 0) zc_M_settle) (zcut zu_M_settle) (zorc [(2, [some (112, some 0), some (0, none), some (0, none)], [], fun xs h => match xs with
  | [a1, a2] => r2 a1 a2 h
  | _ => none), (37, [none, none, none], [], fun xs h => match xs with
  | [] => M_settle_37 kr h
  | _ => none)]) kr (fun _ _ => none) 400 2 [some (112, 0), some (0, a1), some (0, a2)] [] h := qg_M_settle_2b kr r2 M_lookAt M_writeEnded (M_settle_37 kr) a1 a2 h
set_option maxRecDepth 100000 in
theorem qg_M_settle {ρ : Type} (kr : Int → zH → Option ρ) (c2 : Int → Int → zH → Option ρ) (a1 : Int) (h : zH) : (c2 a1 (-1) h) = zseg zPP false (zcal []) (zget (999, 0, 0, 0) zc_M_settle) (zcut zu_M_settle) (zorc [(2, [some (112, some 0), some (0, none), some (0, none)], [], fun xs h => match xs with
  | [a1, a2] => c2 a1 a2 h
  | _ => none)]) kr (fun _ _ => none) 400 0 [some (112, 0), some (0, a1), none] [] h := by rfl
set_option maxRecDepth 100000 in
theorem qe_M_settle {ρ : Type} (kr : Int → zH → Option ρ) (a1 : Int) (h : zH) : M_settle a1 h kr = zseg zPP false (zcal []) (zget (999, 0, 0, 0) zc_M_settle) (zcut zu_M_settle) (zorc [(2, [some (112, some 0), some (0, none), some (0, none)], [], fun xs h => match xs with
  | [a1, a2] => M_settle_2 kr a1 a2 h
  | _ => none)]) kr (fun _ _ => none) 400 0 [some (112, 0), some (0, a1), none] [] h := qg_M_settle kr (M_settle_2 kr) a1 h
def zc_M_access : List zI := [(10, 0, 1, 0), (1, 6, 0, 0), (999, 0, 0, 0), (33, 0, 0, 0), (17, 0, 5, 0), (999, 0, 0, 0), (1, 96, 0, 0), (999, 0, 0, 0), (1, 64, 0, 0), (999, 0, 0, 0), (11, 0, 5, 0), (999, 0, 0, 0), (32, 0, 0, 0), (10, 0, 3, 0), (30, 0, 0, 0), (32, 0, 0, 0), (17, 0, 6, 0), (999, 0, 0, 0), (0, 0, 0, 0), (17, 0, 7, 0), (999, 0, 0, 0), (11, 0, 7, 0), (999, 0, 0, 0), (14, 0, 0, 112), (80, 12, 52, 17), (999, 0, 0, 0), (999, 0, 0, 0), (11, 0, 5, 0), (999, 0, 0, 0), (90, 0, 0, 72), (69, 169, 199, 0), (999, 0, 0, 0), (999, 0, 0, 0), (0, 0, 0, 0), (17, 0, 8, 0), (999, 0, 0, 0), (11, 0, 8, 0), (999, 0, 0, 0), (14, 0, 0, 112), (80, 12, 55, 18), (999, 0, 0, 0), (999, 0, 0, 0), (11, 0, 5, 0), (999, 0, 0, 0), (90, 0, 0, 73), (69, 148, 193, 0), (999, 0, 0, 0), (999, 0, 0, 0), (11, 0, 6, 0), (999, 0, 0, 0), (1, 16, 0, 0), (999, 0, 0, 0), (11, 0, 7, 0), (999, 0, 0, 0), (32, 0, 0, 0), (30, 0, 0, 0), (11, 0, 8, 0), (999, 0, 0, 0), (30, 0, 0, 0), (17, 0, 9, 0), (999, 0, 0, 0), (11, 0, 7, 0), (999, 0, 0, 0), (10, 0, 1, 0), (1, 6, 0, 0), (999, 0, 0, 0), (34, 0, 0, 0), (67, 13, 80, 0), (999, 0, 0, 0), (999, 0, 0, 0), (11, 0, 8, 0), (999, 0, 0, 0), (10, 0, 2, 0), (67, 7, 80, 0), (999, 0, 0, 0), (999, 0, 0, 0), (0, 1, 0, 0), (72, 4, 81, 0), (999, 0, 0, 0), (999, 0, 0, 0), (0, 0, 0, 0), (17, 0, 10, 0), (999, 0, 0, 0), (11, 0, 7, 0), (999, 0, 0, 0), (10, 0, 1, 0), (1, 6, 0, 0), (999, 0, 0, 0), (34, 0, 0, 0), (67, 14, 103, 0), (999, 0, 0, 0), (999, 0, 0, 0), (14, 0, 0, 112), (80, 12, 94, 31), (999, 0, 0, 0), (999, 0, 0, 0), (10, 0, 1, 0), (90, 0, 0, 86), (0, 1, 0, 0), (30, 0, 0, 0), (72, 4, 104, 0), (999, 0, 0, 0), (999, 0, 0, 0), (0, 1, 0, 0), (17, 0, 11, 0), (999, 0, 0, 0), (11, 0, 10, 0), (999, 0, 0, 0), (61, 39, 147, 0), (999, 0, 0, 0), (999, 0, 0, 0), (11, 0, 4, 0), (999, 0, 0, 0), (60, 18, 131, 0), (999, 0, 0, 0), (999, 0, 0, 0), (14, 0, 0, 112), (80, 12, 146, 48), (999, 0, 0, 0), (999, 0, 0, 0), (11, 0, 9, 0), (999, 0, 0, 0), (90, 0, 0, 103), (11, 0, 11, 0), (999, 0, 0, 0), (68, 22, 147, 0), (999, 0, 0, 0), (999, 0, 0, 0), (72, 15, 143, 0), (999, 0, 0, 0), (999, 0, 0, 0), (14, 0, 0, 112), (80, 12, 149, 49), (999, 0, 0, 0), (999, 0, 0, 0), (11, 0, 9, 0), (999, 0, 0, 0), (90, 0, 0, 104), (11, 0, 11, 0), (999, 0, 0, 0), (68, 7, 147, 0), (999, 0, 0, 0), (999, 0, 0, 0), (0, 1, 0, 0), (72, 4, 148, 0), (999, 0, 0, 0), (999, 0, 0, 0), (0, 0, 0, 0), (17, 0, 12, 0), (999, 0, 0, 0), (14, 0, 0, 112), (80, 12, 152, 50), (999, 0, 0, 0), (999, 0, 0, 0), (1, 64, 0, 0), (999, 0, 0, 0), (11, 0, 5, 0), (999, 0, 0, 0), (32, 0, 0, 0), (10, 0, 3, 0), (30, 0, 0, 0), (14, 0, 0, 112), (80, 12, 152, 50), (999, 0, 0, 0), (999, 0, 0, 0), (1, 64, 0, 0), (999, 0, 0, 0), (11, 0, 5, 0), (999, 0, 0, 0), (32, 0, 0, 0), (10, 0, 3, 0), (30, 0, 0, 0), (91, 0, 0, 105), (61, 8, 181, 0), (999, 0, 0, 0), (999, 0, 0, 0), (11, 0, 12, 0), (999, 0, 0, 0), (60, 7, 185, 0), (999, 0, 0, 0), (999, 0, 0, 0), (0, 1, 0, 0), (72, 4, 186, 0), (999, 0, 0, 0), (999, 0, 0, 0), (0, 0, 0, 0), (96, 0, 0, 105), (22, 1, 8, 0), (999, 0, 0, 0), (999, 0, 0, 0), (72, (-154), 36, 0), (999, 0, 0, 0), (999, 0, 0, 0), (22, 1, 7, 0), (999, 0, 0, 0), (999, 0, 0, 0), (72, (-175), 21, 0), (999, 0, 0, 0), (999, 0, 0, 0), (11, 0, 6, 0), (999, 0, 0, 0), (1, 16, 0, 0), (999, 0, 0, 0), (10, 0, 1, 0), (1, 6, 0, 0), (999, 0, 0, 0), (34, 0, 0, 0), (32, 0, 0, 0), (30, 0, 0, 0), (10, 0, 2, 0), (30, 0, 0, 0), (17, 0, 7, 0), (999, 0, 0, 0), (14, 0, 0, 112), (80, 12, 146, 48), (999, 0, 0, 0), (999, 0, 0, 0), (11, 0, 7, 0), (999, 0, 0, 0), (14, 0, 0, 112), (80, 12, 94, 31), (999, 0, 0, 0), (999, 0, 0, 0), (10, 0, 1, 0), (90, 0, 0, 86), (0, 1, 0, 0), (30, 0, 0, 0), (95, 0, 0, 103), (14, 0, 0, 112), (80, 12, 149, 49), (999, 0, 0, 0), (999, 0, 0, 0), (11, 0, 7, 0), (999, 0, 0, 0), (11, 0, 4, 0), (999, 0, 0, 0), (60, 14, 250, 0), (999, 0, 0, 0), (999, 0, 0, 0), (14, 0, 0, 112), (80, 12, 94, 31), (999, 0, 0, 0), (999, 0, 0, 0), (10, 0, 1, 0), (90, 0, 0, 86), (0, 1, 0, 0), (30, 0, 0, 0), (72, 10, 257, 0), (999, 0, 0, 0), (999, 0, 0, 0), (14, 0, 0, 112), (80, 12, 149, 49), (999, 0, 0, 0), (999, 0, 0, 0), (11, 0, 7, 0), (999, 0, 0, 0), (90, 0, 0, 104), (95, 0, 0, 104), (133, 0, 0, 0)]
def zu_M_access : List (Nat × List Bool) := [(21, [true, true, true, true, true, true, true, true, false, false, false, false, false]), (36, [true, true, true, true, true, true, true, true, true, false, false, false, false]), (80, [true, true, true, true, true, true, true, true, true, true, false, false, false]), (81, [true, true, true, true, true, true, true, true, true, true, false, false, false]), (104, [true, true, true, true, true, true, true, true, true, true, true, false, false]), (143, [true, true, true, true, true, true, true, true, true, false, false, false, false]), (147, [true, true, true, true, true, true, true, true, true, false, false, false, false]), (148, [true, true, true, true, true, true, true, true, true, false, false, false, false]), (181, [true, true, true, true, true, true, true, true, true, false, false, false, false]), (186, [true, true, true, true, true, true, true, true, true, false, false, false, false]), (257, [false, false, false, false, false, false, false, false, false, false, false, false, false])]
set_option maxRecDepth 100000 in
theorem qg_M_access_186 {ρ : Type} (kr : Int → zH → Option ρ) (r21 : Int → Int → Int → Int → Int → Int → Int → zH → Option ρ) (r36 : Int → Int → Int → Int → Int → Int → Int → Int → zH → Option ρ) (a1 a2 a3 a4 a5 a6 a7 a8 t0 t1 : Int) (h : zH) : (zix 768 t1 fun j1 =>
znar 1 t0 fun x2 =>
zlet (zset h 105 0 j1 x2) fun h3 =>
r36 a1 a2 a3 a4 a5 a6 a7 (wr (a8 + 1)) h3) = zseg zPP false (zcal []) (zget (999, 0, 0, 0) zc_M_access) (zcut zu_M_access) (zorc [(36, [some (112, some 0), some (0, none), some (0, none), some (0, none), some (0, none), some (0, none), some (0, none), some (0, none), some (0, none), none, none, none, none], [], fun xs h => match xs with
  | [a1, a2, a3, a4, a5, a6, a7, a8] => r36 a1 a2 a3 a4 a5 a6 a7 a8 h
  | _ => none)]) kr (fun _ _ => none) 400 186 [some (112, 0), some (0, a1), some (0, a2), some (0, a3), some (0, a4), some (0, a5), some (0, a6), some (0, a7), some (0, a8), none, none, none, none] [(0, t0), (0, t1), (205, 0)] h := by rfl
set_option maxRecDepth 100000 in
theorem qe_M_access_186 {ρ : Type} (kr : Int → zH → Option ρ) (r21 : Int → Int → Int → Int → Int → Int → Int → zH → Option ρ) (r36 : Int → Int → Int → Int → Int → Int → Int → Int → zH → Option ρ) (a1 a2 a3 a4 a5 a6 a7 a8 t0 t1 : Int) (h : zH) : M_access_186 kr r21 r36 a1 a2 a3 a4 a5 a6 a7 a8 t0 t1 h = zseg zPP false (zcal []) (zget (999, 0, 0, 0) zc_M_access) (zcut zu_M_access) (zorc [(36, [some (112, some 0), some (0, none), some (0, none), some (0, none), some (0, none), some (0, none), some (0, none), some (0, none), some (0, none), none, none, none, none], [], fun xs h => match xs with
  | [a1, a2, a3, a4, a5, a6, a7, a8] => r36 a1 a2 a3 a4 a5 a6 a7 a8 h
  | _ => none)]) kr (fun _ _ => none) 400 186 [some (112, 0), some (0, a1), some (0, a2), some (0, a3), some (0, a4), some (0, a5), some (0, a6), some (0, a7), some (0, a8), none, none, none, none] [(0, t0), (0, t1), (205, 0)] h := qg_M_access_186 kr r21 r36 a1 a2 a3 a4 a5 a6 a7 a8 t0 t1 h
set_option maxRecDepth 100000 in
theorem qg_M_access_181 {ρ : Type} (kr : Int → zH → Option ρ) (r21 : Int → Int → Int → Int → Int → Int → Int → zH → Option ρ) (r36 : Int → Int → Int → Int → Int → Int → Int → Int → zH → Option ρ) (c186 : Int → Int → Int → Int → Int → Int → Int → Int → Int → Int → zH → Option ρ) (a1 a2 a3 a4 a5 a6 a7 a8 t0 : Int) (h : zH) : (c186 a1 a2 a3 a4 a5 a6 a7 a8 1 t0 h) = zseg zPP false (zcal []) (zget (999, 0, 0, 0) zc_M_access) (zcut zu_M_access) (zorc [(186, [some (112, some 0), some (0, none), some (0, none), some (0, none), some (0, none), some (0, none), some (0, none), some (0, none), some (0, none), none, none, none, none], [(0, none), (0, none), (205, some 0)], fun xs h => match xs with
  | [a1, a2, a3, a4, a5, a6, a7, a8, t0, t1] => c186 a1 a2 a3 a4 a5 a6 a7 a8 t0 t1 h
  | _ => none)]) kr (fun _ _ => none) 400 181 [some (112, 0), some (0, a1), some (0, a2), some (0, a3), some (0, a4), some (0, a5), some (0, a6), some (0, a7), some (0, a8), none, none, none, none] [(0, t0), (205, 0)] h := by rfl
set_option maxRecDepth 100000 in
theorem qe_M_access_181 {ρ : Type} (kr : Int → zH → Option ρ) (r21 : Int → Int → Int → Int → Int → Int → Int → zH → Option ρ) (r36 : Int → Int → Int → Int → Int → Int → Int → Int → zH → Option ρ) (a1 a2 a3 a4 a5 a6 a7 a8 t0 : Int) (h : zH) : M_access_181 kr r21 r36 a1 a2 a3 a4 a5 a6 a7 a8 t0 h = zseg zPP false (zcal []) (zget (999, 0, 0, 0) zc_M_access) (zcut zu_M_access) (zorc [(186, [some (112, some 0), some (0, none), some (0, none), some (0, none), some (0, none), some (0, none), some (0, none), some (0, none), some (0, none), none, none, none, none], [(0, none), (0, none), (205, some 0)], fun xs h => match xs with
  | [a1, a2, a3, a4, a5, a6, a7, a8, t0, t1] => M_access_186 kr r21 r36 a1 a2 a3 a4 a5 a6 a7 a8 t0 t1 h
  | _ => none)]) kr (fun _ _ => none) 400 181 [some (112, 0), some (0, a1), some (0, a2), some (0, a3), some (0, a4), some (0, a5), some (0, a6), some (0, a7), some (0, a8), none, none, none, none] [(0, t0), (205, 0)] h := qg_M_access_181 kr r21 r36 (M_access_186 kr r21 r36) a1 a2 a3 a4 a5 a6 a7 a8 t0 h
set_option maxRecDepth 100000 in
theorem qg_M_access_148 {ρ : Type} (kr : Int → zH → Option ρ) (r21 : Int → Int → Int → Int → Int → Int → Int → zH → Option ρ) (r36 : Int → Int → Int → Int → Int → Int → Int → Int → zH → Option ρ) (c181 : Int → Int → Int → Int → Int → Int → Int → Int → Int → zH → Option ρ) (c186 : Int → Int → Int → Int → Int → Int → Int → Int → Int → Int → zH → Option ρ) (a1 a2 a3 a4 a5 a6 a7 a8 t0 : Int) (h : zH) : (zix 768 (wr ((wr (64 * a5)) + a3)) fun j1 =>
if (zhD h 105 0 j1) = 0 then (if t0 = 0 then c186 a1 a2 a3 a4 a5 a6 a7 a8 0 (wr ((wr (64 * a5)) + a3)) h
else c181 a1 a2 a3 a4 a5 a6 a7 a8 (wr ((wr (64 * a5)) + a3)) h)
else c181 a1 a2 a3 a4 a5 a6 a7 a8 (wr ((wr (64 * a5)) + a3)) h) = zseg zPP false (zcal []) (zget (999, 0, 0, 0) zc_M_access) (zcut zu_M_access) (zorc [(181, [some (112, some 0), some (0, none), some (0, none), some (0, none), some (0, none), some (0, none), some (0, none), some (0, none), some (0, none), none, none, none, none], [(0, none), (205, some 0)], fun xs h => match xs with
  | [a1, a2, a3, a4, a5, a6, a7, a8, t0] => c181 a1 a2 a3 a4 a5 a6 a7 a8 t0 h
  | _ => none), (186, [some (112, some 0), some (0, none), some (0, none), some (0, none), some (0, none), some (0, none), some (0, none), some (0, none), some (0, none), none, none, none, none], [(0, none), (0, none), (205, some 0)], fun xs h => match xs with
  | [a1, a2, a3, a4, a5, a6, a7, a8, t0, t1] => c186 a1 a2 a3 a4 a5 a6 a7 a8 t0 t1 h
  | _ => none)]) kr (fun _ _ => none) 400 148 [some (112, 0), some (0, a1), some (0, a2), some (0, a3), some (0, a4), some (0, a5), some (0, a6), some (0, a7), some (0, a8), none, none, none, none] [(0, t0)] h := by rfl
set_option maxRecDepth 100000 in
theorem qe_M_access_148 {ρ : Type} (kr : Int → zH → Option ρ) (r21 : Int → Int → Int → Int → Int → Int → Int → zH → Option ρ) (r36 : Int → Int → Int → Int → Int → Int → Int → Int → zH → Option ρ) (a1 a2 a3 a4 a5 a6 a7 a8 t0 : Int) (h : zH) : M_access_148 kr r21 r36 a1 a2 a3 a4 a5 a6 a7 a8 t0 h = zseg zPP false (zcal []) (zget (999, 0, 0, 0) zc_M_access) (zcut zu_M_access) (zorc [(181, [some (112, some 0), some (0, none), some (0, none), some (0, none), some (0, none), some (0, none), some (0, none), some (0, none), some (0, none), none, none, none, none], [(0, none), (205, some 0)], fun xs h => match xs with
  | [a1, a2, a3, a4, a5, a6, a7, a8, t0] => M_access_181 kr r21 r36 a1 a2 a3 a4 a5 a6 a7 a8 t0 h
  | _ => none), (186, [some (112, some 0), some (0, none), some (0, none), some (0, none), some (0, none), some (0, none), some (0, none), some (0, none), some (0, none), none, none, none, none], [(0, none), (0, none), (205, some 0)], fun xs h => match xs with
  | [a1, a2, a3, a4, a5, a6, a7, a8, t0, t1] => M_access_186 kr r21 r36 a1 a2 a3 a4 a5 a6 a7 a8 t0 t1 h
  | _ => none)]) kr (fun _ _ => none) 400 148 [some (112, 0), some (0, a1), some (0, a2), some (0, a3), some (0, a4), some (0, a5), some (0, a6), some (0, a7), some (0, a8), none, none, none, none] [(0, t0)] h := qg_M_access_148 kr r21 r36 (M_access_181 kr r21 r36) (M_access_186 kr r21 r36) a1 a2 a3 a4 a5 a6 a7 a8 t0 h
set_option maxRecDepth 100000 in
theorem qg_M_access_143 {ρ : Type} (kr : Int → zH → Option ρ) (r21 : Int → Int → Int → Int → Int → Int → Int → zH → Option ρ) (r36 : Int → Int → Int → Int → Int → Int → Int → Int → zH → Option ρ) (c148 : Int → Int → Int → Int → Int → Int → Int → Int → Int → zH → Option ρ) (a1 a2 a3 a4 a5 a6 a7 a8 : Int) (h : zH) : (c148 a1 a2 a3 a4 a5 a6 a7 a8 1 h) = zseg zPP false (zcal []) (zget (999, 0, 0, 0) zc_M_access) (zcut zu_M_access) (zorc [(148, [some (112, some 0), some (0, none), some (0, none), some (0, none), some (0, none), some (0, none), some (0, none), some (0, none), some (0, none), none, none, none, none], [(0, none)], fun xs h => match xs with
  | [a1, a2, a3, a4, a5, a6, a7, a8, t0] => c148 a1 a2 a3 a4 a5 a6 a7 a8 t0 h
  | _ => none)]) kr (fun _ _ => none) 400 143 [some (112, 0), some (0, a1), some (0, a2), some (0, a3), some (0, a4), some (0, a5), some (0, a6), some (0, a7), some (0, a8), none, none, none, none] [] h := by rfl
set_option maxRecDepth 100000 in
theorem qe_M_access_143 {ρ : Type} (kr : Int → zH → Option ρ) (r21 : Int → Int → Int → Int → Int → Int → Int → zH → Option ρ) (r36 : Int → Int → Int → Int → Int → Int → Int → Int → zH → Option ρ) (a1 a2 a3 a4 a5 a6 a7 a8 : Int) (h : zH) : M_access_143 kr r21 r36 a1 a2 a3 a4 a5 a6 a7 a8 h = zseg zPP false (zcal []) (zget (999, 0, 0, 0) zc_M_access) (zcut zu_M_access) (zorc [(148, [some (112, some 0), some (0, none), some (0, none), some (0, none), some (0, none), some (0, none), some (0, none), some (0, none), some (0, none), none, none, none, none], [(0, none)], fun xs h => match xs with
  | [a1, a2, a3, a4, a5, a6, a7, a8, t0] => M_access_148 kr r21 r36 a1 a2 a3 a4 a5 a6 a7 a8 t0 h
  | _ => none)]) kr (fun _ _ => none) 400 143 [some (112, 0), some (0, a1), some (0, a2), some (0, a3), some (0, a4), some (0, a5), some (0, a6), some (0, a7), some (0, a8), none, none, none, none] [] h := qg_M_access_143 kr r21 r36 (M_access_148 kr r21 r36) a1 a2 a3 a4 a5 a6 a7 a8 h
set_option maxRecDepth 100000 in
theorem qg_M_access_147 {ρ : Type} (kr : Int → zH → Option ρ) (r21 : Int → Int → Int → Int → Int → Int → Int → zH → Option ρ) (r36 : Int → Int → Int → Int → Int → Int → Int → Int → zH → Option ρ) (c148 : Int → Int → Int → Int → Int → Int → Int → Int → Int → zH → Option ρ) (a1 a2 a3 a4 a5 a6 a7 a8 : Int) (h : zH) : (c148 a1 a2 a3 a4 a5 a6 a7 a8 0 h) = zseg zPP false (zcal []) (zget (999, 0, 0, 0) zc_M_access) (zcut zu_M_access) (zorc [(148, [some (112, some 0), some (0, none), some (0, none), some (0, none), some (0, none), some (0, none), some (0, none), some (0, none), some (0, none), none, none, none, none], [(0, none)], fun xs h => match xs with
  | [a1, a2, a3, a4, a5, a6, a7, a8, t0] => c148 a1 a2 a3 a4 a5 a6 a7 a8 t0 h
  | _ => none)]) kr (fun _ _ => none) 400 147 [some (112, 0), some (0, a1), some (0, a2), some (0, a3), some (0, a4), some (0, a5), some (0, a6), some (0, a7), some (0, a8), none, none, none, none] [] h := by rfl
set_option maxRecDepth 100000 in
theorem qe_M_access_147 {ρ : Type} (kr : Int → zH → Option ρ) (r21 : Int → Int → Int → Int → Int → Int → Int → zH → Option ρ) (r36 : Int → Int → Int → Int → Int → Int → Int → Int → zH → Option ρ) (a1 a2 a3 a4 a5 a6 a7 a8 : Int) (h : zH) : M_access_147 kr r21 r36 a1 a2 a3 a4 a5 a6 a7 a8 h = zseg zPP false (zcal []) (zget (999, 0, 0, 0) zc_M_access) (zcut zu_M_access) (zorc [(148, [some (112, some 0), some (0, none), some (0, none), some (0, none), some (0, none), some (0, none), some (0, none), some (0, none), some (0, none), none, none, none, none], [(0, none)], fun xs h => match xs with
  | [a1, a2, a3, a4, a5, a6, a7, a8, t0] => M_access_148 kr r21 r36 a1 a2 a3 a4 a5 a6 a7 a8 t0 h
  | _ => none)]) kr (fun _ _ => none) 400 147 [some (112, 0), some (0, a1), some (0, a2), some (0, a3), some (0, a4), some (0, a5), some (0, a6), some (0, a7), some (0, a8), none, none, none, none] [] h := qg_M_access_147 kr r21 r36 (M_access_148 kr r21 r36) a1 a2 a3 a4 a5 a6 a7 a8 h
set_option maxRecDepth 100000 in
theorem qg_M_access_104 {ρ : Type} (kr : Int → zH → Option ρ) (r21 : Int → Int → Int → Int → Int → Int → Int → zH → Option ρ) (r36 : Int → Int → Int → Int → Int → Int → Int → Int → zH → Option ρ) (c143 : Int → Int → Int → Int → Int → Int → Int → Int → zH → Option ρ) (c147 : Int → Int → Int → Int → Int → Int → Int → Int → zH → Option ρ) (a1 a2 a3 a4 a5 a6 a7 a8 a9 a10 t0 : Int) (h : zH) : (if a10 = 0 then (if a4 = 0 then (zix 73728 a9 fun j1 =>
if (zhD h 104 0 j1) < t0 then c147 a1 a2 a3 a4 a5 a6 a7 a8 h
else c143 a1 a2 a3 a4 a5 a6 a7 a8 h)
else zix 73728 a9 fun j2 =>
if (zhD h 103 0 j2) < t0 then c147 a1 a2 a3 a4 a5 a6 a7 a8 h
else c143 a1 a2 a3 a4 a5 a6 a7 a8 h)
else c147 a1 a2 a3 a4 a5 a6 a7 a8 h) = zseg zPP false (zcal []) (zget (999, 0, 0, 0) zc_M_access) (zcut zu_M_access) (zorc [(143, [some (112, some 0), some (0, none), some (0, none), some (0, none), some (0, none), some (0, none), some (0, none), some (0, none), some (0, none), none, none, none, none], [], fun xs h => match xs with
  | [a1, a2, a3, a4, a5, a6, a7, a8] => c143 a1 a2 a3 a4 a5 a6 a7 a8 h
  | _ => none), (147, [some (112, some 0), some (0, none), some (0, none), some (0, none), some (0, none), some (0, none), some (0, none), some (0, none), some (0, none), none, none, none, none], [], fun xs h => match xs with
  | [a1, a2, a3, a4, a5, a6, a7, a8] => c147 a1 a2 a3 a4 a5 a6 a7 a8 h
  | _ => none)]) kr (fun _ _ => none) 400 104 [some (112, 0), some (0, a1), some (0, a2), some (0, a3), some (0, a4), some (0, a5), some (0, a6), some (0, a7), some (0, a8), some (0, a9), some (0, a10), none, none] [(0, t0)] h := by rfl
set_option maxRecDepth 100000 in
theorem qe_M_access_104 {ρ : Type} (kr : Int → zH → Option ρ) (r21 : Int → Int → Int → Int → Int → Int → Int → zH → Option ρ) (r36 : Int → Int → Int → Int → Int → Int → Int → Int → zH → Option ρ) (a1 a2 a3 a4 a5 a6 a7 a8 a9 a10 t0 : Int) (h : zH) : M_access_104 kr r21 r36 a1 a2 a3 a4 a5 a6 a7 a8 a9 a10 t0 h = zseg zPP false (zcal []) (zget (999, 0, 0, 0) zc_M_access) (zcut zu_M_access) (zorc [(143, [some (112, some 0), some (0, none), some (0, none), some (0, none), some (0, none), some (0, none), some (0, none), some (0, none), some (0, none), none, none, none, none], [], fun xs h => match xs with
  | [a1, a2, a3, a4, a5, a6, a7, a8] => M_access_143 kr r21 r36 a1 a2 a3 a4 a5 a6 a7 a8 h
  | _ => none), (147, [some (112, some 0), some (0, none), some (0, none), some (0, none), some (0, none), some (0, none), some (0, none), some (0, none), some (0, none), none, none, none, none], [], fun xs h => match xs with
  | [a1, a2, a3, a4, a5, a6, a7, a8] => M_access_147 kr r21 r36 a1 a2 a3 a4 a5 a6 a7 a8 h
  | _ => none)]) kr (fun _ _ => none) 400 104 [some (112, 0), some (0, a1), some (0, a2), some (0, a3), some (0, a4), some (0, a5), some (0, a6), some (0, a7), some (0, a8), some (0, a9), some (0, a10), none, none] [(0, t0)] h := qg_M_access_104 kr r21 r36 (M_access_143 kr r21 r36) (M_access_147 kr r21 r36) a1 a2 a3 a4 a5 a6 a7 a8 a9 a10 t0 h
set_option maxRecDepth 100000 in
theorem qg_M_access_81 {ρ : Type} (kr : Int → zH → Option ρ) (r21 : Int → Int → Int → Int → Int → Int → Int → zH → Option ρ) (r36 : Int → Int → Int → Int → Int → Int → Int → Int → zH → Option ρ) (c104 : Int → Int → Int → Int → Int → Int → Int → Int → Int → Int → Int → zH → Option ρ) (a1 a2 a3 a4 a5 a6 a7 a8 a9 t0 : Int) (h : zH) : (if a7 = (Int.tmod a1 6) then (zix 72 a1 fun j1 =>
c104 a1 a2 a3 a4 a5 a6 a7 a8 a9 t0 (wr ((zhD h 86 0 j1) + 1)) h)
else c104 a1 a2 a3 a4 a5 a6 a7 a8 a9 t0 1 h) = zseg zPP false (zcal []) (zget (999, 0, 0, 0) zc_M_access) (zcut zu_M_access) (zorc [(104, [some (112, some 0), some (0, none), some (0, none), some (0, none), some (0, none), some (0, none), some (0, none), some (0, none), some (0, none), some (0, none), some (0, none), none, none], [(0, none)], fun xs h => match xs with
  | [a1, a2, a3, a4, a5, a6, a7, a8, a9, a10, t0] => c104 a1 a2 a3 a4 a5 a6 a7 a8 a9 a10 t0 h
  | _ => none)]) kr (fun _ _ => none) 400 81 [some (112, 0), some (0, a1), some (0, a2), some (0, a3), some (0, a4), some (0, a5), some (0, a6), some (0, a7), some (0, a8), some (0, a9), none, none, none] [(0, t0)] h := by rfl
set_option maxRecDepth 100000 in
theorem qe_M_access_81 {ρ : Type} (kr : Int → zH → Option ρ) (r21 : Int → Int → Int → Int → Int → Int → Int → zH → Option ρ) (r36 : Int → Int → Int → Int → Int → Int → Int → Int → zH → Option ρ) (a1 a2 a3 a4 a5 a6 a7 a8 a9 t0 : Int) (h : zH) : M_access_81 kr r21 r36 a1 a2 a3 a4 a5 a6 a7 a8 a9 t0 h = zseg zPP false (zcal []) (zget (999, 0, 0, 0) zc_M_access) (zcut zu_M_access) (zorc [(104, [some (112, some 0), some (0, none), some (0, none), some (0, none), some (0, none), some (0, none), some (0, none), some (0, none), some (0, none), some (0, none), some (0, none), none, none], [(0, none)], fun xs h => match xs with
  | [a1, a2, a3, a4, a5, a6, a7, a8, a9, a10, t0] => M_access_104 kr r21 r36 a1 a2 a3 a4 a5 a6 a7 a8 a9 a10 t0 h
  | _ => none)]) kr (fun _ _ => none) 400 81 [some (112, 0), some (0, a1), some (0, a2), some (0, a3), some (0, a4), some (0, a5), some (0, a6), some (0, a7), some (0, a8), some (0, a9), none, none, none] [(0, t0)] h := qg_M_access_81 kr r21 r36 (M_access_104 kr r21 r36) a1 a2 a3 a4 a5 a6 a7 a8 a9 t0 h
set_option maxRecDepth 100000 in
theorem qg_M_access_80 {ρ : Type} (kr : Int → zH → Option ρ) (r21 : Int → Int → Int → Int → Int → Int → Int → zH → Option ρ) (r36 : Int → Int → Int → Int → Int → Int → Int → Int → zH → Option ρ) (c81 : Int → Int → Int → Int → Int → Int → Int → Int → Int → Int → zH → Option ρ) (a1 a2 a3 a4 a5 a6 a7 a8 a9 : Int) (h : zH) : (c81 a1 a2 a3 a4 a5 a6 a7 a8 a9 0 h) = zseg zPP false (zcal []) (zget (999, 0, 0, 0) zc_M_access) (zcut zu_M_access) (zorc [(81, [some (112, some 0), some (0, none), some (0, none), some (0, none), some (0, none), some (0, none), some (0, none), some (0, none), some (0, none), some (0, none), none, none, none], [(0, none)], fun xs h => match xs with
  | [a1, a2, a3, a4, a5, a6, a7, a8, a9, t0] => c81 a1 a2 a3 a4 a5 a6 a7 a8 a9 t0 h
  | _ => none)]) kr (fun _ _ => none) 400 80 [some (112, 0), some (0, a1), some (0, a2), some (0, a3), some (0, a4), some (0, a5), some (0, a6), some (0, a7), some (0, a8), some (0, a9), none, none, none] [] h := by rfl
set_option maxRecDepth 100000 in
theorem qe_M_access_80 {ρ : Type} (kr : Int → zH → Option ρ) (r21 : Int → Int → Int → Int → Int → Int → Int → zH → Option ρ) (r36 : Int → Int → Int → Int → Int → Int → Int → Int → zH → Option ρ) (a1 a2 a3 a4 a5 a6 a7 a8 a9 : Int) (h : zH) : M_access_80 kr r21 r36 a1 a2 a3 a4 a5 a6 a7 a8 a9 h = zseg zPP false (zcal []) (zget (999, 0, 0, 0) zc_M_access) (zcut zu_M_access) (zorc [(81, [some (112, some 0), some (0, none), some (0, none), some (0, none), some (0, none), some (0, none), some (0, none), some (0, none), some (0, none), some (0, none), none, none, none], [(0, none)], fun xs h => match xs with
  | [a1, a2, a3, a4, a5, a6, a7, a8, a9, t0] => M_access_81 kr r21 r36 a1 a2 a3 a4 a5 a6 a7 a8 a9 t0 h
  | _ => none)]) kr (fun _ _ => none) 400 80 [some (112, 0), some (0, a1), some (0, a2), some (0, a3), some (0, a4), some (0, a5), some (0, a6), some (0, a7), some (0, a8), some (0, a9), none, none, none] [] h := qg_M_access_80 kr r21 r36 (M_access_81 kr r21 r36) a1 a2 a3 a4 a5 a6 a7 a8 a9 h
set_option maxRecDepth 100000 in
theorem qg_M_access_36b {ρ : Type} (kr : Int → zH → Option ρ) (r21 : Int → Int → Int → Int → Int → Int → Int → zH → Option ρ) (r36 : Int → Int → Int → Int → Int → Int → Int → Int → zH → Option ρ) (c80 : Int → Int → Int → Int → Int → Int → Int → Int → Int → zH → Option ρ) (c81 : Int → Int → Int → Int → Int → Int → Int → Int → Int → Int → zH → Option ρ) (a1 a2 a3 a4 a5 a6 a7 a8 : Int) (h : zH) : (zix 12 a5 fun j1 =>
if a8 < (zhD h 73 0 j1) then (if a7 = (Int.tmod a1 6) then (if a8 = a2 then c81 a1 a2 a3 a4 a5 a6 a7 a8 (wr ((wr (a6 + (wr (16 * a7)))) + a8)) 1 h
else c80 a1 a2 a3 a4 a5 a6 a7 a8 (wr ((wr (a6 + (wr (16 * a7)))) + a8)) h)
else c80 a1 a2 a3 a4 a5 a6 a7 a8 (wr ((wr (a6 + (wr (16 * a7)))) + a8)) h)
else r21 a1 a2 a3 a4 a5 a6 (wr (a7 + 1)) h) = zseg zPP false (zcal []) (zget (999, 0, 0, 0) zc_M_access) (zcut zu_M_access) (zorc [(21, [some (112, some 0), some (0, none), some (0, none), some (0, none), some (0, none), some (0, none), some (0, none), some (0, none), none, none, none, none, none], [], fun xs h => match xs with
  | [a1, a2, a3, a4, a5, a6, a7] => r21 a1 a2 a3 a4 a5 a6 a7 h
  | _ => none), (80, [some (112, some 0), some (0, none), some (0, none), some (0, none), some (0, none), some (0, none), some (0, none), some (0, none), some (0, none), some (0, none), none, none, none], [], fun xs h => match xs with
  | [a1, a2, a3, a4, a5, a6, a7, a8, a9] => c80 a1 a2 a3 a4 a5 a6 a7 a8 a9 h
  | _ => none), (81, [some (112, some 0), some (0, none), some (0, none), some (0, none), some (0, none), some (0, none), some (0, none), some (0, none), some (0, none), some (0, none), none, none, none], [(0, none)], fun xs h => match xs with
  | [a1, a2, a3, a4, a5, a6, a7, a8, a9, t0] => c81 a1 a2 a3 a4 a5 a6 a7 a8 a9 t0 h
  | _ => none)]) kr (fun _ _ => none) 400 36 [some (112, 0), some (0, a1), some (0, a2), some (0, a3), some (0, a4), some (0, a5), some (0, a6), some (0, a7), some (0, a8), none, none, none, none] [] h := by rfl
set_option maxRecDepth 100000 in
theorem qe_M_access_36b {ρ : Type} (kr : Int → zH → Option ρ) (r21 : Int → Int → Int → Int → Int → Int → Int → zH → Option ρ) (r36 : Int → Int → Int → Int → Int → Int → Int → Int → zH → Option ρ) (a1 a2 a3 a4 a5 a6 a7 a8 : Int) (h : zH) : M_access_36b kr r21 r36 a1 a2 a3 a4 a5 a6 a7 a8 h = zseg zPP false (zcal []) (zget (999, 0, 0, 0) zc_M_access) (zcut zu_M_access) (zorc [(21, [some (112, some 0), some (0, none), some (0, none), some (0, none), some (0, none), some (0, none), some (0, none), some (0, none), none, none, none, none, none], [], fun xs h => match xs with
  | [a1, a2, a3, a4, a5, a6, a7] => r21 a1 a2 a3 a4 a5 a6 a7 h
  | _ => none), (80, [some (112, some 0), some (0, none), some (0, none), some (0, none), some (0, none), some (0, none), some (0, none), some (0, none), some (0, none), some (0, none), none, none, none], [], fun xs h => match xs with
  | [a1, a2, a3, a4, a5, a6, a7, a8, a9] => M_access_80 kr r21 r36 a1 a2 a3 a4 a5 a6 a7 a8 a9 h
  | _ => none), (81, [some (112, some 0), some (0, none), some (0, none), some (0, none), some (0, none), some (0, none), some (0, none), some (0, none), some (0, none), some (0, none), none, none, none], [(0, none)], fun xs h => match xs with
  | [a1, a2, a3, a4, a5, a6, a7, a8, a9, t0] => M_access_81 kr r21 r36 a1 a2 a3 a4 a5 a6 a7 a8 a9 t0 h
  | _ => none)]) kr (fun _ _ => none) 400 36 [some (112, 0), some (0, a1), some (0, a2), some (0, a3), some (0, a4), some (0, a5), some (0, a6), some (0, a7), some (0, a8), none, none, none, none] [] h := qg_M_access_36b kr r21 r36 (M_access_80 kr r21 r36) (M_access_81 kr r21 r36) a1 a2 a3 a4 a5 a6 a7 a8 h
set_option maxRecDepth 100000 in
theorem qg_M_access_257 {ρ : Type} (kr : Int → zH → Option ρ) (t0 t1 : Int) (h : zH) : (zix 73728 t1 fun j1 =>
zlet (zset h 104 0 j1 t0) fun h2 =>
kr 0 h2) = zseg zPP false (zcal []) (zget (999, 0, 0, 0) zc_M_access) (zcut zu_M_access) (zorc []) kr (fun _ _ => none) 400 257 [none, none, none, none, none, none, none, none, none, none, none, none, none] [(0, t0), (0, t1), (204, 0)] h := by rfl
set_option maxRecDepth 100000 in
theorem qe_M_access_257 {ρ : Type} (kr : Int → zH → Option ρ) (t0 t1 : Int) (h : zH) : M_access_257 kr t0 t1 h = zseg zPP false (zcal []) (zget (999, 0, 0, 0) zc_M_access) (zcut zu_M_access) (zorc []) kr (fun _ _ => none) 400 257 [none, none, none, none, none, none, none, none, none, none, none, none, none] [(0, t0), (0, t1), (204, 0)] h := qg_M_access_257 kr t0 t1 h
set_option maxRecDepth 100000 in
theorem qg_M_access_21b {ρ : Type} (kr : Int → zH → Option ρ) (r21 : Int → Int → Int → Int → Int → Int → Int → zH → Option ρ) (c36 : Int → Int → Int → Int → Int → Int → Int → Int → zH → Option ρ) (c257 : Int → Int → zH → Option ρ) (a1 a2 a3 a4 a5 a6 a7 : Int) (h : zH) : (zix 12 a5 fun j1 =>
if a7 < (zhD h 72 0 j1) then c36 a1 a2 a3 a4 a5 a6 a7 0 h
else zix 72 a1 fun j2 =>
zix 73728 (wr ((wr (a6 + (wr (16 * (Int.tmod a1 6))))) + a2)) fun j3 =>
zlet (zset h 103 0 j3 (wr ((zhD h 86 0 j2) + 1))) fun h4 =>
if a4 = 0 then (zix 73728 (wr ((wr (a6 + (wr (16 * (Int.tmod a1 6))))) + a2)) fun j5 =>
c257 (zhD h4 104 0 j5) (wr ((wr (a6 + (wr (16 * (Int.tmod a1 6))))) + a2)) h4)
else zix 72 a1 fun j6 =>
c257 (wr ((zhD h4 86 0 j6) + 1)) (wr ((wr (a6 + (wr (16 * (Int.tmod a1 6))))) + a2)) h4) = zseg zPP false (zcal []) (zget (999, 0, 0, 0) zc_M_access) (zcut zu_M_access) (zorc [(36, [some (112, some 0), some (0, none), some (0, none), some (0, none), some (0, none), some (0, none), some (0, none), some (0, none), some (0, none), none, none, none, none], [], fun xs h => match xs with
  | [a1, a2, a3, a4, a5, a6, a7, a8] => c36 a1 a2 a3 a4 a5 a6 a7 a8 h
  | _ => none), (257, [none, none, none, none, none, none, none, none, none, none, none, none, none], [(0, none), (0, none), (204, some 0)], fun xs h => match xs with
  | [t0, t1] => c257 t0 t1 h
  | _ => none)]) kr (fun _ _ => none) 400 21 [some (112, 0), some (0, a1), some (0, a2), some (0, a3), some (0, a4), some (0, a5), some (0, a6), some (0, a7), none, none, none, none, none] [] h := by rfl
set_option maxRecDepth 100000 in
theorem qe_M_access_21b {ρ : Type} (kr : Int → zH → Option ρ) (r21 : Int → Int → Int → Int → Int → Int → Int → zH → Option ρ) (a1 a2 a3 a4 a5 a6 a7 : Int) (h : zH) : M_access_21b kr r21 a1 a2 a3 a4 a5 a6 a7 h = zseg zPP false (zcal []) (zget (999, 0, 0, 0) zc_M_access) (zcut zu_M_access) (zorc [(36, [some (112, some 0), some (0, none), some (0, none), some (0, none), some (0, none), some (0, none), some (0, none), some (0, none), some (0, none), none, none, none, none], [], fun xs h => match xs with
  | [a1, a2, a3, a4, a5, a6, a7, a8] => M_access_36 kr r21 a1 a2 a3 a4 a5 a6 a7 a8 h
  | _ => none), (257, [none, none, none, none, none, none, none, none, none, none, none, none, none], [(0, none), (0, none), (204, some 0)], fun xs h => match xs with
  | [t0, t1] => M_access_257 kr t0 t1 h
  | _ => none)]) kr (fun _ _ => none) 400 21 [some (112, 0), some (0, a1), some (0, a2), some (0, a3), some (0, a4), some (0, a5), some (0, a6), some (0, a7), none, none, none, none, none] [] h := qg_M_access_21b kr r21 (M_access_36 kr r21) (M_access_257 kr) a1 a2 a3 a4 a5 a6 a7 h
set_option maxRecDepth 100000 in
theorem qg_M_access {ρ : Type} (kr : Int → zH → Option ρ) (c21 : Int → Int → Int → Int → Int → Int → Int → zH → Option ρ) (a1 a2 a3 a4 : Int) (h : zH) : (c21 a1 a2 a3 a4 (wr (Int.tdiv a1 6)) (wr (96 * (wr ((wr (64 * (wr (Int.tdiv a1 6)))) + a3)))) 0 h) = zseg zPP false (zcal []) (zget (999, 0, 0, 0) zc_M_access) (zcut zu_M_access) (zorc [(21, [some (112, some 0), some (0, none), some (0, none), some (0, none), some (0, none), some (0, none), some (0, none), some (0, none), none, none, none, none, none], [], fun xs h => match xs with
  | [a1, a2, a3, a4, a5, a6, a7] => c21 a1 a2 a3 a4 a5 a6 a7 h
  | _ => none)]) kr (fun _ _ => none) 400 0 [some (112, 0), some (0, a1), some (0, a2), some (0, a3), some (0, a4), none, none, none, none, none, none, none, none] [] h := by rfl
set_option maxRecDepth 100000 in
theorem qe_M_access {ρ : Type} (kr : Int → zH → Option ρ) (a1 a2 a3 a4 : Int) (h : zH) : M_access a1 a2 a3 a4 h kr = zseg zPP false (zcal []) (zget (999, 0, 0, 0) zc_M_access) (zcut zu_M_access) (zorc [(21, [some (112, some 0), some (0, none), some (0, none), some (0, none), some (0, none), some (0, none), some (0, none), some (0, none), none, none, none, none, none], [], fun xs h => match xs with
  | [a1, a2, a3, a4, a5, a6, a7] => M_access_21 kr a1 a2 a3 a4 a5 a6 a7 h
  | _ => none)]) kr (fun _ _ => none) 400 0 [some (112, 0), some (0, a1), some (0, a2), some (0, a3), some (0, a4), none, none, none, none, none, none, none, none] [] h := qg_M_access kr (M_access_21 kr) a1 a2 a3 a4 h
def zc_M_accessShared : List zI := [(1, 16, 0, 0), (999, 0, 0, 0), (1, 16, 0, 0), (999, 0, 0, 0), (10, 0, 1, 0), (32, 0, 0, 0), (10, 0, 3, 0), (30, 0, 0, 0), (32, 0, 0, 0), (17, 0, 5, 0), (999, 0, 0, 0), (0, 0, 0, 0), (17, 0, 6, 0), (999, 0, 0, 0), (11, 0, 6, 0), (999, 0, 0, 0), (14, 0, 0, 112), (80, 12, 55, 18), (999, 0, 0, 0), (999, 0, 0, 0), (10, 0, 1, 0), (1, 6, 0, 0), (999, 0, 0, 0), (33, 0, 0, 0), (90, 0, 0, 73), (69, 103, 128, 0), (999, 0, 0, 0), (999, 0, 0, 0), (11, 0, 6, 0), (999, 0, 0, 0), (10, 0, 2, 0), (66, 53, 84, 0), (999, 0, 0, 0), (999, 0, 0, 0), (11, 0, 4, 0), (999, 0, 0, 0), (60, 25, 61, 0), (999, 0, 0, 0), (999, 0, 0, 0), (14, 0, 0, 112), (80, 12, 155, 51), (999, 0, 0, 0), (999, 0, 0, 0), (11, 0, 5, 0), (999, 0, 0, 0), (11, 0, 6, 0), (999, 0, 0, 0), (30, 0, 0, 0), (90, 0, 0, 106), (14, 0, 0, 112), (80, 12, 94, 31), (999, 0, 0, 0), (999, 0, 0, 0), (10, 0, 1, 0), (90, 0, 0, 86), (71, 29, 84, 0), (999, 0, 0, 0), (999, 0, 0, 0), (72, 22, 80, 0), (999, 0, 0, 0), (999, 0, 0, 0), (14, 0, 0, 112), (80, 12, 158, 52), (999, 0, 0, 0), (999, 0, 0, 0), (11, 0, 5, 0), (999, 0, 0, 0), (11, 0, 6, 0), (999, 0, 0, 0), (30, 0, 0, 0), (90, 0, 0, 107), (14, 0, 0, 112), (80, 12, 94, 31), (999, 0, 0, 0), (999, 0, 0, 0), (10, 0, 1, 0), (90, 0, 0, 86), (71, 7, 84, 0), (999, 0, 0, 0), (999, 0, 0, 0), (0, 1, 0, 0), (72, 4, 85, 0), (999, 0, 0, 0), (999, 0, 0, 0), (0, 0, 0, 0), (17, 0, 7, 0), (999, 0, 0, 0), (14, 0, 0, 112), (80, 12, 161, 53), (999, 0, 0, 0), (999, 0, 0, 0), (1, 16, 0, 0), (999, 0, 0, 0), (10, 0, 1, 0), (32, 0, 0, 0), (10, 0, 3, 0), (30, 0, 0, 0), (14, 0, 0, 112), (80, 12, 161, 53), (999, 0, 0, 0), (999, 0, 0, 0), (1, 16, 0, 0), (999, 0, 0, 0), (10, 0, 1, 0), (32, 0, 0, 0), (10, 0, 3, 0), (30, 0, 0, 0), (91, 0, 0, 108), (61, 8, 116, 0), (999, 0, 0, 0), (999, 0, 0, 0), (11, 0, 7, 0), (999, 0, 0, 0), (60, 7, 120, 0), (999, 0, 0, 0), (999, 0, 0, 0), (0, 1, 0, 0), (72, 4, 121, 0), (999, 0, 0, 0), (999, 0, 0, 0), (0, 0, 0, 0), (96, 0, 0, 108), (22, 1, 6, 0), (999, 0, 0, 0), (999, 0, 0, 0), (72, (-111), 14, 0), (999, 0, 0, 0), (999, 0, 0, 0), (14, 0, 0, 112), (80, 12, 155, 51), (999, 0, 0, 0), (999, 0, 0, 0), (11, 0, 5, 0), (999, 0, 0, 0), (10, 0, 2, 0), (30, 0, 0, 0), (14, 0, 0, 112), (80, 12, 94, 31), (999, 0, 0, 0), (999, 0, 0, 0), (10, 0, 1, 0), (90, 0, 0, 86), (0, 1, 0, 0), (30, 0, 0, 0), (95, 0, 0, 106), (14, 0, 0, 112), (80, 12, 158, 52), (999, 0, 0, 0), (999, 0, 0, 0), (11, 0, 5, 0), (999, 0, 0, 0), (10, 0, 2, 0), (30, 0, 0, 0), (11, 0, 4, 0), (999, 0, 0, 0), (60, 14, 169, 0), (999, 0, 0, 0), (999, 0, 0, 0), (14, 0, 0, 112), (80, 12, 94, 31), (999, 0, 0, 0), (999, 0, 0, 0), (10, 0, 1, 0), (90, 0, 0, 86), (0, 1, 0, 0), (30, 0, 0, 0), (72, 12, 178, 0), (999, 0, 0, 0), (999, 0, 0, 0), (14, 0, 0, 112), (80, 12, 158, 52), (999, 0, 0, 0), (999, 0, 0, 0), (11, 0, 5, 0), (999, 0, 0, 0), (10, 0, 2, 0), (30, 0, 0, 0), (90, 0, 0, 107), (95, 0, 0, 107), (133, 0, 0, 0)]
def zu_M_accessShared : List (Nat × List Bool) := [(14, [true, true, true, true, true, true, true, false]), (80, [true, true, true, true, true, true, true, false]), (84, [true, true, true, true, true, true, true, false]), (85, [true, true, true, true, true, true, true, false]), (116, [true, true, true, true, true, true, true, false]), (121, [true, true, true, true, true, true, true, false]), (178, [false, false, false, false, false, false, false, false])]
set_option maxRecDepth 100000 in
theorem qg_M_accessShared_121 {ρ : Type} (kr : Int → zH → Option ρ) (r14 : Int → Int → Int → Int → Int → Int → zH → Option ρ) (a1 a2 a3 a4 a5 a6 t0 t1 : Int) (h : zH) : (zix 1152 t1 fun j1 =>
znar 1 t0 fun x2 =>
zlet (zset h 108 0 j1 x2) fun h3 =>
r14 a1 a2 a3 a4 a5 (wr (a6 + 1)) h3) = zseg zPP false (zcal []) (zget (999, 0, 0, 0) zc_M_accessShared) (zcut zu_M_accessShared) (zorc [(14, [some (112, some 0), some (0, none), some (0, none), some (0, none), some (0, none), some (0, none), some (0, none), none], [], fun xs h => match xs with
  | [a1, a2, a3, a4, a5, a6] => r14 a1 a2 a3 a4 a5 a6 h
  | _ => none)]) kr (fun _ _ => none) 400 121 [some (112, 0), some (0, a1), some (0, a2), some (0, a3), some (0, a4), some (0, a5), some (0, a6), none] [(0, t0), (0, t1), (208, 0)] h := by rfl
set_option maxRecDepth 100000 in
theorem qe_M_accessShared_121 {ρ : Type} (kr : Int → zH → Option ρ) (r14 : Int → Int → Int → Int → Int → Int → zH → Option ρ) (a1 a2 a3 a4 a5 a6 t0 t1 : Int) (h : zH) : M_accessShared_121 kr r14 a1 a2 a3 a4 a5 a6 t0 t1 h = zseg zPP false (zcal []) (zget (999, 0, 0, 0) zc_M_accessShared) (zcut zu_M_accessShared) (zorc [(14, [some (112, some 0), some (0, none), some (0, none), some (0, none), some (0, none), some (0, none), some (0, none), none], [], fun xs h => match xs with
  | [a1, a2, a3, a4, a5, a6] => r14 a1 a2 a3 a4 a5 a6 h
  | _ => none)]) kr (fun _ _ => none) 400 121 [some (112, 0), some (0, a1), some (0, a2), some (0, a3), some (0, a4), some (0, a5), some (0, a6), none] [(0, t0), (0, t1), (208, 0)] h := qg_M_accessShared_121 kr r14 a1 a2 a3 a4 a5 a6 t0 t1 h
set_option maxRecDepth 100000 in
theorem qg_M_accessShared_116 {ρ : Type} (kr : Int → zH → Option ρ) (r14 : Int → Int → Int → Int → Int → Int → zH → Option ρ) (c121 : Int → Int → Int → Int → Int → Int → Int → Int → zH → Option ρ) (a1 a2 a3 a4 a5 a6 t0 : Int) (h : zH) : (c121 a1 a2 a3 a4 a5 a6 1 t0 h) = zseg zPP false (zcal []) (zget (999, 0, 0, 0) zc_M_accessShared) (zcut zu_M_accessShared) (zorc [(121, [some (112, some 0), some (0, none), some (0, none), some (0, none), some (0, none), some (0, none), some (0, none), none], [(0, none), (0, none), (208, some 0)], fun xs h => match xs with
  | [a1, a2, a3, a4, a5, a6, t0, t1] => c121 a1 a2 a3 a4 a5 a6 t0 t1 h
  | _ => none)]) kr (fun _ _ => none) 400 116 [some (112, 0), some (0, a1), some (0, a2), some (0, a3), some (0, a4), some (0, a5), some (0, a6), none] [(0, t0), (208, 0)] h := by rfl
set_option maxRecDepth 100000 in
theorem qe_M_accessShared_116 {ρ : Type} (kr : Int → zH → Option ρ) (r14 : Int → Int → Int → Int → Int → Int → zH → Option ρ) (a1 a2 a3 a4 a5 a6 t0 : Int) (h : zH) : M_accessShared_116 kr r14 a1 a2 a3 a4 a5 a6 t0 h = zseg zPP false (zcal []) (zget (999, 0, 0, 0) zc_M_accessShared) (zcut zu_M_accessShared) (zorc [(121, [some (112, some 0), some (0, none), some (0, none), some (0, none), some (0, none), some (0, none), some (0, none), none], [(0, none), (0, none), (208, some 0)], fun xs h => match xs with
  | [a1, a2, a3, a4, a5, a6, t0, t1] => M_accessShared_121 kr r14 a1 a2 a3 a4 a5 a6 t0 t1 h
  | _ => none)]) kr (fun _ _ => none) 400 116 [some (112, 0), some (0, a1), some (0, a2), some (0, a3), some (0, a4), some (0, a5), some (0, a6), none] [(0, t0), (208, 0)] h := qg_M_accessShared_116 kr r14 (M_accessShared_121 kr r14) a1 a2 a3 a4 a5 a6 t0 h
set_option maxRecDepth 100000 in
theorem qg_M_accessShared_85 {ρ : Type} (kr : Int → zH → Option ρ) (r14 : Int → Int → Int → Int → Int → Int → zH → Option ρ) (c116 : Int → Int → Int → Int → Int → Int → Int → zH → Option ρ) (c121 : Int → Int → Int → Int → Int → Int → Int → Int → zH → Option ρ) (a1 a2 a3 a4 a5 a6 t0 : Int) (h : zH) : (zix 1152 (wr ((wr (16 * a1)) + a3)) fun j1 =>
if (zhD h 108 0 j1) = 0 then (if t0 = 0 then c121 a1 a2 a3 a4 a5 a6 0 (wr ((wr (16 * a1)) + a3)) h
else c116 a1 a2 a3 a4 a5 a6 (wr ((wr (16 * a1)) + a3)) h)
else c116 a1 a2 a3 a4 a5 a6 (wr ((wr (16 * a1)) + a3)) h) = zseg zPP false (zcal []) (zget (999, 0, 0, 0) zc_M_accessShared) (zcut zu_M_accessShared) (zorc [(116, [some (112, some 0), some (0, none), some (0, none), some (0, none), some (0, none), some (0, none), some (0, none), none], [(0, none), (208, some 0)], fun xs h => match xs with
  | [a1, a2, a3, a4, a5, a6, t0] => c116 a1 a2 a3 a4 a5 a6 t0 h
  | _ => none), (121, [some (112, some 0), some (0, none), some (0, none), some (0, none), some (0, none), some (0, none), some (0, none), none], [(0, none), (0, none), (208, some 0)], fun xs h => match xs with
  | [a1, a2, a3, a4, a5, a6, t0, t1] => c121 a1 a2 a3 a4 a5 a6 t0 t1 h
  | _ => none)]) kr (fun _ _ => none) 400 85 [some (112, 0), some (0, a1), some (0, a2), some (0, a3), some (0, a4), some (0, a5), some (0, a6), none] [(0, t0)] h := by rfl
set_option maxRecDepth 100000 in
theorem qe_M_accessShared_85 {ρ : Type} (kr : Int → zH → Option ρ) (r14 : Int → Int → Int → Int → Int → Int → zH → Option ρ) (a1 a2 a3 a4 a5 a6 t0 : Int) (h : zH) : M_accessShared_85 kr r14 a1 a2 a3 a4 a5 a6 t0 h = zseg zPP false (zcal []) (zget (999, 0, 0, 0) zc_M_accessShared) (zcut zu_M_accessShared) (zorc [(116, [some (112, some 0), some (0, none), some (0, none), some (0, none), some (0, none), some (0, none), some (0, none), none], [(0, none), (208, some 0)], fun xs h => match xs with
  | [a1, a2, a3, a4, a5, a6, t0] => M_accessShared_116 kr r14 a1 a2 a3 a4 a5 a6 t0 h
  | _ => none), (121, [some (112, some 0), some (0, none), some (0, none), some (0, none), some (0, none), some (0, none), some (0, none), none], [(0, none), (0, none), (208, some 0)], fun xs h => match xs with
  | [a1, a2, a3, a4, a5, a6, t0, t1] => M_accessShared_121 kr r14 a1 a2 a3 a4 a5 a6 t0 t1 h
  | _ => none)]) kr (fun _ _ => none) 400 85 [some (112, 0), some (0, a1), some (0, a2), some (0, a3), some (0, a4), some (0, a5), some (0, a6), none] [(0, t0)] h := qg_M_accessShared_85 kr r14 (M_accessShared_116 kr r14) (M_accessShared_121 kr r14) a1 a2 a3 a4 a5 a6 t0 h
set_option maxRecDepth 100000 in
theorem qg_M_accessShared_80 {ρ : Type} (kr : Int → zH → Option ρ) (r14 : Int → Int → Int → Int → Int → Int → zH → Option ρ) (c85 : Int → Int → Int → Int → Int → Int → Int → zH → Option ρ) (a1 a2 a3 a4 a5 a6 : Int) (h : zH) : (c85 a1 a2 a3 a4 a5 a6 1 h) = zseg zPP false (zcal []) (zget (999, 0, 0, 0) zc_M_accessShared) (zcut zu_M_accessShared) (zorc [(85, [some (112, some 0), some (0, none), some (0, none), some (0, none), some (0, none), some (0, none), some (0, none), none], [(0, none)], fun xs h => match xs with
  | [a1, a2, a3, a4, a5, a6, t0] => c85 a1 a2 a3 a4 a5 a6 t0 h
  | _ => none)]) kr (fun _ _ => none) 400 80 [some (112, 0), some (0, a1), some (0, a2), some (0, a3), some (0, a4), some (0, a5), some (0, a6), none] [] h := by rfl
set_option maxRecDepth 100000 in
theorem qe_M_accessShared_80 {ρ : Type} (kr : Int → zH → Option ρ) (r14 : Int → Int → Int → Int → Int → Int → zH → Option ρ) (a1 a2 a3 a4 a5 a6 : Int) (h : zH) : M_accessShared_80 kr r14 a1 a2 a3 a4 a5 a6 h = zseg zPP false (zcal []) (zget (999, 0, 0, 0) zc_M_accessShared) (zcut zu_M_accessShared) (zorc [(85, [some (112, some 0), some (0, none), some (0, none), some (0, none), some (0, none), some (0, none), some (0, none), none], [(0, none)], fun xs h => match xs with
  | [a1, a2, a3, a4, a5, a6, t0] => M_accessShared_85 kr r14 a1 a2 a3 a4 a5 a6 t0 h
  | _ => none)]) kr (fun _ _ => none) 400 80 [some (112, 0), some (0, a1), some (0, a2), some (0, a3), some (0, a4), some (0, a5), some (0, a6), none] [] h := qg_M_accessShared_80 kr r14 (M_accessShared_85 kr r14) a1 a2 a3 a4 a5 a6 h
set_option maxRecDepth 100000 in
theorem qg_M_accessShared_84 {ρ : Type} (kr : Int → zH → Option ρ) (r14 : Int → Int → Int → Int → Int → Int → zH → Option ρ) (c85 : Int → Int → Int → Int → Int → Int → Int → zH → Option ρ) (a1 a2 a3 a4 a5 a6 : Int) (h : zH) : (c85 a1 a2 a3 a4 a5 a6 0 h) = zseg zPP false (zcal []) (zget (999, 0, 0, 0) zc_M_accessShared) (zcut zu_M_accessShared) (zorc [(85, [some (112, some 0), some (0, none), some (0, none), some (0, none), some (0, none), some (0, none), some (0, none), none], [(0, none)], fun xs h => match xs with
  | [a1, a2, a3, a4, a5, a6, t0] => c85 a1 a2 a3 a4 a5 a6 t0 h
  | _ => none)]) kr (fun _ _ => none) 400 84 [some (112, 0), some (0, a1), some (0, a2), some (0, a3), some (0, a4), some (0, a5), some (0, a6), none] [] h := by rfl
set_option maxRecDepth 100000 in
theorem qe_M_accessShared_84 {ρ : Type} (kr : Int → zH → Option ρ) (r14 : Int → Int → Int → Int → Int → Int → zH → Option ρ) (a1 a2 a3 a4 a5 a6 : Int) (h : zH) : M_accessShared_84 kr r14 a1 a2 a3 a4 a5 a6 h = zseg zPP false (zcal []) (zget (999, 0, 0, 0) zc_M_accessShared) (zcut zu_M_accessShared) (zorc [(85, [some (112, some 0), some (0, none), some (0, none), some (0, none), some (0, none), some (0, none), some (0, none), none], [(0, none)], fun xs h => match xs with
  | [a1, a2, a3, a4, a5, a6, t0] => M_accessShared_85 kr r14 a1 a2 a3 a4 a5 a6 t0 h
  | _ => none)]) kr (fun _ _ => none) 400 84 [some (112, 0), some (0, a1), some (0, a2), some (0, a3), some (0, a4), some (0, a5), some (0, a6), none] [] h := qg_M_accessShared_84 kr r14 (M_accessShared_85 kr r14) a1 a2 a3 a4 a5 a6 h
set_option maxRecDepth 100000 in
theorem qg_M_accessShared_178 {ρ : Type} (kr : Int → zH → Option ρ) (t0 t1 : Int) (h : zH) : (zix 18432 t1 fun j1 =>
zlet (zset h 107 0 j1 t0) fun h2 =>
kr 0 h2) = zseg zPP false (zcal []) (zget (999, 0, 0, 0) zc_M_accessShared) (zcut zu_M_accessShared) (zorc []) kr (fun _ _ => none) 400 178 [none, none, none, none, none, none, none, none] [(0, t0), (0, t1), (207, 0)] h := by rfl
set_option maxRecDepth 100000 in
theorem qe_M_accessShared_178 {ρ : Type} (kr : Int → zH → Option ρ) (t0 t1 : Int) (h : zH) : M_accessShared_178 kr t0 t1 h = zseg zPP false (zcal []) (zget (999, 0, 0, 0) zc_M_accessShared) (zcut zu_M_accessShared) (zorc []) kr (fun _ _ => none) 400 178 [none, none, none, none, none, none, none, none] [(0, t0), (0, t1), (207, 0)] h := qg_M_accessShared_178 kr t0 t1 h
set_option maxRecDepth 100000 in
theorem qg_M_accessShared_14b {ρ : Type} (kr : Int → zH → Option ρ) (r14 : Int → Int → Int → Int → Int → Int → zH → Option ρ) (c80 : Int → Int → Int → Int → Int → Int → zH → Option ρ) (c84 : Int → Int → Int → Int → Int → Int → zH → Option ρ) (c178 : Int → Int → zH → Option ρ) (a1 a2 a3 a4 a5 a6 : Int) (h : zH) : (zix 12 (wr (Int.tdiv a1 6)) fun j1 =>
if a6 < (zhD h 73 0 j1) then (if a6 = a2 then c84 a1 a2 a3 a4 a5 a6 h
else if a4 = 0 then (zix 18432 (wr (a5 + a6)) fun j7 =>
zix 72 a1 fun j8 =>
if (zhD h 86 0 j8) < (zhD h 107 0 j7) then c80 a1 a2 a3 a4 a5 a6 h
else c84 a1 a2 a3 a4 a5 a6 h)
else zix 18432 (wr (a5 + a6)) fun j9 =>
zix 72 a1 fun j10 =>
if (zhD h 86 0 j10) < (zhD h 106 0 j9) then c80 a1 a2 a3 a4 a5 a6 h
else c84 a1 a2 a3 a4 a5 a6 h)
else zix 72 a1 fun j2 =>
zix 18432 (wr (a5 + a2)) fun j3 =>
zlet (zset h 106 0 j3 (wr ((zhD h 86 0 j2) + 1))) fun h4 =>
if a4 = 0 then (zix 18432 (wr (a5 + a2)) fun j5 =>
c178 (zhD h4 107 0 j5) (wr (a5 + a2)) h4)
else zix 72 a1 fun j6 =>
c178 (wr ((zhD h4 86 0 j6) + 1)) (wr (a5 + a2)) h4) = zseg zPP false (zcal []) (zget (999, 0, 0, 0) zc_M_accessShared) (zcut zu_M_accessShared) (zorc [(80, [some (112, some 0), some (0, none), some (0, none), some (0, none), some (0, none), some (0, none), some (0, none), none], [], fun xs h => match xs with
  | [a1, a2, a3, a4, a5, a6] => c80 a1 a2 a3 a4 a5 a6 h
  | _ => none), (84, [some (112, some 0), some (0, none), some (0, none), some (0, none), some (0, none), some (0, none), some (0, none), none], [], fun xs h => match xs with
  | [a1, a2, a3, a4, a5, a6] => c84 a1 a2 a3 a4 a5 a6 h
  | _ => none), (178, [none, none, none, none, none, none, none, none], [(0, none), (0, none), (207, some 0)], fun xs h => match xs with
  | [t0, t1] => c178 t0 t1 h
  | _ => none)]) kr (fun _ _ => none) 400 14 [some (112, 0), some (0, a1), some (0, a2), some (0, a3), some (0, a4), some (0, a5), some (0, a6), none] [] h := by rfl
set_option maxRecDepth 100000 in
theorem qe_M_accessShared_14b {ρ : Type} (kr : Int → zH → Option ρ) (r14 : Int → Int → Int → Int → Int → Int → zH → Option ρ) (a1 a2 a3 a4 a5 a6 : Int) (h : zH) : M_accessShared_14b kr r14 a1 a2 a3 a4 a5 a6 h = zseg zPP false (zcal []) (zget (999, 0, 0, 0) zc_M_accessShared) (zcut zu_M_accessShared) (zorc [(80, [some (112, some 0), some (0, none), some (0, none), some (0, none), some (0, none), some (0, none), some (0, none), none], [], fun xs h => match xs with
  | [a1, a2, a3, a4, a5, a6] => M_accessShared_80 kr r14 a1 a2 a3 a4 a5 a6 h
  | _ => none), (84, [some (112, some 0), some (0, none), some (0, none), some (0, none), some (0, none), some (0, none), some (0, none), none], [], fun xs h => match xs with
  | [a1, a2, a3, a4, a5, a6] => M_accessShared_84 kr r14 a1 a2 a3 a4 a5 a6 h
  | _ => none), (178, [none, none, none, none, none, none, none, none], [(0, none), (0, none), (207, some 0)], fun xs h => match xs with
  | [t0, t1] => M_accessShared_178 kr t0 t1 h
  | _ => none)]) kr (fun _ _ => none) 400 14 [some (112, 0), some (0, a1), some (0, a2), some (0, a3), some (0, a4), some (0, a5), some (0, a6), none] [] h := qg_M_accessShared_14b kr r14 (M_accessShared_80 kr r14) (M_accessShared_84 kr r14) (M_accessShared_178 kr) a1 a2 a3 a4 a5 a6 h
set_option maxRecDepth 100000 in
theorem qg_M_accessShared {ρ : Type} (kr : Int → zH → Option ρ) (c14 : Int → Int → Int → Int → Int → Int → zH → Option ρ) (a1 a2 a3 a4 : Int) (h : zH) : (c14 a1 a2 a3 a4 (wr (16 * (wr ((wr (16 * a1)) + a3)))) 0 h) = zseg zPP false (zcal []) (zget (999, 0, 0, 0) zc_M_accessShared) (zcut zu_M_accessShared) (zorc [(14, [some (112, some 0), some (0, none), some (0, none), some (0, none), some (0, none), some (0, none), some (0, none), none], [], fun xs h => match xs with
  | [a1, a2, a3, a4, a5, a6] => c14 a1 a2 a3 a4 a5 a6 h
  | _ => none)]) kr (fun _ _ => none) 400 0 [some (112, 0), some (0, a1), some (0, a2), some (0, a3), some (0, a4), none, none, none] [] h := by rfl
set_option maxRecDepth 100000 in
theorem qe_M_accessShared {ρ : Type} (kr : Int → zH → Option ρ) (a1 a2 a3 a4 : Int) (h : zH) : M_accessShared a1 a2 a3 a4 h kr = zseg zPP false (zcal []) (zget (999, 0, 0, 0) zc_M_accessShared) (zcut zu_M_accessShared) (zorc [(14, [some (112, some 0), some (0, none), some (0, none), some (0, none), some (0, none), some (0, none), some (0, none), none], [], fun xs h => match xs with
  | [a1, a2, a3, a4, a5, a6] => M_accessShared_14 kr a1 a2 a3 a4 a5 a6 h
  | _ => none)]) kr (fun _ _ => none) 400 0 [some (112, 0), some (0, a1), some (0, a2), some (0, a3), some (0, a4), none, none, none] [] h := qg_M_accessShared kr (M_accessShared_14 kr) a1 a2 a3 a4 h
