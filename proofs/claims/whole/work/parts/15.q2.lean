def zc_Th_set : List zI := [(10, 0, 1, 0), (62, 19, 20, 0), (999, 0, 0, 0), (999, 0, 0, 0), (10, 0, 1, 0), (14, 0, 0, 106), (80, 6, 21, 1), (999, 0, 0, 0), (999, 0, 0, 0), (100, 0, 0, 32), (69, 10, 20, 0), (999, 0, 0, 0), (999, 0, 0, 0), (14, 0, 0, 106), (80, 6, 21, 1), (999, 0, 0, 0), (999, 0, 0, 0), (10, 0, 1, 0), (10, 0, 2, 0), (95, 0, 0, 32), (133, 0, 0, 0)]
def zu_Th_set : List (Nat × List Bool) := [(20, [false, false, false])]
set_option maxRecDepth 100000 in
theorem qe_Th_set_20 {ρ : Type} (kr : Int → zH → Option ρ) (h : zH) : Th_set_20 kr h = zseg zPP true (zcal []) (zget (999, 0, 0, 0) zc_Th_set) (zcut zu_Th_set) (zorc []) kr (fun _ _ => none) 400 20 [none, none, none] [] h := by rfl
set_option maxRecDepth 100000 in
theorem qe_Th_set {ρ : Type} (kr : Int → zH → Option ρ) (a0 a1 a2 : Int) (h : zH) : Th_set a0 a1 a2 h kr = zseg zPP true (zcal []) (zget (999, 0, 0, 0) zc_Th_set) (zcut zu_Th_set) (zorc [(20, [none, none, none], [], fun xs h => match xs with
  | [] => Th_set_20 kr h
  | _ => none)]) kr (fun _ _ => none) 400 0 [some (106, a0), some (0, a1), some (0, a2)] [] h := by rfl
def zc_X_exchange_22 : List zI := [(14, 0, 0, 122), (10, 0, 1, 0), (90, 0, 0, 22), (17, 0, 4, 0), (999, 0, 0, 0), (14, 0, 2, 106), (14, 0, 3, 108), (80, 8, 305, 3), (999, 0, 0, 0), (999, 0, 0, 0), (110, 0, 217, 258), (999, 0, 0, 0), (999, 0, 0, 0), (17, 0, 5, 0), (999, 0, 0, 0), (14, 0, 0, 122), (10, 0, 1, 0), (14, 0, 3, 108), (80, 8, 308, 0), (999, 0, 0, 0), (999, 0, 0, 0), (1, 97, 0, 0), (999, 0, 0, 0), (67, 11, 34, 0), (999, 0, 0, 0), (999, 0, 0, 0), (11, 0, 4, 0), (999, 0, 0, 0), (11, 0, 5, 0), (999, 0, 0, 0), (30, 0, 0, 0), (72, 5, 36, 0), (999, 0, 0, 0), (999, 0, 0, 0), (11, 0, 5, 0), (999, 0, 0, 0), (95, 0, 0, 22), (14, 0, 2, 106), (14, 0, 3, 108), (80, 8, 311, 1), (999, 0, 0, 0), (999, 0, 0, 0), (11, 0, 4, 0), (999, 0, 0, 0), (110, 0, 314, 259), (999, 0, 0, 0), (999, 0, 0, 0), (133, 0, 0, 0)]
def zu_X_exchange_22 : List (Nat × List Bool) := [(36, [false, false, true, true, true, false])]
set_option maxRecDepth 100000 in
theorem qe_X_exchange_22_36 {ρ : Type} (kr : Int → zH → Option ρ) (a2 a3 a4 t0 t1 t2 : Int) (h : zH) : X_exchange_22_36 kr a2 a3 a4 t0 t1 t2 h = zseg zPP true (zcal [(259, [none, none, none], fun xs h kr kt => match xs with
  | [x0, x1, x2] => Th_set x0 x1 x2 h kr
  | _ => none)]) (zget (999, 0, 0, 0) zc_X_exchange_22) (zcut zu_X_exchange_22) (zorc []) kr (fun _ _ => none) 400 36 [none, none, some (106, a2), some (108, a3), some (0, a4), none] [(0, t0), (0, t1), (122, t2)] h := by rfl
set_option maxRecDepth 100000 in
theorem qe_X_exchange_22 {ρ : Type} (kr : Int → zH → Option ρ) (a0 a1 a2 a3 : Int) (h : zH) : X_exchange_22 a0 a1 a2 a3 h kr = zseg zPP true (zcal [(258, [none, none], fun xs h kr kt => match xs with
  | [x0, x1] => Th_at x0 x1 h kr
  | _ => none)]) (zget (999, 0, 0, 0) zc_X_exchange_22) (zcut zu_X_exchange_22) (zorc [(36, [none, none, some (106, none), some (108, none), some (0, none), none], [(0, none), (0, none), (122, none)], fun xs h => match xs with
  | [a2, a3, a4, t0, t1, t2] => X_exchange_22_36 kr a2 a3 a4 t0 t1 t2 h
  | _ => none)]) kr (fun _ _ => none) 400 0 [some (122, a0), some (0, a1), some (106, a2), some (108, a3), none, none] [] h := by rfl
def zc_X_isClash : List zI := [(10, 0, 2, 0), (60, 11, 12, 0), (999, 0, 0, 0), (999, 0, 0, 0), (10, 0, 0, 0), (4, 65535, 304, 0), (999, 0, 0, 0), (999, 0, 0, 0), (36, 0, 0, 0), (72, 7, 16, 0), (999, 0, 0, 0), (999, 0, 0, 0), (10, 0, 0, 0), (1, 16, 0, 0), (999, 0, 0, 0), (41, 0, 0, 0), (16, 0, 3, 0), (10, 0, 3, 0), (0, 1, 0, 0), (10, 0, 1, 0), (39, 0, 0, 0), (0, (-1), 0, 0), (38, 0, 0, 0), (36, 0, 0, 0), (60, 7, 31, 0), (999, 0, 0, 0), (999, 0, 0, 0), (0, 1, 0, 0), (72, 4, 32, 0), (999, 0, 0, 0), (999, 0, 0, 0), (0, 0, 0, 0), (130, 0, 1, 0)]
def zu_X_isClash : List (Nat × List Bool) := [(16, [false, true, false, false]), (32, [false, false, false, false])]
set_option maxRecDepth 100000 in
theorem qe_X_isClash_32 {ρ : Type} (kr : Int → zH → Option ρ) (t0 : Int) (h : zH) : X_isClash_32 kr t0 h = zseg zPP true (zcal []) (zget (999, 0, 0, 0) zc_X_isClash) (zcut zu_X_isClash) (zorc []) kr (fun _ _ => none) 400 32 [none, none, none, none] [(0, t0)] h := by rfl
set_option maxRecDepth 100000 in
theorem qe_X_isClash_16 {ρ : Type} (kr : Int → zH → Option ρ) (a1 t0 : Int) (h : zH) : X_isClash_16 kr a1 t0 h = zseg zPP true (zcal []) (zget (999, 0, 0, 0) zc_X_isClash) (zcut zu_X_isClash) (zorc [(32, [none, none, none, none], [(0, none)], fun xs h => match xs with
  | [t0] => X_isClash_32 kr t0 h
  | _ => none)]) kr (fun _ _ => none) 400 16 [none, some (0, a1), none, none] [(0, t0)] h := by rfl
set_option maxRecDepth 100000 in
theorem qe_X_isClash {ρ : Type} (kr : Int → zH → Option ρ) (a0 a1 a2 : Int) (h : zH) : X_isClash a0 a1 a2 h kr = zseg zPP true (zcal []) (zget (999, 0, 0, 0) zc_X_isClash) (zcut zu_X_isClash) (zorc [(16, [none, some (0, none), none, none], [(0, none)], fun xs h => match xs with
  | [a1, t0] => X_isClash_16 kr a1 t0 h
  | _ => none)]) kr (fun _ _ => none) 400 0 [some (0, a0), some (0, a1), some (0, a2), none] [] h := by rfl
def zc_X_withTouch : List zI := [(10, 0, 0, 0), (0, 1, 0, 0), (10, 0, 1, 0), (39, 0, 0, 0), (37, 0, 0, 0), (16, 0, 3, 0), (10, 0, 2, 0), (60, 14, 21, 0), (999, 0, 0, 0), (999, 0, 0, 0), (10, 0, 3, 0), (0, 1, 0, 0), (1, 16, 0, 0), (999, 0, 0, 0), (10, 0, 1, 0), (30, 0, 0, 0), (39, 0, 0, 0), (37, 0, 0, 0), (72, 4, 22, 0), (999, 0, 0, 0), (999, 0, 0, 0), (10, 0, 3, 0), (130, 0, 0, 0)]
def zu_X_withTouch : List (Nat × List Bool) := [(22, [false, false, false, false])]
set_option maxRecDepth 100000 in
theorem qe_X_withTouch_22 {ρ : Type} (kr : Int → zH → Option ρ) (t0 : Int) (h : zH) : X_withTouch_22 kr t0 h = zseg zPP true (zcal []) (zget (999, 0, 0, 0) zc_X_withTouch) (zcut zu_X_withTouch) (zorc []) kr (fun _ _ => none) 400 22 [none, none, none, none] [(0, t0)] h := by rfl
set_option maxRecDepth 100000 in
theorem qe_X_withTouch {ρ : Type} (kr : Int → zH → Option ρ) (a0 a1 a2 : Int) (h : zH) : X_withTouch a0 a1 a2 h kr = zseg zPP true (zcal []) (zget (999, 0, 0, 0) zc_X_withTouch) (zcut zu_X_withTouch) (zorc [(22, [none, none, none, none], [(0, none)], fun xs h => match xs with
  | [t0] => X_withTouch_22 kr t0 h
  | _ => none)]) kr (fun _ _ => none) 400 0 [some (0, a0), some (0, a1), some (0, a2), none] [] h := by rfl
def zc_La_markRace : List zI := [(14, 0, 0, 109), (80, 9, 19, 17), (999, 0, 0, 0), (999, 0, 0, 0), (10, 0, 1, 0), (91, 0, 0, 35), (61, 20, 26, 0), (999, 0, 0, 0), (999, 0, 0, 0), (14, 0, 0, 109), (80, 9, 19, 17), (999, 0, 0, 0), (999, 0, 0, 0), (10, 0, 1, 0), (0, 1, 0, 0), (96, 0, 0, 35), (14, 0, 0, 109), (50, 0, 0, 0), (80, 9, 72, 18), (999, 0, 0, 0), (999, 0, 0, 0), (0, 1, 0, 0), (30, 0, 0, 0), (82, 9, 72, 18), (999, 0, 0, 0), (999, 0, 0, 0), (133, 0, 0, 0)]
def zu_La_markRace : List (Nat × List Bool) := [(26, [false, false])]
set_option maxRecDepth 100000 in
theorem qe_La_markRace_26 {ρ : Type} (kr : Int → zH → Option ρ) (h : zH) : La_markRace_26 kr h = zseg zPP true (zcal []) (zget (999, 0, 0, 0) zc_La_markRace) (zcut zu_La_markRace) (zorc []) kr (fun _ _ => none) 400 26 [none, none] [] h := by rfl
set_option maxRecDepth 100000 in
theorem qe_La_markRace {ρ : Type} (kr : Int → zH → Option ρ) (a0 a1 : Int) (h : zH) : La_markRace a0 a1 h kr = zseg zPP true (zcal []) (zget (999, 0, 0, 0) zc_La_markRace) (zcut zu_La_markRace) (zorc [(26, [none, none], [], fun xs h => match xs with
  | [] => La_markRace_26 kr h
  | _ => none)]) kr (fun _ _ => none) 400 0 [some (109, a0), some (0, a1)] [] h := by rfl
def zc_Bl_touchGlobal : List zI := [(14, 0, 0, 110), (80, 10, 9, 5), (999, 0, 0, 0), (999, 0, 0, 0), (10, 0, 2, 0), (90, 0, 0, 39), (10, 0, 1, 0), (10, 0, 3, 0), (114, 0, 104, 58), (999, 0, 0, 0), (999, 0, 0, 0), (61, 23, 34, 0), (999, 0, 0, 0), (999, 0, 0, 0), (14, 0, 0, 110), (80, 10, 15, 0), (999, 0, 0, 0), (999, 0, 0, 0), (80, 9, 108, 16), (999, 0, 0, 0), (999, 0, 0, 0), (10, 0, 2, 0), (90, 0, 0, 34), (14, 0, 0, 110), (80, 10, 19, 1), (999, 0, 0, 0), (999, 0, 0, 0), (10, 0, 3, 0), (114, 0, 104, 58), (999, 0, 0, 0), (999, 0, 0, 0), (60, 11, 42, 0), (999, 0, 0, 0), (999, 0, 0, 0), (14, 0, 0, 110), (80, 10, 15, 0), (999, 0, 0, 0), (999, 0, 0, 0), (10, 0, 2, 0), (110, 0, 109, 238), (999, 0, 0, 0), (999, 0, 0, 0), (14, 0, 0, 110), (80, 10, 9, 5), (999, 0, 0, 0), (999, 0, 0, 0), (10, 0, 2, 0), (14, 0, 0, 110), (80, 10, 9, 5), (999, 0, 0, 0), (999, 0, 0, 0), (10, 0, 2, 0), (90, 0, 0, 39), (10, 0, 1, 0), (10, 0, 3, 0), (114, 0, 113, 59), (999, 0, 0, 0), (999, 0, 0, 0), (95, 0, 0, 39), (14, 0, 0, 110), (80, 10, 15, 0), (999, 0, 0, 0), (999, 0, 0, 0), (80, 9, 108, 16), (999, 0, 0, 0), (999, 0, 0, 0), (10, 0, 2, 0), (14, 0, 0, 110), (80, 10, 15, 0), (999, 0, 0, 0), (999, 0, 0, 0), (80, 9, 108, 16), (999, 0, 0, 0), (999, 0, 0, 0), (10, 0, 2, 0), (90, 0, 0, 34), (14, 0, 0, 110), (80, 10, 19, 1), (999, 0, 0, 0), (999, 0, 0, 0), (10, 0, 3, 0), (114, 0, 113, 59), (999, 0, 0, 0), (999, 0, 0, 0), (95, 0, 0, 34), (133, 0, 0, 0)]
def zu_Bl_touchGlobal : List (Nat × List Bool) := [(34, [true, true, true, true]), (42, [true, true, true, true])]
set_option maxRecDepth 100000 in
theorem qe_Bl_touchGlobal_42 {ρ : Type} (kr : Int → zH → Option ρ) (a0 a1 a2 a3 : Int) (h : zH) : Bl_touchGlobal_42 kr a0 a1 a2 a3 h = zseg zPP true (zcal [(59, [none, none, none], fun xs h kr kt => match xs with
  | [x0, x1, x2] => X_withTouch x0 x1 x2 h kr
  | _ => none)]) (zget (999, 0, 0, 0) zc_Bl_touchGlobal) (zcut zu_Bl_touchGlobal) (zorc []) kr (fun _ _ => none) 400 42 [some (110, a0), some (0, a1), some (0, a2), some (0, a3)] [] h := by rfl
set_option maxRecDepth 100000 in
theorem qe_Bl_touchGlobal_34 {ρ : Type} (kr : Int → zH → Option ρ) (a0 a1 a2 a3 : Int) (h : zH) : Bl_touchGlobal_34 kr a0 a1 a2 a3 h = zseg zPP true (zcal [(238, [none, none], fun xs h kr kt => match xs with
  | [x0, x1] => La_markRace x0 x1 h kr
  | _ => none)]) (zget (999, 0, 0, 0) zc_Bl_touchGlobal) (zcut zu_Bl_touchGlobal) (zorc [(42, [some (110, none), some (0, none), some (0, none), some (0, none)], [], fun xs h => match xs with
  | [a0, a1, a2, a3] => Bl_touchGlobal_42 kr a0 a1 a2 a3 h
  | _ => none)]) kr (fun _ _ => none) 400 34 [some (110, a0), some (0, a1), some (0, a2), some (0, a3)] [] h := by rfl
set_option maxRecDepth 100000 in
theorem qe_Bl_touchGlobal {ρ : Type} (kr : Int → zH → Option ρ) (a0 a1 a2 a3 : Int) (h : zH) : Bl_touchGlobal a0 a1 a2 a3 h kr = zseg zPP true (zcal [(58, [none, none, none], fun xs h kr kt => match xs with
  | [x0, x1, x2] => X_isClash x0 x1 x2 h kr
  | _ => none)]) (zget (999, 0, 0, 0) zc_Bl_touchGlobal) (zcut zu_Bl_touchGlobal) (zorc [(34, [some (110, none), some (0, none), some (0, none), some (0, none)], [], fun xs h => match xs with
  | [a0, a1, a2, a3] => Bl_touchGlobal_34 kr a0 a1 a2 a3 h
  | _ => none), (42, [some (110, none), some (0, none), some (0, none), some (0, none)], [], fun xs h => match xs with
  | [a0, a1, a2, a3] => Bl_touchGlobal_42 kr a0 a1 a2 a3 h
  | _ => none)]) kr (fun _ _ => none) 400 0 [some (110, a0), some (0, a1), some (0, a2), some (0, a3)] [] h := by rfl
def zc_Gr_isBufferFull : List zI := [(14, 0, 0, 111), (80, 11, 67, 5), (999, 0, 0, 0), (999, 0, 0, 0), (0, 4, 0, 0), (68, 7, 12, 0), (999, 0, 0, 0), (999, 0, 0, 0), (0, 1, 0, 0), (72, 4, 13, 0), (999, 0, 0, 0), (999, 0, 0, 0), (0, 0, 0, 0), (130, 0, 1, 0)]
def zu_Gr_isBufferFull : List (Nat × List Bool) := [(13, [false])]
set_option maxRecDepth 100000 in
theorem qe_Gr_isBufferFull_13 {ρ : Type} (kr : Int → zH → Option ρ) (t0 : Int) (h : zH) : Gr_isBufferFull_13 kr t0 h = zseg zPP true (zcal []) (zget (999, 0, 0, 0) zc_Gr_isBufferFull) (zcut zu_Gr_isBufferFull) (zorc []) kr (fun _ _ => none) 400 13 [none] [(0, t0)] h := by rfl
set_option maxRecDepth 100000 in
theorem qe_Gr_isBufferFull {ρ : Type} (kr : Int → zH → Option ρ) (a0 : Int) (h : zH) : Gr_isBufferFull a0 h kr = zseg zPP true (zcal []) (zget (999, 0, 0, 0) zc_Gr_isBufferFull) (zcut zu_Gr_isBufferFull) (zorc [(13, [none], [(0, none)], fun xs h => match xs with
  | [t0] => Gr_isBufferFull_13 kr t0 h
  | _ => none)]) kr (fun _ _ => none) 400 0 [some (111, a0)] [] h := by rfl
def zc_Gr_putWrite : List zI := [(14, 0, 0, 111), (110, 0, 70, 212), (999, 0, 0, 0), (999, 0, 0, 0), (61, 33, 37, 0), (999, 0, 0, 0), (999, 0, 0, 0), (14, 0, 0, 111), (80, 11, 11, 3), (999, 0, 0, 0), (999, 0, 0, 0), (14, 0, 0, 111), (80, 11, 67, 5), (999, 0, 0, 0), (999, 0, 0, 0), (10, 0, 1, 0), (95, 0, 0, 43), (14, 0, 0, 111), (80, 11, 15, 4), (999, 0, 0, 0), (999, 0, 0, 0), (14, 0, 0, 111), (80, 11, 67, 5), (999, 0, 0, 0), (999, 0, 0, 0), (10, 0, 2, 0), (95, 0, 0, 44), (14, 0, 0, 111), (50, 0, 0, 0), (80, 11, 67, 5), (999, 0, 0, 0), (999, 0, 0, 0), (0, 1, 0, 0), (30, 0, 0, 0), (82, 11, 67, 5), (999, 0, 0, 0), (999, 0, 0, 0), (133, 0, 0, 0)]
def zu_Gr_putWrite : List (Nat × List Bool) := [(37, [false, false, false])]
set_option maxRecDepth 100000 in
theorem qe_Gr_putWrite_37 {ρ : Type} (kr : Int → zH → Option ρ) (h : zH) : Gr_putWrite_37 kr h = zseg zPP true (zcal []) (zget (999, 0, 0, 0) zc_Gr_putWrite) (zcut zu_Gr_putWrite) (zorc []) kr (fun _ _ => none) 400 37 [none, none, none] [] h := by rfl
set_option maxRecDepth 100000 in
theorem qe_Gr_putWrite {ρ : Type} (kr : Int → zH → Option ρ) (a0 a1 a2 : Int) (h : zH) : Gr_putWrite a0 a1 a2 h kr = zseg zPP true (zcal [(212, [none], fun xs h kr kt => match xs with
  | [x0] => Gr_isBufferFull x0 h kr
  | _ => none)]) (zget (999, 0, 0, 0) zc_Gr_putWrite) (zcut zu_Gr_putWrite) (zorc [(37, [none, none, none], [], fun xs h => match xs with
  | [] => Gr_putWrite_37 kr h
  | _ => none)]) kr (fun _ _ => none) 400 0 [some (111, a0), some (0, a1), some (0, a2)] [] h := by rfl
def zc_Gr_seenIn : List zI := [(14, 0, 0, 111), (80, 11, 67, 5), (999, 0, 0, 0), (999, 0, 0, 0), (0, 1, 0, 0), (31, 0, 0, 0), (16, 0, 3, 0), (10, 0, 3, 0), (62, 26, 34, 0), (999, 0, 0, 0), (999, 0, 0, 0), (14, 0, 0, 111), (80, 11, 11, 3), (999, 0, 0, 0), (999, 0, 0, 0), (10, 0, 3, 0), (90, 0, 0, 43), (10, 0, 1, 0), (67, 10, 28, 0), (999, 0, 0, 0), (999, 0, 0, 0), (14, 0, 0, 111), (80, 11, 15, 4), (999, 0, 0, 0), (999, 0, 0, 0), (10, 0, 3, 0), (90, 0, 0, 44), (130, 0, 0, 0), (22, (-1), 3, 0), (999, 0, 0, 0), (999, 0, 0, 0), (72, (-24), 7, 0), (999, 0, 0, 0), (999, 0, 0, 0), (14, 0, 2, 122), (10, 0, 1, 0), (90, 0, 0, 22), (130, 0, 0, 0)]
def zu_Gr_seenIn : List (Nat × List Bool) := [(7, [true, true, true, true])]
set_option maxRecDepth 100000 in
theorem qe_Gr_seenIn_7b {ρ : Type} (kr : Int → zH → Option ρ) (r7 : Int → Int → Int → Int → zH → Option ρ) (a0 a1 a2 a3 : Int) (h : zH) : Gr_seenIn_7b kr r7 a0 a1 a2 a3 h = zseg zPP true (zcal []) (zget (999, 0, 0, 0) zc_Gr_seenIn) (zcut zu_Gr_seenIn) (zorc [(7, [some (111, none), some (0, none), some (122, none), some (0, none)], [], fun xs h => match xs with
  | [a0, a1, a2, a3] => r7 a0 a1 a2 a3 h
  | _ => none)]) kr (fun _ _ => none) 400 7 [some (111, a0), some (0, a1), some (122, a2), some (0, a3)] [] h := by rfl
set_option maxRecDepth 100000 in
theorem qe_Gr_seenIn {ρ : Type} (kr : Int → zH → Option ρ) (a0 a1 a2 : Int) (h : zH) : Gr_seenIn a0 a1 a2 h kr = zseg zPP true (zcal []) (zget (999, 0, 0, 0) zc_Gr_seenIn) (zcut zu_Gr_seenIn) (zorc [(7, [some (111, none), some (0, none), some (122, none), some (0, none)], [], fun xs h => match xs with
  | [a0, a1, a2, a3] => Gr_seenIn_7 kr a0 a1 a2 a3 h
  | _ => none)]) kr (fun _ _ => none) 400 0 [some (111, a0), some (0, a1), some (122, a2), none] [] h := by rfl
def zc_Co_carryGlobal : List zI := [(10, 0, 2, 0), (114, 0, 272, 55), (999, 0, 0, 0), (999, 0, 0, 0), (61, 6, 10, 0), (999, 0, 0, 0), (999, 0, 0, 0), (1, 103, 0, 0), (999, 0, 0, 0), (130, 0, 2, 0), (14, 0, 1, 111), (80, 11, 66, 0), (999, 0, 0, 0), (999, 0, 0, 0), (14, 0, 3, 106), (80, 6, 180, 0), (999, 0, 0, 0), (999, 0, 0, 0), (10, 0, 2, 0), (15, 0, 4, 108), (999, 0, 0, 0), (80, 8, 245, 0), (999, 0, 0, 0), (999, 0, 0, 0), (1, 119, 0, 0), (999, 0, 0, 0), (67, 7, 33, 0), (999, 0, 0, 0), (999, 0, 0, 0), (0, 1, 0, 0), (72, 4, 34, 0), (999, 0, 0, 0), (999, 0, 0, 0), (0, 0, 0, 0), (110, 0, 276, 176), (999, 0, 0, 0), (999, 0, 0, 0), (15, 0, 4, 108), (999, 0, 0, 0), (80, 8, 245, 0), (999, 0, 0, 0), (999, 0, 0, 0), (1, 114, 0, 0), (999, 0, 0, 0), (67, 24, 68, 0), (999, 0, 0, 0), (999, 0, 0, 0), (14, 0, 3, 106), (15, 0, 4, 108), (999, 0, 0, 0), (80, 8, 248, 1), (999, 0, 0, 0), (999, 0, 0, 0), (14, 0, 1, 111), (10, 0, 2, 0), (14, 0, 0, 102), (80, 2, 9, 1), (999, 0, 0, 0), (999, 0, 0, 0), (110, 0, 280, 215), (999, 0, 0, 0), (999, 0, 0, 0), (110, 0, 251, 259), (999, 0, 0, 0), (999, 0, 0, 0), (72, 66, 131, 0), (999, 0, 0, 0), (999, 0, 0, 0), (15, 0, 4, 108), (999, 0, 0, 0), (80, 8, 245, 0), (999, 0, 0, 0), (999, 0, 0, 0), (1, 119, 0, 0), (999, 0, 0, 0), (67, 45, 120, 0), (999, 0, 0, 0), (999, 0, 0, 0), (14, 0, 1, 111), (110, 0, 284, 212), (999, 0, 0, 0), (999, 0, 0, 0), (60, 21, 103, 0), (999, 0, 0, 0), (999, 0, 0, 0), (14, 0, 1, 111), (14, 0, 0, 102), (80, 2, 9, 1), (999, 0, 0, 0), (999, 0, 0, 0), (110, 0, 137, 216), (999, 0, 0, 0), (999, 0, 0, 0), (14, 0, 0, 102), (50, 0, 0, 0), (80, 2, 231, 10), (999, 0, 0, 0), (999, 0, 0, 0), (0, 1, 0, 0), (30, 0, 0, 0), (82, 2, 231, 10), (999, 0, 0, 0), (999, 0, 0, 0), (14, 0, 1, 111), (10, 0, 2, 0), (14, 0, 3, 106), (15, 0, 4, 108), (999, 0, 0, 0), (80, 8, 218, 2), (999, 0, 0, 0), (999, 0, 0, 0), (110, 0, 214, 258), (999, 0, 0, 0), (999, 0, 0, 0), (110, 0, 287, 214), (999, 0, 0, 0), (999, 0, 0, 0), (72, 14, 131, 0), (999, 0, 0, 0), (999, 0, 0, 0), (14, 0, 0, 102), (80, 2, 9, 1), (999, 0, 0, 0), (999, 0, 0, 0), (10, 0, 2, 0), (14, 0, 3, 106), (15, 0, 4, 108), (999, 0, 0, 0), (114, 0, 290, 60), (999, 0, 0, 0), (999, 0, 0, 0), (1, 45, 0, 0), (999, 0, 0, 0), (130, 0, 2, 0)]
def zu_Co_carryGlobal : List (Nat × List Bool) := [(34, [true, true, true, true, true]), (103, [false, true, true, true, true]), (131, [false, false, false, false, false])]
set_option maxRecDepth 100000 in
theorem qe_Co_carryGlobal_131 {ρ : Type} (kr : Int → zH → Option ρ) (h : zH) : Co_carryGlobal_131 kr h = zseg zPP true (zcal []) (zget (999, 0, 0, 0) zc_Co_carryGlobal) (zcut zu_Co_carryGlobal) (zorc []) kr (fun _ _ => none) 400 131 [none, none, none, none, none] [] h := by rfl
set_option maxRecDepth 100000 in
theorem qe_Co_carryGlobal_103 {ρ : Type} (kr : Int → zH → Option ρ) (a1 a2 a3 a4 : Int) (h : zH) : Co_carryGlobal_103 kr a1 a2 a3 a4 h = zseg zPP true (zcal [(214, [none, none, none], fun xs h kr kt => match xs with
  | [x0, x1, x2] => Gr_putWrite x0 x1 x2 h kr
  | _ => none), (258, [none, none], fun xs h kr kt => match xs with
  | [x0, x1] => Th_at x0 x1 h kr
  | _ => none)]) (zget (999, 0, 0, 0) zc_Co_carryGlobal) (zcut zu_Co_carryGlobal) (zorc [(131, [none, none, none, none, none], [], fun xs h => match xs with
  | [] => Co_carryGlobal_131 kr h
  | _ => none)]) kr (fun _ _ => none) 400 103 [none, some (111, a1), some (0, a2), some (106, a3), some (108, a4)] [] h := by rfl
set_option maxRecDepth 100000 in
theorem qe_Co_carryGlobal_34 {ρ : Type} (kr : Int → zH → Option ρ) (a0 a1 a2 a3 a4 t0 t1 t2 t3 : Int) (h : zH) : Co_carryGlobal_34 kr a0 a1 a2 a3 a4 t0 t1 t2 t3 h = zseg zPP true (zcal [(60, [none, none, none, none], fun xs h kr kt => match xs with
  | [x0, x1, x2, x3] => X_exchange_22 x0 x1 x2 x3 h kr
  | _ => none), (176, [none, none, none, none], fun xs h kr kt => match xs with
  | [x0, x1, x2, x3] => Bl_touchGlobal x0 x1 x2 x3 h kr
  | _ => none), (212, [none], fun xs h kr kt => match xs with
  | [x0] => Gr_isBufferFull x0 h kr
  | _ => none), (215, [none, none, none], fun xs h kr kt => match xs with
  | [x0, x1, x2] => Gr_seenIn x0 x1 x2 h kr
  | _ => none), (216, [none, none], fun xs h kr kt => match xs with
  | [x0, x1] => Gr_writeFirst x0 x1 h kr
  | _ => none), (259, [none, none, none], fun xs h kr kt => match xs with
  | [x0, x1, x2] => Th_set x0 x1 x2 h kr
  | _ => none)]) (zget (999, 0, 0, 0) zc_Co_carryGlobal) (zcut zu_Co_carryGlobal) (zorc [(103, [none, some (111, none), some (0, none), some (106, none), some (108, none)], [], fun xs h => match xs with
  | [a1, a2, a3, a4] => Co_carryGlobal_103 kr a1 a2 a3 a4 h
  | _ => none), (131, [none, none, none, none, none], [], fun xs h => match xs with
  | [] => Co_carryGlobal_131 kr h
  | _ => none)]) kr (fun _ _ => none) 400 34 [some (102, a0), some (111, a1), some (0, a2), some (106, a3), some (108, a4)] [(0, t0), (0, t1), (0, t2), (110, t3)] h := by rfl
set_option maxRecDepth 100000 in
theorem qe_Co_carryGlobal {ρ : Type} (kr : Int → zH → Option ρ) (a0 a1 a2 a3 a4 : Int) (h : zH) : Co_carryGlobal a0 a1 a2 a3 a4 h kr = zseg zPP true (zcal [(55, [none], fun xs h kr kt => match xs with
  | [x0] => X_isCell x0 h kr
  | _ => none)]) (zget (999, 0, 0, 0) zc_Co_carryGlobal) (zcut zu_Co_carryGlobal) (zorc [(34, [some (102, none), some (111, none), some (0, none), some (106, none), some (108, none)], [(0, none), (0, none), (0, none), (110, none)], fun xs h => match xs with
  | [a0, a1, a2, a3, a4, t0, t1, t2, t3] => Co_carryGlobal_34 kr a0 a1 a2 a3 a4 t0 t1 t2 t3 h
  | _ => none)]) kr (fun _ _ => none) 400 0 [some (102, a0), some (111, a1), some (0, a2), some (106, a3), some (108, a4)] [] h := by rfl
def zc_Bl_hasShared : List zI := [(10, 0, 1, 0), (0, 0, 0, 0), (14, 0, 0, 110), (80, 10, 64, 4), (999, 0, 0, 0), (999, 0, 0, 0), (100, 0, 0, 38), (0, 1, 0, 0), (31, 0, 0, 0), (114, 0, 82, 54), (999, 0, 0, 0), (999, 0, 0, 0), (130, 0, 1, 0)]
def zu_Bl_hasShared : List (Nat × List Bool) := []
set_option maxRecDepth 100000 in
theorem qe_Bl_hasShared {ρ : Type} (kr : Int → zH → Option ρ) (a0 a1 : Int) (h : zH) : Bl_hasShared a0 a1 h kr = zseg zPP true (zcal [(54, [none, none, none], fun xs h kr kt => match xs with
  | [x0, x1, x2] => X_isWithin x0 x1 x2 h kr
  | _ => none)]) (zget (999, 0, 0, 0) zc_Bl_hasShared) (zcut zu_Bl_hasShared) (zorc []) kr (fun _ _ => none) 400 0 [some (110, a0), some (0, a1)] [] h := by rfl
def zc_Bl_touchShared : List zI := [(14, 0, 0, 110), (80, 10, 66, 6), (999, 0, 0, 0), (999, 0, 0, 0), (10, 0, 2, 0), (90, 0, 0, 40), (10, 0, 1, 0), (10, 0, 3, 0), (114, 0, 104, 58), (999, 0, 0, 0), (999, 0, 0, 0), (60, 32, 43, 0), (999, 0, 0, 0), (999, 0, 0, 0), (14, 0, 0, 110), (80, 10, 69, 7), (999, 0, 0, 0), (999, 0, 0, 0), (10, 0, 2, 0), (91, 0, 0, 41), (61, 23, 43, 0), (999, 0, 0, 0), (999, 0, 0, 0), (14, 0, 0, 110), (80, 10, 69, 7), (999, 0, 0, 0), (999, 0, 0, 0), (10, 0, 2, 0), (0, 1, 0, 0), (96, 0, 0, 41), (14, 0, 0, 110), (80, 10, 15, 0), (999, 0, 0, 0), (999, 0, 0, 0), (50, 0, 0, 0), (80, 9, 117, 18), (999, 0, 0, 0), (999, 0, 0, 0), (0, 1, 0, 0), (30, 0, 0, 0), (82, 9, 117, 18), (999, 0, 0, 0), (999, 0, 0, 0), (14, 0, 0, 110), (80, 10, 66, 6), (999, 0, 0, 0), (999, 0, 0, 0), (10, 0, 2, 0), (14, 0, 0, 110), (80, 10, 66, 6), (999, 0, 0, 0), (999, 0, 0, 0), (10, 0, 2, 0), (90, 0, 0, 40), (10, 0, 1, 0), (10, 0, 3, 0), (114, 0, 113, 59), (999, 0, 0, 0), (999, 0, 0, 0), (95, 0, 0, 40), (133, 0, 0, 0)]
def zu_Bl_touchShared : List (Nat × List Bool) := [(43, [true, true, true, true])]
set_option maxRecDepth 100000 in
theorem qe_Bl_touchShared_43 {ρ : Type} (kr : Int → zH → Option ρ) (a0 a1 a2 a3 : Int) (h : zH) : Bl_touchShared_43 kr a0 a1 a2 a3 h = zseg zPP true (zcal [(59, [none, none, none], fun xs h kr kt => match xs with
  | [x0, x1, x2] => X_withTouch x0 x1 x2 h kr
  | _ => none)]) (zget (999, 0, 0, 0) zc_Bl_touchShared) (zcut zu_Bl_touchShared) (zorc []) kr (fun _ _ => none) 400 43 [some (110, a0), some (0, a1), some (0, a2), some (0, a3)] [] h := by rfl
set_option maxRecDepth 100000 in
theorem qe_Bl_touchShared {ρ : Type} (kr : Int → zH → Option ρ) (a0 a1 a2 a3 : Int) (h : zH) : Bl_touchShared a0 a1 a2 a3 h kr = zseg zPP true (zcal [(58, [none, none, none], fun xs h kr kt => match xs with
  | [x0, x1, x2] => X_isClash x0 x1 x2 h kr
  | _ => none)]) (zget (999, 0, 0, 0) zc_Bl_touchShared) (zcut zu_Bl_touchShared) (zorc [(43, [some (110, none), some (0, none), some (0, none), some (0, none)], [], fun xs h => match xs with
  | [a0, a1, a2, a3] => Bl_touchShared_43 kr a0 a1 a2 a3 h
  | _ => none)]) kr (fun _ _ => none) 400 0 [some (110, a0), some (0, a1), some (0, a2), some (0, a3)] [] h := by rfl
def zc_Co_carryShared : List zI := [(14, 0, 0, 110), (10, 0, 1, 0), (110, 0, 294, 171), (999, 0, 0, 0), (999, 0, 0, 0), (61, 6, 11, 0), (999, 0, 0, 0), (999, 0, 0, 0), (1, 115, 0, 0), (999, 0, 0, 0), (130, 0, 2, 0), (14, 0, 0, 110), (14, 0, 2, 106), (80, 6, 180, 0), (999, 0, 0, 0), (999, 0, 0, 0), (10, 0, 1, 0), (14, 0, 3, 108), (80, 8, 245, 0), (999, 0, 0, 0), (999, 0, 0, 0), (1, 87, 0, 0), (999, 0, 0, 0), (67, 7, 30, 0), (999, 0, 0, 0), (999, 0, 0, 0), (0, 1, 0, 0), (72, 4, 31, 0), (999, 0, 0, 0), (999, 0, 0, 0), (0, 0, 0, 0), (110, 0, 297, 177), (999, 0, 0, 0), (999, 0, 0, 0), (14, 0, 3, 108), (80, 8, 245, 0), (999, 0, 0, 0), (999, 0, 0, 0), (1, 82, 0, 0), (999, 0, 0, 0), (67, 20, 60, 0), (999, 0, 0, 0), (999, 0, 0, 0), (14, 0, 2, 106), (14, 0, 3, 108), (80, 8, 248, 1), (999, 0, 0, 0), (999, 0, 0, 0), (14, 0, 0, 110), (80, 10, 300, 4), (999, 0, 0, 0), (999, 0, 0, 0), (10, 0, 1, 0), (90, 0, 0, 38), (110, 0, 251, 259), (999, 0, 0, 0), (999, 0, 0, 0), (72, 17, 74, 0), (999, 0, 0, 0), (999, 0, 0, 0), (14, 0, 0, 110), (80, 10, 300, 4), (999, 0, 0, 0), (999, 0, 0, 0), (10, 0, 1, 0), (14, 0, 2, 106), (14, 0, 3, 108), (80, 8, 218, 2), (999, 0, 0, 0), (999, 0, 0, 0), (110, 0, 214, 258), (999, 0, 0, 0), (999, 0, 0, 0), (95, 0, 0, 38), (1, 45, 0, 0), (999, 0, 0, 0), (130, 0, 2, 0)]
def zu_Co_carryShared : List (Nat × List Bool) := [(31, [true, true, true, true]), (74, [false, false, false, false])]
set_option maxRecDepth 100000 in
theorem qe_Co_carryShared_74 {ρ : Type} (kr : Int → zH → Option ρ) (h : zH) : Co_carryShared_74 kr h = zseg zPP true (zcal []) (zget (999, 0, 0, 0) zc_Co_carryShared) (zcut zu_Co_carryShared) (zorc []) kr (fun _ _ => none) 400 74 [none, none, none, none] [] h := by rfl
set_option maxRecDepth 100000 in
theorem qe_Co_carryShared_31 {ρ : Type} (kr : Int → zH → Option ρ) (a0 a1 a2 a3 t0 t1 t2 t3 : Int) (h : zH) : Co_carryShared_31 kr a0 a1 a2 a3 t0 t1 t2 t3 h = zseg zPP true (zcal [(177, [none, none, none, none], fun xs h kr kt => match xs with
  | [x0, x1, x2, x3] => Bl_touchShared x0 x1 x2 x3 h kr
  | _ => none), (258, [none, none], fun xs h kr kt => match xs with
  | [x0, x1] => Th_at x0 x1 h kr
  | _ => none), (259, [none, none, none], fun xs h kr kt => match xs with
  | [x0, x1, x2] => Th_set x0 x1 x2 h kr
  | _ => none)]) (zget (999, 0, 0, 0) zc_Co_carryShared) (zcut zu_Co_carryShared) (zorc [(74, [none, none, none, none], [], fun xs h => match xs with
  | [] => Co_carryShared_74 kr h
  | _ => none)]) kr (fun _ _ => none) 400 31 [some (110, a0), some (0, a1), some (106, a2), some (108, a3)] [(0, t0), (0, t1), (0, t2), (110, t3)] h := by rfl
set_option maxRecDepth 100000 in
theorem qe_Co_carryShared {ρ : Type} (kr : Int → zH → Option ρ) (a0 a1 a2 a3 : Int) (h : zH) : Co_carryShared a0 a1 a2 a3 h kr = zseg zPP true (zcal [(171, [none, none], fun xs h kr kt => match xs with
  | [x0, x1] => Bl_hasShared x0 x1 h kr
  | _ => none)]) (zget (999, 0, 0, 0) zc_Co_carryShared) (zcut zu_Co_carryShared) (zorc [(31, [some (110, none), some (0, none), some (106, none), some (108, none)], [(0, none), (0, none), (0, none), (110, none)], fun xs h => match xs with
  | [a0, a1, a2, a3, t0, t1, t2, t3] => Co_carryShared_31 kr a0 a1 a2 a3 t0 t1 t2 t3 h
  | _ => none)]) kr (fun _ _ => none) 400 0 [some (110, a0), some (0, a1), some (106, a2), some (108, a3)] [] h := by rfl
def zc_La_depth : List zI := [(0, 0, 0, 0), (16, 0, 1, 0), (14, 0, 0, 109), (80, 9, 37, 4), (999, 0, 0, 0), (999, 0, 0, 0), (20, 0, 2, 109), (14, 0, 2, 109), (73, 20, 28, 0), (999, 0, 0, 0), (999, 0, 0, 0), (10, 0, 1, 0), (1, 12, 0, 0), (999, 0, 0, 0), (69, 14, 28, 0), (999, 0, 0, 0), (999, 0, 0, 0), (22, 1, 1, 0), (999, 0, 0, 0), (999, 0, 0, 0), (14, 0, 2, 109), (80, 9, 37, 4), (999, 0, 0, 0), (999, 0, 0, 0), (20, 0, 2, 109), (72, (-18), 7, 0), (999, 0, 0, 0), (999, 0, 0, 0), (10, 0, 1, 0), (130, 0, 0, 0)]
def zu_La_depth : List (Nat × List Bool) := [(7, [false, true, true]), (28, [false, true, false])]
set_option maxRecDepth 100000 in
theorem qe_La_depth_28 {ρ : Type} (kr : Int → zH → Option ρ) (a1 : Int) (h : zH) : La_depth_28 kr a1 h = zseg zPP true (zcal []) (zget (999, 0, 0, 0) zc_La_depth) (zcut zu_La_depth) (zorc []) kr (fun _ _ => none) 400 28 [none, some (0, a1), none] [] h := by rfl
set_option maxRecDepth 100000 in
theorem qe_La_depth_7b {ρ : Type} (kr : Int → zH → Option ρ) (r7 : Int → Int → zH → Option ρ) (a1 a2 : Int) (h : zH) : La_depth_7b kr r7 a1 a2 h = zseg zPP true (zcal []) (zget (999, 0, 0, 0) zc_La_depth) (zcut zu_La_depth) (zorc [(7, [none, some (0, none), some (109, none)], [], fun xs h => match xs with
  | [a1, a2] => r7 a1 a2 h
  | _ => none), (28, [none, some (0, none), none], [], fun xs h => match xs with
  | [a1] => La_depth_28 kr a1 h
  | _ => none)]) kr (fun _ _ => none) 400 7 [none, some (0, a1), some (109, a2)] [] h := by rfl
set_option maxRecDepth 100000 in
theorem qe_La_depth {ρ : Type} (kr : Int → zH → Option ρ) (a0 : Int) (h : zH) : La_depth a0 h kr = zseg zPP true (zcal []) (zget (999, 0, 0, 0) zc_La_depth) (zcut zu_La_depth) (zorc [(7, [none, some (0, none), some (109, none)], [], fun xs h => match xs with
  | [a1, a2] => La_depth_7 kr a1 a2 h
  | _ => none)]) kr (fun _ _ => none) 400 0 [some (109, a0), none, none] [] h := by rfl
def zc_Le_launchChild : List zI := [(14, 0, 0, 101), (10, 0, 2, 0), (110, 0, 55, 240), (999, 0, 0, 0), (999, 0, 0, 0), (21, 0, 4, 107), (999, 0, 0, 0), (15, 0, 4, 107), (999, 0, 0, 0), (73, 29, 38, 0), (999, 0, 0, 0), (999, 0, 0, 0), (15, 0, 4, 107), (999, 0, 0, 0), (10, 0, 3, 0), (110, 0, 59, 227), (999, 0, 0, 0), (999, 0, 0, 0), (60, 20, 38, 0), (999, 0, 0, 0), (999, 0, 0, 0), (14, 0, 0, 101), (80, 1, 31, 3), (999, 0, 0, 0), (999, 0, 0, 0), (1, 12, 0, 0), (999, 0, 0, 0), (69, 11, 38, 0), (999, 0, 0, 0), (999, 0, 0, 0), (14, 0, 1, 109), (110, 0, 63, 236), (999, 0, 0, 0), (999, 0, 0, 0), (0, 2, 0, 0), (68, 5, 40, 0), (999, 0, 0, 0), (999, 0, 0, 0), (0, 0, 0, 0), (130, 0, 1, 0), (14, 0, 0, 101), (103, 0, 17, 9), (999, 0, 0, 0), (999, 0, 0, 0), (50, 0, 0, 0), (14, 0, 0, 101), (80, 1, 31, 3), (999, 0, 0, 0), (999, 0, 0, 0), (0, (-1), 0, 0), (7, 0, 0, 109), (7, 0, 0, 109), (14, 0, 1, 109), (115, 0, 45, 228), (999, 0, 0, 0), (999, 0, 0, 0), (110, 0, 48, 244), (999, 0, 0, 0), (999, 0, 0, 0), (15, 0, 4, 107), (999, 0, 0, 0), (0, 1, 0, 0), (10, 0, 3, 0), (110, 0, 67, 229), (999, 0, 0, 0), (999, 0, 0, 0), (0, 1, 0, 0), (130, 0, 1, 0)]
def zu_Le_launchChild : List (Nat × List Bool) := [(38, [false, false, false, false, false])]
set_option maxRecDepth 100000 in
theorem qe_Le_launchChild_38 {ρ : Type} (kr : Int → zH → Option ρ) (h : zH) : Le_launchChild_38 kr h = zseg zPP true (zcal []) (zget (999, 0, 0, 0) zc_Le_launchChild) (zcut zu_Le_launchChild) (zorc []) kr (fun _ _ => none) 400 38 [none, none, none, none, none] [] h := by rfl
set_option maxRecDepth 100000 in
theorem qe_Le_launchChild {ρ : Type} (kr : Int → zH → Option ρ) (a0 a1 a2 a3 : Int) (h : zH) : Le_launchChild a0 a1 a2 a3 h kr = zseg zPP true (zcal [(227, [none, none], fun xs h kr kt => match xs with
  | [x0, x1] => Ke_blocksInUnit x0 x1 h kr
  | _ => none), (228, [none, none, none, none, none, none], fun xs h kr kt => match xs with
  | [x0, x1, x2, x3, x4, x5] => La_init x0 x1 x2 x3 x4 x5 h kr
  | _ => none), (229, [none, none, none, none], fun xs h kr kt => match xs with
  | [x0, x1, x2, x3] => La_useKernel x0 x1 x2 x3 h kr
  | _ => none), (236, [none], fun xs h kr kt => match xs with
  | [x0] => La_depth x0 h kr
  | _ => none), (240, [none, none], fun xs h kr kt => match xs with
  | [x0, x1] => Le_kernelOf x0 x1 h kr
  | _ => none), (244, [none, none], fun xs h kr kt => match xs with
  | [x0, x1] => Le_enter x0 x1 h kr
  | _ => none)]) (zget (999, 0, 0, 0) zc_Le_launchChild) (zcut zu_Le_launchChild) (zorc [(38, [none, none, none, none, none], [], fun xs h => match xs with
  | [] => Le_launchChild_38 kr h
  | _ => none)]) kr (fun _ _ => none) 400 0 [some (101, a0), some (109, a1), some (0, a2), some (0, a3), none] [] h := by rfl
def zc_Co_carryChild : List zI := [(14, 0, 0, 102), (80, 2, 39, 0), (999, 0, 0, 0), (999, 0, 0, 0), (14, 0, 1, 109), (14, 0, 3, 108), (80, 8, 218, 2), (999, 0, 0, 0), (999, 0, 0, 0), (14, 0, 2, 106), (14, 0, 3, 108), (80, 8, 255, 3), (999, 0, 0, 0), (999, 0, 0, 0), (110, 0, 214, 258), (999, 0, 0, 0), (999, 0, 0, 0), (110, 0, 303, 246), (999, 0, 0, 0), (999, 0, 0, 0), (17, 0, 4, 0), (999, 0, 0, 0), (11, 0, 4, 0), (999, 0, 0, 0), (61, 16, 40, 0), (999, 0, 0, 0), (999, 0, 0, 0), (14, 0, 0, 102), (80, 2, 25, 3), (999, 0, 0, 0), (999, 0, 0, 0), (50, 0, 0, 0), (80, 4, 307, 7), (999, 0, 0, 0), (999, 0, 0, 0), (0, 1, 0, 0), (30, 0, 0, 0), (82, 4, 307, 7), (999, 0, 0, 0), (999, 0, 0, 0), (14, 0, 2, 106), (14, 0, 3, 108), (80, 8, 248, 1), (999, 0, 0, 0), (999, 0, 0, 0), (11, 0, 4, 0), (999, 0, 0, 0), (60, 7, 54, 0), (999, 0, 0, 0), (999, 0, 0, 0), (0, 1, 0, 0), (72, 4, 55, 0), (999, 0, 0, 0), (999, 0, 0, 0), (0, 0, 0, 0), (110, 0, 251, 259), (999, 0, 0, 0), (999, 0, 0, 0), (133, 0, 0, 0)]
def zu_Co_carryChild : List (Nat × List Bool) := [(40, [false, false, true, true, true]), (55, [false, false, false, false, false])]
set_option maxRecDepth 100000 in
theorem qe_Co_carryChild_55 {ρ : Type} (kr : Int → zH → Option ρ) (t0 t1 t2 : Int) (h : zH) : Co_carryChild_55 kr t0 t1 t2 h = zseg zPP true (zcal [(259, [none, none, none], fun xs h kr kt => match xs with
  | [x0, x1, x2] => Th_set x0 x1 x2 h kr
  | _ => none)]) (zget (999, 0, 0, 0) zc_Co_carryChild) (zcut zu_Co_carryChild) (zorc []) kr (fun _ _ => none) 400 55 [none, none, none, none, none] [(0, t0), (0, t1), (106, t2)] h := by rfl
set_option maxRecDepth 100000 in
theorem qe_Co_carryChild_40 {ρ : Type} (kr : Int → zH → Option ρ) (a2 a3 a4 : Int) (h : zH) : Co_carryChild_40 kr a2 a3 a4 h = zseg zPP true (zcal []) (zget (999, 0, 0, 0) zc_Co_carryChild) (zcut zu_Co_carryChild) (zorc [(55, [none, none, none, none, none], [(0, none), (0, none), (106, none)], fun xs h => match xs with
  | [t0, t1, t2] => Co_carryChild_55 kr t0 t1 t2 h
  | _ => none)]) kr (fun _ _ => none) 400 40 [none, none, some (106, a2), some (108, a3), some (0, a4)] [] h := by rfl
set_option maxRecDepth 100000 in
theorem qe_Co_carryChild {ρ : Type} (kr : Int → zH → Option ρ) (a0 a1 a2 a3 : Int) (h : zH) : Co_carryChild a0 a1 a2 a3 h kr = zseg zPP true (zcal [(246, [none, none, none, none], fun xs h kr kt => match xs with
  | [x0, x1, x2, x3] => Le_launchChild x0 x1 x2 x3 h kr
  | _ => none), (258, [none, none], fun xs h kr kt => match xs with
  | [x0, x1] => Th_at x0 x1 h kr
  | _ => none)]) (zget (999, 0, 0, 0) zc_Co_carryChild) (zcut zu_Co_carryChild) (zorc [(40, [none, none, some (106, none), some (108, none), some (0, none)], [], fun xs h => match xs with
  | [a2, a3, a4] => Co_carryChild_40 kr a2 a3 a4 h
  | _ => none)]) kr (fun _ _ => none) 400 0 [some (102, a0), some (109, a1), some (106, a2), some (108, a3), none] [] h := by rfl
def zc_Th_reckon : List zI := [(14, 0, 1, 108), (80, 8, 42, 0), (999, 0, 0, 0), (999, 0, 0, 0), (77, 0, 1, 0), (999, 0, 0, 0), (999, 0, 0, 0), (999, 0, 0, 0), (999, 0, 0, 0), (999, 0, 0, 0), (999, 0, 0, 0), (999, 0, 0, 0), (999, 0, 0, 0), (999, 0, 0, 0), (999, 0, 0, 0), (999, 0, 0, 0), (999, 0, 0, 0), (999, 0, 0, 0), (999, 0, 0, 0), (999, 0, 0, 0), (999, 0, 0, 0), (999, 0, 0, 0), (999, 0, 0, 0), (999, 0, 0, 0), (999, 0, 0, 0), (999, 0, 0, 0), (999, 0, 0, 0), (999, 0, 0, 0), (999, 0, 0, 0), (999, 0, 0, 0), (999, 0, 0, 0), (999, 0, 0, 0), (999, 0, 0, 0), (999, 0, 0, 0), (999, 0, 0, 0), (999, 0, 0, 0), (999, 0, 0, 0), (999, 0, 0, 0), (999, 0, 0, 0), (999, 0, 0, 0), (999, 0, 0, 0), (999, 0, 0, 0), (999, 0, 0, 0), (999, 0, 0, 0), (999, 0, 0, 0), (999, 0, 0, 0), (999, 0, 0, 0), (999, 0, 0, 0), (999, 0, 0, 0), (999, 0, 0, 0), (999, 0, 0, 0), (999, 0, 0, 0), (999, 0, 0, 0), (999, 0, 0, 0), (999, 0, 0, 0), (999, 0, 0, 0), (999, 0, 0, 0), (999, 0, 0, 0), (999, 0, 0, 0), (999, 0, 0, 0), (999, 0, 0, 0), (999, 0, 0, 0), (999, 0, 0, 0), (999, 0, 0, 0), (999, 0, 0, 0), (999, 0, 0, 0), (999, 0, 0, 0), (999, 0, 0, 0), (999, 0, 0, 0), (999, 0, 0, 0), (999, 0, 0, 0), (999, 0, 0, 0), (999, 0, 0, 0), (999, 0, 0, 0), (999, 0, 0, 0), (999, 0, 0, 0), (999, 0, 0, 0), (999, 0, 0, 0), (999, 0, 0, 0), (999, 0, 0, 0), (999, 0, 0, 0), (999, 0, 0, 0), (999, 0, 0, 0), (999, 0, 0, 0), (999, 0, 0, 0), (999, 0, 0, 0), (999, 0, 0, 0), (999, 0, 0, 0), (14, 0, 0, 106), (14, 0, 1, 108), (80, 8, 47, 1), (999, 0, 0, 0), (999, 0, 0, 0), (14, 0, 1, 108), (80, 8, 50, 2), (999, 0, 0, 0), (999, 0, 0, 0), (110, 0, 53, 259), (999, 0, 0, 0), (999, 0, 0, 0), (72, 204, 304, 0), (999, 0, 0, 0), (999, 0, 0, 0), (14, 0, 0, 106), (14, 0, 1, 108), (80, 8, 47, 1), (999, 0, 0, 0), (999, 0, 0, 0), (14, 0, 0, 106), (14, 0, 1, 108), (80, 8, 50, 2), (999, 0, 0, 0), (999, 0, 0, 0), (110, 0, 56, 258), (999, 0, 0, 0), (999, 0, 0, 0), (14, 0, 0, 106), (14, 0, 1, 108), (80, 8, 60, 3), (999, 0, 0, 0), (999, 0, 0, 0), (110, 0, 56, 258), (999, 0, 0, 0), (999, 0, 0, 0), (30, 0, 0, 0), (110, 0, 53, 259), (999, 0, 0, 0), (999, 0, 0, 0), (72, 176, 304, 0), (999, 0, 0, 0), (999, 0, 0, 0), (14, 0, 0, 106), (14, 0, 1, 108), (80, 8, 47, 1), (999, 0, 0, 0), (999, 0, 0, 0), (14, 0, 0, 106), (14, 0, 1, 108), (80, 8, 50, 2), (999, 0, 0, 0), (999, 0, 0, 0), (110, 0, 56, 258), (999, 0, 0, 0), (999, 0, 0, 0), (14, 0, 0, 106), (14, 0, 1, 108), (80, 8, 60, 3), (999, 0, 0, 0), (999, 0, 0, 0), (110, 0, 56, 258), (999, 0, 0, 0), (999, 0, 0, 0), (31, 0, 0, 0), (110, 0, 53, 259), (999, 0, 0, 0), (999, 0, 0, 0), (72, 148, 304, 0), (999, 0, 0, 0), (999, 0, 0, 0), (14, 0, 0, 106), (14, 0, 1, 108), (80, 8, 47, 1), (999, 0, 0, 0), (999, 0, 0, 0), (14, 0, 0, 106), (14, 0, 1, 108), (80, 8, 50, 2), (999, 0, 0, 0), (999, 0, 0, 0), (110, 0, 56, 258), (999, 0, 0, 0), (999, 0, 0, 0), (14, 0, 0, 106), (14, 0, 1, 108), (80, 8, 60, 3), (999, 0, 0, 0), (999, 0, 0, 0), (110, 0, 56, 258), (999, 0, 0, 0), (999, 0, 0, 0), (32, 0, 0, 0), (110, 0, 53, 259), (999, 0, 0, 0), (999, 0, 0, 0), (72, 120, 304, 0), (999, 0, 0, 0), (999, 0, 0, 0), (14, 0, 0, 106), (14, 0, 1, 108), (80, 8, 47, 1), (999, 0, 0, 0), (999, 0, 0, 0), (14, 0, 0, 106), (14, 0, 1, 108), (80, 8, 50, 2), (999, 0, 0, 0), (999, 0, 0, 0), (110, 0, 56, 258), (999, 0, 0, 0), (999, 0, 0, 0), (14, 0, 0, 106), (14, 0, 1, 108), (80, 8, 60, 3), (999, 0, 0, 0), (999, 0, 0, 0), (110, 0, 56, 258), (999, 0, 0, 0), (999, 0, 0, 0), (69, 7, 215, 0), (999, 0, 0, 0), (999, 0, 0, 0), (0, 1, 0, 0), (72, 4, 216, 0), (999, 0, 0, 0), (999, 0, 0, 0), (0, 0, 0, 0), (110, 0, 53, 259), (999, 0, 0, 0), (999, 0, 0, 0), (72, 85, 304, 0), (999, 0, 0, 0), (999, 0, 0, 0), (14, 0, 0, 106), (14, 0, 1, 108), (80, 8, 47, 1), (999, 0, 0, 0), (999, 0, 0, 0), (14, 0, 0, 106), (14, 0, 1, 108), (80, 8, 50, 2), (999, 0, 0, 0), (999, 0, 0, 0), (110, 0, 56, 258), (999, 0, 0, 0), (999, 0, 0, 0), (14, 0, 0, 106), (14, 0, 1, 108), (80, 8, 60, 3), (999, 0, 0, 0), (999, 0, 0, 0), (110, 0, 56, 258), (999, 0, 0, 0), (999, 0, 0, 0), (67, 7, 250, 0), (999, 0, 0, 0), (999, 0, 0, 0), (0, 1, 0, 0), (72, 4, 251, 0), (999, 0, 0, 0), (999, 0, 0, 0), (0, 0, 0, 0), (110, 0, 53, 259), (999, 0, 0, 0), (999, 0, 0, 0), (72, 50, 304, 0), (999, 0, 0, 0), (999, 0, 0, 0), (14, 0, 0, 106), (14, 0, 1, 108), (80, 8, 47, 1), (999, 0, 0, 0), (999, 0, 0, 0), (14, 0, 0, 106), (80, 6, 9, 0), (999, 0, 0, 0), (999, 0, 0, 0), (110, 0, 53, 259), (999, 0, 0, 0), (999, 0, 0, 0), (72, 35, 304, 0), (999, 0, 0, 0), (999, 0, 0, 0), (14, 0, 0, 106), (14, 0, 1, 108), (80, 8, 47, 1), (999, 0, 0, 0), (999, 0, 0, 0), (14, 0, 0, 106), (80, 6, 25, 2), (999, 0, 0, 0), (999, 0, 0, 0), (110, 0, 53, 259), (999, 0, 0, 0), (999, 0, 0, 0), (72, 20, 304, 0), (999, 0, 0, 0), (999, 0, 0, 0), (14, 0, 0, 106), (14, 0, 1, 108), (80, 8, 47, 1), (999, 0, 0, 0), (999, 0, 0, 0), (14, 0, 0, 106), (80, 6, 9, 0), (999, 0, 0, 0), (999, 0, 0, 0), (0, 4, 0, 0), (34, 0, 0, 0), (110, 0, 53, 259), (999, 0, 0, 0), (999, 0, 0, 0), (72, 3, 304, 0), (999, 0, 0, 0), (999, 0, 0, 0), (133, 0, 0, 0)]
def zu_Th_reckon : List (Nat × List Bool) := [(216, [false, false]), (251, [false, false]), (304, [false, false])]
set_option maxRecDepth 100000 in
theorem qe_Th_reckon_304 {ρ : Type} (kr : Int → zH → Option ρ) (h : zH) : Th_reckon_304 kr h = zseg zPP true (zcal []) (zget (999, 0, 0, 0) zc_Th_reckon) (zcut zu_Th_reckon) (zorc []) kr (fun _ _ => none) 400 304 [none, none] [] h := by rfl
set_option maxRecDepth 100000 in
theorem qe_Th_reckon_216 {ρ : Type} (kr : Int → zH → Option ρ) (t0 t1 t2 : Int) (h : zH) : Th_reckon_216 kr t0 t1 t2 h = zseg zPP true (zcal [(259, [none, none, none], fun xs h kr kt => match xs with
  | [x0, x1, x2] => Th_set x0 x1 x2 h kr
  | _ => none)]) (zget (999, 0, 0, 0) zc_Th_reckon) (zcut zu_Th_reckon) (zorc [(304, [none, none], [], fun xs h => match xs with
  | [] => Th_reckon_304 kr h
  | _ => none)]) kr (fun _ _ => none) 400 216 [none, none] [(0, t0), (0, t1), (106, t2)] h := by rfl
set_option maxRecDepth 100000 in
theorem qe_Th_reckon_251 {ρ : Type} (kr : Int → zH → Option ρ) (t0 t1 t2 : Int) (h : zH) : Th_reckon_251 kr t0 t1 t2 h = zseg zPP true (zcal [(259, [none, none, none], fun xs h kr kt => match xs with
  | [x0, x1, x2] => Th_set x0 x1 x2 h kr
  | _ => none)]) (zget (999, 0, 0, 0) zc_Th_reckon) (zcut zu_Th_reckon) (zorc [(304, [none, none], [], fun xs h => match xs with
  | [] => Th_reckon_304 kr h
  | _ => none)]) kr (fun _ _ => none) 400 251 [none, none] [(0, t0), (0, t1), (106, t2)] h := by rfl
set_option maxRecDepth 100000 in
theorem qe_Th_reckon {ρ : Type} (kr : Int → zH → Option ρ) (a0 a1 : Int) (h : zH) : Th_reckon a0 a1 h kr = zseg zPP true (zcal [(258, [none, none], fun xs h kr kt => match xs with
  | [x0, x1] => Th_at x0 x1 h kr
  | _ => none), (259, [none, none, none], fun xs h kr kt => match xs with
  | [x0, x1, x2] => Th_set x0 x1 x2 h kr
  | _ => none)]) (zget (999, 0, 0, 0) zc_Th_reckon) (zcut zu_Th_reckon) (zorc [(216, [none, none], [(0, none), (0, none), (106, none)], fun xs h => match xs with
  | [t0, t1, t2] => Th_reckon_216 kr t0 t1 t2 h
  | _ => none), (251, [none, none], [(0, none), (0, none), (106, none)], fun xs h => match xs with
  | [t0, t1, t2] => Th_reckon_251 kr t0 t1 t2 h
  | _ => none), (304, [none, none], [], fun xs h => match xs with
  | [] => Th_reckon_304 kr h
  | _ => none)]) kr (fun _ _ => none) 400 0 [some (106, a0), some (108, a1)] [] h := by rfl
def zc_Co_carryLane : List zI := [(15, 0, 4, 108), (999, 0, 0, 0), (8, 2, 234, 0), (999, 0, 0, 0), (110, 0, 223, 219), (999, 0, 0, 0), (999, 0, 0, 0), (60, 18, 25, 0), (999, 0, 0, 0), (999, 0, 0, 0), (14, 0, 0, 102), (14, 0, 1, 111), (14, 0, 0, 102), (80, 2, 33, 6), (999, 0, 0, 0), (999, 0, 0, 0), (10, 0, 2, 0), (90, 0, 0, 24), (14, 0, 3, 106), (15, 0, 4, 108), (999, 0, 0, 0), (110, 0, 236, 189), (999, 0, 0, 0), (999, 0, 0, 0), (130, 0, 2, 0), (15, 0, 4, 108), (999, 0, 0, 0), (8, 3, 239, 0), (999, 0, 0, 0), (110, 0, 223, 219), (999, 0, 0, 0), (999, 0, 0, 0), (60, 20, 52, 0), (999, 0, 0, 0), (999, 0, 0, 0), (14, 0, 1, 111), (80, 11, 66, 0), (999, 0, 0, 0), (999, 0, 0, 0), (14, 0, 0, 102), (80, 2, 33, 6), (999, 0, 0, 0), (999, 0, 0, 0), (10, 0, 2, 0), (90, 0, 0, 24), (14, 0, 3, 106), (15, 0, 4, 108), (999, 0, 0, 0), (113, 0, 241, 190), (999, 0, 0, 0), (999, 0, 0, 0), (130, 0, 2, 0), (15, 0, 4, 108), (999, 0, 0, 0), (80, 8, 245, 0), (999, 0, 0, 0), (999, 0, 0, 0), (1, 118, 0, 0), (999, 0, 0, 0), (67, 19, 78, 0), (999, 0, 0, 0), (999, 0, 0, 0), (14, 0, 3, 106), (15, 0, 4, 108), (999, 0, 0, 0), (80, 8, 248, 1), (999, 0, 0, 0), (999, 0, 0, 0), (14, 0, 0, 102), (80, 2, 206, 9), (999, 0, 0, 0), (999, 0, 0, 0), (110, 0, 251, 259), (999, 0, 0, 0), (999, 0, 0, 0), (72, 96, 171, 0), (999, 0, 0, 0), (999, 0, 0, 0), (15, 0, 4, 108), (999, 0, 0, 0), (80, 8, 245, 0), (999, 0, 0, 0), (999, 0, 0, 0), (1, 115, 0, 0), (999, 0, 0, 0), (67, 53, 138, 0), (999, 0, 0, 0), (999, 0, 0, 0), (14, 0, 3, 106), (15, 0, 4, 108), (999, 0, 0, 0), (80, 8, 255, 3), (999, 0, 0, 0), (999, 0, 0, 0), (110, 0, 214, 258), (999, 0, 0, 0), (999, 0, 0, 0), (0, 4, 0, 0), (113, 0, 258, 1), (999, 0, 0, 0), (999, 0, 0, 0), (17, 0, 5, 0), (999, 0, 0, 0), (14, 0, 3, 106), (15, 0, 4, 108), (999, 0, 0, 0), (80, 8, 248, 1), (999, 0, 0, 0), (999, 0, 0, 0), (14, 0, 0, 102), (80, 2, 36, 7), (999, 0, 0, 0), (999, 0, 0, 0), (14, 0, 0, 102), (80, 2, 161, 8), (999, 0, 0, 0), (999, 0, 0, 0), (11, 0, 5, 0), (999, 0, 0, 0), (114, 0, 172, 56), (999, 0, 0, 0), (999, 0, 0, 0), (60, 8, 130, 0), (999, 0, 0, 0), (999, 0, 0, 0), (11, 0, 5, 0), (999, 0, 0, 0), (72, 4, 131, 0), (999, 0, 0, 0), (999, 0, 0, 0), (10, 0, 2, 0), (90, 0, 0, 25), (110, 0, 251, 259), (999, 0, 0, 0), (999, 0, 0, 0), (72, 36, 171, 0), (999, 0, 0, 0), (999, 0, 0, 0), (15, 0, 4, 108), (999, 0, 0, 0), (80, 8, 245, 0), (999, 0, 0, 0), (999, 0, 0, 0), (1, 99, 0, 0), (999, 0, 0, 0), (67, 20, 165, 0), (999, 0, 0, 0), (999, 0, 0, 0), (14, 0, 0, 102), (14, 0, 1, 111), (80, 11, 66, 0), (999, 0, 0, 0), (999, 0, 0, 0), (80, 10, 144, 0), (999, 0, 0, 0), (999, 0, 0, 0), (14, 0, 3, 106), (15, 0, 4, 108), (999, 0, 0, 0), (110, 0, 264, 191), (999, 0, 0, 0), (999, 0, 0, 0), (72, 9, 171, 0), (999, 0, 0, 0), (999, 0, 0, 0), (14, 0, 3, 106), (15, 0, 4, 108), (999, 0, 0, 0), (110, 0, 268, 260), (999, 0, 0, 0), (999, 0, 0, 0), (1, 45, 0, 0), (999, 0, 0, 0), (130, 0, 2, 0)]
def zu_Co_carryLane : List (Nat × List Bool) := [(131, [false, false, false, false, false, false]), (171, [false, false, false, false, false, false])]
set_option maxRecDepth 100000 in
theorem qe_Co_carryLane_171 {ρ : Type} (kr : Int → zH → Option ρ) (h : zH) : Co_carryLane_171 kr h = zseg zPP true (zcal []) (zget (999, 0, 0, 0) zc_Co_carryLane) (zcut zu_Co_carryLane) (zorc []) kr (fun _ _ => none) 400 171 [none, none, none, none, none, none] [] h := by rfl
set_option maxRecDepth 100000 in
theorem qe_Co_carryLane_131 {ρ : Type} (kr : Int → zH → Option ρ) (t0 t1 t2 t3 : Int) (h : zH) : Co_carryLane_131 kr t0 t1 t2 t3 h = zseg zPP true (zcal [(259, [none, none, none], fun xs h kr kt => match xs with
  | [x0, x1, x2] => Th_set x0 x1 x2 h kr
  | _ => none)]) (zget (999, 0, 0, 0) zc_Co_carryLane) (zcut zu_Co_carryLane) (zorc [(171, [none, none, none, none, none, none], [], fun xs h => match xs with
  | [] => Co_carryLane_171 kr h
  | _ => none)]) kr (fun _ _ => none) 400 131 [none, none, none, none, none, none] [(0, t0), (125, t1), (0, t2), (106, t3)] h := by rfl
set_option maxRecDepth 100000 in
theorem qe_Co_carryLane {ρ : Type} (kr : Int → zH → Option ρ) (a0 a1 a2 a3 a4 : Int) (h : zH) : Co_carryLane a0 a1 a2 a3 a4 h kr = zseg zPP true (zcal [(1, [none, none], fun xs h kr kt => match xs with
  | [x0, x1] => Ma_floorMod x0 x1 h kr
  | _ => none), (56, [none, none], fun xs h kr kt => match xs with
  | [x0, x1] => X_isIn x0 x1 h kr
  | _ => none), (189, [none, none, none, none, none], fun xs h kr kt => match xs with
  | [x0, x1, x2, x3, x4] => Co_carryGlobal x0 x1 x2 x3 x4 h kr
  | _ => none), (190, [none, none, none, none], fun xs h kr kt => match xs with
  | [x0, x1, x2, x3] => Co_carryShared x0 x1 x2 x3 h kr
  | _ => none), (191, [none, none, none, none], fun xs h kr kt => match xs with
  | [x0, x1, x2, x3] => Co_carryChild x0 x1 x2 x3 h kr
  | _ => none), (219, [none, none], fun xs h kr kt => match xs with
  | [x0, x1] => In_isOneOf x0 x1 h kr
  | _ => none), (258, [none, none], fun xs h kr kt => match xs with
  | [x0, x1] => Th_at x0 x1 h kr
  | _ => none), (259, [none, none, none], fun xs h kr kt => match xs with
  | [x0, x1, x2] => Th_set x0 x1 x2 h kr
  | _ => none), (260, [none, none], fun xs h kr kt => match xs with
  | [x0, x1] => Th_reckon x0 x1 h kr
  | _ => none)]) (zget (999, 0, 0, 0) zc_Co_carryLane) (zcut zu_Co_carryLane) (zorc [(131, [none, none, none, none, none, none], [(0, none), (125, none), (0, none), (106, none)], fun xs h => match xs with
  | [t0, t1, t2, t3] => Co_carryLane_131 kr t0 t1 t2 t3 h
  | _ => none), (171, [none, none, none, none, none, none], [], fun xs h => match xs with
  | [] => Co_carryLane_171 kr h
  | _ => none)]) kr (fun _ _ => none) 400 0 [some (102, a0), some (111, a1), some (0, a2), some (106, a3), some (108, a4), none] [] h := by rfl
def zc_Co_isNamedFirst : List zI := [(0, 0, 0, 0), (16, 0, 3, 0), (10, 0, 3, 0), (10, 0, 1, 0), (69, 41, 45, 0), (999, 0, 0, 0), (999, 0, 0, 0), (14, 0, 0, 102), (80, 2, 161, 8), (999, 0, 0, 0), (999, 0, 0, 0), (10, 0, 3, 0), (114, 0, 172, 56), (999, 0, 0, 0), (999, 0, 0, 0), (60, 24, 39, 0), (999, 0, 0, 0), (999, 0, 0, 0), (14, 0, 0, 102), (80, 2, 33, 6), (999, 0, 0, 0), (999, 0, 0, 0), (10, 0, 3, 0), (90, 0, 0, 24), (10, 0, 2, 0), (40, 0, 0, 0), (14, 0, 0, 102), (80, 2, 33, 6), (999, 0, 0, 0), (999, 0, 0, 0), (10, 0, 1, 0), (90, 0, 0, 24), (10, 0, 2, 0), (40, 0, 0, 0), (67, 5, 39, 0), (999, 0, 0, 0), (999, 0, 0, 0), (0, 0, 0, 0), (130, 0, 1, 0), (22, 1, 3, 0), (999, 0, 0, 0), (999, 0, 0, 0), (72, (-40), 2, 0), (999, 0, 0, 0), (999, 0, 0, 0), (14, 0, 0, 102), (80, 2, 161, 8), (999, 0, 0, 0), (999, 0, 0, 0), (10, 0, 1, 0), (114, 0, 172, 56), (999, 0, 0, 0), (999, 0, 0, 0), (130, 0, 1, 0)]
def zu_Co_isNamedFirst : List (Nat × List Bool) := [(2, [true, true, true, true]), (39, [true, true, true, true])]
set_option maxRecDepth 100000 in
theorem qe_Co_isNamedFirst_39 {ρ : Type} (kr : Int → zH → Option ρ) (r2 : Int → Int → Int → Int → zH → Option ρ) (a0 a1 a2 a3 : Int) (h : zH) : Co_isNamedFirst_39 kr r2 a0 a1 a2 a3 h = zseg zPP true (zcal []) (zget (999, 0, 0, 0) zc_Co_isNamedFirst) (zcut zu_Co_isNamedFirst) (zorc [(2, [some (102, none), some (0, none), some (0, none), some (0, none)], [], fun xs h => match xs with
  | [a0, a1, a2, a3] => r2 a0 a1 a2 a3 h
  | _ => none)]) kr (fun _ _ => none) 400 39 [some (102, a0), some (0, a1), some (0, a2), some (0, a3)] [] h := by rfl
set_option maxRecDepth 100000 in
theorem qe_Co_isNamedFirst_2b {ρ : Type} (kr : Int → zH → Option ρ) (r2 : Int → Int → Int → Int → zH → Option ρ) (a0 a1 a2 a3 : Int) (h : zH) : Co_isNamedFirst_2b kr r2 a0 a1 a2 a3 h = zseg zPP true (zcal [(56, [none, none], fun xs h kr kt => match xs with
  | [x0, x1] => X_isIn x0 x1 h kr
  | _ => none)]) (zget (999, 0, 0, 0) zc_Co_isNamedFirst) (zcut zu_Co_isNamedFirst) (zorc [(39, [some (102, none), some (0, none), some (0, none), some (0, none)], [], fun xs h => match xs with
  | [a0, a1, a2, a3] => Co_isNamedFirst_39 kr r2 a0 a1 a2 a3 h
  | _ => none)]) kr (fun _ _ => none) 400 2 [some (102, a0), some (0, a1), some (0, a2), some (0, a3)] [] h := by rfl
set_option maxRecDepth 100000 in
theorem qe_Co_isNamedFirst {ρ : Type} (kr : Int → zH → Option ρ) (a0 a1 a2 : Int) (h : zH) : Co_isNamedFirst a0 a1 a2 h kr = zseg zPP true (zcal []) (zget (999, 0, 0, 0) zc_Co_isNamedFirst) (zcut zu_Co_isNamedFirst) (zorc [(2, [some (102, none), some (0, none), some (0, none), some (0, none)], [], fun xs h => match xs with
  | [a0, a1, a2, a3] => Co_isNamedFirst_2 kr a0 a1 a2 a3 h
  | _ => none)]) kr (fun _ _ => none) 400 0 [some (102, a0), some (0, a1), some (0, a2), none] [] h := by rfl
def zc_Co_bankDelay : List zI := [(0, 0, 0, 0), (16, 0, 1, 0), (0, 0, 0, 0), (16, 0, 2, 0), (10, 0, 2, 0), (0, 4, 0, 0), (69, 60, 66, 0), (999, 0, 0, 0), (999, 0, 0, 0), (0, 0, 0, 0), (16, 0, 3, 0), (0, 0, 0, 0), (17, 0, 4, 0), (999, 0, 0, 0), (11, 0, 4, 0), (999, 0, 0, 0), (0, 4, 0, 0), (69, 37, 54, 0), (999, 0, 0, 0), (999, 0, 0, 0), (14, 0, 0, 102), (11, 0, 4, 0), (999, 0, 0, 0), (0, 0, 0, 0), (110, 0, 334, 196), (999, 0, 0, 0), (999, 0, 0, 0), (60, 21, 48, 0), (999, 0, 0, 0), (999, 0, 0, 0), (14, 0, 0, 102), (80, 2, 33, 6), (999, 0, 0, 0), (999, 0, 0, 0), (11, 0, 4, 0), (999, 0, 0, 0), (90, 0, 0, 24), (0, 4, 0, 0), (113, 0, 258, 1), (999, 0, 0, 0), (999, 0, 0, 0), (10, 0, 2, 0), (67, 6, 48, 0), (999, 0, 0, 0), (999, 0, 0, 0), (22, 1, 3, 0), (999, 0, 0, 0), (999, 0, 0, 0), (22, 1, 4, 0), (999, 0, 0, 0), (999, 0, 0, 0), (72, (-37), 14, 0), (999, 0, 0, 0), (999, 0, 0, 0), (10, 0, 1, 0), (10, 0, 3, 0), (113, 0, 337, 2), (999, 0, 0, 0), (999, 0, 0, 0), (16, 0, 1, 0), (22, 1, 2, 0), (999, 0, 0, 0), (999, 0, 0, 0), (72, (-59), 4, 0), (999, 0, 0, 0), (999, 0, 0, 0), (10, 0, 1, 0), (130, 0, 0, 0)]
def zu_Co_bankDelay : List (Nat × List Bool) := [(4, [true, true, true, false, false]), (14, [true, true, true, true, true]), (48, [true, true, true, true, true])]
set_option maxRecDepth 100000 in
theorem qe_Co_bankDelay_48 {ρ : Type} (kr : Int → zH → Option ρ) (r4 : Int → Int → Int → zH → Option ρ) (r14 : Int → Int → Int → Int → Int → zH → Option ρ) (a0 a1 a2 a3 a4 : Int) (h : zH) : Co_bankDelay_48 kr r4 r14 a0 a1 a2 a3 a4 h = zseg zPP true (zcal []) (zget (999, 0, 0, 0) zc_Co_bankDelay) (zcut zu_Co_bankDelay) (zorc [(14, [some (102, none), some (0, none), some (0, none), some (0, none), some (0, none)], [], fun xs h => match xs with
  | [a0, a1, a2, a3, a4] => r14 a0 a1 a2 a3 a4 h
  | _ => none)]) kr (fun _ _ => none) 400 48 [some (102, a0), some (0, a1), some (0, a2), some (0, a3), some (0, a4)] [] h := by rfl
set_option maxRecDepth 100000 in
theorem qe_Co_bankDelay_14b {ρ : Type} (kr : Int → zH → Option ρ) (r4 : Int → Int → Int → zH → Option ρ) (r14 : Int → Int → Int → Int → Int → zH → Option ρ) (a0 a1 a2 a3 a4 : Int) (h : zH) : Co_bankDelay_14b kr r4 r14 a0 a1 a2 a3 a4 h = zseg zPP true (zcal [(1, [none, none], fun xs h kr kt => match xs with
  | [x0, x1] => Ma_floorMod x0 x1 h kr
  | _ => none), (2, [none, none], fun xs h kr kt => match xs with
  | [x0, x1] => Ma_max x0 x1 h kr
  | _ => none), (196, [none, none, none], fun xs h kr kt => match xs with
  | [x0, x1, x2] => Co_isNamedFirst x0 x1 x2 h kr
  | _ => none)]) (zget (999, 0, 0, 0) zc_Co_bankDelay) (zcut zu_Co_bankDelay) (zorc [(4, [some (102, none), some (0, none), some (0, none), none, none], [], fun xs h => match xs with
  | [a0, a1, a2] => r4 a0 a1 a2 h
  | _ => none), (48, [some (102, none), some (0, none), some (0, none), some (0, none), some (0, none)], [], fun xs h => match xs with
  | [a0, a1, a2, a3, a4] => Co_bankDelay_48 kr r4 r14 a0 a1 a2 a3 a4 h
  | _ => none)]) kr (fun _ _ => none) 400 14 [some (102, a0), some (0, a1), some (0, a2), some (0, a3), some (0, a4)] [] h := by rfl
set_option maxRecDepth 100000 in
theorem qe_Co_bankDelay_4b {ρ : Type} (kr : Int → zH → Option ρ) (r4 : Int → Int → Int → zH → Option ρ) (a0 a1 a2 : Int) (h : zH) : Co_bankDelay_4b kr r4 a0 a1 a2 h = zseg zPP true (zcal []) (zget (999, 0, 0, 0) zc_Co_bankDelay) (zcut zu_Co_bankDelay) (zorc [(14, [some (102, none), some (0, none), some (0, none), some (0, none), some (0, none)], [], fun xs h => match xs with
  | [a0, a1, a2, a3, a4] => Co_bankDelay_14 kr r4 a0 a1 a2 a3 a4 h
  | _ => none)]) kr (fun _ _ => none) 400 4 [some (102, a0), some (0, a1), some (0, a2), none, none] [] h := by rfl
set_option maxRecDepth 100000 in
theorem qe_Co_bankDelay {ρ : Type} (kr : Int → zH → Option ρ) (a0 : Int) (h : zH) : Co_bankDelay a0 h kr = zseg zPP true (zcal []) (zget (999, 0, 0, 0) zc_Co_bankDelay) (zcut zu_Co_bankDelay) (zorc [(4, [some (102, none), some (0, none), some (0, none), none, none], [], fun xs h => match xs with
  | [a0, a1, a2] => Co_bankDelay_4 kr a0 a1 a2 h
  | _ => none)]) kr (fun _ _ => none) 400 0 [some (102, a0), none, none, none, none] [] h := by rfl
def zc_Un_missesLine : List zI := [(10, 0, 1, 0), (0, 2, 0, 0), (113, 0, 89, 1), (999, 0, 0, 0), (999, 0, 0, 0), (16, 0, 2, 0), (14, 0, 0, 103), (80, 3, 17, 1), (999, 0, 0, 0), (999, 0, 0, 0), (10, 0, 2, 0), (90, 0, 0, 27), (10, 0, 1, 0), (66, 7, 20, 0), (999, 0, 0, 0), (999, 0, 0, 0), (0, 1, 0, 0), (72, 4, 21, 0), (999, 0, 0, 0), (999, 0, 0, 0), (0, 0, 0, 0), (16, 0, 3, 0), (14, 0, 0, 103), (80, 3, 17, 1), (999, 0, 0, 0), (999, 0, 0, 0), (10, 0, 2, 0), (10, 0, 1, 0), (95, 0, 0, 27), (10, 0, 3, 0), (130, 0, 1, 0)]
def zu_Un_missesLine : List (Nat × List Bool) := [(21, [true, true, true, false])]
set_option maxRecDepth 100000 in
theorem qe_Un_missesLine_21 {ρ : Type} (kr : Int → zH → Option ρ) (a0 a1 a2 t0 : Int) (h : zH) : Un_missesLine_21 kr a0 a1 a2 t0 h = zseg zPP true (zcal []) (zget (999, 0, 0, 0) zc_Un_missesLine) (zcut zu_Un_missesLine) (zorc []) kr (fun _ _ => none) 400 21 [some (103, a0), some (0, a1), some (0, a2), none] [(0, t0)] h := by rfl
set_option maxRecDepth 100000 in
theorem qe_Un_missesLine {ρ : Type} (kr : Int → zH → Option ρ) (a0 a1 : Int) (h : zH) : Un_missesLine a0 a1 h kr = zseg zPP true (zcal [(1, [none, none], fun xs h kr kt => match xs with
  | [x0, x1] => Ma_floorMod x0 x1 h kr
  | _ => none)]) (zget (999, 0, 0, 0) zc_Un_missesLine) (zcut zu_Un_missesLine) (zorc [(21, [some (103, none), some (0, none), some (0, none), none], [(0, none)], fun xs h => match xs with
  | [a0, a1, a2, t0] => Un_missesLine_21 kr a0 a1 a2 t0 h
  | _ => none)]) kr (fun _ _ => none) 400 0 [some (103, a0), some (0, a1), none, none] [] h := by rfl
def zc_Co_lineDelay : List zI := [(0, 0, 0, 0), (16, 0, 2, 0), (0, 0, 0, 0), (16, 0, 3, 0), (10, 0, 3, 0), (0, 4, 0, 0), (69, 55, 61, 0), (999, 0, 0, 0), (999, 0, 0, 0), (14, 0, 0, 102), (10, 0, 3, 0), (0, 3, 0, 0), (110, 0, 334, 196), (999, 0, 0, 0), (999, 0, 0, 0), (61, 6, 21, 0), (999, 0, 0, 0), (999, 0, 0, 0), (72, 37, 55, 0), (999, 0, 0, 0), (999, 0, 0, 0), (22, 2, 2, 0), (999, 0, 0, 0), (999, 0, 0, 0), (14, 0, 1, 103), (14, 0, 0, 102), (80, 2, 33, 6), (999, 0, 0, 0), (999, 0, 0, 0), (10, 0, 3, 0), (90, 0, 0, 24), (0, 3, 0, 0), (40, 0, 0, 0), (110, 0, 340, 287), (999, 0, 0, 0), (999, 0, 0, 0), (60, 19, 55, 0), (999, 0, 0, 0), (999, 0, 0, 0), (22, 4, 2, 0), (999, 0, 0, 0), (999, 0, 0, 0), (14, 0, 0, 102), (80, 2, 25, 3), (999, 0, 0, 0), (999, 0, 0, 0), (50, 0, 0, 0), (80, 4, 343, 4), (999, 0, 0, 0), (999, 0, 0, 0), (0, 1, 0, 0), (30, 0, 0, 0), (82, 4, 343, 4), (999, 0, 0, 0), (999, 0, 0, 0), (22, 1, 3, 0), (999, 0, 0, 0), (999, 0, 0, 0), (72, (-54), 4, 0), (999, 0, 0, 0), (999, 0, 0, 0), (10, 0, 2, 0), (130, 0, 0, 0)]
def zu_Co_lineDelay : List (Nat × List Bool) := [(4, [true, true, true, true]), (55, [true, true, true, true])]
set_option maxRecDepth 100000 in
theorem qe_Co_lineDelay_55 {ρ : Type} (kr : Int → zH → Option ρ) (r4 : Int → Int → Int → Int → zH → Option ρ) (a0 a1 a2 a3 : Int) (h : zH) : Co_lineDelay_55 kr r4 a0 a1 a2 a3 h = zseg zPP true (zcal []) (zget (999, 0, 0, 0) zc_Co_lineDelay) (zcut zu_Co_lineDelay) (zorc [(4, [some (102, none), some (103, none), some (0, none), some (0, none)], [], fun xs h => match xs with
  | [a0, a1, a2, a3] => r4 a0 a1 a2 a3 h
  | _ => none)]) kr (fun _ _ => none) 400 55 [some (102, a0), some (103, a1), some (0, a2), some (0, a3)] [] h := by rfl
set_option maxRecDepth 100000 in
theorem qe_Co_lineDelay_4b {ρ : Type} (kr : Int → zH → Option ρ) (r4 : Int → Int → Int → Int → zH → Option ρ) (a0 a1 a2 a3 : Int) (h : zH) : Co_lineDelay_4b kr r4 a0 a1 a2 a3 h = zseg zPP true (zcal [(196, [none, none, none], fun xs h kr kt => match xs with
  | [x0, x1, x2] => Co_isNamedFirst x0 x1 x2 h kr
  | _ => none), (287, [none, none], fun xs h kr kt => match xs with
  | [x0, x1] => Un_missesLine x0 x1 h kr
  | _ => none)]) (zget (999, 0, 0, 0) zc_Co_lineDelay) (zcut zu_Co_lineDelay) (zorc [(55, [some (102, none), some (103, none), some (0, none), some (0, none)], [], fun xs h => match xs with
  | [a0, a1, a2, a3] => Co_lineDelay_55 kr r4 a0 a1 a2 a3 h
  | _ => none)]) kr (fun _ _ => none) 400 4 [some (102, a0), some (103, a1), some (0, a2), some (0, a3)] [] h := by rfl
set_option maxRecDepth 100000 in
theorem qe_Co_lineDelay {ρ : Type} (kr : Int → zH → Option ρ) (a0 a1 : Int) (h : zH) : Co_lineDelay a0 a1 h kr = zseg zPP true (zcal []) (zget (999, 0, 0, 0) zc_Co_lineDelay) (zcut zu_Co_lineDelay) (zorc [(4, [some (102, none), some (103, none), some (0, none), some (0, none)], [], fun xs h => match xs with
  | [a0, a1, a2, a3] => Co_lineDelay_4 kr a0 a1 a2 a3 h
  | _ => none)]) kr (fun _ _ => none) 400 0 [some (102, a0), some (103, a1), none, none] [] h := by rfl
def zc_Co_delayOf : List zI := [(14, 0, 2, 108), (80, 8, 245, 0), (999, 0, 0, 0), (999, 0, 0, 0), (77, 0, 0, 0), (999, 0, 0, 0), (999, 0, 0, 0), (999, 0, 0, 0), (999, 0, 0, 0), (999, 0, 0, 0), (999, 0, 0, 0), (999, 0, 0, 0), (999, 0, 0, 0), (999, 0, 0, 0), (999, 0, 0, 0), (999, 0, 0, 0), (999, 0, 0, 0), (999, 0, 0, 0), (999, 0, 0, 0), (999, 0, 0, 0), (999, 0, 0, 0), (999, 0, 0, 0), (999, 0, 0, 0), (999, 0, 0, 0), (999, 0, 0, 0), (999, 0, 0, 0), (999, 0, 0, 0), (999, 0, 0, 0), (999, 0, 0, 0), (999, 0, 0, 0), (999, 0, 0, 0), (999, 0, 0, 0), (999, 0, 0, 0), (999, 0, 0, 0), (999, 0, 0, 0), (999, 0, 0, 0), (999, 0, 0, 0), (999, 0, 0, 0), (999, 0, 0, 0), (999, 0, 0, 0), (999, 0, 0, 0), (999, 0, 0, 0), (999, 0, 0, 0), (999, 0, 0, 0), (999, 0, 0, 0), (999, 0, 0, 0), (999, 0, 0, 0), (999, 0, 0, 0), (999, 0, 0, 0), (999, 0, 0, 0), (999, 0, 0, 0), (999, 0, 0, 0), (999, 0, 0, 0), (999, 0, 0, 0), (999, 0, 0, 0), (999, 0, 0, 0), (999, 0, 0, 0), (999, 0, 0, 0), (999, 0, 0, 0), (999, 0, 0, 0), (999, 0, 0, 0), (999, 0, 0, 0), (999, 0, 0, 0), (999, 0, 0, 0), (999, 0, 0, 0), (999, 0, 0, 0), (999, 0, 0, 0), (999, 0, 0, 0), (999, 0, 0, 0), (999, 0, 0, 0), (999, 0, 0, 0), (999, 0, 0, 0), (999, 0, 0, 0), (999, 0, 0, 0), (999, 0, 0, 0), (999, 0, 0, 0), (999, 0, 0, 0), (999, 0, 0, 0), (999, 0, 0, 0), (999, 0, 0, 0), (999, 0, 0, 0), (999, 0, 0, 0), (999, 0, 0, 0), (999, 0, 0, 0), (999, 0, 0, 0), (999, 0, 0, 0), (999, 0, 0, 0), (999, 0, 0, 0), (0, 2, 0, 0), (130, 0, 0, 0), (14, 0, 0, 102), (110, 0, 322, 194), (999, 0, 0, 0), (999, 0, 0, 0), (130, 0, 0, 0), (14, 0, 0, 102), (14, 0, 1, 103), (110, 0, 325, 195), (999, 0, 0, 0), (999, 0, 0, 0), (130, 0, 0, 0), (0, 1, 0, 0), (14, 0, 0, 102), (80, 2, 231, 10), (999, 0, 0, 0), (999, 0, 0, 0), (30, 0, 0, 0), (130, 0, 0, 0), (0, 2, 0, 0), (14, 0, 0, 102), (80, 2, 161, 8), (999, 0, 0, 0), (999, 0, 0, 0), (113, 0, 329, 0), (999, 0, 0, 0), (999, 0, 0, 0), (32, 0, 0, 0), (130, 0, 0, 0), (0, 4, 0, 0), (14, 0, 0, 102), (80, 2, 161, 8), (999, 0, 0, 0), (999, 0, 0, 0), (113, 0, 329, 0), (999, 0, 0, 0), (999, 0, 0, 0), (32, 0, 0, 0), (130, 0, 0, 0), (0, 1, 0, 0), (130, 0, 0, 0)]
def zu_Co_delayOf : List (Nat × List Bool) := [(90, [true, false, false]), (101, [true, false, false]), (108, [true, false, false])]
set_option maxRecDepth 100000 in
theorem qe_Co_delayOf_90 {ρ : Type} (kr : Int → zH → Option ρ) (a0 : Int) (h : zH) : Co_delayOf_90 kr a0 h = zseg zPP true (zcal [(194, [none], fun xs h kr kt => match xs with
  | [x0] => Co_bankDelay x0 h kr
  | _ => none)]) (zget (999, 0, 0, 0) zc_Co_delayOf) (zcut zu_Co_delayOf) (zorc []) kr (fun _ _ => none) 400 90 [some (102, a0), none, none] [] h := by rfl
set_option maxRecDepth 100000 in
theorem qe_Co_delayOf_101 {ρ : Type} (kr : Int → zH → Option ρ) (a0 : Int) (h : zH) : Co_delayOf_101 kr a0 h = zseg zPP true (zcal []) (zget (999, 0, 0, 0) zc_Co_delayOf) (zcut zu_Co_delayOf) (zorc []) kr (fun _ _ => none) 400 101 [some (102, a0), none, none] [] h := by rfl
set_option maxRecDepth 100000 in
theorem qe_Co_delayOf_108 {ρ : Type} (kr : Int → zH → Option ρ) (a0 : Int) (h : zH) : Co_delayOf_108 kr a0 h = zseg zPP true (zcal [(0, [none], fun xs h kr kt => match xs with
  | [x0] => It_bitCount x0 h kr
  | _ => none)]) (zget (999, 0, 0, 0) zc_Co_delayOf) (zcut zu_Co_delayOf) (zorc []) kr (fun _ _ => none) 400 108 [some (102, a0), none, none] [] h := by rfl
set_option maxRecDepth 100000 in
theorem qe_Co_delayOf {ρ : Type} (kr : Int → zH → Option ρ) (a0 a1 a2 : Int) (h : zH) : Co_delayOf a0 a1 a2 h kr = zseg zPP true (zcal [(0, [none], fun xs h kr kt => match xs with
  | [x0] => It_bitCount x0 h kr
  | _ => none), (195, [none, none], fun xs h kr kt => match xs with
  | [x0, x1] => Co_lineDelay x0 x1 h kr
  | _ => none)]) (zget (999, 0, 0, 0) zc_Co_delayOf) (zcut zu_Co_delayOf) (zorc [(90, [some (102, none), none, none], [], fun xs h => match xs with
  | [a0] => Co_delayOf_90 kr a0 h
  | _ => none), (101, [some (102, none), none, none], [], fun xs h => match xs with
  | [a0] => Co_delayOf_101 kr a0 h
  | _ => none), (108, [some (102, none), none, none], [], fun xs h => match xs with
  | [a0] => Co_delayOf_108 kr a0 h
  | _ => none)]) kr (fun _ _ => none) 400 0 [some (102, a0), some (103, a1), some (108, a2)] [] h := by rfl
def zc_Co_countedDelay : List zI := [(14, 0, 0, 102), (14, 0, 1, 103), (14, 0, 2, 108), (110, 0, 310, 193), (999, 0, 0, 0), (999, 0, 0, 0), (16, 0, 3, 0), (14, 0, 0, 102), (80, 2, 25, 3), (999, 0, 0, 0), (999, 0, 0, 0), (50, 0, 0, 0), (80, 4, 313, 2), (999, 0, 0, 0), (999, 0, 0, 0), (10, 0, 3, 0), (42, 0, 0, 0), (45, 0, 0, 0), (82, 4, 313, 2), (999, 0, 0, 0), (999, 0, 0, 0), (14, 0, 0, 102), (80, 2, 25, 3), (999, 0, 0, 0), (999, 0, 0, 0), (50, 0, 0, 0), (80, 4, 316, 3), (999, 0, 0, 0), (999, 0, 0, 0), (5, 1, 1, 0), (45, 0, 0, 0), (82, 4, 316, 3), (999, 0, 0, 0), (999, 0, 0, 0), (14, 0, 2, 108), (8, 3, 239, 0), (999, 0, 0, 0), (110, 0, 223, 219), (999, 0, 0, 0), (999, 0, 0, 0), (60, 18, 58, 0), (999, 0, 0, 0), (999, 0, 0, 0), (14, 0, 0, 102), (80, 2, 25, 3), (999, 0, 0, 0), (999, 0, 0, 0), (50, 0, 0, 0), (80, 4, 319, 5), (999, 0, 0, 0), (999, 0, 0, 0), (10, 0, 3, 0), (0, 1, 0, 0), (31, 0, 0, 0), (30, 0, 0, 0), (82, 4, 319, 5), (999, 0, 0, 0), (999, 0, 0, 0), (10, 0, 3, 0), (130, 0, 0, 0)]
def zu_Co_countedDelay : List (Nat × List Bool) := [(58, [false, false, false, true])]
set_option maxRecDepth 100000 in
theorem qe_Co_countedDelay_58 {ρ : Type} (kr : Int → zH → Option ρ) (a3 : Int) (h : zH) : Co_countedDelay_58 kr a3 h = zseg zPP true (zcal []) (zget (999, 0, 0, 0) zc_Co_countedDelay) (zcut zu_Co_countedDelay) (zorc []) kr (fun _ _ => none) 400 58 [none, none, none, some (0, a3)] [] h := by rfl
set_option maxRecDepth 100000 in
theorem qe_Co_countedDelay {ρ : Type} (kr : Int → zH → Option ρ) (a0 a1 a2 : Int) (h : zH) : Co_countedDelay a0 a1 a2 h kr = zseg zPP true (zcal [(193, [none, none, none], fun xs h kr kt => match xs with
  | [x0, x1, x2] => Co_delayOf x0 x1 x2 h kr
  | _ => none), (219, [none, none], fun xs h kr kt => match xs with
  | [x0, x1] => In_isOneOf x0 x1 h kr
  | _ => none)]) (zget (999, 0, 0, 0) zc_Co_countedDelay) (zcut zu_Co_countedDelay) (zorc [(58, [none, none, none, some (0, none)], [], fun xs h => match xs with
  | [a3] => Co_countedDelay_58 kr a3 h
  | _ => none)]) kr (fun _ _ => none) 400 0 [some (102, a0), some (103, a1), some (108, a2), none] [] h := by rfl
def zc_Un_dropLaunch : List zI := [(0, 0, 0, 0), (16, 0, 2, 0), (0, 0, 0, 0), (16, 0, 3, 0), (10, 0, 3, 0), (14, 0, 0, 103), (80, 3, 21, 2), (999, 0, 0, 0), (999, 0, 0, 0), (69, 40, 49, 0), (999, 0, 0, 0), (999, 0, 0, 0), (14, 0, 0, 103), (80, 3, 11, 0), (999, 0, 0, 0), (999, 0, 0, 0), (10, 0, 3, 0), (94, 0, 0, 26), (80, 11, 48, 0), (999, 0, 0, 0), (999, 0, 0, 0), (80, 10, 61, 0), (999, 0, 0, 0), (999, 0, 0, 0), (14, 0, 1, 109), (75, 18, 43, 0), (999, 0, 0, 0), (999, 0, 0, 0), (14, 0, 0, 103), (80, 3, 11, 0), (999, 0, 0, 0), (999, 0, 0, 0), (10, 0, 2, 0), (14, 0, 0, 103), (80, 3, 11, 0), (999, 0, 0, 0), (999, 0, 0, 0), (10, 0, 3, 0), (94, 0, 0, 26), (99, 0, 0, 26), (22, 1, 2, 0), (999, 0, 0, 0), (999, 0, 0, 0), (22, 1, 3, 0), (999, 0, 0, 0), (999, 0, 0, 0), (72, (-42), 4, 0), (999, 0, 0, 0), (999, 0, 0, 0), (14, 0, 0, 103), (10, 0, 2, 0), (110, 0, 74, 284), (999, 0, 0, 0), (999, 0, 0, 0), (133, 0, 0, 0)]
def zu_Un_dropLaunch : List (Nat × List Bool) := [(4, [true, true, true, true]), (43, [true, true, true, true])]
set_option maxRecDepth 100000 in
theorem qe_Un_dropLaunch_43 {ρ : Type} (kr : Int → zH → Option ρ) (r4 : Int → Int → Int → Int → zH → Option ρ) (a0 a1 a2 a3 : Int) (h : zH) : Un_dropLaunch_43 kr r4 a0 a1 a2 a3 h = zseg zPP true (zcal []) (zget (999, 0, 0, 0) zc_Un_dropLaunch) (zcut zu_Un_dropLaunch) (zorc [(4, [some (103, none), some (109, none), some (0, none), some (0, none)], [], fun xs h => match xs with
  | [a0, a1, a2, a3] => r4 a0 a1 a2 a3 h
  | _ => none)]) kr (fun _ _ => none) 400 43 [some (103, a0), some (109, a1), some (0, a2), some (0, a3)] [] h := by rfl
set_option maxRecDepth 100000 in
theorem qe_Un_dropLaunch_4b {ρ : Type} (kr : Int → zH → Option ρ) (r4 : Int → Int → Int → Int → zH → Option ρ) (a0 a1 a2 a3 : Int) (h : zH) : Un_dropLaunch_4b kr r4 a0 a1 a2 a3 h = zseg zPP true (zcal [(284, [none, none], fun xs h kr kt => match xs with
  | [x0, x1] => Un_cutTo x0 x1 h kr
  | _ => none)]) (zget (999, 0, 0, 0) zc_Un_dropLaunch) (zcut zu_Un_dropLaunch) (zorc [(43, [some (103, none), some (109, none), some (0, none), some (0, none)], [], fun xs h => match xs with
  | [a0, a1, a2, a3] => Un_dropLaunch_43 kr r4 a0 a1 a2 a3 h
  | _ => none)]) kr (fun _ _ => none) 400 4 [some (103, a0), some (109, a1), some (0, a2), some (0, a3)] [] h := by rfl
set_option maxRecDepth 100000 in
theorem qe_Un_dropLaunch {ρ : Type} (kr : Int → zH → Option ρ) (a0 a1 : Int) (h : zH) : Un_dropLaunch a0 a1 h kr = zseg zPP true (zcal []) (zget (999, 0, 0, 0) zc_Un_dropLaunch) (zcut zu_Un_dropLaunch) (zorc [(4, [some (103, none), some (109, none), some (0, none), some (0, none)], [], fun xs h => match xs with
  | [a0, a1, a2, a3] => Un_dropLaunch_4 kr a0 a1 a2 a3 h
  | _ => none)]) kr (fun _ _ => none) 400 0 [some (103, a0), some (109, a1), none, none] [] h := by rfl
def zc_Co_fail : List zI := [(14, 0, 1, 110), (80, 10, 144, 0), (999, 0, 0, 0), (999, 0, 0, 0), (21, 0, 5, 109), (999, 0, 0, 0), (15, 0, 5, 109), (999, 0, 0, 0), (1, 102, 0, 0), (999, 0, 0, 0), (82, 9, 381, 10), (999, 0, 0, 0), (999, 0, 0, 0), (15, 0, 5, 109), (999, 0, 0, 0), (11, 0, 4, 0), (999, 0, 0, 0), (82, 9, 384, 11), (999, 0, 0, 0), (999, 0, 0, 0), (15, 0, 5, 109), (999, 0, 0, 0), (2, 10000, 0, 0), (999, 0, 0, 0), (999, 0, 0, 0), (14, 0, 1, 110), (80, 10, 387, 1), (999, 0, 0, 0), (999, 0, 0, 0), (32, 0, 0, 0), (1, 100, 0, 0), (999, 0, 0, 0), (10, 0, 2, 0), (32, 0, 0, 0), (30, 0, 0, 0), (10, 0, 3, 0), (30, 0, 0, 0), (82, 9, 388, 12), (999, 0, 0, 0), (999, 0, 0, 0), (0, 0, 0, 0), (17, 0, 6, 0), (999, 0, 0, 0), (11, 0, 6, 0), (999, 0, 0, 0), (0, 2, 0, 0), (69, 21, 67, 0), (999, 0, 0, 0), (999, 0, 0, 0), (14, 0, 0, 102), (80, 2, 18, 2), (999, 0, 0, 0), (999, 0, 0, 0), (11, 0, 6, 0), (999, 0, 0, 0), (94, 0, 0, 23), (15, 0, 5, 109), (999, 0, 0, 0), (110, 0, 391, 283), (999, 0, 0, 0), (999, 0, 0, 0), (22, 1, 6, 0), (999, 0, 0, 0), (999, 0, 0, 0), (72, (-21), 43, 0), (999, 0, 0, 0), (999, 0, 0, 0), (14, 0, 0, 102), (80, 2, 39, 0), (999, 0, 0, 0), (999, 0, 0, 0), (15, 0, 5, 109), (999, 0, 0, 0), (80, 9, 394, 4), (999, 0, 0, 0), (999, 0, 0, 0), (110, 0, 377, 251), (999, 0, 0, 0), (999, 0, 0, 0), (133, 0, 0, 0)]
def zu_Co_fail : List (Nat × List Bool) := [(43, [true, false, false, false, false, true, true])]
set_option maxRecDepth 100000 in
theorem qe_Co_fail_43b {ρ : Type} (kr : Int → zH → Option ρ) (r43 : Int → Int → Int → zH → Option ρ) (a0 a5 a6 : Int) (h : zH) : Co_fail_43b kr r43 a0 a5 a6 h = zseg zPP true (zcal [(251, [none, none], fun xs h kr kt => match xs with
  | [x0, x1] => Le_endIfDone x0 x1 h kr
  | _ => none), (283, [none, none], fun xs h kr kt => match xs with
  | [x0, x1] => Un_dropLaunch x0 x1 h kr
  | _ => none)]) (zget (999, 0, 0, 0) zc_Co_fail) (zcut zu_Co_fail) (zorc [(43, [some (102, none), none, none, none, none, some (109, none), some (0, none)], [], fun xs h => match xs with
  | [a0, a5, a6] => r43 a0 a5 a6 h
  | _ => none)]) kr (fun _ _ => none) 400 43 [some (102, a0), none, none, none, none, some (109, a5), some (0, a6)] [] h := by rfl
set_option maxRecDepth 100000 in
theorem qe_Co_fail {ρ : Type} (kr : Int → zH → Option ρ) (a0 a1 a2 a3 a4 : Int) (h : zH) : Co_fail a0 a1 a2 a3 a4 h kr = zseg zPP true (zcal []) (zget (999, 0, 0, 0) zc_Co_fail) (zcut zu_Co_fail) (zorc [(43, [some (102, none), none, none, none, none, some (109, none), some (0, none)], [], fun xs h => match xs with
  | [a0, a5, a6] => Co_fail_43 kr a0 a5 a6 h
  | _ => none)]) kr (fun _ _ => none) 400 0 [some (102, a0), some (110, a1), some (0, a2), some (0, a3), some (0, a4), none, none] [] h := by rfl
def zc_Gr_placeIn : List zI := [(14, 0, 0, 111), (10, 0, 1, 0), (110, 0, 35, 203), (999, 0, 0, 0), (999, 0, 0, 0), (20, 0, 2, 106), (14, 0, 2, 106), (73, 17, 24, 0), (999, 0, 0, 0), (999, 0, 0, 0), (14, 0, 2, 106), (110, 0, 39, 255), (999, 0, 0, 0), (999, 0, 0, 0), (60, 10, 24, 0), (999, 0, 0, 0), (999, 0, 0, 0), (14, 0, 2, 106), (80, 6, 43, 3), (999, 0, 0, 0), (999, 0, 0, 0), (72, 4, 25, 0), (999, 0, 0, 0), (999, 0, 0, 0), (0, (-1), 0, 0), (130, 0, 0, 0)]
def zu_Gr_placeIn : List (Nat × List Bool) := [(24, [false, false, false]), (25, [false, false, false])]
set_option maxRecDepth 100000 in
theorem qe_Gr_placeIn_25 {ρ : Type} (kr : Int → zH → Option ρ) (t0 : Int) (h : zH) : Gr_placeIn_25 kr t0 h = zseg zPP true (zcal []) (zget (999, 0, 0, 0) zc_Gr_placeIn) (zcut zu_Gr_placeIn) (zorc []) kr (fun _ _ => none) 400 25 [none, none, none] [(0, t0)] h := by rfl
set_option maxRecDepth 100000 in
theorem qe_Gr_placeIn_24 {ρ : Type} (kr : Int → zH → Option ρ) (h : zH) : Gr_placeIn_24 kr h = zseg zPP true (zcal []) (zget (999, 0, 0, 0) zc_Gr_placeIn) (zcut zu_Gr_placeIn) (zorc [(25, [none, none, none], [(0, none)], fun xs h => match xs with
  | [t0] => Gr_placeIn_25 kr t0 h
  | _ => none)]) kr (fun _ _ => none) 400 24 [none, none, none] [] h := by rfl
set_option maxRecDepth 100000 in
theorem qe_Gr_placeIn {ρ : Type} (kr : Int → zH → Option ρ) (a0 a1 : Int) (h : zH) : Gr_placeIn a0 a1 h kr = zseg zPP true (zcal [(203, [none, none], fun xs h kr kt => match xs with
  | [x0, x1] => Gr_threadIn x0 x1 h kr
  | _ => none), (255, [none], fun xs h kr kt => match xs with
  | [x0] => Th_isRunning x0 h kr
  | _ => none)]) (zget (999, 0, 0, 0) zc_Gr_placeIn) (zcut zu_Gr_placeIn) (zorc [(24, [none, none, none], [], fun xs h => match xs with
  | [] => Gr_placeIn_24 kr h
  | _ => none), (25, [none, none, none], [(0, none)], fun xs h => match xs with
  | [t0] => Gr_placeIn_25 kr t0 h
  | _ => none)]) kr (fun _ _ => none) 400 0 [some (111, a0), some (0, a1), none] [] h := by rfl
