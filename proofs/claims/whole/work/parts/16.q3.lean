def zc_Gr_leastPlace : List zI := [(0, (-1), 0, 0), (16, 0, 1, 0), (0, 0, 0, 0), (16, 0, 2, 0), (10, 0, 2, 0), (0, 4, 0, 0), (69, 32, 38, 0), (999, 0, 0, 0), (999, 0, 0, 0), (14, 0, 0, 111), (10, 0, 2, 0), (110, 0, 46, 204), (999, 0, 0, 0), (999, 0, 0, 0), (16, 0, 3, 0), (10, 0, 3, 0), (0, (-1), 0, 0), (66, 15, 32, 0), (999, 0, 0, 0), (999, 0, 0, 0), (10, 0, 1, 0), (0, (-1), 0, 0), (66, 8, 30, 0), (999, 0, 0, 0), (999, 0, 0, 0), (10, 0, 3, 0), (10, 0, 1, 0), (69, 5, 32, 0), (999, 0, 0, 0), (999, 0, 0, 0), (10, 0, 3, 0), (16, 0, 1, 0), (22, 1, 2, 0), (999, 0, 0, 0), (999, 0, 0, 0), (72, (-31), 4, 0), (999, 0, 0, 0), (999, 0, 0, 0), (10, 0, 1, 0), (130, 0, 0, 0)]
def zu_Gr_leastPlace : List (Nat × List Bool) := [(4, [true, true, true, false]), (30, [true, false, true, true]), (32, [true, true, true, false])]
set_option maxRecDepth 100000 in
theorem qe_Gr_leastPlace_32 {ρ : Type} (kr : Int → zH → Option ρ) (r4 : Int → Int → Int → zH → Option ρ) (a0 a1 a2 : Int) (h : zH) : Gr_leastPlace_32 kr r4 a0 a1 a2 h = zseg zPP true (zcal []) (zget (999, 0, 0, 0) zc_Gr_leastPlace) (zcut zu_Gr_leastPlace) (zorc [(4, [some (111, none), some (0, none), some (0, none), none], [], fun xs h => match xs with
  | [a0, a1, a2] => r4 a0 a1 a2 h
  | _ => none)]) kr (fun _ _ => none) 400 32 [some (111, a0), some (0, a1), some (0, a2), none] [] h := by rfl
set_option maxRecDepth 100000 in
theorem qe_Gr_leastPlace_30 {ρ : Type} (kr : Int → zH → Option ρ) (r4 : Int → Int → Int → zH → Option ρ) (a0 a2 a3 : Int) (h : zH) : Gr_leastPlace_30 kr r4 a0 a2 a3 h = zseg zPP true (zcal []) (zget (999, 0, 0, 0) zc_Gr_leastPlace) (zcut zu_Gr_leastPlace) (zorc [(32, [some (111, none), some (0, none), some (0, none), none], [], fun xs h => match xs with
  | [a0, a1, a2] => Gr_leastPlace_32 kr r4 a0 a1 a2 h
  | _ => none)]) kr (fun _ _ => none) 400 30 [some (111, a0), none, some (0, a2), some (0, a3)] [] h := by rfl
set_option maxRecDepth 100000 in
theorem qe_Gr_leastPlace_4b {ρ : Type} (kr : Int → zH → Option ρ) (r4 : Int → Int → Int → zH → Option ρ) (a0 a1 a2 : Int) (h : zH) : Gr_leastPlace_4b kr r4 a0 a1 a2 h = zseg zPP true (zcal [(204, [none, none], fun xs h kr kt => match xs with
  | [x0, x1] => Gr_placeIn x0 x1 h kr
  | _ => none)]) (zget (999, 0, 0, 0) zc_Gr_leastPlace) (zcut zu_Gr_leastPlace) (zorc [(30, [some (111, none), none, some (0, none), some (0, none)], [], fun xs h => match xs with
  | [a0, a2, a3] => Gr_leastPlace_30 kr r4 a0 a2 a3 h
  | _ => none), (32, [some (111, none), some (0, none), some (0, none), none], [], fun xs h => match xs with
  | [a0, a1, a2] => Gr_leastPlace_32 kr r4 a0 a1 a2 h
  | _ => none)]) kr (fun _ _ => none) 400 4 [some (111, a0), some (0, a1), some (0, a2), none] [] h := by rfl
set_option maxRecDepth 100000 in
theorem qe_Gr_leastPlace {ρ : Type} (kr : Int → zH → Option ρ) (a0 : Int) (h : zH) : Gr_leastPlace a0 h kr = zseg zPP true (zcal []) (zget (999, 0, 0, 0) zc_Gr_leastPlace) (zcut zu_Gr_leastPlace) (zorc [(4, [some (111, none), some (0, none), some (0, none), none], [], fun xs h => match xs with
  | [a0, a1, a2] => Gr_leastPlace_4 kr a0 a1 a2 h
  | _ => none)]) kr (fun _ _ => none) 400 0 [some (111, a0), none, none, none] [] h := by rfl
def zc_Gr_lanesUnderMask : List zI := [(14, 0, 0, 111), (110, 0, 50, 205), (999, 0, 0, 0), (999, 0, 0, 0), (16, 0, 1, 0), (0, 0, 0, 0), (16, 0, 2, 0), (0, 0, 0, 0), (16, 0, 3, 0), (10, 0, 3, 0), (0, 4, 0, 0), (69, 29, 40, 0), (999, 0, 0, 0), (999, 0, 0, 0), (10, 0, 1, 0), (0, (-1), 0, 0), (66, 18, 34, 0), (999, 0, 0, 0), (999, 0, 0, 0), (14, 0, 0, 111), (10, 0, 3, 0), (110, 0, 46, 204), (999, 0, 0, 0), (999, 0, 0, 0), (10, 0, 1, 0), (67, 9, 34, 0), (999, 0, 0, 0), (999, 0, 0, 0), (10, 0, 2, 0), (0, 1, 0, 0), (10, 0, 3, 0), (39, 0, 0, 0), (37, 0, 0, 0), (16, 0, 2, 0), (22, 1, 3, 0), (999, 0, 0, 0), (999, 0, 0, 0), (72, (-28), 9, 0), (999, 0, 0, 0), (999, 0, 0, 0), (10, 0, 2, 0), (130, 0, 0, 0)]
def zu_Gr_lanesUnderMask : List (Nat × List Bool) := [(9, [true, true, true, true]), (34, [true, true, true, true])]
set_option maxRecDepth 100000 in
theorem qe_Gr_lanesUnderMask_34 {ρ : Type} (kr : Int → zH → Option ρ) (r9 : Int → Int → Int → Int → zH → Option ρ) (a0 a1 a2 a3 : Int) (h : zH) : Gr_lanesUnderMask_34 kr r9 a0 a1 a2 a3 h = zseg zPP true (zcal []) (zget (999, 0, 0, 0) zc_Gr_lanesUnderMask) (zcut zu_Gr_lanesUnderMask) (zorc [(9, [some (111, none), some (0, none), some (0, none), some (0, none)], [], fun xs h => match xs with
  | [a0, a1, a2, a3] => r9 a0 a1 a2 a3 h
  | _ => none)]) kr (fun _ _ => none) 400 34 [some (111, a0), some (0, a1), some (0, a2), some (0, a3)] [] h := by rfl
set_option maxRecDepth 100000 in
theorem qe_Gr_lanesUnderMask_9b {ρ : Type} (kr : Int → zH → Option ρ) (r9 : Int → Int → Int → Int → zH → Option ρ) (a0 a1 a2 a3 : Int) (h : zH) : Gr_lanesUnderMask_9b kr r9 a0 a1 a2 a3 h = zseg zPP true (zcal [(204, [none, none], fun xs h kr kt => match xs with
  | [x0, x1] => Gr_placeIn x0 x1 h kr
  | _ => none)]) (zget (999, 0, 0, 0) zc_Gr_lanesUnderMask) (zcut zu_Gr_lanesUnderMask) (zorc [(34, [some (111, none), some (0, none), some (0, none), some (0, none)], [], fun xs h => match xs with
  | [a0, a1, a2, a3] => Gr_lanesUnderMask_34 kr r9 a0 a1 a2 a3 h
  | _ => none)]) kr (fun _ _ => none) 400 9 [some (111, a0), some (0, a1), some (0, a2), some (0, a3)] [] h := by rfl
set_option maxRecDepth 100000 in
theorem qe_Gr_lanesUnderMask {ρ : Type} (kr : Int → zH → Option ρ) (a0 : Int) (h : zH) : Gr_lanesUnderMask a0 h kr = zseg zPP true (zcal [(205, [none], fun xs h kr kt => match xs with
  | [x0] => Gr_leastPlace x0 h kr
  | _ => none)]) (zget (999, 0, 0, 0) zc_Gr_lanesUnderMask) (zcut zu_Gr_lanesUnderMask) (zorc [(9, [some (111, none), some (0, none), some (0, none), some (0, none)], [], fun xs h => match xs with
  | [a0, a1, a2, a3] => Gr_lanesUnderMask_9 kr a0 a1 a2 a3 h
  | _ => none)]) kr (fun _ _ => none) 400 0 [some (111, a0), none, none, none] [] h := by rfl
def zc_Ke_instructionAt : List zI := [(10, 0, 1, 0), (0, 0, 0, 0), (14, 0, 0, 107), (80, 7, 24, 3), (999, 0, 0, 0), (999, 0, 0, 0), (0, 1, 0, 0), (31, 0, 0, 0), (114, 0, 27, 54), (999, 0, 0, 0), (999, 0, 0, 0), (60, 12, 23, 0), (999, 0, 0, 0), (999, 0, 0, 0), (14, 0, 0, 107), (80, 7, 11, 2), (999, 0, 0, 0), (999, 0, 0, 0), (10, 0, 1, 0), (94, 0, 0, 33), (72, 4, 24, 0), (999, 0, 0, 0), (999, 0, 0, 0), (7, 0, 0, 108), (132, 0, 0, 108)]
def zu_Ke_instructionAt : List (Nat × List Bool) := [(24, [false, false])]
set_option maxRecDepth 100000 in
theorem qe_Ke_instructionAt_24 {ρ : Type} (kr : Int → zH → Option ρ) (t0 : Int) (h : zH) : Ke_instructionAt_24 kr t0 h = zseg zPP true (zcal []) (zget (999, 0, 0, 0) zc_Ke_instructionAt) (zcut zu_Ke_instructionAt) (zorc []) kr (fun _ _ => none) 400 24 [none, none] [(108, t0)] h := by rfl
set_option maxRecDepth 100000 in
theorem qe_Ke_instructionAt {ρ : Type} (kr : Int → zH → Option ρ) (a0 a1 : Int) (h : zH) : Ke_instructionAt a0 a1 h kr = zseg zPP true (zcal [(54, [none, none, none], fun xs h kr kt => match xs with
  | [x0, x1, x2] => X_isWithin x0 x1 x2 h kr
  | _ => none)]) (zget (999, 0, 0, 0) zc_Ke_instructionAt) (zcut zu_Ke_instructionAt) (zorc [(24, [none, none], [(108, none)], fun xs h => match xs with
  | [t0] => Ke_instructionAt_24 kr t0 h
  | _ => none)]) kr (fun _ _ => none) 400 0 [some (107, a0), some (0, a1)] [] h := by rfl
def zc_Th_goOn : List zI := [(14, 0, 1, 108), (80, 8, 42, 0), (999, 0, 0, 0), (999, 0, 0, 0), (1, 98, 0, 0), (999, 0, 0, 0), (67, 12, 18, 0), (999, 0, 0, 0), (999, 0, 0, 0), (14, 0, 0, 106), (1, 119, 0, 0), (999, 0, 0, 0), (82, 6, 34, 4), (999, 0, 0, 0), (999, 0, 0, 0), (72, 73, 88, 0), (999, 0, 0, 0), (999, 0, 0, 0), (14, 0, 1, 108), (80, 8, 42, 0), (999, 0, 0, 0), (999, 0, 0, 0), (1, 101, 0, 0), (999, 0, 0, 0), (67, 12, 36, 0), (999, 0, 0, 0), (999, 0, 0, 0), (14, 0, 0, 106), (1, 101, 0, 0), (999, 0, 0, 0), (82, 6, 34, 4), (999, 0, 0, 0), (999, 0, 0, 0), (72, 55, 88, 0), (999, 0, 0, 0), (999, 0, 0, 0), (14, 0, 1, 108), (80, 8, 42, 0), (999, 0, 0, 0), (999, 0, 0, 0), (1, 106, 0, 0), (999, 0, 0, 0), (66, 23, 65, 0), (999, 0, 0, 0), (999, 0, 0, 0), (14, 0, 1, 108), (80, 8, 42, 0), (999, 0, 0, 0), (999, 0, 0, 0), (1, 122, 0, 0), (999, 0, 0, 0), (67, 26, 77, 0), (999, 0, 0, 0), (999, 0, 0, 0), (14, 0, 0, 106), (14, 0, 1, 108), (80, 8, 47, 1), (999, 0, 0, 0), (999, 0, 0, 0), (110, 0, 56, 258), (999, 0, 0, 0), (999, 0, 0, 0), (61, 15, 77, 0), (999, 0, 0, 0), (999, 0, 0, 0), (14, 0, 0, 106), (14, 0, 1, 108), (80, 8, 50, 2), (999, 0, 0, 0), (999, 0, 0, 0), (10, 0, 2, 0), (110, 0, 38, 262), (999, 0, 0, 0), (999, 0, 0, 0), (72, 14, 88, 0), (999, 0, 0, 0), (999, 0, 0, 0), (14, 0, 0, 106), (14, 0, 0, 106), (80, 6, 63, 3), (999, 0, 0, 0), (999, 0, 0, 0), (0, 1, 0, 0), (30, 0, 0, 0), (10, 0, 2, 0), (110, 0, 38, 262), (999, 0, 0, 0), (999, 0, 0, 0), (133, 0, 0, 0)]
def zu_Th_goOn : List (Nat × List Bool) := [(65, [true, true, true]), (77, [true, false, true]), (88, [false, false, false])]
set_option maxRecDepth 100000 in
theorem qe_Th_goOn_88 {ρ : Type} (kr : Int → zH → Option ρ) (h : zH) : Th_goOn_88 kr h = zseg zPP true (zcal []) (zget (999, 0, 0, 0) zc_Th_goOn) (zcut zu_Th_goOn) (zorc []) kr (fun _ _ => none) 400 88 [none, none, none] [] h := by rfl
set_option maxRecDepth 100000 in
theorem qe_Th_goOn_65 {ρ : Type} (kr : Int → zH → Option ρ) (a0 a1 a2 : Int) (h : zH) : Th_goOn_65 kr a0 a1 a2 h = zseg zPP true (zcal [(262, [none, none, none], fun xs h kr kt => match xs with
  | [x0, x1, x2] => Th_goTo x0 x1 x2 h kr
  | _ => none)]) (zget (999, 0, 0, 0) zc_Th_goOn) (zcut zu_Th_goOn) (zorc [(88, [none, none, none], [], fun xs h => match xs with
  | [] => Th_goOn_88 kr h
  | _ => none)]) kr (fun _ _ => none) 400 65 [some (106, a0), some (108, a1), some (0, a2)] [] h := by rfl
set_option maxRecDepth 100000 in
theorem qe_Th_goOn_77 {ρ : Type} (kr : Int → zH → Option ρ) (a0 a2 : Int) (h : zH) : Th_goOn_77 kr a0 a2 h = zseg zPP true (zcal [(262, [none, none, none], fun xs h kr kt => match xs with
  | [x0, x1, x2] => Th_goTo x0 x1 x2 h kr
  | _ => none)]) (zget (999, 0, 0, 0) zc_Th_goOn) (zcut zu_Th_goOn) (zorc [(88, [none, none, none], [], fun xs h => match xs with
  | [] => Th_goOn_88 kr h
  | _ => none)]) kr (fun _ _ => none) 400 77 [some (106, a0), none, some (0, a2)] [] h := by rfl
set_option maxRecDepth 100000 in
theorem qe_Th_goOn {ρ : Type} (kr : Int → zH → Option ρ) (a0 a1 a2 : Int) (h : zH) : Th_goOn a0 a1 a2 h kr = zseg zPP true (zcal [(258, [none, none], fun xs h kr kt => match xs with
  | [x0, x1] => Th_at x0 x1 h kr
  | _ => none)]) (zget (999, 0, 0, 0) zc_Th_goOn) (zcut zu_Th_goOn) (zorc [(65, [some (106, none), some (108, none), some (0, none)], [], fun xs h => match xs with
  | [a0, a1, a2] => Th_goOn_65 kr a0 a1 a2 h
  | _ => none), (77, [some (106, none), none, some (0, none)], [], fun xs h => match xs with
  | [a0, a2] => Th_goOn_77 kr a0 a2 h
  | _ => none), (88, [none, none, none], [], fun xs h => match xs with
  | [] => Th_goOn_88 kr h
  | _ => none)]) kr (fun _ _ => none) 400 0 [some (106, a0), some (108, a1), some (0, a2)] [] h := by rfl
def zc_Co_carryOut : List zI := [(14, 0, 2, 111), (110, 0, 140, 205), (999, 0, 0, 0), (999, 0, 0, 0), (16, 0, 3, 0), (14, 0, 2, 111), (80, 11, 66, 0), (999, 0, 0, 0), (999, 0, 0, 0), (80, 10, 144, 0), (999, 0, 0, 0), (999, 0, 0, 0), (80, 9, 107, 5), (999, 0, 0, 0), (999, 0, 0, 0), (21, 0, 4, 107), (999, 0, 0, 0), (15, 0, 4, 107), (999, 0, 0, 0), (10, 0, 3, 0), (110, 0, 148, 224), (999, 0, 0, 0), (999, 0, 0, 0), (21, 0, 5, 108), (999, 0, 0, 0), (15, 0, 5, 108), (999, 0, 0, 0), (74, 5, 32, 0), (999, 0, 0, 0), (999, 0, 0, 0), (0, 0, 0, 0), (130, 0, 1, 0), (14, 0, 0, 102), (80, 2, 25, 3), (999, 0, 0, 0), (999, 0, 0, 0), (50, 0, 0, 0), (80, 4, 154, 0), (999, 0, 0, 0), (999, 0, 0, 0), (5, 1, 1, 0), (45, 0, 0, 0), (82, 4, 154, 0), (999, 0, 0, 0), (999, 0, 0, 0), (14, 0, 0, 102), (14, 0, 2, 111), (110, 0, 158, 206), (999, 0, 0, 0), (999, 0, 0, 0), (82, 2, 161, 8), (999, 0, 0, 0), (999, 0, 0, 0), (14, 0, 0, 102), (14, 0, 2, 111), (15, 0, 5, 108), (999, 0, 0, 0), (110, 0, 164, 187), (999, 0, 0, 0), (999, 0, 0, 0), (0, 0, 0, 0), (17, 0, 6, 0), (999, 0, 0, 0), (11, 0, 6, 0), (999, 0, 0, 0), (0, 4, 0, 0), (69, 100, 166, 0), (999, 0, 0, 0), (999, 0, 0, 0), (14, 0, 2, 111), (11, 0, 6, 0), (999, 0, 0, 0), (110, 0, 168, 203), (999, 0, 0, 0), (999, 0, 0, 0), (21, 0, 7, 106), (999, 0, 0, 0), (15, 0, 7, 106), (999, 0, 0, 0), (73, 81, 160, 0), (999, 0, 0, 0), (999, 0, 0, 0), (14, 0, 0, 102), (80, 2, 161, 8), (999, 0, 0, 0), (999, 0, 0, 0), (11, 0, 6, 0), (999, 0, 0, 0), (114, 0, 172, 56), (999, 0, 0, 0), (999, 0, 0, 0), (61, 6, 97, 0), (999, 0, 0, 0), (999, 0, 0, 0), (72, 66, 160, 0), (999, 0, 0, 0), (999, 0, 0, 0), (14, 0, 0, 102), (14, 0, 2, 111), (11, 0, 6, 0), (999, 0, 0, 0), (15, 0, 7, 106), (999, 0, 0, 0), (15, 0, 5, 108), (999, 0, 0, 0), (110, 0, 176, 188), (999, 0, 0, 0), (999, 0, 0, 0), (17, 0, 8, 0), (999, 0, 0, 0), (11, 0, 8, 0), (999, 0, 0, 0), (1, 45, 0, 0), (999, 0, 0, 0), (66, 21, 135, 0), (999, 0, 0, 0), (999, 0, 0, 0), (14, 0, 0, 102), (14, 0, 2, 111), (80, 11, 66, 0), (999, 0, 0, 0), (999, 0, 0, 0), (15, 0, 7, 106), (999, 0, 0, 0), (80, 6, 180, 0), (999, 0, 0, 0), (999, 0, 0, 0), (10, 0, 3, 0), (11, 0, 8, 0), (999, 0, 0, 0), (110, 0, 185, 200), (999, 0, 0, 0), (999, 0, 0, 0), (0, 0, 0, 0), (130, 0, 1, 0), (15, 0, 7, 106), (999, 0, 0, 0), (15, 0, 5, 108), (999, 0, 0, 0), (15, 0, 4, 107), (999, 0, 0, 0), (80, 7, 189, 3), (999, 0, 0, 0), (999, 0, 0, 0), (110, 0, 192, 261), (999, 0, 0, 0), (999, 0, 0, 0), (14, 0, 0, 102), (80, 2, 25, 3), (999, 0, 0, 0), (999, 0, 0, 0), (50, 0, 0, 0), (80, 4, 196, 1), (999, 0, 0, 0), (999, 0, 0, 0), (5, 1, 1, 0), (45, 0, 0, 0), (82, 4, 196, 1), (999, 0, 0, 0), (999, 0, 0, 0), (22, 1, 6, 0), (999, 0, 0, 0), (999, 0, 0, 0), (72, (-100), 63, 0), (999, 0, 0, 0), (999, 0, 0, 0), (14, 0, 2, 111), (14, 0, 0, 102), (80, 2, 54, 4), (999, 0, 0, 0), (999, 0, 0, 0), (14, 0, 0, 102), (14, 0, 1, 103), (15, 0, 5, 108), (999, 0, 0, 0), (110, 0, 199, 192), (999, 0, 0, 0), (999, 0, 0, 0), (30, 0, 0, 0), (82, 11, 203, 6), (999, 0, 0, 0), (999, 0, 0, 0), (0, 1, 0, 0), (130, 0, 1, 0)]
def zu_Co_carryOut : List (Nat × List Bool) := [(63, [true, true, true, true, true, true, true, false, false]), (160, [true, true, true, true, true, true, true, false, false])]
set_option maxRecDepth 100000 in
theorem qe_Co_carryOut_160 {ρ : Type} (kr : Int → zH → Option ρ) (r63 : Int → Int → Int → Int → Int → Int → Int → zH → Option ρ) (a0 a1 a2 a3 a4 a5 a6 : Int) (h : zH) : Co_carryOut_160 kr r63 a0 a1 a2 a3 a4 a5 a6 h = zseg zPP true (zcal []) (zget (999, 0, 0, 0) zc_Co_carryOut) (zcut zu_Co_carryOut) (zorc [(63, [some (102, none), some (103, none), some (111, none), some (0, none), some (107, none), some (108, none), some (0, none), none, none], [], fun xs h => match xs with
  | [a0, a1, a2, a3, a4, a5, a6] => r63 a0 a1 a2 a3 a4 a5 a6 h
  | _ => none)]) kr (fun _ _ => none) 400 160 [some (102, a0), some (103, a1), some (111, a2), some (0, a3), some (107, a4), some (108, a5), some (0, a6), none, none] [] h := by rfl
set_option maxRecDepth 100000 in
theorem qe_Co_carryOut_63b {ρ : Type} (kr : Int → zH → Option ρ) (r63 : Int → Int → Int → Int → Int → Int → Int → zH → Option ρ) (a0 a1 a2 a3 a4 a5 a6 : Int) (h : zH) : Co_carryOut_63b kr r63 a0 a1 a2 a3 a4 a5 a6 h = zseg zPP true (zcal [(56, [none, none], fun xs h kr kt => match xs with
  | [x0, x1] => X_isIn x0 x1 h kr
  | _ => none), (188, [none, none, none, none, none], fun xs h kr kt => match xs with
  | [x0, x1, x2, x3, x4] => Co_carryLane x0 x1 x2 x3 x4 h kr
  | _ => none), (192, [none, none, none], fun xs h kr kt => match xs with
  | [x0, x1, x2] => Co_countedDelay x0 x1 x2 h kr
  | _ => none), (200, [none, none, none, none, none], fun xs h kr kt => match xs with
  | [x0, x1, x2, x3, x4] => Co_fail x0 x1 x2 x3 x4 h kr
  | _ => none), (203, [none, none], fun xs h kr kt => match xs with
  | [x0, x1] => Gr_threadIn x0 x1 h kr
  | _ => none), (261, [none, none, none], fun xs h kr kt => match xs with
  | [x0, x1, x2] => Th_goOn x0 x1 x2 h kr
  | _ => none)]) (zget (999, 0, 0, 0) zc_Co_carryOut) (zcut zu_Co_carryOut) (zorc [(160, [some (102, none), some (103, none), some (111, none), some (0, none), some (107, none), some (108, none), some (0, none), none, none], [], fun xs h => match xs with
  | [a0, a1, a2, a3, a4, a5, a6] => Co_carryOut_160 kr r63 a0 a1 a2 a3 a4 a5 a6 h
  | _ => none)]) kr (fun _ _ => none) 400 63 [some (102, a0), some (103, a1), some (111, a2), some (0, a3), some (107, a4), some (108, a5), some (0, a6), none, none] [] h := by rfl
set_option maxRecDepth 100000 in
theorem qe_Co_carryOut {ρ : Type} (kr : Int → zH → Option ρ) (a0 a1 a2 : Int) (h : zH) : Co_carryOut a0 a1 a2 h kr = zseg zPP true (zcal [(187, [none, none, none], fun xs h kr kt => match xs with
  | [x0, x1, x2] => Co_lookAhead x0 x1 x2 h kr
  | _ => none), (205, [none], fun xs h kr kt => match xs with
  | [x0] => Gr_leastPlace x0 h kr
  | _ => none), (206, [none], fun xs h kr kt => match xs with
  | [x0] => Gr_lanesUnderMask x0 h kr
  | _ => none), (224, [none, none], fun xs h kr kt => match xs with
  | [x0, x1] => Ke_instructionAt x0 x1 h kr
  | _ => none)]) (zget (999, 0, 0, 0) zc_Co_carryOut) (zcut zu_Co_carryOut) (zorc [(63, [some (102, none), some (103, none), some (111, none), some (0, none), some (107, none), some (108, none), some (0, none), none, none], [], fun xs h => match xs with
  | [a0, a1, a2, a3, a4, a5, a6] => Co_carryOut_63 kr a0 a1 a2 a3 a4 a5 a6 h
  | _ => none)]) kr (fun _ _ => none) 400 0 [some (102, a0), some (103, a1), some (111, a2), none, none, none, none, none, none] [] h := by rfl
def zc_Bl_isAllWaiting : List zI := [(14, 0, 0, 110), (80, 10, 30, 2), (999, 0, 0, 0), (999, 0, 0, 0), (14, 0, 0, 110), (80, 10, 30, 2), (999, 0, 0, 0), (999, 0, 0, 0), (100, 0, 0, 36), (113, 0, 86, 263), (999, 0, 0, 0), (999, 0, 0, 0), (61, 22, 34, 0), (999, 0, 0, 0), (999, 0, 0, 0), (14, 0, 0, 110), (80, 10, 30, 2), (999, 0, 0, 0), (999, 0, 0, 0), (14, 0, 0, 110), (80, 10, 30, 2), (999, 0, 0, 0), (999, 0, 0, 0), (100, 0, 0, 36), (113, 0, 90, 265), (999, 0, 0, 0), (999, 0, 0, 0), (73, 7, 34, 0), (999, 0, 0, 0), (999, 0, 0, 0), (0, 1, 0, 0), (72, 4, 35, 0), (999, 0, 0, 0), (999, 0, 0, 0), (0, 0, 0, 0), (130, 0, 1, 0)]
def zu_Bl_isAllWaiting : List (Nat × List Bool) := [(34, [false]), (35, [false])]
set_option maxRecDepth 100000 in
theorem qe_Bl_isAllWaiting_35 {ρ : Type} (kr : Int → zH → Option ρ) (t0 : Int) (h : zH) : Bl_isAllWaiting_35 kr t0 h = zseg zPP true (zcal []) (zget (999, 0, 0, 0) zc_Bl_isAllWaiting) (zcut zu_Bl_isAllWaiting) (zorc []) kr (fun _ _ => none) 400 35 [none] [(0, t0)] h := by rfl
set_option maxRecDepth 100000 in
theorem qe_Bl_isAllWaiting_34 {ρ : Type} (kr : Int → zH → Option ρ) (h : zH) : Bl_isAllWaiting_34 kr h = zseg zPP true (zcal []) (zget (999, 0, 0, 0) zc_Bl_isAllWaiting) (zcut zu_Bl_isAllWaiting) (zorc [(35, [none], [(0, none)], fun xs h => match xs with
  | [t0] => Bl_isAllWaiting_35 kr t0 h
  | _ => none)]) kr (fun _ _ => none) 400 34 [none] [] h := by rfl
set_option maxRecDepth 100000 in
theorem qe_Bl_isAllWaiting {ρ : Type} (kr : Int → zH → Option ρ) (a0 : Int) (h : zH) : Bl_isAllWaiting a0 h kr = zseg zPP true (zcal [(263, [none, none], fun xs h kr kt => match xs with
  | [x0, x1] => Th_isAnyRunning x0 x1 h kr
  | _ => none), (265, [none, none], fun xs h kr kt => match xs with
  | [x0, x1] => Th_lowestOfWaiting_36 x0 x1 h kr
  | _ => none)]) (zget (999, 0, 0, 0) zc_Bl_isAllWaiting) (zcut zu_Bl_isAllWaiting) (zorc [(34, [none], [], fun xs h => match xs with
  | [] => Bl_isAllWaiting_34 kr h
  | _ => none), (35, [none], [(0, none)], fun xs h => match xs with
  | [t0] => Bl_isAllWaiting_35 kr t0 h
  | _ => none)]) kr (fun _ _ => none) 400 0 [some (110, a0)] [] h := by rfl
def zc_Th_isEnded : List zI := [(14, 0, 0, 106), (80, 6, 34, 4), (999, 0, 0, 0), (999, 0, 0, 0), (1, 101, 0, 0), (999, 0, 0, 0), (67, 7, 13, 0), (999, 0, 0, 0), (999, 0, 0, 0), (0, 1, 0, 0), (72, 4, 14, 0), (999, 0, 0, 0), (999, 0, 0, 0), (0, 0, 0, 0), (130, 0, 1, 0)]
def zu_Th_isEnded : List (Nat × List Bool) := [(14, [false])]
set_option maxRecDepth 100000 in
theorem qe_Th_isEnded_14 {ρ : Type} (kr : Int → zH → Option ρ) (t0 : Int) (h : zH) : Th_isEnded_14 kr t0 h = zseg zPP true (zcal []) (zget (999, 0, 0, 0) zc_Th_isEnded) (zcut zu_Th_isEnded) (zorc []) kr (fun _ _ => none) 400 14 [none] [(0, t0)] h := by rfl
set_option maxRecDepth 100000 in
theorem qe_Th_isEnded {ρ : Type} (kr : Int → zH → Option ρ) (a0 : Int) (h : zH) : Th_isEnded a0 h kr = zseg zPP true (zcal []) (zget (999, 0, 0, 0) zc_Th_isEnded) (zcut zu_Th_isEnded) (zorc [(14, [none], [(0, none)], fun xs h => match xs with
  | [t0] => Th_isEnded_14 kr t0 h
  | _ => none)]) kr (fun _ _ => none) 400 0 [some (106, a0)] [] h := by rfl
def zc_Gr_hasEnded : List zI := [(0, 0, 0, 0), (16, 0, 1, 0), (10, 0, 1, 0), (0, 4, 0, 0), (69, 28, 32, 0), (999, 0, 0, 0), (999, 0, 0, 0), (14, 0, 0, 111), (10, 0, 1, 0), (110, 0, 35, 203), (999, 0, 0, 0), (999, 0, 0, 0), (20, 0, 2, 106), (14, 0, 2, 106), (73, 12, 26, 0), (999, 0, 0, 0), (999, 0, 0, 0), (14, 0, 2, 106), (110, 0, 58, 257), (999, 0, 0, 0), (999, 0, 0, 0), (61, 5, 26, 0), (999, 0, 0, 0), (999, 0, 0, 0), (0, 0, 0, 0), (130, 0, 1, 0), (22, 1, 1, 0), (999, 0, 0, 0), (999, 0, 0, 0), (72, (-27), 2, 0), (999, 0, 0, 0), (999, 0, 0, 0), (0, 1, 0, 0), (130, 0, 1, 0)]
def zu_Gr_hasEnded : List (Nat × List Bool) := [(2, [true, true, false]), (26, [true, true, false])]
set_option maxRecDepth 100000 in
theorem qe_Gr_hasEnded_26 {ρ : Type} (kr : Int → zH → Option ρ) (r2 : Int → Int → zH → Option ρ) (a0 a1 : Int) (h : zH) : Gr_hasEnded_26 kr r2 a0 a1 h = zseg zPP true (zcal []) (zget (999, 0, 0, 0) zc_Gr_hasEnded) (zcut zu_Gr_hasEnded) (zorc [(2, [some (111, none), some (0, none), none], [], fun xs h => match xs with
  | [a0, a1] => r2 a0 a1 h
  | _ => none)]) kr (fun _ _ => none) 400 26 [some (111, a0), some (0, a1), none] [] h := by rfl
set_option maxRecDepth 100000 in
theorem qe_Gr_hasEnded_2b {ρ : Type} (kr : Int → zH → Option ρ) (r2 : Int → Int → zH → Option ρ) (a0 a1 : Int) (h : zH) : Gr_hasEnded_2b kr r2 a0 a1 h = zseg zPP true (zcal [(203, [none, none], fun xs h kr kt => match xs with
  | [x0, x1] => Gr_threadIn x0 x1 h kr
  | _ => none), (257, [none], fun xs h kr kt => match xs with
  | [x0] => Th_isEnded x0 h kr
  | _ => none)]) (zget (999, 0, 0, 0) zc_Gr_hasEnded) (zcut zu_Gr_hasEnded) (zorc [(26, [some (111, none), some (0, none), none], [], fun xs h => match xs with
  | [a0, a1] => Gr_hasEnded_26 kr r2 a0 a1 h
  | _ => none)]) kr (fun _ _ => none) 400 2 [some (111, a0), some (0, a1), none] [] h := by rfl
set_option maxRecDepth 100000 in
theorem qe_Gr_hasEnded {ρ : Type} (kr : Int → zH → Option ρ) (a0 : Int) (h : zH) : Gr_hasEnded a0 h kr = zseg zPP true (zcal []) (zget (999, 0, 0, 0) zc_Gr_hasEnded) (zcut zu_Gr_hasEnded) (zorc [(2, [some (111, none), some (0, none), none], [], fun xs h => match xs with
  | [a0, a1] => Gr_hasEnded_2 kr a0 a1 h
  | _ => none)]) kr (fun _ _ => none) 400 0 [some (111, a0), none, none] [] h := by rfl
def zc_Bl_writeEndedGroups : List zI := [(0, 0, 0, 0), (16, 0, 2, 0), (10, 0, 2, 0), (14, 0, 0, 110), (80, 10, 57, 3), (999, 0, 0, 0), (999, 0, 0, 0), (100, 0, 0, 37), (69, 32, 40, 0), (999, 0, 0, 0), (999, 0, 0, 0), (14, 0, 0, 110), (80, 10, 57, 3), (999, 0, 0, 0), (999, 0, 0, 0), (10, 0, 2, 0), (94, 0, 0, 37), (110, 0, 120, 209), (999, 0, 0, 0), (999, 0, 0, 0), (60, 14, 34, 0), (999, 0, 0, 0), (999, 0, 0, 0), (14, 0, 0, 110), (80, 10, 57, 3), (999, 0, 0, 0), (999, 0, 0, 0), (10, 0, 2, 0), (94, 0, 0, 37), (14, 0, 1, 122), (110, 0, 124, 217), (999, 0, 0, 0), (999, 0, 0, 0), (52, 0, 0, 0), (22, 1, 2, 0), (999, 0, 0, 0), (999, 0, 0, 0), (72, (-35), 2, 0), (999, 0, 0, 0), (999, 0, 0, 0), (133, 0, 0, 0)]
def zu_Bl_writeEndedGroups : List (Nat × List Bool) := [(2, [true, true, true]), (34, [true, true, true])]
set_option maxRecDepth 100000 in
theorem qe_Bl_writeEndedGroups_34 {ρ : Type} (kr : Int → zH → Option ρ) (r2 : Int → Int → Int → zH → Option ρ) (a0 a1 a2 : Int) (h : zH) : Bl_writeEndedGroups_34 kr r2 a0 a1 a2 h = zseg zPP true (zcal []) (zget (999, 0, 0, 0) zc_Bl_writeEndedGroups) (zcut zu_Bl_writeEndedGroups) (zorc [(2, [some (110, none), some (122, none), some (0, none)], [], fun xs h => match xs with
  | [a0, a1, a2] => r2 a0 a1 a2 h
  | _ => none)]) kr (fun _ _ => none) 400 34 [some (110, a0), some (122, a1), some (0, a2)] [] h := by rfl
set_option maxRecDepth 100000 in
theorem qe_Bl_writeEndedGroups_2b {ρ : Type} (kr : Int → zH → Option ρ) (r2 : Int → Int → Int → zH → Option ρ) (a0 a1 a2 : Int) (h : zH) : Bl_writeEndedGroups_2b kr r2 a0 a1 a2 h = zseg zPP true (zcal [(209, [none], fun xs h kr kt => match xs with
  | [x0] => Gr_hasEnded x0 h kr
  | _ => none), (217, [none, none], fun xs h kr kt => match xs with
  | [x0, x1] => Gr_writeAll x0 x1 h kr
  | _ => none)]) (zget (999, 0, 0, 0) zc_Bl_writeEndedGroups) (zcut zu_Bl_writeEndedGroups) (zorc [(34, [some (110, none), some (122, none), some (0, none)], [], fun xs h => match xs with
  | [a0, a1, a2] => Bl_writeEndedGroups_34 kr r2 a0 a1 a2 h
  | _ => none)]) kr (fun _ _ => none) 400 2 [some (110, a0), some (122, a1), some (0, a2)] [] h := by rfl
set_option maxRecDepth 100000 in
theorem qe_Bl_writeEndedGroups {ρ : Type} (kr : Int → zH → Option ρ) (a0 a1 : Int) (h : zH) : Bl_writeEndedGroups a0 a1 h kr = zseg zPP true (zcal []) (zget (999, 0, 0, 0) zc_Bl_writeEndedGroups) (zcut zu_Bl_writeEndedGroups) (zorc [(2, [some (110, none), some (122, none), some (0, none)], [], fun xs h => match xs with
  | [a0, a1, a2] => Bl_writeEndedGroups_2 kr a0 a1 a2 h
  | _ => none)]) kr (fun _ _ => none) 400 0 [some (110, a0), some (122, a1), none] [] h := by rfl
def zc_Bl_lowestWaiting : List zI := [(14, 0, 0, 110), (80, 10, 30, 2), (999, 0, 0, 0), (999, 0, 0, 0), (14, 0, 0, 110), (80, 10, 30, 2), (999, 0, 0, 0), (999, 0, 0, 0), (100, 0, 0, 36), (113, 0, 90, 265), (999, 0, 0, 0), (999, 0, 0, 0), (132, 0, 0, 106)]
def zu_Bl_lowestWaiting : List (Nat × List Bool) := []
set_option maxRecDepth 100000 in
theorem qe_Bl_lowestWaiting {ρ : Type} (kr : Int → zH → Option ρ) (a0 : Int) (h : zH) : Bl_lowestWaiting a0 h kr = zseg zPP true (zcal [(265, [none, none], fun xs h kr kt => match xs with
  | [x0, x1] => Th_lowestOfWaiting_36 x0 x1 h kr
  | _ => none)]) (zget (999, 0, 0, 0) zc_Bl_lowestWaiting) (zcut zu_Bl_lowestWaiting) (zorc []) kr (fun _ _ => none) 400 0 [some (110, a0)] [] h := by rfl
def zc_Th_release_36 : List zI := [(0, 0, 0, 0), (17, 0, 4, 0), (999, 0, 0, 0), (11, 0, 4, 0), (999, 0, 0, 0), (10, 0, 1, 0), (69, 39, 45, 0), (999, 0, 0, 0), (999, 0, 0, 0), (11, 0, 4, 0), (999, 0, 0, 0), (14, 0, 0, 136), (100, 0, 0, 36), (69, 32, 45, 0), (999, 0, 0, 0), (999, 0, 0, 0), (14, 0, 0, 136), (11, 0, 4, 0), (999, 0, 0, 0), (94, 0, 0, 36), (110, 0, 70, 256), (999, 0, 0, 0), (999, 0, 0, 0), (60, 16, 39, 0), (999, 0, 0, 0), (999, 0, 0, 0), (14, 0, 0, 136), (11, 0, 4, 0), (999, 0, 0, 0), (94, 0, 0, 36), (80, 6, 63, 3), (999, 0, 0, 0), (999, 0, 0, 0), (10, 0, 2, 0), (66, 5, 39, 0), (999, 0, 0, 0), (999, 0, 0, 0), (0, 0, 0, 0), (130, 0, 1, 0), (22, 1, 4, 0), (999, 0, 0, 0), (999, 0, 0, 0), (72, (-39), 3, 0), (999, 0, 0, 0), (999, 0, 0, 0), (0, 0, 0, 0), (17, 0, 4, 0), (999, 0, 0, 0), (11, 0, 4, 0), (999, 0, 0, 0), (10, 0, 1, 0), (69, 46, 97, 0), (999, 0, 0, 0), (999, 0, 0, 0), (11, 0, 4, 0), (999, 0, 0, 0), (14, 0, 0, 136), (100, 0, 0, 36), (69, 39, 97, 0), (999, 0, 0, 0), (999, 0, 0, 0), (14, 0, 0, 136), (11, 0, 4, 0), (999, 0, 0, 0), (94, 0, 0, 36), (110, 0, 70, 256), (999, 0, 0, 0), (999, 0, 0, 0), (60, 23, 91, 0), (999, 0, 0, 0), (999, 0, 0, 0), (14, 0, 0, 136), (11, 0, 4, 0), (999, 0, 0, 0), (94, 0, 0, 36), (1, 114, 0, 0), (999, 0, 0, 0), (82, 6, 34, 4), (999, 0, 0, 0), (999, 0, 0, 0), (14, 0, 0, 136), (11, 0, 4, 0), (999, 0, 0, 0), (94, 0, 0, 36), (10, 0, 2, 0), (0, 1, 0, 0), (30, 0, 0, 0), (10, 0, 3, 0), (110, 0, 38, 262), (999, 0, 0, 0), (999, 0, 0, 0), (22, 1, 4, 0), (999, 0, 0, 0), (999, 0, 0, 0), (72, (-46), 48, 0), (999, 0, 0, 0), (999, 0, 0, 0), (0, 1, 0, 0), (130, 0, 1, 0)]
def zu_Th_release_36 : List (Nat × List Bool) := [(3, [true, true, true, true, true]), (39, [true, true, true, true, true]), (45, [true, true, true, true, false]), (48, [true, true, true, true, true]), (91, [true, true, true, true, true]), (97, [false, false, false, false, false])]
set_option maxRecDepth 100000 in
theorem qe_Th_release_36_39 {ρ : Type} (kr : Int → zH → Option ρ) (r3 : Int → Int → Int → Int → Int → zH → Option ρ) (a0 a1 a2 a3 a4 : Int) (h : zH) : Th_release_36_39 kr r3 a0 a1 a2 a3 a4 h = zseg zPP true (zcal []) (zget (999, 0, 0, 0) zc_Th_release_36) (zcut zu_Th_release_36) (zorc [(3, [some (136, none), some (0, none), some (0, none), some (0, none), some (0, none)], [], fun xs h => match xs with
  | [a0, a1, a2, a3, a4] => r3 a0 a1 a2 a3 a4 h
  | _ => none)]) kr (fun _ _ => none) 400 39 [some (136, a0), some (0, a1), some (0, a2), some (0, a3), some (0, a4)] [] h := by rfl
set_option maxRecDepth 100000 in
theorem qe_Th_release_36_91 {ρ : Type} (kr : Int → zH → Option ρ) (r48 : Int → Int → Int → Int → Int → zH → Option ρ) (a0 a1 a2 a3 a4 : Int) (h : zH) : Th_release_36_91 kr r48 a0 a1 a2 a3 a4 h = zseg zPP true (zcal []) (zget (999, 0, 0, 0) zc_Th_release_36) (zcut zu_Th_release_36) (zorc [(48, [some (136, none), some (0, none), some (0, none), some (0, none), some (0, none)], [], fun xs h => match xs with
  | [a0, a1, a2, a3, a4] => r48 a0 a1 a2 a3 a4 h
  | _ => none)]) kr (fun _ _ => none) 400 91 [some (136, a0), some (0, a1), some (0, a2), some (0, a3), some (0, a4)] [] h := by rfl
set_option maxRecDepth 100000 in
theorem qe_Th_release_36_97 {ρ : Type} (kr : Int → zH → Option ρ) (h : zH) : Th_release_36_97 kr h = zseg zPP true (zcal []) (zget (999, 0, 0, 0) zc_Th_release_36) (zcut zu_Th_release_36) (zorc []) kr (fun _ _ => none) 400 97 [none, none, none, none, none] [] h := by rfl
set_option maxRecDepth 100000 in
theorem qe_Th_release_36_48b {ρ : Type} (kr : Int → zH → Option ρ) (r48 : Int → Int → Int → Int → Int → zH → Option ρ) (a0 a1 a2 a3 a4 : Int) (h : zH) : Th_release_36_48b kr r48 a0 a1 a2 a3 a4 h = zseg zPP true (zcal [(256, [none], fun xs h kr kt => match xs with
  | [x0] => Th_isWaiting x0 h kr
  | _ => none), (262, [none, none, none], fun xs h kr kt => match xs with
  | [x0, x1, x2] => Th_goTo x0 x1 x2 h kr
  | _ => none)]) (zget (999, 0, 0, 0) zc_Th_release_36) (zcut zu_Th_release_36) (zorc [(91, [some (136, none), some (0, none), some (0, none), some (0, none), some (0, none)], [], fun xs h => match xs with
  | [a0, a1, a2, a3, a4] => Th_release_36_91 kr r48 a0 a1 a2 a3 a4 h
  | _ => none), (97, [none, none, none, none, none], [], fun xs h => match xs with
  | [] => Th_release_36_97 kr h
  | _ => none)]) kr (fun _ _ => none) 400 48 [some (136, a0), some (0, a1), some (0, a2), some (0, a3), some (0, a4)] [] h := by rfl
set_option maxRecDepth 100000 in
theorem qe_Th_release_36_45 {ρ : Type} (kr : Int → zH → Option ρ) (a0 a1 a2 a3 : Int) (h : zH) : Th_release_36_45 kr a0 a1 a2 a3 h = zseg zPP true (zcal []) (zget (999, 0, 0, 0) zc_Th_release_36) (zcut zu_Th_release_36) (zorc [(48, [some (136, none), some (0, none), some (0, none), some (0, none), some (0, none)], [], fun xs h => match xs with
  | [a0, a1, a2, a3, a4] => Th_release_36_48 kr a0 a1 a2 a3 a4 h
  | _ => none)]) kr (fun _ _ => none) 400 45 [some (136, a0), some (0, a1), some (0, a2), some (0, a3), none] [] h := by rfl
set_option maxRecDepth 100000 in
theorem qe_Th_release_36_3b {ρ : Type} (kr : Int → zH → Option ρ) (r3 : Int → Int → Int → Int → Int → zH → Option ρ) (a0 a1 a2 a3 a4 : Int) (h : zH) : Th_release_36_3b kr r3 a0 a1 a2 a3 a4 h = zseg zPP true (zcal [(256, [none], fun xs h kr kt => match xs with
  | [x0] => Th_isWaiting x0 h kr
  | _ => none)]) (zget (999, 0, 0, 0) zc_Th_release_36) (zcut zu_Th_release_36) (zorc [(39, [some (136, none), some (0, none), some (0, none), some (0, none), some (0, none)], [], fun xs h => match xs with
  | [a0, a1, a2, a3, a4] => Th_release_36_39 kr r3 a0 a1 a2 a3 a4 h
  | _ => none), (45, [some (136, none), some (0, none), some (0, none), some (0, none), none], [], fun xs h => match xs with
  | [a0, a1, a2, a3] => Th_release_36_45 kr a0 a1 a2 a3 h
  | _ => none)]) kr (fun _ _ => none) 400 3 [some (136, a0), some (0, a1), some (0, a2), some (0, a3), some (0, a4)] [] h := by rfl
set_option maxRecDepth 100000 in
theorem qe_Th_release_36 {ρ : Type} (kr : Int → zH → Option ρ) (a0 a1 a2 a3 : Int) (h : zH) : Th_release_36 a0 a1 a2 a3 h kr = zseg zPP true (zcal []) (zget (999, 0, 0, 0) zc_Th_release_36) (zcut zu_Th_release_36) (zorc [(3, [some (136, none), some (0, none), some (0, none), some (0, none), some (0, none)], [], fun xs h => match xs with
  | [a0, a1, a2, a3, a4] => Th_release_36_3 kr a0 a1 a2 a3 a4 h
  | _ => none)]) kr (fun _ _ => none) 400 0 [some (136, a0), some (0, a1), some (0, a2), some (0, a3), none] [] h := by rfl
def zc_Bl_passBarrier : List zI := [(14, 0, 0, 110), (80, 10, 30, 2), (999, 0, 0, 0), (999, 0, 0, 0), (14, 0, 0, 110), (80, 10, 30, 2), (999, 0, 0, 0), (999, 0, 0, 0), (100, 0, 0, 36), (10, 0, 1, 0), (14, 0, 0, 110), (80, 10, 15, 0), (999, 0, 0, 0), (999, 0, 0, 0), (80, 9, 33, 5), (999, 0, 0, 0), (999, 0, 0, 0), (80, 7, 45, 3), (999, 0, 0, 0), (999, 0, 0, 0), (113, 0, 94, 267), (999, 0, 0, 0), (999, 0, 0, 0), (61, 5, 28, 0), (999, 0, 0, 0), (999, 0, 0, 0), (0, 0, 0, 0), (130, 0, 1, 0), (14, 0, 0, 110), (80, 10, 9, 5), (999, 0, 0, 0), (999, 0, 0, 0), (0, 0, 0, 0), (113, 0, 98, 7), (999, 0, 0, 0), (999, 0, 0, 0), (14, 0, 0, 110), (80, 10, 66, 6), (999, 0, 0, 0), (999, 0, 0, 0), (0, 0, 0, 0), (113, 0, 98, 8), (999, 0, 0, 0), (999, 0, 0, 0), (0, 1, 0, 0), (130, 0, 1, 0)]
def zu_Bl_passBarrier : List (Nat × List Bool) := []
set_option maxRecDepth 100000 in
theorem qe_Bl_passBarrier {ρ : Type} (kr : Int → zH → Option ρ) (a0 a1 : Int) (h : zH) : Bl_passBarrier a0 a1 h kr = zseg zPP true (zcal [(7, [none, none], fun xs h kr kt => match xs with
  | [x0, x1] => Ar_fill_39 x0 x1 h kr
  | _ => none), (8, [none, none], fun xs h kr kt => match xs with
  | [x0, x1] => Ar_fill_40 x0 x1 h kr
  | _ => none), (267, [none, none, none, none], fun xs h kr kt => match xs with
  | [x0, x1, x2, x3] => Th_release_36 x0 x1 x2 x3 h kr
  | _ => none)]) (zget (999, 0, 0, 0) zc_Bl_passBarrier) (zcut zu_Bl_passBarrier) (zorc []) kr (fun _ _ => none) 400 0 [some (110, a0), some (0, a1)] [] h := by rfl
def zc_Co_lookAtBarrier : List zI := [(14, 0, 1, 110), (110, 0, 355, 174), (999, 0, 0, 0), (999, 0, 0, 0), (20, 0, 2, 106), (14, 0, 2, 106), (74, 4, 10, 0), (999, 0, 0, 0), (999, 0, 0, 0), (133, 0, 0, 0), (14, 0, 1, 110), (14, 0, 2, 106), (80, 6, 359, 3), (999, 0, 0, 0), (999, 0, 0, 0), (110, 0, 362, 175), (999, 0, 0, 0), (999, 0, 0, 0), (60, 27, 45, 0), (999, 0, 0, 0), (999, 0, 0, 0), (14, 0, 0, 102), (80, 2, 25, 3), (999, 0, 0, 0), (999, 0, 0, 0), (50, 0, 0, 0), (80, 4, 365, 6), (999, 0, 0, 0), (999, 0, 0, 0), (0, 1, 0, 0), (30, 0, 0, 0), (82, 4, 365, 6), (999, 0, 0, 0), (999, 0, 0, 0), (14, 0, 1, 110), (14, 0, 0, 102), (80, 2, 9, 1), (999, 0, 0, 0), (999, 0, 0, 0), (110, 0, 346, 178), (999, 0, 0, 0), (999, 0, 0, 0), (72, 18, 60, 0), (999, 0, 0, 0), (999, 0, 0, 0), (14, 0, 0, 102), (14, 0, 1, 110), (14, 0, 2, 106), (80, 6, 180, 0), (999, 0, 0, 0), (999, 0, 0, 0), (14, 0, 2, 106), (80, 6, 359, 3), (999, 0, 0, 0), (999, 0, 0, 0), (1, 98, 0, 0), (999, 0, 0, 0), (110, 0, 185, 200), (999, 0, 0, 0), (999, 0, 0, 0), (133, 0, 0, 0)]
def zu_Co_lookAtBarrier : List (Nat × List Bool) := [(60, [false, false, false])]
set_option maxRecDepth 100000 in
theorem qe_Co_lookAtBarrier_60 {ρ : Type} (kr : Int → zH → Option ρ) (h : zH) : Co_lookAtBarrier_60 kr h = zseg zPP true (zcal []) (zget (999, 0, 0, 0) zc_Co_lookAtBarrier) (zcut zu_Co_lookAtBarrier) (zorc []) kr (fun _ _ => none) 400 60 [none, none, none] [] h := by rfl
set_option maxRecDepth 100000 in
theorem qe_Co_lookAtBarrier {ρ : Type} (kr : Int → zH → Option ρ) (a0 a1 : Int) (h : zH) : Co_lookAtBarrier a0 a1 h kr = zseg zPP true (zcal [(174, [none], fun xs h kr kt => match xs with
  | [x0] => Bl_lowestWaiting x0 h kr
  | _ => none), (175, [none, none], fun xs h kr kt => match xs with
  | [x0, x1] => Bl_passBarrier x0 x1 h kr
  | _ => none), (178, [none, none], fun xs h kr kt => match xs with
  | [x0, x1] => Bl_writeEndedGroups x0 x1 h kr
  | _ => none), (200, [none, none, none, none, none], fun xs h kr kt => match xs with
  | [x0, x1, x2, x3, x4] => Co_fail x0 x1 x2 x3 x4 h kr
  | _ => none)]) (zget (999, 0, 0, 0) zc_Co_lookAtBarrier) (zcut zu_Co_lookAtBarrier) (zorc [(60, [none, none, none], [], fun xs h => match xs with
  | [] => Co_lookAtBarrier_60 kr h
  | _ => none)]) kr (fun _ _ => none) 400 0 [some (102, a0), some (110, a1), none] [] h := by rfl
def zc_Co_settle : List zI := [(14, 0, 1, 110), (14, 0, 0, 102), (80, 2, 9, 1), (999, 0, 0, 0), (999, 0, 0, 0), (110, 0, 346, 178), (999, 0, 0, 0), (999, 0, 0, 0), (14, 0, 1, 110), (110, 0, 349, 173), (999, 0, 0, 0), (999, 0, 0, 0), (60, 8, 20, 0), (999, 0, 0, 0), (999, 0, 0, 0), (14, 0, 0, 102), (14, 0, 1, 110), (110, 0, 352, 198), (999, 0, 0, 0), (999, 0, 0, 0), (14, 0, 0, 102), (14, 0, 1, 110), (110, 0, 130, 199), (999, 0, 0, 0), (999, 0, 0, 0), (133, 0, 0, 0)]
def zu_Co_settle : List (Nat × List Bool) := [(20, [true, true])]
set_option maxRecDepth 100000 in
theorem qe_Co_settle_20 {ρ : Type} (kr : Int → zH → Option ρ) (a0 a1 : Int) (h : zH) : Co_settle_20 kr a0 a1 h = zseg zPP true (zcal [(199, [none, none], fun xs h kr kt => match xs with
  | [x0, x1] => Co_endIfEnded x0 x1 h kr
  | _ => none)]) (zget (999, 0, 0, 0) zc_Co_settle) (zcut zu_Co_settle) (zorc []) kr (fun _ _ => none) 400 20 [some (102, a0), some (110, a1)] [] h := by rfl
set_option maxRecDepth 100000 in
theorem qe_Co_settle {ρ : Type} (kr : Int → zH → Option ρ) (a0 a1 : Int) (h : zH) : Co_settle a0 a1 h kr = zseg zPP true (zcal [(173, [none], fun xs h kr kt => match xs with
  | [x0] => Bl_isAllWaiting x0 h kr
  | _ => none), (178, [none, none], fun xs h kr kt => match xs with
  | [x0, x1] => Bl_writeEndedGroups x0 x1 h kr
  | _ => none), (198, [none, none], fun xs h kr kt => match xs with
  | [x0, x1] => Co_lookAtBarrier x0 x1 h kr
  | _ => none)]) (zget (999, 0, 0, 0) zc_Co_settle) (zcut zu_Co_settle) (zorc [(20, [some (102, none), some (110, none)], [], fun xs h => match xs with
  | [a0, a1] => Co_settle_20 kr a0 a1 h
  | _ => none)]) kr (fun _ _ => none) 400 0 [some (102, a0), some (110, a1)] [] h := by rfl
def zc_La_isSpoiled : List zI := [(14, 0, 0, 109), (80, 9, 11, 10), (999, 0, 0, 0), (999, 0, 0, 0), (1, 102, 0, 0), (999, 0, 0, 0), (66, 12, 18, 0), (999, 0, 0, 0), (999, 0, 0, 0), (14, 0, 0, 109), (80, 9, 11, 10), (999, 0, 0, 0), (999, 0, 0, 0), (1, 120, 0, 0), (999, 0, 0, 0), (67, 7, 22, 0), (999, 0, 0, 0), (999, 0, 0, 0), (0, 1, 0, 0), (72, 4, 23, 0), (999, 0, 0, 0), (999, 0, 0, 0), (0, 0, 0, 0), (130, 0, 1, 0)]
def zu_La_isSpoiled : List (Nat × List Bool) := [(18, [false]), (23, [false])]
set_option maxRecDepth 100000 in
theorem qe_La_isSpoiled_23 {ρ : Type} (kr : Int → zH → Option ρ) (t0 : Int) (h : zH) : La_isSpoiled_23 kr t0 h = zseg zPP true (zcal []) (zget (999, 0, 0, 0) zc_La_isSpoiled) (zcut zu_La_isSpoiled) (zorc []) kr (fun _ _ => none) 400 23 [none] [(0, t0)] h := by rfl
set_option maxRecDepth 100000 in
theorem qe_La_isSpoiled_18 {ρ : Type} (kr : Int → zH → Option ρ) (h : zH) : La_isSpoiled_18 kr h = zseg zPP true (zcal []) (zget (999, 0, 0, 0) zc_La_isSpoiled) (zcut zu_La_isSpoiled) (zorc [(23, [none], [(0, none)], fun xs h => match xs with
  | [t0] => La_isSpoiled_23 kr t0 h
  | _ => none)]) kr (fun _ _ => none) 400 18 [none] [] h := by rfl
set_option maxRecDepth 100000 in
theorem qe_La_isSpoiled {ρ : Type} (kr : Int → zH → Option ρ) (a0 : Int) (h : zH) : La_isSpoiled a0 h kr = zseg zPP true (zcal []) (zget (999, 0, 0, 0) zc_La_isSpoiled) (zcut zu_La_isSpoiled) (zorc [(18, [none], [], fun xs h => match xs with
  | [] => La_isSpoiled_18 kr h
  | _ => none), (23, [none], [(0, none)], fun xs h => match xs with
  | [t0] => La_isSpoiled_23 kr t0 h
  | _ => none)]) kr (fun _ _ => none) 400 0 [some (109, a0)] [] h := by rfl
def zc_Le_decide : List zI := [(14, 0, 0, 109), (80, 9, 87, 2), (999, 0, 0, 0), (999, 0, 0, 0), (73, 13, 17, 0), (999, 0, 0, 0), (999, 0, 0, 0), (14, 0, 0, 109), (80, 9, 87, 2), (999, 0, 0, 0), (999, 0, 0, 0), (110, 0, 90, 232), (999, 0, 0, 0), (999, 0, 0, 0), (61, 20, 34, 0), (999, 0, 0, 0), (999, 0, 0, 0), (14, 0, 0, 109), (80, 9, 93, 3), (999, 0, 0, 0), (999, 0, 0, 0), (73, 22, 43, 0), (999, 0, 0, 0), (999, 0, 0, 0), (14, 0, 0, 109), (80, 9, 93, 3), (999, 0, 0, 0), (999, 0, 0, 0), (110, 0, 90, 232), (999, 0, 0, 0), (999, 0, 0, 0), (60, 12, 43, 0), (999, 0, 0, 0), (999, 0, 0, 0), (14, 0, 0, 109), (1, 120, 0, 0), (999, 0, 0, 0), (82, 9, 79, 10), (999, 0, 0, 0), (999, 0, 0, 0), (72, 26, 66, 0), (999, 0, 0, 0), (999, 0, 0, 0), (14, 0, 0, 109), (80, 9, 93, 3), (999, 0, 0, 0), (999, 0, 0, 0), (73, 13, 60, 0), (999, 0, 0, 0), (999, 0, 0, 0), (14, 0, 0, 109), (80, 9, 93, 3), (999, 0, 0, 0), (999, 0, 0, 0), (110, 0, 38, 231), (999, 0, 0, 0), (999, 0, 0, 0), (60, 9, 66, 0), (999, 0, 0, 0), (999, 0, 0, 0), (14, 0, 0, 109), (1, 114, 0, 0), (999, 0, 0, 0), (82, 9, 79, 10), (999, 0, 0, 0), (999, 0, 0, 0), (133, 0, 0, 0)]
def zu_Le_decide : List (Nat × List Bool) := [(17, [true]), (34, [true]), (43, [true]), (60, [true]), (66, [false])]
set_option maxRecDepth 100000 in
theorem qe_Le_decide_66 {ρ : Type} (kr : Int → zH → Option ρ) (h : zH) : Le_decide_66 kr h = zseg zPP true (zcal []) (zget (999, 0, 0, 0) zc_Le_decide) (zcut zu_Le_decide) (zorc []) kr (fun _ _ => none) 400 66 [none] [] h := by rfl
set_option maxRecDepth 100000 in
theorem qe_Le_decide_34 {ρ : Type} (kr : Int → zH → Option ρ) (a0 : Int) (h : zH) : Le_decide_34 kr a0 h = zseg zPP true (zcal []) (zget (999, 0, 0, 0) zc_Le_decide) (zcut zu_Le_decide) (zorc [(66, [none], [], fun xs h => match xs with
  | [] => Le_decide_66 kr h
  | _ => none)]) kr (fun _ _ => none) 400 34 [some (109, a0)] [] h := by rfl
set_option maxRecDepth 100000 in
theorem qe_Le_decide_60 {ρ : Type} (kr : Int → zH → Option ρ) (a0 : Int) (h : zH) : Le_decide_60 kr a0 h = zseg zPP true (zcal []) (zget (999, 0, 0, 0) zc_Le_decide) (zcut zu_Le_decide) (zorc [(66, [none], [], fun xs h => match xs with
  | [] => Le_decide_66 kr h
  | _ => none)]) kr (fun _ _ => none) 400 60 [some (109, a0)] [] h := by rfl
set_option maxRecDepth 100000 in
theorem qe_Le_decide_43 {ρ : Type} (kr : Int → zH → Option ρ) (a0 : Int) (h : zH) : Le_decide_43 kr a0 h = zseg zPP true (zcal [(231, [none], fun xs h kr kt => match xs with
  | [x0] => La_isOver x0 h kr
  | _ => none)]) (zget (999, 0, 0, 0) zc_Le_decide) (zcut zu_Le_decide) (zorc [(60, [some (109, none)], [], fun xs h => match xs with
  | [a0] => Le_decide_60 kr a0 h
  | _ => none), (66, [none], [], fun xs h => match xs with
  | [] => Le_decide_66 kr h
  | _ => none)]) kr (fun _ _ => none) 400 43 [some (109, a0)] [] h := by rfl
set_option maxRecDepth 100000 in
theorem qe_Le_decide_17 {ρ : Type} (kr : Int → zH → Option ρ) (a0 : Int) (h : zH) : Le_decide_17 kr a0 h = zseg zPP true (zcal [(232, [none], fun xs h kr kt => match xs with
  | [x0] => La_isSpoiled x0 h kr
  | _ => none)]) (zget (999, 0, 0, 0) zc_Le_decide) (zcut zu_Le_decide) (zorc [(34, [some (109, none)], [], fun xs h => match xs with
  | [a0] => Le_decide_34 kr a0 h
  | _ => none), (43, [some (109, none)], [], fun xs h => match xs with
  | [a0] => Le_decide_43 kr a0 h
  | _ => none)]) kr (fun _ _ => none) 400 17 [some (109, a0)] [] h := by rfl
set_option maxRecDepth 100000 in
theorem qe_Le_decide {ρ : Type} (kr : Int → zH → Option ρ) (a0 : Int) (h : zH) : Le_decide a0 h kr = zseg zPP true (zcal [(232, [none], fun xs h kr kt => match xs with
  | [x0] => La_isSpoiled x0 h kr
  | _ => none)]) (zget (999, 0, 0, 0) zc_Le_decide) (zcut zu_Le_decide) (zorc [(17, [some (109, none)], [], fun xs h => match xs with
  | [a0] => Le_decide_17 kr a0 h
  | _ => none), (34, [some (109, none)], [], fun xs h => match xs with
  | [a0] => Le_decide_34 kr a0 h
  | _ => none)]) kr (fun _ _ => none) 400 0 [some (109, a0)] [] h := by rfl
def zc_Le_startIn : List zI := [(0, 0, 0, 0), (16, 0, 2, 0), (10, 0, 2, 0), (14, 0, 0, 101), (80, 1, 31, 3), (999, 0, 0, 0), (999, 0, 0, 0), (69, 55, 62, 0), (999, 0, 0, 0), (999, 0, 0, 0), (14, 0, 0, 101), (80, 1, 19, 1), (999, 0, 0, 0), (999, 0, 0, 0), (10, 0, 2, 0), (94, 0, 0, 21), (20, 0, 3, 109), (14, 0, 3, 109), (80, 9, 52, 1), (999, 0, 0, 0), (999, 0, 0, 0), (10, 0, 1, 0), (67, 34, 56, 0), (999, 0, 0, 0), (999, 0, 0, 0), (14, 0, 3, 109), (110, 0, 38, 231), (999, 0, 0, 0), (999, 0, 0, 0), (60, 6, 35, 0), (999, 0, 0, 0), (999, 0, 0, 0), (72, 24, 56, 0), (999, 0, 0, 0), (999, 0, 0, 0), (14, 0, 3, 109), (80, 9, 79, 10), (999, 0, 0, 0), (999, 0, 0, 0), (1, 113, 0, 0), (999, 0, 0, 0), (67, 7, 48, 0), (999, 0, 0, 0), (999, 0, 0, 0), (14, 0, 3, 109), (113, 0, 83, 250), (999, 0, 0, 0), (999, 0, 0, 0), (14, 0, 3, 109), (110, 0, 38, 231), (999, 0, 0, 0), (999, 0, 0, 0), (61, 4, 56, 0), (999, 0, 0, 0), (999, 0, 0, 0), (133, 0, 0, 0), (22, 1, 2, 0), (999, 0, 0, 0), (999, 0, 0, 0), (72, (-57), 2, 0), (999, 0, 0, 0), (999, 0, 0, 0), (133, 0, 0, 0)]
def zu_Le_startIn : List (Nat × List Bool) := [(2, [true, true, true, false]), (48, [true, true, true, true]), (56, [true, true, true, false])]
set_option maxRecDepth 100000 in
theorem qe_Le_startIn_56 {ρ : Type} (kr : Int → zH → Option ρ) (r2 : Int → Int → Int → zH → Option ρ) (a0 a1 a2 : Int) (h : zH) : Le_startIn_56 kr r2 a0 a1 a2 h = zseg zPP true (zcal []) (zget (999, 0, 0, 0) zc_Le_startIn) (zcut zu_Le_startIn) (zorc [(2, [some (101, none), some (0, none), some (0, none), none], [], fun xs h => match xs with
  | [a0, a1, a2] => r2 a0 a1 a2 h
  | _ => none)]) kr (fun _ _ => none) 400 56 [some (101, a0), some (0, a1), some (0, a2), none] [] h := by rfl
set_option maxRecDepth 100000 in
theorem qe_Le_startIn_48 {ρ : Type} (kr : Int → zH → Option ρ) (r2 : Int → Int → Int → zH → Option ρ) (a0 a1 a2 a3 : Int) (h : zH) : Le_startIn_48 kr r2 a0 a1 a2 a3 h = zseg zPP true (zcal [(231, [none], fun xs h kr kt => match xs with
  | [x0] => La_isOver x0 h kr
  | _ => none)]) (zget (999, 0, 0, 0) zc_Le_startIn) (zcut zu_Le_startIn) (zorc [(56, [some (101, none), some (0, none), some (0, none), none], [], fun xs h => match xs with
  | [a0, a1, a2] => Le_startIn_56 kr r2 a0 a1 a2 h
  | _ => none)]) kr (fun _ _ => none) 400 48 [some (101, a0), some (0, a1), some (0, a2), some (109, a3)] [] h := by rfl
set_option maxRecDepth 100000 in
theorem qe_Le_startIn_2b {ρ : Type} (kr : Int → zH → Option ρ) (r2 : Int → Int → Int → zH → Option ρ) (a0 a1 a2 : Int) (h : zH) : Le_startIn_2b kr r2 a0 a1 a2 h = zseg zPP true (zcal [(231, [none], fun xs h kr kt => match xs with
  | [x0] => La_isOver x0 h kr
  | _ => none), (250, [none], fun xs h kr kt => match xs with
  | [x0] => Le_decide x0 h kr
  | _ => none)]) (zget (999, 0, 0, 0) zc_Le_startIn) (zcut zu_Le_startIn) (zorc [(48, [some (101, none), some (0, none), some (0, none), some (109, none)], [], fun xs h => match xs with
  | [a0, a1, a2, a3] => Le_startIn_48 kr r2 a0 a1 a2 a3 h
  | _ => none), (56, [some (101, none), some (0, none), some (0, none), none], [], fun xs h => match xs with
  | [a0, a1, a2] => Le_startIn_56 kr r2 a0 a1 a2 h
  | _ => none)]) kr (fun _ _ => none) 400 2 [some (101, a0), some (0, a1), some (0, a2), none] [] h := by rfl
set_option maxRecDepth 100000 in
theorem qe_Le_startIn {ρ : Type} (kr : Int → zH → Option ρ) (a0 a1 : Int) (h : zH) : Le_startIn a0 a1 h kr = zseg zPP true (zcal []) (zget (999, 0, 0, 0) zc_Le_startIn) (zcut zu_Le_startIn) (zorc [(2, [some (101, none), some (0, none), some (0, none), none], [], fun xs h => match xs with
  | [a0, a1, a2] => Le_startIn_2 kr a0 a1 a2 h
  | _ => none)]) kr (fun _ _ => none) 400 0 [some (101, a0), some (0, a1), none, none] [] h := by rfl
def zc_Le_startQueued : List zI := [(0, 0, 0, 0), (16, 0, 1, 0), (10, 0, 1, 0), (0, 2, 0, 0), (69, 14, 18, 0), (999, 0, 0, 0), (999, 0, 0, 0), (14, 0, 0, 101), (10, 0, 1, 0), (110, 0, 71, 249), (999, 0, 0, 0), (999, 0, 0, 0), (22, 1, 1, 0), (999, 0, 0, 0), (999, 0, 0, 0), (72, (-13), 2, 0), (999, 0, 0, 0), (999, 0, 0, 0), (0, 0, 0, 0), (16, 0, 1, 0), (10, 0, 1, 0), (14, 0, 0, 101), (80, 1, 31, 3), (999, 0, 0, 0), (999, 0, 0, 0), (69, 46, 71, 0), (999, 0, 0, 0), (999, 0, 0, 0), (14, 0, 0, 101), (80, 1, 19, 1), (999, 0, 0, 0), (999, 0, 0, 0), (10, 0, 1, 0), (94, 0, 0, 21), (80, 9, 75, 4), (999, 0, 0, 0), (999, 0, 0, 0), (73, 28, 65, 0), (999, 0, 0, 0), (999, 0, 0, 0), (14, 0, 0, 101), (80, 1, 19, 1), (999, 0, 0, 0), (999, 0, 0, 0), (10, 0, 1, 0), (94, 0, 0, 21), (80, 9, 79, 10), (999, 0, 0, 0), (999, 0, 0, 0), (1, 113, 0, 0), (999, 0, 0, 0), (67, 14, 65, 0), (999, 0, 0, 0), (999, 0, 0, 0), (14, 0, 0, 101), (80, 1, 19, 1), (999, 0, 0, 0), (999, 0, 0, 0), (10, 0, 1, 0), (94, 0, 0, 21), (1, 114, 0, 0), (999, 0, 0, 0), (82, 9, 79, 10), (999, 0, 0, 0), (999, 0, 0, 0), (22, 1, 1, 0), (999, 0, 0, 0), (999, 0, 0, 0), (72, (-48), 20, 0), (999, 0, 0, 0), (999, 0, 0, 0), (133, 0, 0, 0)]
def zu_Le_startQueued : List (Nat × List Bool) := [(2, [true, true]), (20, [true, true]), (65, [true, true])]
set_option maxRecDepth 100000 in
theorem qe_Le_startQueued_65 {ρ : Type} (kr : Int → zH → Option ρ) (r20 : Int → Int → zH → Option ρ) (a0 a1 : Int) (h : zH) : Le_startQueued_65 kr r20 a0 a1 h = zseg zPP true (zcal []) (zget (999, 0, 0, 0) zc_Le_startQueued) (zcut zu_Le_startQueued) (zorc [(20, [some (101, none), some (0, none)], [], fun xs h => match xs with
  | [a0, a1] => r20 a0 a1 h
  | _ => none)]) kr (fun _ _ => none) 400 65 [some (101, a0), some (0, a1)] [] h := by rfl
set_option maxRecDepth 100000 in
theorem qe_Le_startQueued_20b {ρ : Type} (kr : Int → zH → Option ρ) (r20 : Int → Int → zH → Option ρ) (a0 a1 : Int) (h : zH) : Le_startQueued_20b kr r20 a0 a1 h = zseg zPP true (zcal []) (zget (999, 0, 0, 0) zc_Le_startQueued) (zcut zu_Le_startQueued) (zorc [(65, [some (101, none), some (0, none)], [], fun xs h => match xs with
  | [a0, a1] => Le_startQueued_65 kr r20 a0 a1 h
  | _ => none)]) kr (fun _ _ => none) 400 20 [some (101, a0), some (0, a1)] [] h := by rfl
set_option maxRecDepth 100000 in
theorem qe_Le_startQueued_2b {ρ : Type} (kr : Int → zH → Option ρ) (r2 : Int → Int → zH → Option ρ) (a0 a1 : Int) (h : zH) : Le_startQueued_2b kr r2 a0 a1 h = zseg zPP true (zcal [(249, [none, none], fun xs h kr kt => match xs with
  | [x0, x1] => Le_startIn x0 x1 h kr
  | _ => none)]) (zget (999, 0, 0, 0) zc_Le_startQueued) (zcut zu_Le_startQueued) (zorc [(2, [some (101, none), some (0, none)], [], fun xs h => match xs with
  | [a0, a1] => r2 a0 a1 h
  | _ => none), (20, [some (101, none), some (0, none)], [], fun xs h => match xs with
  | [a0, a1] => Le_startQueued_20 kr a0 a1 h
  | _ => none)]) kr (fun _ _ => none) 400 2 [some (101, a0), some (0, a1)] [] h := by rfl
set_option maxRecDepth 100000 in
theorem qe_Le_startQueued {ρ : Type} (kr : Int → zH → Option ρ) (a0 : Int) (h : zH) : Le_startQueued a0 h kr = zseg zPP true (zcal []) (zget (999, 0, 0, 0) zc_Le_startQueued) (zcut zu_Le_startQueued) (zorc [(2, [some (101, none), some (0, none)], [], fun xs h => match xs with
  | [a0, a1] => Le_startQueued_2 kr a0 a1 h
  | _ => none)]) kr (fun _ _ => none) 400 0 [some (101, a0), none] [] h := by rfl
def zc_Gr_canAct : List zI := [(14, 0, 0, 111), (110, 0, 50, 205), (999, 0, 0, 0), (999, 0, 0, 0), (0, (-1), 0, 0), (66, 15, 20, 0), (999, 0, 0, 0), (999, 0, 0, 0), (10, 0, 1, 0), (14, 0, 0, 111), (80, 11, 61, 6), (999, 0, 0, 0), (999, 0, 0, 0), (68, 7, 20, 0), (999, 0, 0, 0), (999, 0, 0, 0), (0, 1, 0, 0), (72, 4, 21, 0), (999, 0, 0, 0), (999, 0, 0, 0), (0, 0, 0, 0), (130, 0, 1, 0)]
def zu_Gr_canAct : List (Nat × List Bool) := [(20, [false, false]), (21, [false, false])]
set_option maxRecDepth 100000 in
theorem qe_Gr_canAct_21 {ρ : Type} (kr : Int → zH → Option ρ) (t0 : Int) (h : zH) : Gr_canAct_21 kr t0 h = zseg zPP true (zcal []) (zget (999, 0, 0, 0) zc_Gr_canAct) (zcut zu_Gr_canAct) (zorc []) kr (fun _ _ => none) 400 21 [none, none] [(0, t0)] h := by rfl
set_option maxRecDepth 100000 in
theorem qe_Gr_canAct_20 {ρ : Type} (kr : Int → zH → Option ρ) (h : zH) : Gr_canAct_20 kr h = zseg zPP true (zcal []) (zget (999, 0, 0, 0) zc_Gr_canAct) (zcut zu_Gr_canAct) (zorc [(21, [none, none], [(0, none)], fun xs h => match xs with
  | [t0] => Gr_canAct_21 kr t0 h
  | _ => none)]) kr (fun _ _ => none) 400 20 [none, none] [] h := by rfl
set_option maxRecDepth 100000 in
theorem qe_Gr_canAct {ρ : Type} (kr : Int → zH → Option ρ) (a0 a1 : Int) (h : zH) : Gr_canAct a0 a1 h kr = zseg zPP true (zcal [(205, [none], fun xs h kr kt => match xs with
  | [x0] => Gr_leastPlace x0 h kr
  | _ => none)]) (zget (999, 0, 0, 0) zc_Gr_canAct) (zcut zu_Gr_canAct) (zorc [(20, [none, none], [], fun xs h => match xs with
  | [] => Gr_canAct_20 kr h
  | _ => none), (21, [none, none], [(0, none)], fun xs h => match xs with
  | [t0] => Gr_canAct_21 kr t0 h
  | _ => none)]) kr (fun _ _ => none) 400 0 [some (111, a0), some (0, a1)] [] h := by rfl
def zc_Un_indexOfLast : List zI := [(0, 0, 0, 0), (16, 0, 1, 0), (10, 0, 1, 0), (14, 0, 0, 103), (80, 3, 21, 2), (999, 0, 0, 0), (999, 0, 0, 0), (69, 24, 31, 0), (999, 0, 0, 0), (999, 0, 0, 0), (14, 0, 0, 103), (80, 3, 11, 0), (999, 0, 0, 0), (999, 0, 0, 0), (10, 0, 1, 0), (94, 0, 0, 26), (14, 0, 0, 103), (80, 3, 85, 3), (999, 0, 0, 0), (999, 0, 0, 0), (76, 5, 25, 0), (999, 0, 0, 0), (999, 0, 0, 0), (10, 0, 1, 0), (130, 0, 0, 0), (22, 1, 1, 0), (999, 0, 0, 0), (999, 0, 0, 0), (72, (-26), 2, 0), (999, 0, 0, 0), (999, 0, 0, 0), (0, (-1), 0, 0), (130, 0, 0, 0)]
def zu_Un_indexOfLast : List (Nat × List Bool) := [(2, [true, true])]
set_option maxRecDepth 100000 in
theorem qe_Un_indexOfLast_2b {ρ : Type} (kr : Int → zH → Option ρ) (r2 : Int → Int → zH → Option ρ) (a0 a1 : Int) (h : zH) : Un_indexOfLast_2b kr r2 a0 a1 h = zseg zPP true (zcal []) (zget (999, 0, 0, 0) zc_Un_indexOfLast) (zcut zu_Un_indexOfLast) (zorc [(2, [some (103, none), some (0, none)], [], fun xs h => match xs with
  | [a0, a1] => r2 a0 a1 h
  | _ => none)]) kr (fun _ _ => none) 400 2 [some (103, a0), some (0, a1)] [] h := by rfl
set_option maxRecDepth 100000 in
theorem qe_Un_indexOfLast {ρ : Type} (kr : Int → zH → Option ρ) (a0 : Int) (h : zH) : Un_indexOfLast a0 h kr = zseg zPP true (zcal []) (zget (999, 0, 0, 0) zc_Un_indexOfLast) (zcut zu_Un_indexOfLast) (zorc [(2, [some (103, none), some (0, none)], [], fun xs h => match xs with
  | [a0, a1] => Un_indexOfLast_2 kr a0 a1 h
  | _ => none)]) kr (fun _ _ => none) 400 0 [some (103, a0), none] [] h := by rfl
def zc_Un_choose : List zI := [(10, 0, 1, 0), (1, 97, 0, 0), (999, 0, 0, 0), (67, 12, 15, 0), (999, 0, 0, 0), (999, 0, 0, 0), (14, 0, 0, 103), (110, 0, 78, 286), (999, 0, 0, 0), (999, 0, 0, 0), (0, 1, 0, 0), (30, 0, 0, 0), (72, 4, 16, 0), (999, 0, 0, 0), (999, 0, 0, 0), (0, 0, 0, 0), (16, 0, 3, 0), (0, 0, 0, 0), (17, 0, 4, 0), (999, 0, 0, 0), (11, 0, 4, 0), (999, 0, 0, 0), (14, 0, 0, 103), (80, 3, 21, 2), (999, 0, 0, 0), (999, 0, 0, 0), (69, 68, 94, 0), (999, 0, 0, 0), (999, 0, 0, 0), (10, 0, 1, 0), (1, 121, 0, 0), (999, 0, 0, 0), (67, 15, 47, 0), (999, 0, 0, 0), (999, 0, 0, 0), (14, 0, 0, 103), (80, 3, 21, 2), (999, 0, 0, 0), (999, 0, 0, 0), (0, 1, 0, 0), (31, 0, 0, 0), (11, 0, 4, 0), (999, 0, 0, 0), (31, 0, 0, 0), (72, 12, 56, 0), (999, 0, 0, 0), (999, 0, 0, 0), (10, 0, 3, 0), (11, 0, 4, 0), (999, 0, 0, 0), (30, 0, 0, 0), (14, 0, 0, 103), (80, 3, 21, 2), (999, 0, 0, 0), (999, 0, 0, 0), (34, 0, 0, 0), (17, 0, 5, 0), (999, 0, 0, 0), (14, 0, 0, 103), (80, 3, 11, 0), (999, 0, 0, 0), (999, 0, 0, 0), (11, 0, 5, 0), (999, 0, 0, 0), (94, 0, 0, 26), (10, 0, 2, 0), (110, 0, 81, 210), (999, 0, 0, 0), (999, 0, 0, 0), (60, 19, 88, 0), (999, 0, 0, 0), (999, 0, 0, 0), (14, 0, 0, 103), (14, 0, 0, 103), (80, 3, 11, 0), (999, 0, 0, 0), (999, 0, 0, 0), (11, 0, 5, 0), (999, 0, 0, 0), (94, 0, 0, 26), (82, 3, 85, 3), (999, 0, 0, 0), (999, 0, 0, 0), (14, 0, 0, 103), (80, 3, 85, 3), (999, 0, 0, 0), (999, 0, 0, 0), (132, 0, 0, 111), (22, 1, 4, 0), (999, 0, 0, 0), (999, 0, 0, 0), (72, (-71), 20, 0), (999, 0, 0, 0), (999, 0, 0, 0), (7, 0, 0, 111), (132, 0, 0, 111)]
def zu_Un_choose : List (Nat × List Bool) := [(16, [true, true, true, false, false, false]), (20, [true, true, true, true, true, false]), (56, [true, true, true, true, true, false])]
set_option maxRecDepth 100000 in
theorem qe_Un_choose_56 {ρ : Type} (kr : Int → zH → Option ρ) (r20 : Int → Int → Int → Int → Int → zH → Option ρ) (a0 a1 a2 a3 a4 t0 : Int) (h : zH) : Un_choose_56 kr r20 a0 a1 a2 a3 a4 t0 h = zseg zPP true (zcal [(210, [none, none], fun xs h kr kt => match xs with
  | [x0, x1] => Gr_canAct x0 x1 h kr
  | _ => none)]) (zget (999, 0, 0, 0) zc_Un_choose) (zcut zu_Un_choose) (zorc [(20, [some (103, none), some (0, none), some (0, none), some (0, none), some (0, none), none], [], fun xs h => match xs with
  | [a0, a1, a2, a3, a4] => r20 a0 a1 a2 a3 a4 h
  | _ => none)]) kr (fun _ _ => none) 400 56 [some (103, a0), some (0, a1), some (0, a2), some (0, a3), some (0, a4), none] [(0, t0)] h := by rfl
set_option maxRecDepth 100000 in
theorem qe_Un_choose_20b {ρ : Type} (kr : Int → zH → Option ρ) (r20 : Int → Int → Int → Int → Int → zH → Option ρ) (a0 a1 a2 a3 a4 : Int) (h : zH) : Un_choose_20b kr r20 a0 a1 a2 a3 a4 h = zseg zPP true (zcal []) (zget (999, 0, 0, 0) zc_Un_choose) (zcut zu_Un_choose) (zorc [(56, [some (103, none), some (0, none), some (0, none), some (0, none), some (0, none), none], [(0, none)], fun xs h => match xs with
  | [a0, a1, a2, a3, a4, t0] => Un_choose_56 kr r20 a0 a1 a2 a3 a4 t0 h
  | _ => none)]) kr (fun _ _ => none) 400 20 [some (103, a0), some (0, a1), some (0, a2), some (0, a3), some (0, a4), none] [] h := by rfl
set_option maxRecDepth 100000 in
theorem qe_Un_choose_16 {ρ : Type} (kr : Int → zH → Option ρ) (a0 a1 a2 t0 : Int) (h : zH) : Un_choose_16 kr a0 a1 a2 t0 h = zseg zPP true (zcal []) (zget (999, 0, 0, 0) zc_Un_choose) (zcut zu_Un_choose) (zorc [(20, [some (103, none), some (0, none), some (0, none), some (0, none), some (0, none), none], [], fun xs h => match xs with
  | [a0, a1, a2, a3, a4] => Un_choose_20 kr a0 a1 a2 a3 a4 h
  | _ => none)]) kr (fun _ _ => none) 400 16 [some (103, a0), some (0, a1), some (0, a2), none, none, none] [(0, t0)] h := by rfl
set_option maxRecDepth 100000 in
theorem qe_Un_choose {ρ : Type} (kr : Int → zH → Option ρ) (a0 a1 a2 : Int) (h : zH) : Un_choose a0 a1 a2 h kr = zseg zPP true (zcal [(286, [none], fun xs h kr kt => match xs with
  | [x0] => Un_indexOfLast x0 h kr
  | _ => none)]) (zget (999, 0, 0, 0) zc_Un_choose) (zcut zu_Un_choose) (zorc [(16, [some (103, none), some (0, none), some (0, none), none, none, none], [(0, none)], fun xs h => match xs with
  | [a0, a1, a2, t0] => Un_choose_16 kr a0 a1 a2 t0 h
  | _ => none)]) kr (fun _ _ => none) 400 0 [some (103, a0), some (0, a1), some (0, a2), none, none, none] [] h := by rfl
def zc_Co_letCycleCome : List zI := [(14, 0, 0, 102), (80, 2, 39, 0), (999, 0, 0, 0), (999, 0, 0, 0), (110, 0, 43, 248), (999, 0, 0, 0), (999, 0, 0, 0), (14, 0, 0, 102), (110, 0, 48, 181), (999, 0, 0, 0), (999, 0, 0, 0), (14, 0, 0, 102), (110, 0, 51, 182), (999, 0, 0, 0), (999, 0, 0, 0), (0, 0, 0, 0), (16, 0, 1, 0), (10, 0, 1, 0), (0, 2, 0, 0), (69, 53, 72, 0), (999, 0, 0, 0), (999, 0, 0, 0), (14, 0, 0, 102), (80, 2, 18, 2), (999, 0, 0, 0), (999, 0, 0, 0), (10, 0, 1, 0), (94, 0, 0, 23), (14, 0, 0, 102), (80, 2, 29, 5), (999, 0, 0, 0), (999, 0, 0, 0), (14, 0, 0, 102), (80, 2, 54, 4), (999, 0, 0, 0), (999, 0, 0, 0), (110, 0, 58, 285), (999, 0, 0, 0), (999, 0, 0, 0), (20, 0, 2, 111), (14, 0, 2, 111), (73, 25, 66, 0), (999, 0, 0, 0), (999, 0, 0, 0), (14, 0, 0, 102), (14, 0, 0, 102), (80, 2, 18, 2), (999, 0, 0, 0), (999, 0, 0, 0), (10, 0, 1, 0), (94, 0, 0, 23), (14, 0, 2, 111), (110, 0, 62, 186), (999, 0, 0, 0), (999, 0, 0, 0), (60, 11, 66, 0), (999, 0, 0, 0), (999, 0, 0, 0), (14, 0, 0, 102), (14, 0, 2, 111), (80, 11, 66, 0), (999, 0, 0, 0), (999, 0, 0, 0), (110, 0, 72, 197), (999, 0, 0, 0), (999, 0, 0, 0), (22, 1, 1, 0), (999, 0, 0, 0), (999, 0, 0, 0), (72, (-52), 17, 0), (999, 0, 0, 0), (999, 0, 0, 0), (14, 0, 0, 102), (80, 2, 54, 4), (999, 0, 0, 0), (999, 0, 0, 0), (0, 3, 0, 0), (34, 0, 0, 0), (0, 2, 0, 0), (67, 7, 86, 0), (999, 0, 0, 0), (999, 0, 0, 0), (14, 0, 0, 102), (110, 0, 76, 185), (999, 0, 0, 0), (999, 0, 0, 0), (14, 0, 0, 102), (50, 0, 0, 0), (80, 2, 54, 4), (999, 0, 0, 0), (999, 0, 0, 0), (0, 1, 0, 0), (30, 0, 0, 0), (82, 2, 54, 4), (999, 0, 0, 0), (999, 0, 0, 0), (133, 0, 0, 0)]
def zu_Co_letCycleCome : List (Nat × List Bool) := [(17, [true, true, false]), (66, [true, true, false]), (86, [true, false, false])]
set_option maxRecDepth 100000 in
theorem qe_Co_letCycleCome_66 {ρ : Type} (kr : Int → zH → Option ρ) (r17 : Int → Int → zH → Option ρ) (a0 a1 : Int) (h : zH) : Co_letCycleCome_66 kr r17 a0 a1 h = zseg zPP true (zcal []) (zget (999, 0, 0, 0) zc_Co_letCycleCome) (zcut zu_Co_letCycleCome) (zorc [(17, [some (102, none), some (0, none), none], [], fun xs h => match xs with
  | [a0, a1] => r17 a0 a1 h
  | _ => none)]) kr (fun _ _ => none) 400 66 [some (102, a0), some (0, a1), none] [] h := by rfl
set_option maxRecDepth 100000 in
theorem qe_Co_letCycleCome_86 {ρ : Type} (kr : Int → zH → Option ρ) (a0 : Int) (h : zH) : Co_letCycleCome_86 kr a0 h = zseg zPP true (zcal []) (zget (999, 0, 0, 0) zc_Co_letCycleCome) (zcut zu_Co_letCycleCome) (zorc []) kr (fun _ _ => none) 400 86 [some (102, a0), none, none] [] h := by rfl
set_option maxRecDepth 100000 in
theorem qe_Co_letCycleCome_17b {ρ : Type} (kr : Int → zH → Option ρ) (r17 : Int → Int → zH → Option ρ) (a0 a1 : Int) (h : zH) : Co_letCycleCome_17b kr r17 a0 a1 h = zseg zPP true (zcal [(185, [none], fun xs h kr kt => match xs with
  | [x0] => Co_writeFirstOfBuffers x0 h kr
  | _ => none), (186, [none, none, none], fun xs h kr kt => match xs with
  | [x0, x1, x2] => Co_carryOut x0 x1 x2 h kr
  | _ => none), (197, [none, none], fun xs h kr kt => match xs with
  | [x0, x1] => Co_settle x0 x1 h kr
  | _ => none), (285, [none, none, none], fun xs h kr kt => match xs with
  | [x0, x1, x2] => Un_choose x0 x1 x2 h kr
  | _ => none)]) (zget (999, 0, 0, 0) zc_Co_letCycleCome) (zcut zu_Co_letCycleCome) (zorc [(66, [some (102, none), some (0, none), none], [], fun xs h => match xs with
  | [a0, a1] => Co_letCycleCome_66 kr r17 a0 a1 h
  | _ => none), (86, [some (102, none), none, none], [], fun xs h => match xs with
  | [a0] => Co_letCycleCome_86 kr a0 h
  | _ => none)]) kr (fun _ _ => none) 400 17 [some (102, a0), some (0, a1), none] [] h := by rfl
set_option maxRecDepth 100000 in
theorem qe_Co_letCycleCome {ρ : Type} (kr : Int → zH → Option ρ) (a0 : Int) (h : zH) : Co_letCycleCome a0 h kr = zseg zPP true (zcal [(181, [none], fun xs h kr kt => match xs with
  | [x0] => Co_moveCopies x0 h kr
  | _ => none), (182, [none], fun xs h kr kt => match xs with
  | [x0] => Co_giveBlocks x0 h kr
  | _ => none), (248, [none], fun xs h kr kt => match xs with
  | [x0] => Le_startQueued x0 h kr
  | _ => none)]) (zget (999, 0, 0, 0) zc_Co_letCycleCome) (zcut zu_Co_letCycleCome) (zorc [(17, [some (102, none), some (0, none), none], [], fun xs h => match xs with
  | [a0, a1] => Co_letCycleCome_17 kr a0 a1 h
  | _ => none)]) kr (fun _ _ => none) 400 0 [some (102, a0), none, none] [] h := by rfl
def zc_X_step : List zI := [(10, 0, 1, 0), (0, 1, 0, 0), (1, 100, 0, 0), (999, 0, 0, 0), (113, 0, 32, 54), (999, 0, 0, 0), (999, 0, 0, 0), (61, 11, 18, 0), (999, 0, 0, 0), (999, 0, 0, 0), (134, 38, 36, 1), (999, 0, 0, 0), (999, 0, 0, 0), (999, 0, 0, 0), (999, 0, 0, 0), (999, 0, 0, 0), (999, 0, 0, 0), (999, 0, 0, 0), (14, 0, 0, 100), (80, 0, 21, 1), (999, 0, 0, 0), (999, 0, 0, 0), (80, 2, 141, 3), (999, 0, 0, 0), (999, 0, 0, 0), (80, 4, 145, 0), (999, 0, 0, 0), (999, 0, 0, 0), (18, 0, 2, 0), (0, 0, 0, 0), (17, 0, 4, 0), (999, 0, 0, 0), (11, 0, 4, 0), (999, 0, 0, 0), (10, 0, 1, 0), (69, 16, 51, 0), (999, 0, 0, 0), (999, 0, 0, 0), (14, 0, 0, 100), (80, 0, 21, 1), (999, 0, 0, 0), (999, 0, 0, 0), (110, 0, 151, 180), (999, 0, 0, 0), (999, 0, 0, 0), (22, 1, 4, 0), (999, 0, 0, 0), (999, 0, 0, 0), (72, (-16), 32, 0), (999, 0, 0, 0), (999, 0, 0, 0), (14, 0, 0, 100), (80, 0, 21, 1), (999, 0, 0, 0), (999, 0, 0, 0), (80, 2, 141, 3), (999, 0, 0, 0), (999, 0, 0, 0), (80, 4, 145, 0), (999, 0, 0, 0), (999, 0, 0, 0), (12, 0, 2, 0), (46, 0, 0, 0), (43, 0, 0, 0), (130, 0, 0, 0)]
def zu_X_step : List (Nat × List Bool) := [(32, [true, true, true, false, true])]
set_option maxRecDepth 100000 in
theorem qe_X_step_32b {ρ : Type} (kr : Int → zH → Option ρ) (kt : Nat → zH → Option ρ) (r32 : Int → Int → Int → Int → zH → Option ρ) (a0 a1 a2 a4 : Int) (h : zH) : X_step_32b kr kt r32 a0 a1 a2 a4 h = zseg zPP true (zcal [(180, [none], fun xs h kr kt => match xs with
  | [x0] => Co_letCycleCome x0 h kr
  | _ => none)]) (zget (999, 0, 0, 0) zc_X_step) (zcut zu_X_step) (zorc [(32, [some (100, none), some (0, none), some (1, none), none, some (0, none)], [], fun xs h => match xs with
  | [a0, a1, a2, a4] => r32 a0 a1 a2 a4 h
  | _ => none)]) kr kt 400 32 [some (100, a0), some (0, a1), some (1, a2), none, some (0, a4)] [] h := by rfl
set_option maxRecDepth 100000 in
theorem qe_X_step {ρ : Type} (kr : Int → zH → Option ρ) (kt : Nat → zH → Option ρ) (a0 a1 : Int) (h : zH) : X_step a0 a1 h kr kt = zseg zPP true (zcal [(54, [none, none, none], fun xs h kr kt => match xs with
  | [x0, x1, x2] => X_isWithin x0 x1 x2 h kr
  | _ => none)]) (zget (999, 0, 0, 0) zc_X_step) (zcut zu_X_step) (zorc [(32, [some (100, none), some (0, none), some (1, none), none, some (0, none)], [], fun xs h => match xs with
  | [a0, a1, a2, a4] => X_step_32 kr kt a0 a1 a2 a4 h
  | _ => none)]) kr kt 400 0 [some (100, a0), some (0, a1), none, none, none] [] h := by rfl
def zc_Le_isAllOver : List zI := [(0, 0, 0, 0), (16, 0, 1, 0), (10, 0, 1, 0), (14, 0, 0, 101), (80, 1, 31, 3), (999, 0, 0, 0), (999, 0, 0, 0), (69, 23, 30, 0), (999, 0, 0, 0), (999, 0, 0, 0), (14, 0, 0, 101), (80, 1, 19, 1), (999, 0, 0, 0), (999, 0, 0, 0), (10, 0, 1, 0), (94, 0, 0, 21), (110, 0, 38, 231), (999, 0, 0, 0), (999, 0, 0, 0), (61, 5, 24, 0), (999, 0, 0, 0), (999, 0, 0, 0), (0, 0, 0, 0), (130, 0, 1, 0), (22, 1, 1, 0), (999, 0, 0, 0), (999, 0, 0, 0), (72, (-25), 2, 0), (999, 0, 0, 0), (999, 0, 0, 0), (0, 1, 0, 0), (130, 0, 1, 0)]
def zu_Le_isAllOver : List (Nat × List Bool) := [(2, [true, true])]
set_option maxRecDepth 100000 in
theorem qe_Le_isAllOver_2b {ρ : Type} (kr : Int → zH → Option ρ) (r2 : Int → Int → zH → Option ρ) (a0 a1 : Int) (h : zH) : Le_isAllOver_2b kr r2 a0 a1 h = zseg zPP true (zcal [(231, [none], fun xs h kr kt => match xs with
  | [x0] => La_isOver x0 h kr
  | _ => none)]) (zget (999, 0, 0, 0) zc_Le_isAllOver) (zcut zu_Le_isAllOver) (zorc [(2, [some (101, none), some (0, none)], [], fun xs h => match xs with
  | [a0, a1] => r2 a0 a1 h
  | _ => none)]) kr (fun _ _ => none) 400 2 [some (101, a0), some (0, a1)] [] h := by rfl
set_option maxRecDepth 100000 in
theorem qe_Le_isAllOver {ρ : Type} (kr : Int → zH → Option ρ) (a0 : Int) (h : zH) : Le_isAllOver a0 h kr = zseg zPP true (zcal []) (zget (999, 0, 0, 0) zc_Le_isAllOver) (zcut zu_Le_isAllOver) (zorc [(2, [some (101, none), some (0, none)], [], fun xs h => match xs with
  | [a0, a1] => Le_isAllOver_2 kr a0 a1 h
  | _ => none)]) kr (fun _ _ => none) 400 0 [some (101, a0), none] [] h := by rfl
def zc_X_run : List zI := [(10, 0, 1, 0), (0, 1, 0, 0), (2, 500, 0, 0), (999, 0, 0, 0), (999, 0, 0, 0), (113, 0, 32, 54), (999, 0, 0, 0), (999, 0, 0, 0), (61, 11, 19, 0), (999, 0, 0, 0), (999, 0, 0, 0), (134, 38, 36, 1), (999, 0, 0, 0), (999, 0, 0, 0), (999, 0, 0, 0), (999, 0, 0, 0), (999, 0, 0, 0), (999, 0, 0, 0), (999, 0, 0, 0), (0, 0, 0, 0), (16, 0, 2, 0), (10, 0, 2, 0), (10, 0, 1, 0), (69, 26, 49, 0), (999, 0, 0, 0), (999, 0, 0, 0), (14, 0, 0, 100), (80, 0, 10, 0), (999, 0, 0, 0), (999, 0, 0, 0), (110, 0, 154, 247), (999, 0, 0, 0), (999, 0, 0, 0), (61, 16, 49, 0), (999, 0, 0, 0), (999, 0, 0, 0), (14, 0, 0, 100), (80, 0, 21, 1), (999, 0, 0, 0), (999, 0, 0, 0), (110, 0, 151, 180), (999, 0, 0, 0), (999, 0, 0, 0), (22, 1, 2, 0), (999, 0, 0, 0), (999, 0, 0, 0), (72, (-25), 21, 0), (999, 0, 0, 0), (999, 0, 0, 0), (10, 0, 2, 0), (130, 0, 0, 0)]
def zu_X_run : List (Nat × List Bool) := [(21, [true, true, true]), (49, [false, false, true])]
set_option maxRecDepth 100000 in
theorem qe_X_run_49 {ρ : Type} (kr : Int → zH → Option ρ) (kt : Nat → zH → Option ρ) (a2 : Int) (h : zH) : X_run_49 kr kt a2 h = zseg zPP true (zcal []) (zget (999, 0, 0, 0) zc_X_run) (zcut zu_X_run) (zorc []) kr kt 400 49 [none, none, some (0, a2)] [] h := by rfl
set_option maxRecDepth 100000 in
theorem qe_X_run_21b {ρ : Type} (kr : Int → zH → Option ρ) (kt : Nat → zH → Option ρ) (r21 : Int → Int → Int → zH → Option ρ) (a0 a1 a2 : Int) (h : zH) : X_run_21b kr kt r21 a0 a1 a2 h = zseg zPP true (zcal [(180, [none], fun xs h kr kt => match xs with
  | [x0] => Co_letCycleCome x0 h kr
  | _ => none), (247, [none], fun xs h kr kt => match xs with
  | [x0] => Le_isAllOver x0 h kr
  | _ => none)]) (zget (999, 0, 0, 0) zc_X_run) (zcut zu_X_run) (zorc [(21, [some (100, none), some (0, none), some (0, none)], [], fun xs h => match xs with
  | [a0, a1, a2] => r21 a0 a1 a2 h
  | _ => none), (49, [none, none, some (0, none)], [], fun xs h => match xs with
  | [a2] => X_run_49 kr kt a2 h
  | _ => none)]) kr kt 400 21 [some (100, a0), some (0, a1), some (0, a2)] [] h := by rfl
set_option maxRecDepth 100000 in
theorem qe_X_run {ρ : Type} (kr : Int → zH → Option ρ) (kt : Nat → zH → Option ρ) (a0 a1 : Int) (h : zH) : X_run a0 a1 h kr kt = zseg zPP true (zcal [(54, [none, none, none], fun xs h kr kt => match xs with
  | [x0, x1, x2] => X_isWithin x0 x1 x2 h kr
  | _ => none)]) (zget (999, 0, 0, 0) zc_X_run) (zcut zu_X_run) (zorc [(21, [some (100, none), some (0, none), some (0, none)], [], fun xs h => match xs with
  | [a0, a1, a2] => X_run_21 kr kt a0 a1 a2 h
  | _ => none)]) kr kt 400 0 [some (100, a0), some (0, a1), none] [] h := by rfl
def zc_X_setOrder : List zI := [(10, 0, 1, 0), (1, 111, 0, 0), (999, 0, 0, 0), (66, 23, 26, 0), (999, 0, 0, 0), (999, 0, 0, 0), (10, 0, 1, 0), (1, 121, 0, 0), (999, 0, 0, 0), (66, 17, 26, 0), (999, 0, 0, 0), (999, 0, 0, 0), (10, 0, 1, 0), (1, 97, 0, 0), (999, 0, 0, 0), (66, 11, 26, 0), (999, 0, 0, 0), (999, 0, 0, 0), (134, 38, 36, 1), (999, 0, 0, 0), (999, 0, 0, 0), (999, 0, 0, 0), (999, 0, 0, 0), (999, 0, 0, 0), (999, 0, 0, 0), (999, 0, 0, 0), (14, 0, 0, 100), (80, 0, 21, 1), (999, 0, 0, 0), (999, 0, 0, 0), (80, 2, 158, 5), (999, 0, 0, 0), (999, 0, 0, 0), (16, 0, 2, 0), (14, 0, 0, 100), (80, 0, 21, 1), (999, 0, 0, 0), (999, 0, 0, 0), (10, 0, 1, 0), (82, 2, 158, 5), (999, 0, 0, 0), (999, 0, 0, 0), (10, 0, 2, 0), (130, 0, 2, 0)]
def zu_X_setOrder : List (Nat × List Bool) := [(26, [true, true, false])]
set_option maxRecDepth 100000 in
theorem qe_X_setOrder_26 {ρ : Type} (kr : Int → zH → Option ρ) (kt : Nat → zH → Option ρ) (a0 a1 : Int) (h : zH) : X_setOrder_26 kr kt a0 a1 h = zseg zPP true (zcal []) (zget (999, 0, 0, 0) zc_X_setOrder) (zcut zu_X_setOrder) (zorc []) kr kt 400 26 [some (100, a0), some (0, a1), none] [] h := by rfl
set_option maxRecDepth 100000 in
theorem qe_X_setOrder {ρ : Type} (kr : Int → zH → Option ρ) (kt : Nat → zH → Option ρ) (a0 a1 : Int) (h : zH) : X_setOrder a0 a1 h kr kt = zseg zPP true (zcal []) (zget (999, 0, 0, 0) zc_X_setOrder) (zcut zu_X_setOrder) (zorc [(26, [some (100, none), some (0, none), none], [], fun xs h => match xs with
  | [a0, a1] => X_setOrder_26 kr kt a0 a1 h
  | _ => none)]) kr kt 400 0 [some (100, a0), some (0, a1), none] [] h := by rfl
def zc_X_cycle : List zI := [(14, 0, 0, 100), (80, 0, 21, 1), (999, 0, 0, 0), (999, 0, 0, 0), (80, 2, 161, 4), (999, 0, 0, 0), (999, 0, 0, 0), (130, 0, 0, 0)]
def zu_X_cycle : List (Nat × List Bool) := []
set_option maxRecDepth 100000 in
theorem qe_X_cycle {ρ : Type} (kr : Int → zH → Option ρ) (a0 : Int) (h : zH) : X_cycle a0 h kr = zseg zPP true (zcal []) (zget (999, 0, 0, 0) zc_X_cycle) (zcut zu_X_cycle) (zorc []) kr (fun _ _ => none) 400 0 [some (100, a0)] [] h := by rfl
def zc_X_unitAt : List zI := [(10, 0, 1, 0), (0, 0, 0, 0), (0, 1, 0, 0), (113, 0, 32, 54), (999, 0, 0, 0), (999, 0, 0, 0), (61, 11, 17, 0), (999, 0, 0, 0), (999, 0, 0, 0), (134, 89, 87, 3), (999, 0, 0, 0), (999, 0, 0, 0), (999, 0, 0, 0), (999, 0, 0, 0), (999, 0, 0, 0), (999, 0, 0, 0), (999, 0, 0, 0), (14, 0, 0, 100), (80, 0, 21, 1), (999, 0, 0, 0), (999, 0, 0, 0), (80, 2, 287, 2), (999, 0, 0, 0), (999, 0, 0, 0), (10, 0, 1, 0), (94, 0, 0, 23), (132, 0, 0, 103)]
def zu_X_unitAt : List (Nat × List Bool) := []
set_option maxRecDepth 100000 in
theorem qe_X_unitAt {ρ : Type} (kr : Int → zH → Option ρ) (kt : Nat → zH → Option ρ) (a0 a1 : Int) (h : zH) : X_unitAt a0 a1 h kr kt = zseg zPP true (zcal [(54, [none, none, none], fun xs h kr kt => match xs with
  | [x0, x1, x2] => X_isWithin x0 x1 x2 h kr
  | _ => none)]) (zget (999, 0, 0, 0) zc_X_unitAt) (zcut zu_X_unitAt) (zorc []) kr kt 400 0 [some (100, a0), some (0, a1)] [] h := by rfl
def zc_X_groups : List zI := [(14, 0, 0, 100), (10, 0, 1, 0), (110, 0, 164, 50), (999, 0, 0, 0), (999, 0, 0, 0), (80, 3, 168, 2), (999, 0, 0, 0), (999, 0, 0, 0), (130, 0, 0, 0)]
def zu_X_groups : List (Nat × List Bool) := []
set_option maxRecDepth 100000 in
theorem qe_X_groups {ρ : Type} (kr : Int → zH → Option ρ) (kt : Nat → zH → Option ρ) (a0 a1 : Int) (h : zH) : X_groups a0 a1 h kr kt = zseg zPP true (zcal [(50, [none, none], fun xs h kr kt => match xs with
  | [x0, x1] => X_unitAt x0 x1 h kr kt
  | _ => none)]) (zget (999, 0, 0, 0) zc_X_groups) (zcut zu_X_groups) (zorc []) kr kt 400 0 [some (100, a0), some (0, a1)] [] h := by rfl
def zc_Un_groupOf : List zI := [(10, 0, 1, 0), (0, 0, 0, 0), (14, 0, 0, 103), (80, 3, 21, 2), (999, 0, 0, 0), (999, 0, 0, 0), (0, 1, 0, 0), (31, 0, 0, 0), (114, 0, 25, 54), (999, 0, 0, 0), (999, 0, 0, 0), (60, 12, 23, 0), (999, 0, 0, 0), (999, 0, 0, 0), (14, 0, 0, 103), (80, 3, 11, 0), (999, 0, 0, 0), (999, 0, 0, 0), (10, 0, 1, 0), (94, 0, 0, 26), (72, 4, 24, 0), (999, 0, 0, 0), (999, 0, 0, 0), (7, 0, 0, 111), (132, 0, 0, 111)]
def zu_Un_groupOf : List (Nat × List Bool) := [(24, [false, false])]
set_option maxRecDepth 100000 in
theorem qe_Un_groupOf_24 {ρ : Type} (kr : Int → zH → Option ρ) (t0 : Int) (h : zH) : Un_groupOf_24 kr t0 h = zseg zPP true (zcal []) (zget (999, 0, 0, 0) zc_Un_groupOf) (zcut zu_Un_groupOf) (zorc []) kr (fun _ _ => none) 400 24 [none, none] [(111, t0)] h := by rfl
set_option maxRecDepth 100000 in
theorem qe_Un_groupOf {ρ : Type} (kr : Int → zH → Option ρ) (a0 a1 : Int) (h : zH) : Un_groupOf a0 a1 h kr = zseg zPP true (zcal [(54, [none, none, none], fun xs h kr kt => match xs with
  | [x0, x1, x2] => X_isWithin x0 x1 x2 h kr
  | _ => none)]) (zget (999, 0, 0, 0) zc_Un_groupOf) (zcut zu_Un_groupOf) (zorc [(24, [none, none], [(111, none)], fun xs h => match xs with
  | [t0] => Un_groupOf_24 kr t0 h
  | _ => none)]) kr (fun _ _ => none) 400 0 [some (103, a0), some (0, a1)] [] h := by rfl
def zc_X_groupAt : List zI := [(14, 0, 0, 100), (10, 0, 1, 0), (110, 0, 164, 50), (999, 0, 0, 0), (999, 0, 0, 0), (10, 0, 2, 0), (110, 0, 300, 277), (999, 0, 0, 0), (999, 0, 0, 0), (20, 0, 3, 111), (14, 0, 3, 111), (74, 11, 22, 0), (999, 0, 0, 0), (999, 0, 0, 0), (134, 89, 87, 3), (999, 0, 0, 0), (999, 0, 0, 0), (999, 0, 0, 0), (999, 0, 0, 0), (999, 0, 0, 0), (999, 0, 0, 0), (999, 0, 0, 0), (14, 0, 3, 111), (132, 0, 0, 111)]
def zu_X_groupAt : List (Nat × List Bool) := []
set_option maxRecDepth 100000 in
theorem qe_X_groupAt {ρ : Type} (kr : Int → zH → Option ρ) (kt : Nat → zH → Option ρ) (a0 a1 a2 : Int) (h : zH) : X_groupAt a0 a1 a2 h kr kt = zseg zPP true (zcal [(50, [none, none], fun xs h kr kt => match xs with
  | [x0, x1] => X_unitAt x0 x1 h kr kt
  | _ => none), (277, [none, none], fun xs h kr kt => match xs with
  | [x0, x1] => Un_groupOf x0 x1 h kr
  | _ => none)]) (zget (999, 0, 0, 0) zc_X_groupAt) (zcut zu_X_groupAt) (zorc []) kr kt 400 0 [some (100, a0), some (0, a1), some (0, a2), none] [] h := by rfl
def zc_X_threadAt : List zI := [(14, 0, 0, 100), (10, 0, 1, 0), (10, 0, 2, 0), (110, 0, 173, 51), (999, 0, 0, 0), (999, 0, 0, 0), (20, 0, 3, 111), (2, 1000, 0, 0), (999, 0, 0, 0), (999, 0, 0, 0), (14, 0, 3, 111), (80, 11, 177, 0), (999, 0, 0, 0), (999, 0, 0, 0), (80, 10, 183, 0), (999, 0, 0, 0), (999, 0, 0, 0), (80, 9, 113, 0), (999, 0, 0, 0), (999, 0, 0, 0), (32, 0, 0, 0), (1, 100, 0, 0), (999, 0, 0, 0), (14, 0, 3, 111), (80, 11, 177, 0), (999, 0, 0, 0), (999, 0, 0, 0), (80, 10, 188, 1), (999, 0, 0, 0), (999, 0, 0, 0), (32, 0, 0, 0), (30, 0, 0, 0), (14, 0, 3, 111), (80, 11, 189, 1), (999, 0, 0, 0), (999, 0, 0, 0), (30, 0, 0, 0), (130, 0, 0, 0)]
def zu_X_threadAt : List (Nat × List Bool) := []
set_option maxRecDepth 100000 in
theorem qe_X_threadAt {ρ : Type} (kr : Int → zH → Option ρ) (kt : Nat → zH → Option ρ) (a0 a1 a2 : Int) (h : zH) : X_threadAt a0 a1 a2 h kr kt = zseg zPP true (zcal [(51, [none, none, none], fun xs h kr kt => match xs with
  | [x0, x1, x2] => X_groupAt x0 x1 x2 h kr kt
  | _ => none)]) (zget (999, 0, 0, 0) zc_X_threadAt) (zcut zu_X_threadAt) (zorc []) kr kt 400 0 [some (100, a0), some (0, a1), some (0, a2), none] [] h := by rfl
def zc_X_place : List zI := [(14, 0, 0, 100), (10, 0, 1, 0), (10, 0, 2, 0), (110, 0, 173, 51), (999, 0, 0, 0), (999, 0, 0, 0), (110, 0, 192, 205), (999, 0, 0, 0), (999, 0, 0, 0), (16, 0, 3, 0), (10, 0, 3, 0), (0, (-1), 0, 0), (67, 11, 23, 0), (999, 0, 0, 0), (999, 0, 0, 0), (134, 137, 135, 5), (999, 0, 0, 0), (999, 0, 0, 0), (999, 0, 0, 0), (999, 0, 0, 0), (999, 0, 0, 0), (999, 0, 0, 0), (999, 0, 0, 0), (10, 0, 3, 0), (130, 0, 0, 0)]
def zu_X_place : List (Nat × List Bool) := []
set_option maxRecDepth 100000 in
theorem qe_X_place {ρ : Type} (kr : Int → zH → Option ρ) (kt : Nat → zH → Option ρ) (a0 a1 a2 : Int) (h : zH) : X_place a0 a1 a2 h kr kt = zseg zPP true (zcal [(51, [none, none, none], fun xs h kr kt => match xs with
  | [x0, x1, x2] => X_groupAt x0 x1 x2 h kr kt
  | _ => none), (205, [none], fun xs h kr kt => match xs with
  | [x0] => Gr_leastPlace x0 h kr
  | _ => none)]) (zget (999, 0, 0, 0) zc_X_place) (zcut zu_X_place) (zorc []) kr kt 400 0 [some (100, a0), some (0, a1), some (0, a2), none] [] h := by rfl
def zc_X_mask : List zI := [(14, 0, 0, 100), (10, 0, 1, 0), (10, 0, 2, 0), (110, 0, 173, 51), (999, 0, 0, 0), (999, 0, 0, 0), (110, 0, 196, 206), (999, 0, 0, 0), (999, 0, 0, 0), (130, 0, 0, 0)]
def zu_X_mask : List (Nat × List Bool) := []
set_option maxRecDepth 100000 in
theorem qe_X_mask {ρ : Type} (kr : Int → zH → Option ρ) (kt : Nat → zH → Option ρ) (a0 a1 a2 : Int) (h : zH) : X_mask a0 a1 a2 h kr kt = zseg zPP true (zcal [(51, [none, none, none], fun xs h kr kt => match xs with
  | [x0, x1, x2] => X_groupAt x0 x1 x2 h kr kt
  | _ => none), (206, [none], fun xs h kr kt => match xs with
  | [x0] => Gr_lanesUnderMask x0 h kr
  | _ => none)]) (zget (999, 0, 0, 0) zc_X_mask) (zcut zu_X_mask) (zorc []) kr kt 400 0 [some (100, a0), some (0, a1), some (0, a2)] [] h := by rfl
def zc_Gr_isPlaceOfLower : List zI := [(0, 0, 0, 0), (16, 0, 2, 0), (10, 0, 2, 0), (10, 0, 1, 0), (69, 24, 28, 0), (999, 0, 0, 0), (999, 0, 0, 0), (14, 0, 0, 111), (10, 0, 2, 0), (110, 0, 46, 204), (999, 0, 0, 0), (999, 0, 0, 0), (14, 0, 0, 111), (10, 0, 1, 0), (110, 0, 46, 204), (999, 0, 0, 0), (999, 0, 0, 0), (67, 5, 22, 0), (999, 0, 0, 0), (999, 0, 0, 0), (0, 1, 0, 0), (130, 0, 1, 0), (22, 1, 2, 0), (999, 0, 0, 0), (999, 0, 0, 0), (72, (-23), 2, 0), (999, 0, 0, 0), (999, 0, 0, 0), (0, 0, 0, 0), (130, 0, 1, 0)]
def zu_Gr_isPlaceOfLower : List (Nat × List Bool) := [(2, [true, true, true])]
set_option maxRecDepth 100000 in
theorem qe_Gr_isPlaceOfLower_2b {ρ : Type} (kr : Int → zH → Option ρ) (r2 : Int → Int → Int → zH → Option ρ) (a0 a1 a2 : Int) (h : zH) : Gr_isPlaceOfLower_2b kr r2 a0 a1 a2 h = zseg zPP true (zcal [(204, [none, none], fun xs h kr kt => match xs with
  | [x0, x1] => Gr_placeIn x0 x1 h kr
  | _ => none)]) (zget (999, 0, 0, 0) zc_Gr_isPlaceOfLower) (zcut zu_Gr_isPlaceOfLower) (zorc [(2, [some (111, none), some (0, none), some (0, none)], [], fun xs h => match xs with
  | [a0, a1, a2] => r2 a0 a1 a2 h
  | _ => none)]) kr (fun _ _ => none) 400 2 [some (111, a0), some (0, a1), some (0, a2)] [] h := by rfl
set_option maxRecDepth 100000 in
theorem qe_Gr_isPlaceOfLower {ρ : Type} (kr : Int → zH → Option ρ) (a0 a1 : Int) (h : zH) : Gr_isPlaceOfLower a0 a1 h kr = zseg zPP true (zcal []) (zget (999, 0, 0, 0) zc_Gr_isPlaceOfLower) (zcut zu_Gr_isPlaceOfLower) (zorc [(2, [some (111, none), some (0, none), some (0, none)], [], fun xs h => match xs with
  | [a0, a1, a2] => Gr_isPlaceOfLower_2 kr a0 a1 a2 h
  | _ => none)]) kr (fun _ _ => none) 400 0 [some (111, a0), some (0, a1), none] [] h := by rfl
def zc_Gr_differentPlaces : List zI := [(0, 0, 0, 0), (16, 0, 1, 0), (0, 0, 0, 0), (16, 0, 2, 0), (10, 0, 2, 0), (0, 4, 0, 0), (69, 29, 35, 0), (999, 0, 0, 0), (999, 0, 0, 0), (14, 0, 0, 111), (10, 0, 2, 0), (110, 0, 46, 204), (999, 0, 0, 0), (999, 0, 0, 0), (0, (-1), 0, 0), (66, 14, 29, 0), (999, 0, 0, 0), (999, 0, 0, 0), (14, 0, 0, 111), (10, 0, 2, 0), (110, 0, 54, 208), (999, 0, 0, 0), (999, 0, 0, 0), (61, 6, 29, 0), (999, 0, 0, 0), (999, 0, 0, 0), (22, 1, 1, 0), (999, 0, 0, 0), (999, 0, 0, 0), (22, 1, 2, 0), (999, 0, 0, 0), (999, 0, 0, 0), (72, (-28), 4, 0), (999, 0, 0, 0), (999, 0, 0, 0), (10, 0, 1, 0), (130, 0, 0, 0)]
def zu_Gr_differentPlaces : List (Nat × List Bool) := [(4, [true, true, true]), (29, [true, true, true])]
set_option maxRecDepth 100000 in
theorem qe_Gr_differentPlaces_29 {ρ : Type} (kr : Int → zH → Option ρ) (r4 : Int → Int → Int → zH → Option ρ) (a0 a1 a2 : Int) (h : zH) : Gr_differentPlaces_29 kr r4 a0 a1 a2 h = zseg zPP true (zcal []) (zget (999, 0, 0, 0) zc_Gr_differentPlaces) (zcut zu_Gr_differentPlaces) (zorc [(4, [some (111, none), some (0, none), some (0, none)], [], fun xs h => match xs with
  | [a0, a1, a2] => r4 a0 a1 a2 h
  | _ => none)]) kr (fun _ _ => none) 400 29 [some (111, a0), some (0, a1), some (0, a2)] [] h := by rfl
set_option maxRecDepth 100000 in
theorem qe_Gr_differentPlaces_4b {ρ : Type} (kr : Int → zH → Option ρ) (r4 : Int → Int → Int → zH → Option ρ) (a0 a1 a2 : Int) (h : zH) : Gr_differentPlaces_4b kr r4 a0 a1 a2 h = zseg zPP true (zcal [(204, [none, none], fun xs h kr kt => match xs with
  | [x0, x1] => Gr_placeIn x0 x1 h kr
  | _ => none), (208, [none, none], fun xs h kr kt => match xs with
  | [x0, x1] => Gr_isPlaceOfLower x0 x1 h kr
  | _ => none)]) (zget (999, 0, 0, 0) zc_Gr_differentPlaces) (zcut zu_Gr_differentPlaces) (zorc [(29, [some (111, none), some (0, none), some (0, none)], [], fun xs h => match xs with
  | [a0, a1, a2] => Gr_differentPlaces_29 kr r4 a0 a1 a2 h
  | _ => none)]) kr (fun _ _ => none) 400 4 [some (111, a0), some (0, a1), some (0, a2)] [] h := by rfl
set_option maxRecDepth 100000 in
theorem qe_Gr_differentPlaces {ρ : Type} (kr : Int → zH → Option ρ) (a0 : Int) (h : zH) : Gr_differentPlaces a0 h kr = zseg zPP true (zcal []) (zget (999, 0, 0, 0) zc_Gr_differentPlaces) (zcut zu_Gr_differentPlaces) (zorc [(4, [some (111, none), some (0, none), some (0, none)], [], fun xs h => match xs with
  | [a0, a1, a2] => Gr_differentPlaces_4 kr a0 a1 a2 h
  | _ => none)]) kr (fun _ _ => none) 400 0 [some (111, a0), none, none] [] h := by rfl
def zc_X_places : List zI := [(14, 0, 0, 100), (10, 0, 1, 0), (10, 0, 2, 0), (110, 0, 173, 51), (999, 0, 0, 0), (999, 0, 0, 0), (110, 0, 199, 207), (999, 0, 0, 0), (999, 0, 0, 0), (130, 0, 0, 0)]
def zu_X_places : List (Nat × List Bool) := []
set_option maxRecDepth 100000 in
theorem qe_X_places {ρ : Type} (kr : Int → zH → Option ρ) (kt : Nat → zH → Option ρ) (a0 a1 a2 : Int) (h : zH) : X_places a0 a1 a2 h kr kt = zseg zPP true (zcal [(51, [none, none, none], fun xs h kr kt => match xs with
  | [x0, x1, x2] => X_groupAt x0 x1 x2 h kr kt
  | _ => none), (207, [none], fun xs h kr kt => match xs with
  | [x0] => Gr_differentPlaces x0 h kr
  | _ => none)]) (zget (999, 0, 0, 0) zc_X_places) (zcut zu_X_places) (zorc []) kr kt 400 0 [some (100, a0), some (0, a1), some (0, a2)] [] h := by rfl
def zc_Gr_whyIdle : List zI := [(14, 0, 0, 111), (110, 0, 50, 205), (999, 0, 0, 0), (999, 0, 0, 0), (0, (-1), 0, 0), (67, 18, 23, 0), (999, 0, 0, 0), (999, 0, 0, 0), (14, 0, 0, 111), (110, 0, 64, 209), (999, 0, 0, 0), (999, 0, 0, 0), (60, 8, 20, 0), (999, 0, 0, 0), (999, 0, 0, 0), (1, 101, 0, 0), (999, 0, 0, 0), (72, 5, 22, 0), (999, 0, 0, 0), (999, 0, 0, 0), (1, 98, 0, 0), (999, 0, 0, 0), (130, 0, 2, 0), (10, 0, 1, 0), (14, 0, 0, 111), (80, 11, 61, 6), (999, 0, 0, 0), (999, 0, 0, 0), (69, 8, 36, 0), (999, 0, 0, 0), (999, 0, 0, 0), (1, 100, 0, 0), (999, 0, 0, 0), (72, 5, 38, 0), (999, 0, 0, 0), (999, 0, 0, 0), (1, 45, 0, 0), (999, 0, 0, 0), (130, 0, 2, 0)]
def zu_Gr_whyIdle : List (Nat × List Bool) := [(22, [false, false]), (38, [false, false])]
set_option maxRecDepth 100000 in
theorem qe_Gr_whyIdle_22 {ρ : Type} (kr : Int → zH → Option ρ) (t0 : Int) (h : zH) : Gr_whyIdle_22 kr t0 h = zseg zPP true (zcal []) (zget (999, 0, 0, 0) zc_Gr_whyIdle) (zcut zu_Gr_whyIdle) (zorc []) kr (fun _ _ => none) 400 22 [none, none] [(0, t0)] h := by rfl
set_option maxRecDepth 100000 in
theorem qe_Gr_whyIdle_38 {ρ : Type} (kr : Int → zH → Option ρ) (t0 : Int) (h : zH) : Gr_whyIdle_38 kr t0 h = zseg zPP true (zcal []) (zget (999, 0, 0, 0) zc_Gr_whyIdle) (zcut zu_Gr_whyIdle) (zorc []) kr (fun _ _ => none) 400 38 [none, none] [(0, t0)] h := by rfl
set_option maxRecDepth 100000 in
theorem qe_Gr_whyIdle {ρ : Type} (kr : Int → zH → Option ρ) (a0 a1 : Int) (h : zH) : Gr_whyIdle a0 a1 h kr = zseg zPP true (zcal [(205, [none], fun xs h kr kt => match xs with
  | [x0] => Gr_leastPlace x0 h kr
  | _ => none), (209, [none], fun xs h kr kt => match xs with
  | [x0] => Gr_hasEnded x0 h kr
  | _ => none)]) (zget (999, 0, 0, 0) zc_Gr_whyIdle) (zcut zu_Gr_whyIdle) (zorc [(22, [none, none], [(0, none)], fun xs h => match xs with
  | [t0] => Gr_whyIdle_22 kr t0 h
  | _ => none), (38, [none, none], [(0, none)], fun xs h => match xs with
  | [t0] => Gr_whyIdle_38 kr t0 h
  | _ => none)]) kr (fun _ _ => none) 400 0 [some (111, a0), some (0, a1)] [] h := by rfl
def zc_X_reason : List zI := [(14, 0, 0, 100), (10, 0, 1, 0), (10, 0, 2, 0), (110, 0, 173, 51), (999, 0, 0, 0), (999, 0, 0, 0), (14, 0, 0, 100), (80, 0, 21, 1), (999, 0, 0, 0), (999, 0, 0, 0), (80, 2, 161, 4), (999, 0, 0, 0), (999, 0, 0, 0), (110, 0, 202, 211), (999, 0, 0, 0), (999, 0, 0, 0), (130, 0, 2, 0)]
def zu_X_reason : List (Nat × List Bool) := []
set_option maxRecDepth 100000 in
theorem qe_X_reason {ρ : Type} (kr : Int → zH → Option ρ) (kt : Nat → zH → Option ρ) (a0 a1 a2 : Int) (h : zH) : X_reason a0 a1 a2 h kr kt = zseg zPP true (zcal [(51, [none, none, none], fun xs h kr kt => match xs with
  | [x0, x1, x2] => X_groupAt x0 x1 x2 h kr kt
  | _ => none), (211, [none, none], fun xs h kr kt => match xs with
  | [x0, x1] => Gr_whyIdle x0 x1 h kr
  | _ => none)]) (zget (999, 0, 0, 0) zc_X_reason) (zcut zu_X_reason) (zorc []) kr kt 400 0 [some (100, a0), some (0, a1), some (0, a2)] [] h := by rfl
