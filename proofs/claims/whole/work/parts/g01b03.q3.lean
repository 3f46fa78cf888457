def zc_Gr_leastPlace : List zI := [(0, (-1), 0, 0), (16, 0, 1, 0), (0, 0, 0, 0), (16, 0, 2, 0), (10, 0, 2, 0), (0, 4, 0, 0), (69, 32, 38, 0), (999, 0, 0, 0), (999, 0, 0, 0), (14, 0, 0, 111), (10, 0, 2, 0), (110, 0, 46, 204), (999, 0, 0, 0), (999, 0, 0, 0), (16, 0, 3, 0), (10, 0, 3, 0), (0, (-1), 0, 0), (66, 15, 32, 0), (999, 0, 0, 0), (999, 0, 0, 0), (10, 0, 1, 0), (0, (-1), 0, 0), (66, 8, 30, 0), (999, 0, 0, 0), (999, 0, 0, 0), (10, 0, 3, 0), (10, 0, 1, 0), (69, 5, 32, 0), (999, 0, 0, 0), (999, 0, 0, 0), (10, 0, 3, 0), (16, 0, 1, 0), (22, 1, 2, 0), (999, 0, 0, 0), (999, 0, 0, 0), (72, (-31), 4, 0), (999, 0, 0, 0), (999, 0, 0, 0), (10, 0, 1, 0), (130, 0, 0, 0)]
def zu_Gr_leastPlace : List (Nat × List Bool) := [(4, [true, true, true, false]), (30, [true, false, true, true]), (32, [true, true, true, false])]
set_option maxRecDepth 100000 in
theorem qg_Gr_leastPlace_32 {ρ : Type} (kr : Int → zH → Option ρ) (r4 : Int → Int → Int → zH → Option ρ) (a0 a1 a2 : Int) (h : zH) : (r4 a0 a1 (wr (a2 + 1)) h) = zseg zPP true (zcal (ρ := ρ) []) (zget (999, 0, 0, 0) zc_Gr_leastPlace) (zcut zu_Gr_leastPlace) (zorc (ρ := ρ) [(4, [some (111, none), some (0, none), some (0, none), none], [], zap3 r4)]) kr (fun _ _ => none) 400 32 [some (111, a0), some (0, a1), some (0, a2), none] [] h := by rfl
set_option maxRecDepth 100000 in
theorem qe_Gr_leastPlace_32 {ρ : Type} (kr : Int → zH → Option ρ) (r4 : Int → Int → Int → zH → Option ρ) (a0 a1 a2 : Int) (h : zH) : Gr_leastPlace_32 kr r4 a0 a1 a2 h = zseg zPP true (zcal (ρ := ρ) []) (zget (999, 0, 0, 0) zc_Gr_leastPlace) (zcut zu_Gr_leastPlace) (zorc (ρ := ρ) [(4, [some (111, none), some (0, none), some (0, none), none], [], zap3 r4)]) kr (fun _ _ => none) 400 32 [some (111, a0), some (0, a1), some (0, a2), none] [] h := qg_Gr_leastPlace_32 kr r4 a0 a1 a2 h
set_option maxRecDepth 100000 in
theorem qg_Gr_leastPlace_30 {ρ : Type} (kr : Int → zH → Option ρ) (r4 : Int → Int → Int → zH → Option ρ) (c32 : Int → Int → Int → zH → Option ρ) (a0 a2 a3 : Int) (h : zH) : (c32 a0 a3 a2 h) = zseg zPP true (zcal (ρ := ρ) []) (zget (999, 0, 0, 0) zc_Gr_leastPlace) (zcut zu_Gr_leastPlace) (zorc (ρ := ρ) [(32, [some (111, none), some (0, none), some (0, none), none], [], zap3 c32)]) kr (fun _ _ => none) 400 30 [some (111, a0), none, some (0, a2), some (0, a3)] [] h := by rfl
set_option maxRecDepth 100000 in
theorem qe_Gr_leastPlace_30 {ρ : Type} (kr : Int → zH → Option ρ) (r4 : Int → Int → Int → zH → Option ρ) (a0 a2 a3 : Int) (h : zH) : Gr_leastPlace_30 kr r4 a0 a2 a3 h = zseg zPP true (zcal (ρ := ρ) []) (zget (999, 0, 0, 0) zc_Gr_leastPlace) (zcut zu_Gr_leastPlace) (zorc (ρ := ρ) [(32, [some (111, none), some (0, none), some (0, none), none], [], zap3 (Gr_leastPlace_32 kr r4))]) kr (fun _ _ => none) 400 30 [some (111, a0), none, some (0, a2), some (0, a3)] [] h := qg_Gr_leastPlace_30 kr r4 (Gr_leastPlace_32 kr r4) a0 a2 a3 h
set_option maxRecDepth 100000 in
theorem qg_Gr_leastPlace_4b {ρ : Type} (kr : Int → zH → Option ρ) (r4 : Int → Int → Int → zH → Option ρ) (F_Gr_placeIn : Int → Int → zH → (Int → zH → Option ρ) → Option ρ) (c30 : Int → Int → Int → zH → Option ρ) (c32 : Int → Int → Int → zH → Option ρ) (a0 a1 a2 : Int) (h : zH) : (if a2 < 4 then (zob h 11 a0 fun _ =>
F_Gr_placeIn a0 a2 h  fun v1 h2 =>
if v1 = (-1) then c32 a0 a1 a2 h2
else if a1 = (-1) then c30 a0 a2 v1 h2
else if v1 < a1 then c30 a0 a2 v1 h2
else c32 a0 a1 a2 h2)
else kr a1 h) = zseg zPP true (zcal (ρ := ρ) [(204, [none, none], zca2 F_Gr_placeIn)]) (zget (999, 0, 0, 0) zc_Gr_leastPlace) (zcut zu_Gr_leastPlace) (zorc (ρ := ρ) [(30, [some (111, none), none, some (0, none), some (0, none)], [], zap3 c30), (32, [some (111, none), some (0, none), some (0, none), none], [], zap3 c32)]) kr (fun _ _ => none) 400 4 [some (111, a0), some (0, a1), some (0, a2), none] [] h := by rfl
set_option maxRecDepth 100000 in
theorem qe_Gr_leastPlace_4b {ρ : Type} (kr : Int → zH → Option ρ) (r4 : Int → Int → Int → zH → Option ρ) (a0 a1 a2 : Int) (h : zH) : Gr_leastPlace_4b kr r4 a0 a1 a2 h = zseg zPP true (zcal (ρ := ρ) [(204, [none, none], zca2 Gr_placeIn)]) (zget (999, 0, 0, 0) zc_Gr_leastPlace) (zcut zu_Gr_leastPlace) (zorc (ρ := ρ) [(30, [some (111, none), none, some (0, none), some (0, none)], [], zap3 (Gr_leastPlace_30 kr r4)), (32, [some (111, none), some (0, none), some (0, none), none], [], zap3 (Gr_leastPlace_32 kr r4))]) kr (fun _ _ => none) 400 4 [some (111, a0), some (0, a1), some (0, a2), none] [] h := qg_Gr_leastPlace_4b kr r4 Gr_placeIn (Gr_leastPlace_30 kr r4) (Gr_leastPlace_32 kr r4) a0 a1 a2 h
set_option maxRecDepth 100000 in
theorem qg_Gr_leastPlace {ρ : Type} (kr : Int → zH → Option ρ) (c4 : Int → Int → Int → zH → Option ρ) (a0 : Int) (h : zH) : (c4 a0 (-1) 0 h) = zseg zPP true (zcal (ρ := ρ) []) (zget (999, 0, 0, 0) zc_Gr_leastPlace) (zcut zu_Gr_leastPlace) (zorc (ρ := ρ) [(4, [some (111, none), some (0, none), some (0, none), none], [], zap3 c4)]) kr (fun _ _ => none) 400 0 [some (111, a0), none, none, none] [] h := by rfl
set_option maxRecDepth 100000 in
theorem qe_Gr_leastPlace {ρ : Type} (kr : Int → zH → Option ρ) (a0 : Int) (h : zH) : Gr_leastPlace a0 h kr = zseg zPP true (zcal (ρ := ρ) []) (zget (999, 0, 0, 0) zc_Gr_leastPlace) (zcut zu_Gr_leastPlace) (zorc (ρ := ρ) [(4, [some (111, none), some (0, none), some (0, none), none], [], zap3 (Gr_leastPlace_4 kr))]) kr (fun _ _ => none) 400 0 [some (111, a0), none, none, none] [] h := qg_Gr_leastPlace kr (Gr_leastPlace_4 kr) a0 h
def zc_Gr_lanesUnderMask : List zI := [(14, 0, 0, 111), (110, 0, 50, 205), (999, 0, 0, 0), (999, 0, 0, 0), (16, 0, 1, 0), (0, 0, 0, 0), (16, 0, 2, 0), (0, 0, 0, 0), (16, 0, 3, 0), (10, 0, 3, 0), (0, 4, 0, 0), (69, 29, 40, 0), (999, 0, 0, 0), (999, 0, 0, 0), (10, 0, 1, 0), (0, (-1), 0, 0), (66, 18, 34, 0), (999, 0, 0, 0), (999, 0, 0, 0), (14, 0, 0, 111), (10, 0, 3, 0), (110, 0, 46, 204), (999, 0, 0, 0), (999, 0, 0, 0), (10, 0, 1, 0), (67, 9, 34, 0), (999, 0, 0, 0), (999, 0, 0, 0), (10, 0, 2, 0), (0, 1, 0, 0), (10, 0, 3, 0), (39, 0, 0, 0), (37, 0, 0, 0), (16, 0, 2, 0), (22, 1, 3, 0), (999, 0, 0, 0), (999, 0, 0, 0), (72, (-28), 9, 0), (999, 0, 0, 0), (999, 0, 0, 0), (10, 0, 2, 0), (130, 0, 0, 0)]
def zu_Gr_lanesUnderMask : List (Nat × List Bool) := [(9, [true, true, true, true]), (34, [true, true, true, true])]
set_option maxRecDepth 100000 in
theorem qg_Gr_lanesUnderMask_34 {ρ : Type} (kr : Int → zH → Option ρ) (r9 : Int → Int → Int → Int → zH → Option ρ) (a0 a1 a2 a3 : Int) (h : zH) : (r9 a0 a1 a2 (wr (a3 + 1)) h) = zseg zPP true (zcal (ρ := ρ) []) (zget (999, 0, 0, 0) zc_Gr_lanesUnderMask) (zcut zu_Gr_lanesUnderMask) (zorc (ρ := ρ) [(9, [some (111, none), some (0, none), some (0, none), some (0, none)], [], zap4 r9)]) kr (fun _ _ => none) 400 34 [some (111, a0), some (0, a1), some (0, a2), some (0, a3)] [] h := by rfl
set_option maxRecDepth 100000 in
theorem qe_Gr_lanesUnderMask_34 {ρ : Type} (kr : Int → zH → Option ρ) (r9 : Int → Int → Int → Int → zH → Option ρ) (a0 a1 a2 a3 : Int) (h : zH) : Gr_lanesUnderMask_34 kr r9 a0 a1 a2 a3 h = zseg zPP true (zcal (ρ := ρ) []) (zget (999, 0, 0, 0) zc_Gr_lanesUnderMask) (zcut zu_Gr_lanesUnderMask) (zorc (ρ := ρ) [(9, [some (111, none), some (0, none), some (0, none), some (0, none)], [], zap4 r9)]) kr (fun _ _ => none) 400 34 [some (111, a0), some (0, a1), some (0, a2), some (0, a3)] [] h := qg_Gr_lanesUnderMask_34 kr r9 a0 a1 a2 a3 h
set_option maxRecDepth 100000 in
theorem qg_Gr_lanesUnderMask_9b {ρ : Type} (kr : Int → zH → Option ρ) (r9 : Int → Int → Int → Int → zH → Option ρ) (F_Gr_placeIn : Int → Int → zH → (Int → zH → Option ρ) → Option ρ) (c34 : Int → Int → Int → Int → zH → Option ρ) (a0 a1 a2 a3 : Int) (h : zH) : (if a3 < 4 then (if a1 = (-1) then c34 a0 a1 a2 a3 h
else zob h 11 a0 fun _ =>
F_Gr_placeIn a0 a3 h  fun v1 h2 =>
if v1 = a1 then c34 a0 a1 (zor a2 (zshl 1 a3)) a3 h2
else c34 a0 a1 a2 a3 h2)
else kr a2 h) = zseg zPP true (zcal (ρ := ρ) [(204, [none, none], zca2 F_Gr_placeIn)]) (zget (999, 0, 0, 0) zc_Gr_lanesUnderMask) (zcut zu_Gr_lanesUnderMask) (zorc (ρ := ρ) [(34, [some (111, none), some (0, none), some (0, none), some (0, none)], [], zap4 c34)]) kr (fun _ _ => none) 400 9 [some (111, a0), some (0, a1), some (0, a2), some (0, a3)] [] h := by rfl
set_option maxRecDepth 100000 in
theorem qe_Gr_lanesUnderMask_9b {ρ : Type} (kr : Int → zH → Option ρ) (r9 : Int → Int → Int → Int → zH → Option ρ) (a0 a1 a2 a3 : Int) (h : zH) : Gr_lanesUnderMask_9b kr r9 a0 a1 a2 a3 h = zseg zPP true (zcal (ρ := ρ) [(204, [none, none], zca2 Gr_placeIn)]) (zget (999, 0, 0, 0) zc_Gr_lanesUnderMask) (zcut zu_Gr_lanesUnderMask) (zorc (ρ := ρ) [(34, [some (111, none), some (0, none), some (0, none), some (0, none)], [], zap4 (Gr_lanesUnderMask_34 kr r9))]) kr (fun _ _ => none) 400 9 [some (111, a0), some (0, a1), some (0, a2), some (0, a3)] [] h := qg_Gr_lanesUnderMask_9b kr r9 Gr_placeIn (Gr_lanesUnderMask_34 kr r9) a0 a1 a2 a3 h
set_option maxRecDepth 100000 in
theorem qg_Gr_lanesUnderMask {ρ : Type} (kr : Int → zH → Option ρ) (F_Gr_leastPlace : Int → zH → (Int → zH → Option ρ) → Option ρ) (c9 : Int → Int → Int → Int → zH → Option ρ) (a0 : Int) (h : zH) : (zob h 11 a0 fun _ =>
F_Gr_leastPlace a0 h  fun v1 h2 =>
c9 a0 v1 0 0 h2) = zseg zPP true (zcal (ρ := ρ) [(205, [none], zca1 F_Gr_leastPlace)]) (zget (999, 0, 0, 0) zc_Gr_lanesUnderMask) (zcut zu_Gr_lanesUnderMask) (zorc (ρ := ρ) [(9, [some (111, none), some (0, none), some (0, none), some (0, none)], [], zap4 c9)]) kr (fun _ _ => none) 400 0 [some (111, a0), none, none, none] [] h := by rfl
set_option maxRecDepth 100000 in
theorem qe_Gr_lanesUnderMask {ρ : Type} (kr : Int → zH → Option ρ) (a0 : Int) (h : zH) : Gr_lanesUnderMask a0 h kr = zseg zPP true (zcal (ρ := ρ) [(205, [none], zca1 Gr_leastPlace)]) (zget (999, 0, 0, 0) zc_Gr_lanesUnderMask) (zcut zu_Gr_lanesUnderMask) (zorc (ρ := ρ) [(9, [some (111, none), some (0, none), some (0, none), some (0, none)], [], zap4 (Gr_lanesUnderMask_9 kr))]) kr (fun _ _ => none) 400 0 [some (111, a0), none, none, none] [] h := qg_Gr_lanesUnderMask kr Gr_leastPlace (Gr_lanesUnderMask_9 kr) a0 h
def zc_Ke_instructionAt : List zI := [(10, 0, 1, 0), (0, 0, 0, 0), (14, 0, 0, 107), (80, 7, 24, 3), (999, 0, 0, 0), (999, 0, 0, 0), (0, 1, 0, 0), (31, 0, 0, 0), (114, 0, 27, 54), (999, 0, 0, 0), (999, 0, 0, 0), (60, 12, 23, 0), (999, 0, 0, 0), (999, 0, 0, 0), (14, 0, 0, 107), (80, 7, 11, 2), (999, 0, 0, 0), (999, 0, 0, 0), (10, 0, 1, 0), (94, 0, 0, 33), (72, 4, 24, 0), (999, 0, 0, 0), (999, 0, 0, 0), (7, 0, 0, 108), (132, 0, 0, 108)]
def zu_Ke_instructionAt : List (Nat × List Bool) := [(24, [false, false])]
set_option maxRecDepth 100000 in
theorem qg_Ke_instructionAt_24 {ρ : Type} (kr : Int → zH → Option ρ) (t0 : Int) (h : zH) : (kr t0 h) = zseg zPP true (zcal (ρ := ρ) []) (zget (999, 0, 0, 0) zc_Ke_instructionAt) (zcut zu_Ke_instructionAt) (zorc (ρ := ρ) []) kr (fun _ _ => none) 400 24 [none, none] [(108, t0)] h := by rfl
set_option maxRecDepth 100000 in
theorem qe_Ke_instructionAt_24 {ρ : Type} (kr : Int → zH → Option ρ) (t0 : Int) (h : zH) : Ke_instructionAt_24 kr t0 h = zseg zPP true (zcal (ρ := ρ) []) (zget (999, 0, 0, 0) zc_Ke_instructionAt) (zcut zu_Ke_instructionAt) (zorc (ρ := ρ) []) kr (fun _ _ => none) 400 24 [none, none] [(108, t0)] h := qg_Ke_instructionAt_24 kr t0 h
set_option maxRecDepth 100000 in
theorem qg_Ke_instructionAt {ρ : Type} (kr : Int → zH → Option ρ) (F_X_isWithin : Int → Int → Int → zH → (Int → zH → Option ρ) → Option ρ) (c24 : Int → zH → Option ρ) (a0 a1 : Int) (h : zH) : (zob h 7 a0 fun p1 =>
F_X_isWithin a1 0 (wr ((zhD h 7 p1 3) - 1)) h  fun v2 h3 =>
if v2 = 0 then c24 (-1) h3
else zob h3 7 a0 fun p4 =>
zob h3 33 (zhD h3 7 p4 2) fun p5 =>
zix (zhL h3 33 p5) a1 fun j6 =>
c24 (zhD h3 33 p5 j6) h3) = zseg zPP true (zcal (ρ := ρ) [(54, [none, none, none], zca3 F_X_isWithin)]) (zget (999, 0, 0, 0) zc_Ke_instructionAt) (zcut zu_Ke_instructionAt) (zorc (ρ := ρ) [(24, [none, none], [(108, none)], zap1 c24)]) kr (fun _ _ => none) 400 0 [some (107, a0), some (0, a1)] [] h := by rfl
set_option maxRecDepth 100000 in
theorem qe_Ke_instructionAt {ρ : Type} (kr : Int → zH → Option ρ) (a0 a1 : Int) (h : zH) : Ke_instructionAt a0 a1 h kr = zseg zPP true (zcal (ρ := ρ) [(54, [none, none, none], zca3 X_isWithin)]) (zget (999, 0, 0, 0) zc_Ke_instructionAt) (zcut zu_Ke_instructionAt) (zorc (ρ := ρ) [(24, [none, none], [(108, none)], zap1 (Ke_instructionAt_24 kr))]) kr (fun _ _ => none) 400 0 [some (107, a0), some (0, a1)] [] h := qg_Ke_instructionAt kr X_isWithin (Ke_instructionAt_24 kr) a0 a1 h
def zc_Th_goOn : List zI := [(14, 0, 1, 108), (80, 8, 42, 0), (999, 0, 0, 0), (999, 0, 0, 0), (1, 98, 0, 0), (999, 0, 0, 0), (67, 12, 18, 0), (999, 0, 0, 0), (999, 0, 0, 0), (14, 0, 0, 106), (1, 119, 0, 0), (999, 0, 0, 0), (82, 6, 34, 4), (999, 0, 0, 0), (999, 0, 0, 0), (72, 73, 88, 0), (999, 0, 0, 0), (999, 0, 0, 0), (14, 0, 1, 108), (80, 8, 42, 0), (999, 0, 0, 0), (999, 0, 0, 0), (1, 101, 0, 0), (999, 0, 0, 0), (67, 12, 36, 0), (999, 0, 0, 0), (999, 0, 0, 0), (14, 0, 0, 106), (1, 101, 0, 0), (999, 0, 0, 0), (82, 6, 34, 4), (999, 0, 0, 0), (999, 0, 0, 0), (72, 55, 88, 0), (999, 0, 0, 0), (999, 0, 0, 0), (14, 0, 1, 108), (80, 8, 42, 0), (999, 0, 0, 0), (999, 0, 0, 0), (1, 106, 0, 0), (999, 0, 0, 0), (66, 23, 65, 0), (999, 0, 0, 0), (999, 0, 0, 0), (14, 0, 1, 108), (80, 8, 42, 0), (999, 0, 0, 0), (999, 0, 0, 0), (1, 122, 0, 0), (999, 0, 0, 0), (67, 26, 77, 0), (999, 0, 0, 0), (999, 0, 0, 0), (14, 0, 0, 106), (14, 0, 1, 108), (80, 8, 47, 1), (999, 0, 0, 0), (999, 0, 0, 0), (110, 0, 56, 258), (999, 0, 0, 0), (999, 0, 0, 0), (61, 15, 77, 0), (999, 0, 0, 0), (999, 0, 0, 0), (14, 0, 0, 106), (14, 0, 1, 108), (80, 8, 50, 2), (999, 0, 0, 0), (999, 0, 0, 0), (10, 0, 2, 0), (110, 0, 38, 262), (999, 0, 0, 0), (999, 0, 0, 0), (72, 14, 88, 0), (999, 0, 0, 0), (999, 0, 0, 0), (14, 0, 0, 106), (14, 0, 0, 106), (80, 6, 63, 3), (999, 0, 0, 0), (999, 0, 0, 0), (0, 1, 0, 0), (30, 0, 0, 0), (10, 0, 2, 0), (110, 0, 38, 262), (999, 0, 0, 0), (999, 0, 0, 0), (133, 0, 0, 0)]
def zu_Th_goOn : List (Nat × List Bool) := [(65, [true, true, true]), (77, [true, false, true]), (88, [false, false, false])]
set_option maxRecDepth 100000 in
theorem qg_Th_goOn_88 {ρ : Type} (kr : Int → zH → Option ρ) (h : zH) : (kr 0 h) = zseg zPP true (zcal (ρ := ρ) []) (zget (999, 0, 0, 0) zc_Th_goOn) (zcut zu_Th_goOn) (zorc (ρ := ρ) []) kr (fun _ _ => none) 400 88 [none, none, none] [] h := by rfl
set_option maxRecDepth 100000 in
theorem qe_Th_goOn_88 {ρ : Type} (kr : Int → zH → Option ρ) (h : zH) : Th_goOn_88 kr h = zseg zPP true (zcal (ρ := ρ) []) (zget (999, 0, 0, 0) zc_Th_goOn) (zcut zu_Th_goOn) (zorc (ρ := ρ) []) kr (fun _ _ => none) 400 88 [none, none, none] [] h := qg_Th_goOn_88 kr h
set_option maxRecDepth 100000 in
theorem qg_Th_goOn_65 {ρ : Type} (kr : Int → zH → Option ρ) (F_Th_goTo : Int → Int → Int → zH → (Int → zH → Option ρ) → Option ρ) (c88 : zH → Option ρ) (a0 a1 a2 : Int) (h : zH) : (zob h 8 a1 fun p1 =>
zob h 6 a0 fun _ =>
F_Th_goTo a0 (zhD h 8 p1 2) a2 h  fun _ h3 =>
c88 h3) = zseg zPP true (zcal (ρ := ρ) [(262, [none, none, none], zca3 F_Th_goTo)]) (zget (999, 0, 0, 0) zc_Th_goOn) (zcut zu_Th_goOn) (zorc (ρ := ρ) [(88, [none, none, none], [], zap0 c88)]) kr (fun _ _ => none) 400 65 [some (106, a0), some (108, a1), some (0, a2)] [] h := by rfl
set_option maxRecDepth 100000 in
theorem qe_Th_goOn_65 {ρ : Type} (kr : Int → zH → Option ρ) (a0 a1 a2 : Int) (h : zH) : Th_goOn_65 kr a0 a1 a2 h = zseg zPP true (zcal (ρ := ρ) [(262, [none, none, none], zca3 Th_goTo)]) (zget (999, 0, 0, 0) zc_Th_goOn) (zcut zu_Th_goOn) (zorc (ρ := ρ) [(88, [none, none, none], [], zap0 (Th_goOn_88 kr))]) kr (fun _ _ => none) 400 65 [some (106, a0), some (108, a1), some (0, a2)] [] h := qg_Th_goOn_65 kr Th_goTo (Th_goOn_88 kr) a0 a1 a2 h
set_option maxRecDepth 100000 in
theorem qg_Th_goOn_77 {ρ : Type} (kr : Int → zH → Option ρ) (F_Th_goTo : Int → Int → Int → zH → (Int → zH → Option ρ) → Option ρ) (c88 : zH → Option ρ) (a0 a2 : Int) (h : zH) : (zob h 6 a0 fun p1 =>
zob h 6 a0 fun _ =>
F_Th_goTo a0 (wr ((zhD h 6 p1 3) + 1)) a2 h  fun _ h3 =>
c88 h3) = zseg zPP true (zcal (ρ := ρ) [(262, [none, none, none], zca3 F_Th_goTo)]) (zget (999, 0, 0, 0) zc_Th_goOn) (zcut zu_Th_goOn) (zorc (ρ := ρ) [(88, [none, none, none], [], zap0 c88)]) kr (fun _ _ => none) 400 77 [some (106, a0), none, some (0, a2)] [] h := by rfl
set_option maxRecDepth 100000 in
theorem qe_Th_goOn_77 {ρ : Type} (kr : Int → zH → Option ρ) (a0 a2 : Int) (h : zH) : Th_goOn_77 kr a0 a2 h = zseg zPP true (zcal (ρ := ρ) [(262, [none, none, none], zca3 Th_goTo)]) (zget (999, 0, 0, 0) zc_Th_goOn) (zcut zu_Th_goOn) (zorc (ρ := ρ) [(88, [none, none, none], [], zap0 (Th_goOn_88 kr))]) kr (fun _ _ => none) 400 77 [some (106, a0), none, some (0, a2)] [] h := qg_Th_goOn_77 kr Th_goTo (Th_goOn_88 kr) a0 a2 h
set_option maxRecDepth 100000 in
theorem qg_Th_goOn {ρ : Type} (kr : Int → zH → Option ρ) (F_Th_at : Int → Int → zH → (Int → zH → Option ρ) → Option ρ) (c65 : Int → Int → Int → zH → Option ρ) (c77 : Int → Int → zH → Option ρ) (c88 : zH → Option ρ) (a0 a1 a2 : Int) (h : zH) : (zob h 8 a1 fun p1 =>
if (zhD h 8 p1 0) = 98 then (zob h 6 a0 fun p10 =>
zlet (zset h 6 p10 4 119) fun h11 =>
c88 h11)
else zob h 8 a1 fun p2 =>
if (zhD h 8 p2 0) = 101 then (zob h 6 a0 fun p8 =>
zlet (zset h 6 p8 4 101) fun h9 =>
c88 h9)
else zob h 8 a1 fun p3 =>
if (zhD h 8 p3 0) = 106 then c65 a0 a1 a2 h
else zob h 8 a1 fun p4 =>
if (zhD h 8 p4 0) = 122 then (zob h 8 a1 fun p5 =>
zob h 6 a0 fun _ =>
F_Th_at a0 (zhD h 8 p5 1) h  fun v6 h7 =>
if v6 = 0 then c65 a0 a1 a2 h7
else c77 a0 a2 h7)
else c77 a0 a2 h) = zseg zPP true (zcal (ρ := ρ) [(258, [none, none], zca2 F_Th_at)]) (zget (999, 0, 0, 0) zc_Th_goOn) (zcut zu_Th_goOn) (zorc (ρ := ρ) [(65, [some (106, none), some (108, none), some (0, none)], [], zap3 c65), (77, [some (106, none), none, some (0, none)], [], zap2 c77), (88, [none, none, none], [], zap0 c88)]) kr (fun _ _ => none) 400 0 [some (106, a0), some (108, a1), some (0, a2)] [] h := by rfl
set_option maxRecDepth 100000 in
theorem qe_Th_goOn {ρ : Type} (kr : Int → zH → Option ρ) (a0 a1 a2 : Int) (h : zH) : Th_goOn a0 a1 a2 h kr = zseg zPP true (zcal (ρ := ρ) [(258, [none, none], zca2 Th_at)]) (zget (999, 0, 0, 0) zc_Th_goOn) (zcut zu_Th_goOn) (zorc (ρ := ρ) [(65, [some (106, none), some (108, none), some (0, none)], [], zap3 (Th_goOn_65 kr)), (77, [some (106, none), none, some (0, none)], [], zap2 (Th_goOn_77 kr)), (88, [none, none, none], [], zap0 (Th_goOn_88 kr))]) kr (fun _ _ => none) 400 0 [some (106, a0), some (108, a1), some (0, a2)] [] h := qg_Th_goOn kr Th_at (Th_goOn_65 kr) (Th_goOn_77 kr) (Th_goOn_88 kr) a0 a1 a2 h
def zc_Co_carryOut : List zI := [(14, 0, 2, 111), (110, 0, 140, 205), (999, 0, 0, 0), (999, 0, 0, 0), (16, 0, 3, 0), (14, 0, 2, 111), (80, 11, 66, 0), (999, 0, 0, 0), (999, 0, 0, 0), (80, 10, 144, 0), (999, 0, 0, 0), (999, 0, 0, 0), (80, 9, 107, 5), (999, 0, 0, 0), (999, 0, 0, 0), (21, 0, 4, 107), (999, 0, 0, 0), (15, 0, 4, 107), (999, 0, 0, 0), (10, 0, 3, 0), (110, 0, 148, 224), (999, 0, 0, 0), (999, 0, 0, 0), (21, 0, 5, 108), (999, 0, 0, 0), (15, 0, 5, 108), (999, 0, 0, 0), (74, 5, 32, 0), (999, 0, 0, 0), (999, 0, 0, 0), (0, 0, 0, 0), (130, 0, 1, 0), (14, 0, 0, 102), (80, 2, 25, 3), (999, 0, 0, 0), (999, 0, 0, 0), (50, 0, 0, 0), (80, 4, 154, 0), (999, 0, 0, 0), (999, 0, 0, 0), (5, 1, 1, 0), (45, 0, 0, 0), (82, 4, 154, 0), (999, 0, 0, 0), (999, 0, 0, 0), (14, 0, 0, 102), (14, 0, 2, 111), (110, 0, 158, 206), (999, 0, 0, 0), (999, 0, 0, 0), (82, 2, 161, 8), (999, 0, 0, 0), (999, 0, 0, 0), (14, 0, 0, 102), (14, 0, 2, 111), (15, 0, 5, 108), (999, 0, 0, 0), (110, 0, 164, 187), (999, 0, 0, 0), (999, 0, 0, 0), (0, 0, 0, 0), (17, 0, 6, 0), (999, 0, 0, 0), (11, 0, 6, 0), (999, 0, 0, 0), (0, 4, 0, 0), (69, 100, 166, 0), (999, 0, 0, 0), (999, 0, 0, 0), (14, 0, 2, 111), (11, 0, 6, 0), (999, 0, 0, 0), (110, 0, 168, 203), (999, 0, 0, 0), (999, 0, 0, 0), (21, 0, 7, 106), (999, 0, 0, 0), (15, 0, 7, 106), (999, 0, 0, 0), (73, 81, 160, 0), (999, 0, 0, 0), (999, 0, 0, 0), (14, 0, 0, 102), (80, 2, 161, 8), (999, 0, 0, 0), (999, 0, 0, 0), (11, 0, 6, 0), (999, 0, 0, 0), (114, 0, 172, 56), (999, 0, 0, 0), (999, 0, 0, 0), (61, 6, 97, 0), (999, 0, 0, 0), (999, 0, 0, 0), (72, 66, 160, 0), (999, 0, 0, 0), (999, 0, 0, 0), (14, 0, 0, 102), (14, 0, 2, 111), (11, 0, 6, 0), (999, 0, 0, 0), (15, 0, 7, 106), (999, 0, 0, 0), (15, 0, 5, 108), (999, 0, 0, 0), (110, 0, 176, 188), (999, 0, 0, 0), (999, 0, 0, 0), (17, 0, 8, 0), (999, 0, 0, 0), (11, 0, 8, 0), (999, 0, 0, 0), (1, 45, 0, 0), (999, 0, 0, 0), (66, 21, 135, 0), (999, 0, 0, 0), (999, 0, 0, 0), (14, 0, 0, 102), (14, 0, 2, 111), (80, 11, 66, 0), (999, 0, 0, 0), (999, 0, 0, 0), (15, 0, 7, 106), (999, 0, 0, 0), (80, 6, 180, 0), (999, 0, 0, 0), (999, 0, 0, 0), (10, 0, 3, 0), (11, 0, 8, 0), (999, 0, 0, 0), (110, 0, 185, 200), (999, 0, 0, 0), (999, 0, 0, 0), (0, 0, 0, 0), (130, 0, 1, 0), (15, 0, 7, 106), (999, 0, 0, 0), (15, 0, 5, 108), (999, 0, 0, 0), (15, 0, 4, 107), (999, 0, 0, 0), (80, 7, 189, 3), (999, 0, 0, 0), (999, 0, 0, 0), (110, 0, 192, 261), (999, 0, 0, 0), (999, 0, 0, 0), (14, 0, 0, 102), (80, 2, 25, 3), (999, 0, 0, 0), (999, 0, 0, 0), (50, 0, 0, 0), (80, 4, 196, 1), (999, 0, 0, 0), (999, 0, 0, 0), (5, 1, 1, 0), (45, 0, 0, 0), (82, 4, 196, 1), (999, 0, 0, 0), (999, 0, 0, 0), (22, 1, 6, 0), (999, 0, 0, 0), (999, 0, 0, 0), (72, (-100), 63, 0), (999, 0, 0, 0), (999, 0, 0, 0), (14, 0, 2, 111), (14, 0, 0, 102), (80, 2, 54, 4), (999, 0, 0, 0), (999, 0, 0, 0), (14, 0, 0, 102), (14, 0, 1, 103), (15, 0, 5, 108), (999, 0, 0, 0), (110, 0, 199, 192), (999, 0, 0, 0), (999, 0, 0, 0), (30, 0, 0, 0), (82, 11, 203, 6), (999, 0, 0, 0), (999, 0, 0, 0), (0, 1, 0, 0), (130, 0, 1, 0)]
def zu_Co_carryOut : List (Nat × List Bool) := [(63, [true, true, true, true, true, true, true, false, false]), (160, [true, true, true, true, true, true, true, false, false])]
set_option maxRecDepth 100000 in
theorem qg_Co_carryOut_160 {ρ : Type} (kr : Int → zH → Option ρ) (r63 : Int → Int → Int → Int → Int → Int → Int → zH → Option ρ) (a0 a1 a2 a3 a4 a5 a6 : Int) (h : zH) : (r63 a0 a1 a2 a3 a4 a5 (wr (a6 + 1)) h) = zseg zPP true (zcal (ρ := ρ) []) (zget (999, 0, 0, 0) zc_Co_carryOut) (zcut zu_Co_carryOut) (zorc (ρ := ρ) [(63, [some (102, none), some (103, none), some (111, none), some (0, none), some (107, none), some (108, none), some (0, none), none, none], [], zap7 r63)]) kr (fun _ _ => none) 400 160 [some (102, a0), some (103, a1), some (111, a2), some (0, a3), some (107, a4), some (108, a5), some (0, a6), none, none] [] h := by rfl
set_option maxRecDepth 100000 in
theorem qe_Co_carryOut_160 {ρ : Type} (kr : Int → zH → Option ρ) (r63 : Int → Int → Int → Int → Int → Int → Int → zH → Option ρ) (a0 a1 a2 a3 a4 a5 a6 : Int) (h : zH) : Co_carryOut_160 kr r63 a0 a1 a2 a3 a4 a5 a6 h = zseg zPP true (zcal (ρ := ρ) []) (zget (999, 0, 0, 0) zc_Co_carryOut) (zcut zu_Co_carryOut) (zorc (ρ := ρ) [(63, [some (102, none), some (103, none), some (111, none), some (0, none), some (107, none), some (108, none), some (0, none), none, none], [], zap7 r63)]) kr (fun _ _ => none) 400 160 [some (102, a0), some (103, a1), some (111, a2), some (0, a3), some (107, a4), some (108, a5), some (0, a6), none, none] [] h := qg_Co_carryOut_160 kr r63 a0 a1 a2 a3 a4 a5 a6 h
set_option maxRecDepth 100000 in
theorem qg_Co_carryOut_63b {ρ : Type} (kr : Int → zH → Option ρ) (r63 : Int → Int → Int → Int → Int → Int → Int → zH → Option ρ) (F_X_isIn : Int → Int → zH → (Int → zH → Option ρ) → Option ρ) (F_Co_carryLane : Int → Int → Int → Int → Int → zH → (Int → zH → Option ρ) → Option ρ) (F_Co_countedDelay : Int → Int → Int → zH → (Int → zH → Option ρ) → Option ρ) (F_Co_fail : Int → Int → Int → Int → Int → zH → (Int → zH → Option ρ) → Option ρ) (F_Gr_threadIn : Int → Int → zH → (Int → zH → Option ρ) → Option ρ) (F_Th_goOn : Int → Int → Int → zH → (Int → zH → Option ρ) → Option ρ) (c160 : Int → Int → Int → Int → Int → Int → Int → zH → Option ρ) (a0 a1 a2 a3 a4 a5 a6 : Int) (h : zH) : (if a6 < 4 then (zob h 11 a2 fun _ =>
F_Gr_threadIn a2 a6 h  fun v6 h7 =>
if v6 < 0 then c160 a0 a1 a2 a3 a4 a5 a6 h7
else zob h7 2 a0 fun p8 =>
F_X_isIn (zhD h7 2 p8 8) a6 h7  fun v9 h10 =>
if v9 = 0 then c160 a0 a1 a2 a3 a4 a5 a6 h10
else zob h10 2 a0 fun _ =>
F_Co_carryLane a0 a2 a6 v6 a5 h10  fun v11 h12 =>
if v11 = 45 then (zob h12 7 a4 fun p13 =>
zob h12 6 v6 fun _ =>
F_Th_goOn v6 a5 (zhD h12 7 p13 3) h12  fun _ h15 =>
zob h15 2 a0 fun p16 =>
zob h15 4 (zhD h15 2 p16 3) fun p17 =>
zob h15 4 (zhD h15 2 p16 3) fun p18 =>
zlet (zset h15 4 p18 1 (wrl ((zhD h15 4 p17 1) + 1))) fun h19 =>
c160 a0 a1 a2 a3 a4 a5 a6 h19)
else zob h12 11 a2 fun p20 =>
zob h12 6 v6 fun p21 =>
zob h12 2 a0 fun _ =>
F_Co_fail a0 (zhD h12 11 p20 0) (zhD h12 6 p21 0) a3 v11 h12  fun _ h23 =>
kr 0 h23)
else zob h 2 a0 fun p1 =>
zob h 2 a0 fun _ =>
F_Co_countedDelay a0 a1 a5 h  fun v2 h3 =>
zob h3 11 a2 fun p4 =>
zlet (zset h3 11 p4 6 (wr ((zhD h 2 p1 4) + v2))) fun h5 =>
kr 1 h5) = zseg zPP true (zcal (ρ := ρ) [(56, [none, none], zca2 F_X_isIn), (188, [none, none, none, none, none], zca5 F_Co_carryLane), (192, [none, none, none], zca3 F_Co_countedDelay), (200, [none, none, none, none, none], zca5 F_Co_fail), (203, [none, none], zca2 F_Gr_threadIn), (261, [none, none, none], zca3 F_Th_goOn)]) (zget (999, 0, 0, 0) zc_Co_carryOut) (zcut zu_Co_carryOut) (zorc (ρ := ρ) [(160, [some (102, none), some (103, none), some (111, none), some (0, none), some (107, none), some (108, none), some (0, none), none, none], [], zap7 c160)]) kr (fun _ _ => none) 400 63 [some (102, a0), some (103, a1), some (111, a2), some (0, a3), some (107, a4), some (108, a5), some (0, a6), none, none] [] h := by rfl
set_option maxRecDepth 100000 in
theorem qe_Co_carryOut_63b {ρ : Type} (kr : Int → zH → Option ρ) (r63 : Int → Int → Int → Int → Int → Int → Int → zH → Option ρ) (a0 a1 a2 a3 a4 a5 a6 : Int) (h : zH) : Co_carryOut_63b kr r63 a0 a1 a2 a3 a4 a5 a6 h = zseg zPP true (zcal (ρ := ρ) [(56, [none, none], zca2 X_isIn), (188, [none, none, none, none, none], zca5 Co_carryLane), (192, [none, none, none], zca3 Co_countedDelay), (200, [none, none, none, none, none], zca5 Co_fail), (203, [none, none], zca2 Gr_threadIn), (261, [none, none, none], zca3 Th_goOn)]) (zget (999, 0, 0, 0) zc_Co_carryOut) (zcut zu_Co_carryOut) (zorc (ρ := ρ) [(160, [some (102, none), some (103, none), some (111, none), some (0, none), some (107, none), some (108, none), some (0, none), none, none], [], zap7 (Co_carryOut_160 kr r63))]) kr (fun _ _ => none) 400 63 [some (102, a0), some (103, a1), some (111, a2), some (0, a3), some (107, a4), some (108, a5), some (0, a6), none, none] [] h := qg_Co_carryOut_63b kr r63 X_isIn Co_carryLane Co_countedDelay Co_fail Gr_threadIn Th_goOn (Co_carryOut_160 kr r63) a0 a1 a2 a3 a4 a5 a6 h
set_option maxRecDepth 100000 in
theorem qg_Co_carryOut {ρ : Type} (kr : Int → zH → Option ρ) (F_Co_lookAhead : Int → Int → Int → zH → (Int → zH → Option ρ) → Option ρ) (F_Gr_leastPlace : Int → zH → (Int → zH → Option ρ) → Option ρ) (F_Gr_lanesUnderMask : Int → zH → (Int → zH → Option ρ) → Option ρ) (F_Ke_instructionAt : Int → Int → zH → (Int → zH → Option ρ) → Option ρ) (c63 : Int → Int → Int → Int → Int → Int → Int → zH → Option ρ) (a0 a1 a2 : Int) (h : zH) : (zob h 11 a2 fun _ =>
F_Gr_leastPlace a2 h  fun v1 h2 =>
zob h2 11 a2 fun p3 =>
zob h2 10 (zhD h2 11 p3 0) fun p4 =>
zob h2 9 (zhD h2 10 p4 0) fun p5 =>
zob h2 7 (zhD h2 9 p5 5) fun _ =>
F_Ke_instructionAt (zhD h2 9 p5 5) v1 h2  fun v6 h7 =>
if v6 < 0 then kr 0 h7
else zob h7 2 a0 fun p8 =>
zob h7 4 (zhD h7 2 p8 3) fun p9 =>
zob h7 4 (zhD h7 2 p8 3) fun p10 =>
zlet (zset h7 4 p10 0 (wrl ((zhD h7 4 p9 0) + 1))) fun h11 =>
zob h11 11 a2 fun _ =>
F_Gr_lanesUnderMask a2 h11  fun v12 h13 =>
zob h13 2 a0 fun p14 =>
zlet (zset h13 2 p14 8 v12) fun h15 =>
zob h15 2 a0 fun _ =>
F_Co_lookAhead a0 a2 v6 h15  fun _ h17 =>
c63 a0 a1 a2 v1 (zhD h2 9 p5 5) v6 0 h17) = zseg zPP true (zcal (ρ := ρ) [(187, [none, none, none], zca3 F_Co_lookAhead), (205, [none], zca1 F_Gr_leastPlace), (206, [none], zca1 F_Gr_lanesUnderMask), (224, [none, none], zca2 F_Ke_instructionAt)]) (zget (999, 0, 0, 0) zc_Co_carryOut) (zcut zu_Co_carryOut) (zorc (ρ := ρ) [(63, [some (102, none), some (103, none), some (111, none), some (0, none), some (107, none), some (108, none), some (0, none), none, none], [], zap7 c63)]) kr (fun _ _ => none) 400 0 [some (102, a0), some (103, a1), some (111, a2), none, none, none, none, none, none] [] h := by rfl
set_option maxRecDepth 100000 in
theorem qe_Co_carryOut {ρ : Type} (kr : Int → zH → Option ρ) (a0 a1 a2 : Int) (h : zH) : Co_carryOut a0 a1 a2 h kr = zseg zPP true (zcal (ρ := ρ) [(187, [none, none, none], zca3 Co_lookAhead), (205, [none], zca1 Gr_leastPlace), (206, [none], zca1 Gr_lanesUnderMask), (224, [none, none], zca2 Ke_instructionAt)]) (zget (999, 0, 0, 0) zc_Co_carryOut) (zcut zu_Co_carryOut) (zorc (ρ := ρ) [(63, [some (102, none), some (103, none), some (111, none), some (0, none), some (107, none), some (108, none), some (0, none), none, none], [], zap7 (Co_carryOut_63 kr))]) kr (fun _ _ => none) 400 0 [some (102, a0), some (103, a1), some (111, a2), none, none, none, none, none, none] [] h := qg_Co_carryOut kr Co_lookAhead Gr_leastPlace Gr_lanesUnderMask Ke_instructionAt (Co_carryOut_63 kr) a0 a1 a2 h
def zc_Bl_isAllWaiting : List zI := [(14, 0, 0, 110), (80, 10, 30, 2), (999, 0, 0, 0), (999, 0, 0, 0), (14, 0, 0, 110), (80, 10, 30, 2), (999, 0, 0, 0), (999, 0, 0, 0), (100, 0, 0, 36), (113, 0, 86, 263), (999, 0, 0, 0), (999, 0, 0, 0), (61, 22, 34, 0), (999, 0, 0, 0), (999, 0, 0, 0), (14, 0, 0, 110), (80, 10, 30, 2), (999, 0, 0, 0), (999, 0, 0, 0), (14, 0, 0, 110), (80, 10, 30, 2), (999, 0, 0, 0), (999, 0, 0, 0), (100, 0, 0, 36), (113, 0, 90, 265), (999, 0, 0, 0), (999, 0, 0, 0), (73, 7, 34, 0), (999, 0, 0, 0), (999, 0, 0, 0), (0, 1, 0, 0), (72, 4, 35, 0), (999, 0, 0, 0), (999, 0, 0, 0), (0, 0, 0, 0), (130, 0, 1, 0)]
def zu_Bl_isAllWaiting : List (Nat × List Bool) := [(34, [false]), (35, [false])]
set_option maxRecDepth 100000 in
theorem qg_Bl_isAllWaiting_35 {ρ : Type} (kr : Int → zH → Option ρ) (t0 : Int) (h : zH) : (znar 1 t0 fun x1 => kr x1 h) = zseg zPP true (zcal (ρ := ρ) []) (zget (999, 0, 0, 0) zc_Bl_isAllWaiting) (zcut zu_Bl_isAllWaiting) (zorc (ρ := ρ) []) kr (fun _ _ => none) 400 35 [none] [(0, t0)] h := by rfl
set_option maxRecDepth 100000 in
theorem qe_Bl_isAllWaiting_35 {ρ : Type} (kr : Int → zH → Option ρ) (t0 : Int) (h : zH) : Bl_isAllWaiting_35 kr t0 h = zseg zPP true (zcal (ρ := ρ) []) (zget (999, 0, 0, 0) zc_Bl_isAllWaiting) (zcut zu_Bl_isAllWaiting) (zorc (ρ := ρ) []) kr (fun _ _ => none) 400 35 [none] [(0, t0)] h := qg_Bl_isAllWaiting_35 kr t0 h
set_option maxRecDepth 100000 in
theorem qg_Bl_isAllWaiting_34 {ρ : Type} (kr : Int → zH → Option ρ) (c35 : Int → zH → Option ρ) (h : zH) : (c35 0 h) = zseg zPP true (zcal (ρ := ρ) []) (zget (999, 0, 0, 0) zc_Bl_isAllWaiting) (zcut zu_Bl_isAllWaiting) (zorc (ρ := ρ) [(35, [none], [(0, none)], zap1 c35)]) kr (fun _ _ => none) 400 34 [none] [] h := by rfl
set_option maxRecDepth 100000 in
theorem qe_Bl_isAllWaiting_34 {ρ : Type} (kr : Int → zH → Option ρ) (h : zH) : Bl_isAllWaiting_34 kr h = zseg zPP true (zcal (ρ := ρ) []) (zget (999, 0, 0, 0) zc_Bl_isAllWaiting) (zcut zu_Bl_isAllWaiting) (zorc (ρ := ρ) [(35, [none], [(0, none)], zap1 (Bl_isAllWaiting_35 kr))]) kr (fun _ _ => none) 400 34 [none] [] h := qg_Bl_isAllWaiting_34 kr (Bl_isAllWaiting_35 kr) h
set_option maxRecDepth 100000 in
theorem qg_Bl_isAllWaiting {ρ : Type} (kr : Int → zH → Option ρ) (F_Th_isAnyRunning : Int → Int → zH → (Int → zH → Option ρ) → Option ρ) (F_Th_lowestOfWaiting_36 : Int → Int → zH → (Int → zH → Option ρ) → Option ρ) (c34 : zH → Option ρ) (c35 : Int → zH → Option ρ) (a0 : Int) (h : zH) : (zob h 10 a0 fun p1 =>
zob h 10 a0 fun p2 =>
zob h 36 (zhD h 10 p2 2) fun p3 =>
F_Th_isAnyRunning (zhD h 10 p1 2) (zhL h 36 p3 : Int) h  fun v4 h5 =>
if v4 = 0 then (zob h5 10 a0 fun p6 =>
zob h5 10 a0 fun p7 =>
zob h5 36 (zhD h5 10 p7 2) fun p8 =>
F_Th_lowestOfWaiting_36 (zhD h5 10 p6 2) (zhL h5 36 p8 : Int) h5  fun v9 h10 =>
if v9 < 0 then c34 h10
else c35 1 h10)
else c34 h5) = zseg zPP true (zcal (ρ := ρ) [(263, [none, none], zca2 F_Th_isAnyRunning), (265, [none, none], zca2 F_Th_lowestOfWaiting_36)]) (zget (999, 0, 0, 0) zc_Bl_isAllWaiting) (zcut zu_Bl_isAllWaiting) (zorc (ρ := ρ) [(34, [none], [], zap0 c34), (35, [none], [(0, none)], zap1 c35)]) kr (fun _ _ => none) 400 0 [some (110, a0)] [] h := by rfl
set_option maxRecDepth 100000 in
theorem qe_Bl_isAllWaiting {ρ : Type} (kr : Int → zH → Option ρ) (a0 : Int) (h : zH) : Bl_isAllWaiting a0 h kr = zseg zPP true (zcal (ρ := ρ) [(263, [none, none], zca2 Th_isAnyRunning), (265, [none, none], zca2 Th_lowestOfWaiting_36)]) (zget (999, 0, 0, 0) zc_Bl_isAllWaiting) (zcut zu_Bl_isAllWaiting) (zorc (ρ := ρ) [(34, [none], [], zap0 (Bl_isAllWaiting_34 kr)), (35, [none], [(0, none)], zap1 (Bl_isAllWaiting_35 kr))]) kr (fun _ _ => none) 400 0 [some (110, a0)] [] h := qg_Bl_isAllWaiting kr Th_isAnyRunning Th_lowestOfWaiting_36 (Bl_isAllWaiting_34 kr) (Bl_isAllWaiting_35 kr) a0 h
def zc_Th_isEnded : List zI := [(14, 0, 0, 106), (80, 6, 34, 4), (999, 0, 0, 0), (999, 0, 0, 0), (1, 101, 0, 0), (999, 0, 0, 0), (67, 7, 13, 0), (999, 0, 0, 0), (999, 0, 0, 0), (0, 1, 0, 0), (72, 4, 14, 0), (999, 0, 0, 0), (999, 0, 0, 0), (0, 0, 0, 0), (130, 0, 1, 0)]
def zu_Th_isEnded : List (Nat × List Bool) := [(14, [false])]
set_option maxRecDepth 100000 in
theorem qg_Th_isEnded_14 {ρ : Type} (kr : Int → zH → Option ρ) (t0 : Int) (h : zH) : (znar 1 t0 fun x1 => kr x1 h) = zseg zPP true (zcal (ρ := ρ) []) (zget (999, 0, 0, 0) zc_Th_isEnded) (zcut zu_Th_isEnded) (zorc (ρ := ρ) []) kr (fun _ _ => none) 400 14 [none] [(0, t0)] h := by rfl
set_option maxRecDepth 100000 in
theorem qe_Th_isEnded_14 {ρ : Type} (kr : Int → zH → Option ρ) (t0 : Int) (h : zH) : Th_isEnded_14 kr t0 h = zseg zPP true (zcal (ρ := ρ) []) (zget (999, 0, 0, 0) zc_Th_isEnded) (zcut zu_Th_isEnded) (zorc (ρ := ρ) []) kr (fun _ _ => none) 400 14 [none] [(0, t0)] h := qg_Th_isEnded_14 kr t0 h
set_option maxRecDepth 100000 in
theorem qg_Th_isEnded {ρ : Type} (kr : Int → zH → Option ρ) (c14 : Int → zH → Option ρ) (a0 : Int) (h : zH) : (zob h 6 a0 fun p1 =>
if (zhD h 6 p1 4) = 101 then c14 1 h
else c14 0 h) = zseg zPP true (zcal (ρ := ρ) []) (zget (999, 0, 0, 0) zc_Th_isEnded) (zcut zu_Th_isEnded) (zorc (ρ := ρ) [(14, [none], [(0, none)], zap1 c14)]) kr (fun _ _ => none) 400 0 [some (106, a0)] [] h := by rfl
set_option maxRecDepth 100000 in
theorem qe_Th_isEnded {ρ : Type} (kr : Int → zH → Option ρ) (a0 : Int) (h : zH) : Th_isEnded a0 h kr = zseg zPP true (zcal (ρ := ρ) []) (zget (999, 0, 0, 0) zc_Th_isEnded) (zcut zu_Th_isEnded) (zorc (ρ := ρ) [(14, [none], [(0, none)], zap1 (Th_isEnded_14 kr))]) kr (fun _ _ => none) 400 0 [some (106, a0)] [] h := qg_Th_isEnded kr (Th_isEnded_14 kr) a0 h
def zc_Gr_hasEnded : List zI := [(0, 0, 0, 0), (16, 0, 1, 0), (10, 0, 1, 0), (0, 4, 0, 0), (69, 28, 32, 0), (999, 0, 0, 0), (999, 0, 0, 0), (14, 0, 0, 111), (10, 0, 1, 0), (110, 0, 35, 203), (999, 0, 0, 0), (999, 0, 0, 0), (20, 0, 2, 106), (14, 0, 2, 106), (73, 12, 26, 0), (999, 0, 0, 0), (999, 0, 0, 0), (14, 0, 2, 106), (110, 0, 58, 257), (999, 0, 0, 0), (999, 0, 0, 0), (61, 5, 26, 0), (999, 0, 0, 0), (999, 0, 0, 0), (0, 0, 0, 0), (130, 0, 1, 0), (22, 1, 1, 0), (999, 0, 0, 0), (999, 0, 0, 0), (72, (-27), 2, 0), (999, 0, 0, 0), (999, 0, 0, 0), (0, 1, 0, 0), (130, 0, 1, 0)]
def zu_Gr_hasEnded : List (Nat × List Bool) := [(2, [true, true, false]), (26, [true, true, false])]
set_option maxRecDepth 100000 in
theorem qg_Gr_hasEnded_26 {ρ : Type} (kr : Int → zH → Option ρ) (r2 : Int → Int → zH → Option ρ) (a0 a1 : Int) (h : zH) : (r2 a0 (wr (a1 + 1)) h) = zseg zPP true (zcal (ρ := ρ) []) (zget (999, 0, 0, 0) zc_Gr_hasEnded) (zcut zu_Gr_hasEnded) (zorc (ρ := ρ) [(2, [some (111, none), some (0, none), none], [], zap2 r2)]) kr (fun _ _ => none) 400 26 [some (111, a0), some (0, a1), none] [] h := by rfl
set_option maxRecDepth 100000 in
theorem qe_Gr_hasEnded_26 {ρ : Type} (kr : Int → zH → Option ρ) (r2 : Int → Int → zH → Option ρ) (a0 a1 : Int) (h : zH) : Gr_hasEnded_26 kr r2 a0 a1 h = zseg zPP true (zcal (ρ := ρ) []) (zget (999, 0, 0, 0) zc_Gr_hasEnded) (zcut zu_Gr_hasEnded) (zorc (ρ := ρ) [(2, [some (111, none), some (0, none), none], [], zap2 r2)]) kr (fun _ _ => none) 400 26 [some (111, a0), some (0, a1), none] [] h := qg_Gr_hasEnded_26 kr r2 a0 a1 h
set_option maxRecDepth 100000 in
theorem qg_Gr_hasEnded_2b {ρ : Type} (kr : Int → zH → Option ρ) (r2 : Int → Int → zH → Option ρ) (F_Gr_threadIn : Int → Int → zH → (Int → zH → Option ρ) → Option ρ) (F_Th_isEnded : Int → zH → (Int → zH → Option ρ) → Option ρ) (c26 : Int → Int → zH → Option ρ) (a0 a1 : Int) (h : zH) : (if a1 < 4 then (zob h 11 a0 fun _ =>
F_Gr_threadIn a0 a1 h  fun v1 h2 =>
if v1 < 0 then c26 a0 a1 h2
else zob h2 6 v1 fun _ =>
F_Th_isEnded v1 h2  fun v3 h4 =>
if v3 = 0 then kr 0 h4
else c26 a0 a1 h4)
else kr 1 h) = zseg zPP true (zcal (ρ := ρ) [(203, [none, none], zca2 F_Gr_threadIn), (257, [none], zca1 F_Th_isEnded)]) (zget (999, 0, 0, 0) zc_Gr_hasEnded) (zcut zu_Gr_hasEnded) (zorc (ρ := ρ) [(26, [some (111, none), some (0, none), none], [], zap2 c26)]) kr (fun _ _ => none) 400 2 [some (111, a0), some (0, a1), none] [] h := by rfl
set_option maxRecDepth 100000 in
theorem qe_Gr_hasEnded_2b {ρ : Type} (kr : Int → zH → Option ρ) (r2 : Int → Int → zH → Option ρ) (a0 a1 : Int) (h : zH) : Gr_hasEnded_2b kr r2 a0 a1 h = zseg zPP true (zcal (ρ := ρ) [(203, [none, none], zca2 Gr_threadIn), (257, [none], zca1 Th_isEnded)]) (zget (999, 0, 0, 0) zc_Gr_hasEnded) (zcut zu_Gr_hasEnded) (zorc (ρ := ρ) [(26, [some (111, none), some (0, none), none], [], zap2 (Gr_hasEnded_26 kr r2))]) kr (fun _ _ => none) 400 2 [some (111, a0), some (0, a1), none] [] h := qg_Gr_hasEnded_2b kr r2 Gr_threadIn Th_isEnded (Gr_hasEnded_26 kr r2) a0 a1 h
set_option maxRecDepth 100000 in
theorem qg_Gr_hasEnded {ρ : Type} (kr : Int → zH → Option ρ) (c2 : Int → Int → zH → Option ρ) (a0 : Int) (h : zH) : (c2 a0 0 h) = zseg zPP true (zcal (ρ := ρ) []) (zget (999, 0, 0, 0) zc_Gr_hasEnded) (zcut zu_Gr_hasEnded) (zorc (ρ := ρ) [(2, [some (111, none), some (0, none), none], [], zap2 c2)]) kr (fun _ _ => none) 400 0 [some (111, a0), none, none] [] h := by rfl
set_option maxRecDepth 100000 in
theorem qe_Gr_hasEnded {ρ : Type} (kr : Int → zH → Option ρ) (a0 : Int) (h : zH) : Gr_hasEnded a0 h kr = zseg zPP true (zcal (ρ := ρ) []) (zget (999, 0, 0, 0) zc_Gr_hasEnded) (zcut zu_Gr_hasEnded) (zorc (ρ := ρ) [(2, [some (111, none), some (0, none), none], [], zap2 (Gr_hasEnded_2 kr))]) kr (fun _ _ => none) 400 0 [some (111, a0), none, none] [] h := qg_Gr_hasEnded kr (Gr_hasEnded_2 kr) a0 h
def zc_Bl_writeEndedGroups : List zI := [(0, 0, 0, 0), (16, 0, 2, 0), (10, 0, 2, 0), (14, 0, 0, 110), (80, 10, 57, 3), (999, 0, 0, 0), (999, 0, 0, 0), (100, 0, 0, 37), (69, 32, 40, 0), (999, 0, 0, 0), (999, 0, 0, 0), (14, 0, 0, 110), (80, 10, 57, 3), (999, 0, 0, 0), (999, 0, 0, 0), (10, 0, 2, 0), (94, 0, 0, 37), (110, 0, 120, 209), (999, 0, 0, 0), (999, 0, 0, 0), (60, 14, 34, 0), (999, 0, 0, 0), (999, 0, 0, 0), (14, 0, 0, 110), (80, 10, 57, 3), (999, 0, 0, 0), (999, 0, 0, 0), (10, 0, 2, 0), (94, 0, 0, 37), (14, 0, 1, 122), (110, 0, 124, 217), (999, 0, 0, 0), (999, 0, 0, 0), (52, 0, 0, 0), (22, 1, 2, 0), (999, 0, 0, 0), (999, 0, 0, 0), (72, (-35), 2, 0), (999, 0, 0, 0), (999, 0, 0, 0), (133, 0, 0, 0)]
def zu_Bl_writeEndedGroups : List (Nat × List Bool) := [(2, [true, true, true]), (34, [true, true, true])]
set_option maxRecDepth 100000 in
theorem qg_Bl_writeEndedGroups_34 {ρ : Type} (kr : Int → zH → Option ρ) (r2 : Int → Int → Int → zH → Option ρ) (a0 a1 a2 : Int) (h : zH) : (r2 a0 a1 (wr (a2 + 1)) h) = zseg zPP true (zcal (ρ := ρ) []) (zget (999, 0, 0, 0) zc_Bl_writeEndedGroups) (zcut zu_Bl_writeEndedGroups) (zorc (ρ := ρ) [(2, [some (110, none), some (122, none), some (0, none)], [], zap3 r2)]) kr (fun _ _ => none) 400 34 [some (110, a0), some (122, a1), some (0, a2)] [] h := by rfl
set_option maxRecDepth 100000 in
theorem qe_Bl_writeEndedGroups_34 {ρ : Type} (kr : Int → zH → Option ρ) (r2 : Int → Int → Int → zH → Option ρ) (a0 a1 a2 : Int) (h : zH) : Bl_writeEndedGroups_34 kr r2 a0 a1 a2 h = zseg zPP true (zcal (ρ := ρ) []) (zget (999, 0, 0, 0) zc_Bl_writeEndedGroups) (zcut zu_Bl_writeEndedGroups) (zorc (ρ := ρ) [(2, [some (110, none), some (122, none), some (0, none)], [], zap3 r2)]) kr (fun _ _ => none) 400 34 [some (110, a0), some (122, a1), some (0, a2)] [] h := qg_Bl_writeEndedGroups_34 kr r2 a0 a1 a2 h
set_option maxRecDepth 100000 in
theorem qg_Bl_writeEndedGroups_2b {ρ : Type} (kr : Int → zH → Option ρ) (r2 : Int → Int → Int → zH → Option ρ) (F_Gr_hasEnded : Int → zH → (Int → zH → Option ρ) → Option ρ) (F_Gr_writeAll : Int → Int → zH → (Int → zH → Option ρ) → Option ρ) (c34 : Int → Int → Int → zH → Option ρ) (a0 a1 a2 : Int) (h : zH) : (zob h 10 a0 fun p1 =>
zob h 37 (zhD h 10 p1 3) fun p2 =>
if a2 < (zhL h 37 p2 : Int) then (zob h 10 a0 fun p3 =>
zob h 37 (zhD h 10 p3 3) fun p4 =>
zix (zhL h 37 p4) a2 fun j5 =>
zob h 11 (zhD h 37 p4 j5) fun _ =>
F_Gr_hasEnded (zhD h 37 p4 j5) h  fun v6 h7 =>
if v6 = 0 then c34 a0 a1 a2 h7
else zob h7 10 a0 fun p8 =>
zob h7 37 (zhD h7 10 p8 3) fun p9 =>
zix (zhL h7 37 p9) a2 fun j10 =>
zob h7 11 (zhD h7 37 p9 j10) fun _ =>
F_Gr_writeAll (zhD h7 37 p9 j10) a1 h7  fun v11 h12 =>
c34 a0 a1 a2 h12)
else kr 0 h) = zseg zPP true (zcal (ρ := ρ) [(209, [none], zca1 F_Gr_hasEnded), (217, [none, none], zca2 F_Gr_writeAll)]) (zget (999, 0, 0, 0) zc_Bl_writeEndedGroups) (zcut zu_Bl_writeEndedGroups) (zorc (ρ := ρ) [(34, [some (110, none), some (122, none), some (0, none)], [], zap3 c34)]) kr (fun _ _ => none) 400 2 [some (110, a0), some (122, a1), some (0, a2)] [] h := by rfl
set_option maxRecDepth 100000 in
theorem qe_Bl_writeEndedGroups_2b {ρ : Type} (kr : Int → zH → Option ρ) (r2 : Int → Int → Int → zH → Option ρ) (a0 a1 a2 : Int) (h : zH) : Bl_writeEndedGroups_2b kr r2 a0 a1 a2 h = zseg zPP true (zcal (ρ := ρ) [(209, [none], zca1 Gr_hasEnded), (217, [none, none], zca2 Gr_writeAll)]) (zget (999, 0, 0, 0) zc_Bl_writeEndedGroups) (zcut zu_Bl_writeEndedGroups) (zorc (ρ := ρ) [(34, [some (110, none), some (122, none), some (0, none)], [], zap3 (Bl_writeEndedGroups_34 kr r2))]) kr (fun _ _ => none) 400 2 [some (110, a0), some (122, a1), some (0, a2)] [] h := qg_Bl_writeEndedGroups_2b kr r2 Gr_hasEnded Gr_writeAll (Bl_writeEndedGroups_34 kr r2) a0 a1 a2 h
set_option maxRecDepth 100000 in
theorem qg_Bl_writeEndedGroups {ρ : Type} (kr : Int → zH → Option ρ) (c2 : Int → Int → Int → zH → Option ρ) (a0 a1 : Int) (h : zH) : (c2 a0 a1 0 h) = zseg zPP true (zcal (ρ := ρ) []) (zget (999, 0, 0, 0) zc_Bl_writeEndedGroups) (zcut zu_Bl_writeEndedGroups) (zorc (ρ := ρ) [(2, [some (110, none), some (122, none), some (0, none)], [], zap3 c2)]) kr (fun _ _ => none) 400 0 [some (110, a0), some (122, a1), none] [] h := by rfl
set_option maxRecDepth 100000 in
theorem qe_Bl_writeEndedGroups {ρ : Type} (kr : Int → zH → Option ρ) (a0 a1 : Int) (h : zH) : Bl_writeEndedGroups a0 a1 h kr = zseg zPP true (zcal (ρ := ρ) []) (zget (999, 0, 0, 0) zc_Bl_writeEndedGroups) (zcut zu_Bl_writeEndedGroups) (zorc (ρ := ρ) [(2, [some (110, none), some (122, none), some (0, none)], [], zap3 (Bl_writeEndedGroups_2 kr))]) kr (fun _ _ => none) 400 0 [some (110, a0), some (122, a1), none] [] h := qg_Bl_writeEndedGroups kr (Bl_writeEndedGroups_2 kr) a0 a1 h
def zc_Bl_lowestWaiting : List zI := [(14, 0, 0, 110), (80, 10, 30, 2), (999, 0, 0, 0), (999, 0, 0, 0), (14, 0, 0, 110), (80, 10, 30, 2), (999, 0, 0, 0), (999, 0, 0, 0), (100, 0, 0, 36), (113, 0, 90, 265), (999, 0, 0, 0), (999, 0, 0, 0), (132, 0, 0, 106)]
def zu_Bl_lowestWaiting : List (Nat × List Bool) := []
set_option maxRecDepth 100000 in
theorem qg_Bl_lowestWaiting {ρ : Type} (kr : Int → zH → Option ρ) (F_Th_lowestOfWaiting_36 : Int → Int → zH → (Int → zH → Option ρ) → Option ρ) (a0 : Int) (h : zH) : (zob h 10 a0 fun p1 =>
zob h 10 a0 fun p2 =>
zob h 36 (zhD h 10 p2 2) fun p3 =>
F_Th_lowestOfWaiting_36 (zhD h 10 p1 2) (zhL h 36 p3 : Int) h  fun v4 h5 =>
kr v4 h5) = zseg zPP true (zcal (ρ := ρ) [(265, [none, none], zca2 F_Th_lowestOfWaiting_36)]) (zget (999, 0, 0, 0) zc_Bl_lowestWaiting) (zcut zu_Bl_lowestWaiting) (zorc (ρ := ρ) []) kr (fun _ _ => none) 400 0 [some (110, a0)] [] h := by rfl
set_option maxRecDepth 100000 in
theorem qe_Bl_lowestWaiting {ρ : Type} (kr : Int → zH → Option ρ) (a0 : Int) (h : zH) : Bl_lowestWaiting a0 h kr = zseg zPP true (zcal (ρ := ρ) [(265, [none, none], zca2 Th_lowestOfWaiting_36)]) (zget (999, 0, 0, 0) zc_Bl_lowestWaiting) (zcut zu_Bl_lowestWaiting) (zorc (ρ := ρ) []) kr (fun _ _ => none) 400 0 [some (110, a0)] [] h := qg_Bl_lowestWaiting kr Th_lowestOfWaiting_36 a0 h
def zc_Th_release_36 : List zI := [(0, 0, 0, 0), (17, 0, 4, 0), (999, 0, 0, 0), (11, 0, 4, 0), (999, 0, 0, 0), (10, 0, 1, 0), (69, 39, 45, 0), (999, 0, 0, 0), (999, 0, 0, 0), (11, 0, 4, 0), (999, 0, 0, 0), (14, 0, 0, 136), (100, 0, 0, 36), (69, 32, 45, 0), (999, 0, 0, 0), (999, 0, 0, 0), (14, 0, 0, 136), (11, 0, 4, 0), (999, 0, 0, 0), (94, 0, 0, 36), (110, 0, 70, 256), (999, 0, 0, 0), (999, 0, 0, 0), (60, 16, 39, 0), (999, 0, 0, 0), (999, 0, 0, 0), (14, 0, 0, 136), (11, 0, 4, 0), (999, 0, 0, 0), (94, 0, 0, 36), (80, 6, 63, 3), (999, 0, 0, 0), (999, 0, 0, 0), (10, 0, 2, 0), (66, 5, 39, 0), (999, 0, 0, 0), (999, 0, 0, 0), (0, 0, 0, 0), (130, 0, 1, 0), (22, 1, 4, 0), (999, 0, 0, 0), (999, 0, 0, 0), (72, (-39), 3, 0), (999, 0, 0, 0), (999, 0, 0, 0), (0, 0, 0, 0), (17, 0, 4, 0), (999, 0, 0, 0), (11, 0, 4, 0), (999, 0, 0, 0), (10, 0, 1, 0), (69, 46, 97, 0), (999, 0, 0, 0), (999, 0, 0, 0), (11, 0, 4, 0), (999, 0, 0, 0), (14, 0, 0, 136), (100, 0, 0, 36), (69, 39, 97, 0), (999, 0, 0, 0), (999, 0, 0, 0), (14, 0, 0, 136), (11, 0, 4, 0), (999, 0, 0, 0), (94, 0, 0, 36), (110, 0, 70, 256), (999, 0, 0, 0), (999, 0, 0, 0), (60, 23, 91, 0), (999, 0, 0, 0), (999, 0, 0, 0), (14, 0, 0, 136), (11, 0, 4, 0), (999, 0, 0, 0), (94, 0, 0, 36), (1, 114, 0, 0), (999, 0, 0, 0), (82, 6, 34, 4), (999, 0, 0, 0), (999, 0, 0, 0), (14, 0, 0, 136), (11, 0, 4, 0), (999, 0, 0, 0), (94, 0, 0, 36), (10, 0, 2, 0), (0, 1, 0, 0), (30, 0, 0, 0), (10, 0, 3, 0), (110, 0, 38, 262), (999, 0, 0, 0), (999, 0, 0, 0), (22, 1, 4, 0), (999, 0, 0, 0), (999, 0, 0, 0), (72, (-46), 48, 0), (999, 0, 0, 0), (999, 0, 0, 0), (0, 1, 0, 0), (130, 0, 1, 0)]
def zu_Th_release_36 : List (Nat × List Bool) := [(3, [true, true, true, true, true]), (39, [true, true, true, true, true]), (45, [true, true, true, true, false]), (48, [true, true, true, true, true]), (91, [true, true, true, true, true]), (97, [false, false, false, false, false])]
set_option maxRecDepth 100000 in
theorem qg_Th_release_36_39 {ρ : Type} (kr : Int → zH → Option ρ) (r3 : Int → Int → Int → Int → Int → zH → Option ρ) (a0 a1 a2 a3 a4 : Int) (h : zH) : (r3 a0 a1 a2 a3 (wr (a4 + 1)) h) = zseg zPP true (zcal (ρ := ρ) []) (zget (999, 0, 0, 0) zc_Th_release_36) (zcut zu_Th_release_36) (zorc (ρ := ρ) [(3, [some (136, none), some (0, none), some (0, none), some (0, none), some (0, none)], [], zap5 r3)]) kr (fun _ _ => none) 400 39 [some (136, a0), some (0, a1), some (0, a2), some (0, a3), some (0, a4)] [] h := by rfl
set_option maxRecDepth 100000 in
theorem qe_Th_release_36_39 {ρ : Type} (kr : Int → zH → Option ρ) (r3 : Int → Int → Int → Int → Int → zH → Option ρ) (a0 a1 a2 a3 a4 : Int) (h : zH) : Th_release_36_39 kr r3 a0 a1 a2 a3 a4 h = zseg zPP true (zcal (ρ := ρ) []) (zget (999, 0, 0, 0) zc_Th_release_36) (zcut zu_Th_release_36) (zorc (ρ := ρ) [(3, [some (136, none), some (0, none), some (0, none), some (0, none), some (0, none)], [], zap5 r3)]) kr (fun _ _ => none) 400 39 [some (136, a0), some (0, a1), some (0, a2), some (0, a3), some (0, a4)] [] h := qg_Th_release_36_39 kr r3 a0 a1 a2 a3 a4 h
set_option maxRecDepth 100000 in
theorem qg_Th_release_36_91 {ρ : Type} (kr : Int → zH → Option ρ) (r48 : Int → Int → Int → Int → Int → zH → Option ρ) (a0 a1 a2 a3 a4 : Int) (h : zH) : (r48 a0 a1 a2 a3 (wr (a4 + 1)) h) = zseg zPP true (zcal (ρ := ρ) []) (zget (999, 0, 0, 0) zc_Th_release_36) (zcut zu_Th_release_36) (zorc (ρ := ρ) [(48, [some (136, none), some (0, none), some (0, none), some (0, none), some (0, none)], [], zap5 r48)]) kr (fun _ _ => none) 400 91 [some (136, a0), some (0, a1), some (0, a2), some (0, a3), some (0, a4)] [] h := by rfl
set_option maxRecDepth 100000 in
theorem qe_Th_release_36_91 {ρ : Type} (kr : Int → zH → Option ρ) (r48 : Int → Int → Int → Int → Int → zH → Option ρ) (a0 a1 a2 a3 a4 : Int) (h : zH) : Th_release_36_91 kr r48 a0 a1 a2 a3 a4 h = zseg zPP true (zcal (ρ := ρ) []) (zget (999, 0, 0, 0) zc_Th_release_36) (zcut zu_Th_release_36) (zorc (ρ := ρ) [(48, [some (136, none), some (0, none), some (0, none), some (0, none), some (0, none)], [], zap5 r48)]) kr (fun _ _ => none) 400 91 [some (136, a0), some (0, a1), some (0, a2), some (0, a3), some (0, a4)] [] h := qg_Th_release_36_91 kr r48 a0 a1 a2 a3 a4 h
set_option maxRecDepth 100000 in
theorem qg_Th_release_36_97 {ρ : Type} (kr : Int → zH → Option ρ) (h : zH) : (kr 1 h) = zseg zPP true (zcal (ρ := ρ) []) (zget (999, 0, 0, 0) zc_Th_release_36) (zcut zu_Th_release_36) (zorc (ρ := ρ) []) kr (fun _ _ => none) 400 97 [none, none, none, none, none] [] h := by rfl
set_option maxRecDepth 100000 in
theorem qe_Th_release_36_97 {ρ : Type} (kr : Int → zH → Option ρ) (h : zH) : Th_release_36_97 kr h = zseg zPP true (zcal (ρ := ρ) []) (zget (999, 0, 0, 0) zc_Th_release_36) (zcut zu_Th_release_36) (zorc (ρ := ρ) []) kr (fun _ _ => none) 400 97 [none, none, none, none, none] [] h := qg_Th_release_36_97 kr h
set_option maxRecDepth 100000 in
theorem qg_Th_release_36_48b {ρ : Type} (kr : Int → zH → Option ρ) (r48 : Int → Int → Int → Int → Int → zH → Option ρ) (F_Th_isWaiting : Int → zH → (Int → zH → Option ρ) → Option ρ) (F_Th_goTo : Int → Int → Int → zH → (Int → zH → Option ρ) → Option ρ) (c91 : Int → Int → Int → Int → Int → zH → Option ρ) (c97 : zH → Option ρ) (a0 a1 a2 a3 a4 : Int) (h : zH) : (if a4 < a1 then (zob h 36 a0 fun p1 =>
if a4 < (zhL h 36 p1 : Int) then (zob h 36 a0 fun p2 =>
zix (zhL h 36 p2) a4 fun j3 =>
zob h 6 (zhD h 36 p2 j3) fun _ =>
F_Th_isWaiting (zhD h 36 p2 j3) h  fun v4 h5 =>
if v4 = 0 then c91 a0 a1 a2 a3 a4 h5
else zob h5 36 a0 fun p6 =>
zix (zhL h5 36 p6) a4 fun j7 =>
zob h5 6 (zhD h5 36 p6 j7) fun p8 =>
zlet (zset h5 6 p8 4 114) fun h9 =>
zob h9 36 a0 fun p10 =>
zix (zhL h9 36 p10) a4 fun j11 =>
zob h9 6 (zhD h9 36 p10 j11) fun _ =>
F_Th_goTo (zhD h9 36 p10 j11) (wr (a2 + 1)) a3 h9  fun _ h13 =>
c91 a0 a1 a2 a3 a4 h13)
else c97 h)
else c97 h) = zseg zPP true (zcal (ρ := ρ) [(256, [none], zca1 F_Th_isWaiting), (262, [none, none, none], zca3 F_Th_goTo)]) (zget (999, 0, 0, 0) zc_Th_release_36) (zcut zu_Th_release_36) (zorc (ρ := ρ) [(91, [some (136, none), some (0, none), some (0, none), some (0, none), some (0, none)], [], zap5 c91), (97, [none, none, none, none, none], [], zap0 c97)]) kr (fun _ _ => none) 400 48 [some (136, a0), some (0, a1), some (0, a2), some (0, a3), some (0, a4)] [] h := by rfl
set_option maxRecDepth 100000 in
theorem qe_Th_release_36_48b {ρ : Type} (kr : Int → zH → Option ρ) (r48 : Int → Int → Int → Int → Int → zH → Option ρ) (a0 a1 a2 a3 a4 : Int) (h : zH) : Th_release_36_48b kr r48 a0 a1 a2 a3 a4 h = zseg zPP true (zcal (ρ := ρ) [(256, [none], zca1 Th_isWaiting), (262, [none, none, none], zca3 Th_goTo)]) (zget (999, 0, 0, 0) zc_Th_release_36) (zcut zu_Th_release_36) (zorc (ρ := ρ) [(91, [some (136, none), some (0, none), some (0, none), some (0, none), some (0, none)], [], zap5 (Th_release_36_91 kr r48)), (97, [none, none, none, none, none], [], zap0 (Th_release_36_97 kr))]) kr (fun _ _ => none) 400 48 [some (136, a0), some (0, a1), some (0, a2), some (0, a3), some (0, a4)] [] h := qg_Th_release_36_48b kr r48 Th_isWaiting Th_goTo (Th_release_36_91 kr r48) (Th_release_36_97 kr) a0 a1 a2 a3 a4 h
set_option maxRecDepth 100000 in
theorem qg_Th_release_36_45 {ρ : Type} (kr : Int → zH → Option ρ) (c48 : Int → Int → Int → Int → Int → zH → Option ρ) (a0 a1 a2 a3 : Int) (h : zH) : (c48 a0 a1 a2 a3 0 h) = zseg zPP true (zcal (ρ := ρ) []) (zget (999, 0, 0, 0) zc_Th_release_36) (zcut zu_Th_release_36) (zorc (ρ := ρ) [(48, [some (136, none), some (0, none), some (0, none), some (0, none), some (0, none)], [], zap5 c48)]) kr (fun _ _ => none) 400 45 [some (136, a0), some (0, a1), some (0, a2), some (0, a3), none] [] h := by rfl
set_option maxRecDepth 100000 in
theorem qe_Th_release_36_45 {ρ : Type} (kr : Int → zH → Option ρ) (a0 a1 a2 a3 : Int) (h : zH) : Th_release_36_45 kr a0 a1 a2 a3 h = zseg zPP true (zcal (ρ := ρ) []) (zget (999, 0, 0, 0) zc_Th_release_36) (zcut zu_Th_release_36) (zorc (ρ := ρ) [(48, [some (136, none), some (0, none), some (0, none), some (0, none), some (0, none)], [], zap5 (Th_release_36_48 kr))]) kr (fun _ _ => none) 400 45 [some (136, a0), some (0, a1), some (0, a2), some (0, a3), none] [] h := qg_Th_release_36_45 kr (Th_release_36_48 kr) a0 a1 a2 a3 h
set_option maxRecDepth 100000 in
theorem qg_Th_release_36_3b {ρ : Type} (kr : Int → zH → Option ρ) (r3 : Int → Int → Int → Int → Int → zH → Option ρ) (F_Th_isWaiting : Int → zH → (Int → zH → Option ρ) → Option ρ) (c39 : Int → Int → Int → Int → Int → zH → Option ρ) (c45 : Int → Int → Int → Int → zH → Option ρ) (a0 a1 a2 a3 a4 : Int) (h : zH) : (if a4 < a1 then (zob h 36 a0 fun p1 =>
if a4 < (zhL h 36 p1 : Int) then (zob h 36 a0 fun p2 =>
zix (zhL h 36 p2) a4 fun j3 =>
zob h 6 (zhD h 36 p2 j3) fun _ =>
F_Th_isWaiting (zhD h 36 p2 j3) h  fun v4 h5 =>
if v4 = 0 then c39 a0 a1 a2 a3 a4 h5
else zob h5 36 a0 fun p6 =>
zix (zhL h5 36 p6) a4 fun j7 =>
zob h5 6 (zhD h5 36 p6 j7) fun p8 =>
if (zhD h5 6 p8 3) = a2 then c39 a0 a1 a2 a3 a4 h5
else kr 0 h5)
else c45 a0 a1 a2 a3 h)
else c45 a0 a1 a2 a3 h) = zseg zPP true (zcal (ρ := ρ) [(256, [none], zca1 F_Th_isWaiting)]) (zget (999, 0, 0, 0) zc_Th_release_36) (zcut zu_Th_release_36) (zorc (ρ := ρ) [(39, [some (136, none), some (0, none), some (0, none), some (0, none), some (0, none)], [], zap5 c39), (45, [some (136, none), some (0, none), some (0, none), some (0, none), none], [], zap4 c45)]) kr (fun _ _ => none) 400 3 [some (136, a0), some (0, a1), some (0, a2), some (0, a3), some (0, a4)] [] h := by rfl
set_option maxRecDepth 100000 in
theorem qe_Th_release_36_3b {ρ : Type} (kr : Int → zH → Option ρ) (r3 : Int → Int → Int → Int → Int → zH → Option ρ) (a0 a1 a2 a3 a4 : Int) (h : zH) : Th_release_36_3b kr r3 a0 a1 a2 a3 a4 h = zseg zPP true (zcal (ρ := ρ) [(256, [none], zca1 Th_isWaiting)]) (zget (999, 0, 0, 0) zc_Th_release_36) (zcut zu_Th_release_36) (zorc (ρ := ρ) [(39, [some (136, none), some (0, none), some (0, none), some (0, none), some (0, none)], [], zap5 (Th_release_36_39 kr r3)), (45, [some (136, none), some (0, none), some (0, none), some (0, none), none], [], zap4 (Th_release_36_45 kr))]) kr (fun _ _ => none) 400 3 [some (136, a0), some (0, a1), some (0, a2), some (0, a3), some (0, a4)] [] h := qg_Th_release_36_3b kr r3 Th_isWaiting (Th_release_36_39 kr r3) (Th_release_36_45 kr) a0 a1 a2 a3 a4 h
set_option maxRecDepth 100000 in
theorem qg_Th_release_36 {ρ : Type} (kr : Int → zH → Option ρ) (c3 : Int → Int → Int → Int → Int → zH → Option ρ) (a0 a1 a2 a3 : Int) (h : zH) : (c3 a0 a1 a2 a3 0 h) = zseg zPP true (zcal (ρ := ρ) []) (zget (999, 0, 0, 0) zc_Th_release_36) (zcut zu_Th_release_36) (zorc (ρ := ρ) [(3, [some (136, none), some (0, none), some (0, none), some (0, none), some (0, none)], [], zap5 c3)]) kr (fun _ _ => none) 400 0 [some (136, a0), some (0, a1), some (0, a2), some (0, a3), none] [] h := by rfl
set_option maxRecDepth 100000 in
theorem qe_Th_release_36 {ρ : Type} (kr : Int → zH → Option ρ) (a0 a1 a2 a3 : Int) (h : zH) : Th_release_36 a0 a1 a2 a3 h kr = zseg zPP true (zcal (ρ := ρ) []) (zget (999, 0, 0, 0) zc_Th_release_36) (zcut zu_Th_release_36) (zorc (ρ := ρ) [(3, [some (136, none), some (0, none), some (0, none), some (0, none), some (0, none)], [], zap5 (Th_release_36_3 kr))]) kr (fun _ _ => none) 400 0 [some (136, a0), some (0, a1), some (0, a2), some (0, a3), none] [] h := qg_Th_release_36 kr (Th_release_36_3 kr) a0 a1 a2 a3 h
def zc_Bl_passBarrier : List zI := [(14, 0, 0, 110), (80, 10, 30, 2), (999, 0, 0, 0), (999, 0, 0, 0), (14, 0, 0, 110), (80, 10, 30, 2), (999, 0, 0, 0), (999, 0, 0, 0), (100, 0, 0, 36), (10, 0, 1, 0), (14, 0, 0, 110), (80, 10, 15, 0), (999, 0, 0, 0), (999, 0, 0, 0), (80, 9, 33, 5), (999, 0, 0, 0), (999, 0, 0, 0), (80, 7, 45, 3), (999, 0, 0, 0), (999, 0, 0, 0), (113, 0, 94, 267), (999, 0, 0, 0), (999, 0, 0, 0), (61, 5, 28, 0), (999, 0, 0, 0), (999, 0, 0, 0), (0, 0, 0, 0), (130, 0, 1, 0), (14, 0, 0, 110), (80, 10, 9, 5), (999, 0, 0, 0), (999, 0, 0, 0), (0, 0, 0, 0), (113, 0, 98, 7), (999, 0, 0, 0), (999, 0, 0, 0), (14, 0, 0, 110), (80, 10, 66, 6), (999, 0, 0, 0), (999, 0, 0, 0), (0, 0, 0, 0), (113, 0, 98, 8), (999, 0, 0, 0), (999, 0, 0, 0), (0, 1, 0, 0), (130, 0, 1, 0)]
def zu_Bl_passBarrier : List (Nat × List Bool) := []
set_option maxRecDepth 100000 in
theorem qg_Bl_passBarrier {ρ : Type} (kr : Int → zH → Option ρ) (F_Ar_fill_39 : Int → Int → zH → (Int → zH → Option ρ) → Option ρ) (F_Ar_fill_40 : Int → Int → zH → (Int → zH → Option ρ) → Option ρ) (F_Th_release_36 : Int → Int → Int → Int → zH → (Int → zH → Option ρ) → Option ρ) (a0 a1 : Int) (h : zH) : (zob h 10 a0 fun p1 =>
zob h 10 a0 fun p2 =>
zob h 36 (zhD h 10 p2 2) fun p3 =>
zob h 10 a0 fun p4 =>
zob h 9 (zhD h 10 p4 0) fun p5 =>
zob h 7 (zhD h 9 p5 5) fun p6 =>
F_Th_release_36 (zhD h 10 p1 2) (zhL h 36 p3 : Int) a1 (zhD h 7 p6 3) h  fun v7 h8 =>
if v7 = 0 then kr 0 h8
else zob h8 10 a0 fun p9 =>
F_Ar_fill_39 (zhD h8 10 p9 5) 0 h8  fun _ h11 =>
zob h11 10 a0 fun p12 =>
F_Ar_fill_40 (zhD h11 10 p12 6) 0 h11  fun _ h14 =>
kr 1 h14) = zseg zPP true (zcal (ρ := ρ) [(7, [none, none], zca2 F_Ar_fill_39), (8, [none, none], zca2 F_Ar_fill_40), (267, [none, none, none, none], zca4 F_Th_release_36)]) (zget (999, 0, 0, 0) zc_Bl_passBarrier) (zcut zu_Bl_passBarrier) (zorc (ρ := ρ) []) kr (fun _ _ => none) 400 0 [some (110, a0), some (0, a1)] [] h := by rfl
set_option maxRecDepth 100000 in
theorem qe_Bl_passBarrier {ρ : Type} (kr : Int → zH → Option ρ) (a0 a1 : Int) (h : zH) : Bl_passBarrier a0 a1 h kr = zseg zPP true (zcal (ρ := ρ) [(7, [none, none], zca2 Ar_fill_39), (8, [none, none], zca2 Ar_fill_40), (267, [none, none, none, none], zca4 Th_release_36)]) (zget (999, 0, 0, 0) zc_Bl_passBarrier) (zcut zu_Bl_passBarrier) (zorc (ρ := ρ) []) kr (fun _ _ => none) 400 0 [some (110, a0), some (0, a1)] [] h := qg_Bl_passBarrier kr Ar_fill_39 Ar_fill_40 Th_release_36 a0 a1 h
def zc_Co_lookAtBarrier : List zI := [(14, 0, 1, 110), (110, 0, 355, 174), (999, 0, 0, 0), (999, 0, 0, 0), (20, 0, 2, 106), (14, 0, 2, 106), (74, 4, 10, 0), (999, 0, 0, 0), (999, 0, 0, 0), (133, 0, 0, 0), (14, 0, 1, 110), (14, 0, 2, 106), (80, 6, 359, 3), (999, 0, 0, 0), (999, 0, 0, 0), (110, 0, 362, 175), (999, 0, 0, 0), (999, 0, 0, 0), (60, 19, 37, 0), (999, 0, 0, 0), (999, 0, 0, 0), (14, 0, 0, 102), (80, 2, 25, 3), (999, 0, 0, 0), (999, 0, 0, 0), (50, 0, 0, 0), (80, 4, 365, 6), (999, 0, 0, 0), (999, 0, 0, 0), (0, 1, 0, 0), (30, 0, 0, 0), (82, 4, 365, 6), (999, 0, 0, 0), (999, 0, 0, 0), (72, 18, 52, 0), (999, 0, 0, 0), (999, 0, 0, 0), (14, 0, 0, 102), (14, 0, 1, 110), (14, 0, 2, 106), (80, 6, 180, 0), (999, 0, 0, 0), (999, 0, 0, 0), (14, 0, 2, 106), (80, 6, 359, 3), (999, 0, 0, 0), (999, 0, 0, 0), (1, 98, 0, 0), (999, 0, 0, 0), (110, 0, 185, 200), (999, 0, 0, 0), (999, 0, 0, 0), (133, 0, 0, 0)]
def zu_Co_lookAtBarrier : List (Nat × List Bool) := [(52, [false, false, false])]
set_option maxRecDepth 100000 in
theorem qg_Co_lookAtBarrier_52 {ρ : Type} (kr : Int → zH → Option ρ) (h : zH) : (kr 0 h) = zseg zPP true (zcal (ρ := ρ) []) (zget (999, 0, 0, 0) zc_Co_lookAtBarrier) (zcut zu_Co_lookAtBarrier) (zorc (ρ := ρ) []) kr (fun _ _ => none) 400 52 [none, none, none] [] h := by rfl
set_option maxRecDepth 100000 in
theorem qe_Co_lookAtBarrier_52 {ρ : Type} (kr : Int → zH → Option ρ) (h : zH) : Co_lookAtBarrier_52 kr h = zseg zPP true (zcal (ρ := ρ) []) (zget (999, 0, 0, 0) zc_Co_lookAtBarrier) (zcut zu_Co_lookAtBarrier) (zorc (ρ := ρ) []) kr (fun _ _ => none) 400 52 [none, none, none] [] h := qg_Co_lookAtBarrier_52 kr h
set_option maxRecDepth 100000 in
theorem qg_Co_lookAtBarrier {ρ : Type} (kr : Int → zH → Option ρ) (F_Bl_lowestWaiting : Int → zH → (Int → zH → Option ρ) → Option ρ) (F_Bl_passBarrier : Int → Int → zH → (Int → zH → Option ρ) → Option ρ) (F_Co_fail : Int → Int → Int → Int → Int → zH → (Int → zH → Option ρ) → Option ρ) (c52 : zH → Option ρ) (a0 a1 : Int) (h : zH) : (zob h 10 a1 fun _ =>
F_Bl_lowestWaiting a1 h  fun v1 h2 =>
if v1 < 0 then kr 0 h2
else zob h2 6 v1 fun p3 =>
zob h2 10 a1 fun _ =>
F_Bl_passBarrier a1 (zhD h2 6 p3 3) h2  fun v4 h5 =>
if v4 = 0 then (zob h5 6 v1 fun p6 =>
zob h5 6 v1 fun p7 =>
zob h5 2 a0 fun _ =>
F_Co_fail a0 a1 (zhD h5 6 p6 0) (zhD h5 6 p7 3) 98 h5  fun _ h9 =>
c52 h9)
else zob h5 2 a0 fun p10 =>
zob h5 4 (zhD h5 2 p10 3) fun p11 =>
zob h5 4 (zhD h5 2 p10 3) fun p12 =>
zlet (zset h5 4 p12 6 (wr ((zhD h5 4 p11 6) + 1))) fun h13 =>
c52 h13) = zseg zPP true (zcal (ρ := ρ) [(174, [none], zca1 F_Bl_lowestWaiting), (175, [none, none], zca2 F_Bl_passBarrier), (200, [none, none, none, none, none], zca5 F_Co_fail)]) (zget (999, 0, 0, 0) zc_Co_lookAtBarrier) (zcut zu_Co_lookAtBarrier) (zorc (ρ := ρ) [(52, [none, none, none], [], zap0 c52)]) kr (fun _ _ => none) 400 0 [some (102, a0), some (110, a1), none] [] h := by rfl
set_option maxRecDepth 100000 in
theorem qe_Co_lookAtBarrier {ρ : Type} (kr : Int → zH → Option ρ) (a0 a1 : Int) (h : zH) : Co_lookAtBarrier a0 a1 h kr = zseg zPP true (zcal (ρ := ρ) [(174, [none], zca1 Bl_lowestWaiting), (175, [none, none], zca2 Bl_passBarrier), (200, [none, none, none, none, none], zca5 Co_fail)]) (zget (999, 0, 0, 0) zc_Co_lookAtBarrier) (zcut zu_Co_lookAtBarrier) (zorc (ρ := ρ) [(52, [none, none, none], [], zap0 (Co_lookAtBarrier_52 kr))]) kr (fun _ _ => none) 400 0 [some (102, a0), some (110, a1), none] [] h := qg_Co_lookAtBarrier kr Bl_lowestWaiting Bl_passBarrier Co_fail (Co_lookAtBarrier_52 kr) a0 a1 h
def zc_Co_settle : List zI := [(14, 0, 1, 110), (14, 0, 0, 102), (80, 2, 9, 1), (999, 0, 0, 0), (999, 0, 0, 0), (110, 0, 346, 178), (999, 0, 0, 0), (999, 0, 0, 0), (14, 0, 1, 110), (110, 0, 349, 173), (999, 0, 0, 0), (999, 0, 0, 0), (60, 8, 20, 0), (999, 0, 0, 0), (999, 0, 0, 0), (14, 0, 0, 102), (14, 0, 1, 110), (110, 0, 352, 198), (999, 0, 0, 0), (999, 0, 0, 0), (14, 0, 0, 102), (14, 0, 1, 110), (110, 0, 130, 199), (999, 0, 0, 0), (999, 0, 0, 0), (133, 0, 0, 0)]
def zu_Co_settle : List (Nat × List Bool) := [(20, [true, true])]
set_option maxRecDepth 100000 in
theorem qg_Co_settle_20 {ρ : Type} (kr : Int → zH → Option ρ) (F_Co_endIfEnded : Int → Int → zH → (Int → zH → Option ρ) → Option ρ) (a0 a1 : Int) (h : zH) : (zob h 2 a0 fun _ =>
F_Co_endIfEnded a0 a1 h  fun _ h2 =>
kr 0 h2) = zseg zPP true (zcal (ρ := ρ) [(199, [none, none], zca2 F_Co_endIfEnded)]) (zget (999, 0, 0, 0) zc_Co_settle) (zcut zu_Co_settle) (zorc (ρ := ρ) []) kr (fun _ _ => none) 400 20 [some (102, a0), some (110, a1)] [] h := by rfl
set_option maxRecDepth 100000 in
theorem qe_Co_settle_20 {ρ : Type} (kr : Int → zH → Option ρ) (a0 a1 : Int) (h : zH) : Co_settle_20 kr a0 a1 h = zseg zPP true (zcal (ρ := ρ) [(199, [none, none], zca2 Co_endIfEnded)]) (zget (999, 0, 0, 0) zc_Co_settle) (zcut zu_Co_settle) (zorc (ρ := ρ) []) kr (fun _ _ => none) 400 20 [some (102, a0), some (110, a1)] [] h := qg_Co_settle_20 kr Co_endIfEnded a0 a1 h
set_option maxRecDepth 100000 in
theorem qg_Co_settle {ρ : Type} (kr : Int → zH → Option ρ) (F_Bl_isAllWaiting : Int → zH → (Int → zH → Option ρ) → Option ρ) (F_Bl_writeEndedGroups : Int → Int → zH → (Int → zH → Option ρ) → Option ρ) (F_Co_lookAtBarrier : Int → Int → zH → (Int → zH → Option ρ) → Option ρ) (c20 : Int → Int → zH → Option ρ) (a0 a1 : Int) (h : zH) : (zob h 2 a0 fun p1 =>
zob h 10 a1 fun _ =>
F_Bl_writeEndedGroups a1 (zhD h 2 p1 1) h  fun _ h3 =>
zob h3 10 a1 fun _ =>
F_Bl_isAllWaiting a1 h3  fun v4 h5 =>
if v4 = 0 then c20 a0 a1 h5
else zob h5 2 a0 fun _ =>
F_Co_lookAtBarrier a0 a1 h5  fun _ h7 =>
c20 a0 a1 h7) = zseg zPP true (zcal (ρ := ρ) [(173, [none], zca1 F_Bl_isAllWaiting), (178, [none, none], zca2 F_Bl_writeEndedGroups), (198, [none, none], zca2 F_Co_lookAtBarrier)]) (zget (999, 0, 0, 0) zc_Co_settle) (zcut zu_Co_settle) (zorc (ρ := ρ) [(20, [some (102, none), some (110, none)], [], zap2 c20)]) kr (fun _ _ => none) 400 0 [some (102, a0), some (110, a1)] [] h := by rfl
set_option maxRecDepth 100000 in
theorem qe_Co_settle {ρ : Type} (kr : Int → zH → Option ρ) (a0 a1 : Int) (h : zH) : Co_settle a0 a1 h kr = zseg zPP true (zcal (ρ := ρ) [(173, [none], zca1 Bl_isAllWaiting), (178, [none, none], zca2 Bl_writeEndedGroups), (198, [none, none], zca2 Co_lookAtBarrier)]) (zget (999, 0, 0, 0) zc_Co_settle) (zcut zu_Co_settle) (zorc (ρ := ρ) [(20, [some (102, none), some (110, none)], [], zap2 (Co_settle_20 kr))]) kr (fun _ _ => none) 400 0 [some (102, a0), some (110, a1)] [] h := qg_Co_settle kr Bl_isAllWaiting Bl_writeEndedGroups Co_lookAtBarrier (Co_settle_20 kr) a0 a1 h
def zc_La_isSpoiled : List zI := [(14, 0, 0, 109), (80, 9, 11, 10), (999, 0, 0, 0), (999, 0, 0, 0), (1, 102, 0, 0), (999, 0, 0, 0), (66, 12, 18, 0), (999, 0, 0, 0), (999, 0, 0, 0), (14, 0, 0, 109), (80, 9, 11, 10), (999, 0, 0, 0), (999, 0, 0, 0), (1, 120, 0, 0), (999, 0, 0, 0), (67, 7, 22, 0), (999, 0, 0, 0), (999, 0, 0, 0), (0, 1, 0, 0), (72, 4, 23, 0), (999, 0, 0, 0), (999, 0, 0, 0), (0, 0, 0, 0), (130, 0, 1, 0)]
def zu_La_isSpoiled : List (Nat × List Bool) := [(18, [false]), (23, [false])]
set_option maxRecDepth 100000 in
theorem qg_La_isSpoiled_23 {ρ : Type} (kr : Int → zH → Option ρ) (t0 : Int) (h : zH) : (znar 1 t0 fun x1 => kr x1 h) = zseg zPP true (zcal (ρ := ρ) []) (zget (999, 0, 0, 0) zc_La_isSpoiled) (zcut zu_La_isSpoiled) (zorc (ρ := ρ) []) kr (fun _ _ => none) 400 23 [none] [(0, t0)] h := by rfl
set_option maxRecDepth 100000 in
theorem qe_La_isSpoiled_23 {ρ : Type} (kr : Int → zH → Option ρ) (t0 : Int) (h : zH) : La_isSpoiled_23 kr t0 h = zseg zPP true (zcal (ρ := ρ) []) (zget (999, 0, 0, 0) zc_La_isSpoiled) (zcut zu_La_isSpoiled) (zorc (ρ := ρ) []) kr (fun _ _ => none) 400 23 [none] [(0, t0)] h := qg_La_isSpoiled_23 kr t0 h
set_option maxRecDepth 100000 in
theorem qg_La_isSpoiled_18 {ρ : Type} (kr : Int → zH → Option ρ) (c23 : Int → zH → Option ρ) (h : zH) : (c23 1 h) = zseg zPP true (zcal (ρ := ρ) []) (zget (999, 0, 0, 0) zc_La_isSpoiled) (zcut zu_La_isSpoiled) (zorc (ρ := ρ) [(23, [none], [(0, none)], zap1 c23)]) kr (fun _ _ => none) 400 18 [none] [] h := by rfl
set_option maxRecDepth 100000 in
theorem qe_La_isSpoiled_18 {ρ : Type} (kr : Int → zH → Option ρ) (h : zH) : La_isSpoiled_18 kr h = zseg zPP true (zcal (ρ := ρ) []) (zget (999, 0, 0, 0) zc_La_isSpoiled) (zcut zu_La_isSpoiled) (zorc (ρ := ρ) [(23, [none], [(0, none)], zap1 (La_isSpoiled_23 kr))]) kr (fun _ _ => none) 400 18 [none] [] h := qg_La_isSpoiled_18 kr (La_isSpoiled_23 kr) h
set_option maxRecDepth 100000 in
theorem qg_La_isSpoiled {ρ : Type} (kr : Int → zH → Option ρ) (c18 : zH → Option ρ) (c23 : Int → zH → Option ρ) (a0 : Int) (h : zH) : (zob h 9 a0 fun p1 =>
if (zhD h 9 p1 10) = 102 then c18 h
else zob h 9 a0 fun p2 =>
if (zhD h 9 p2 10) = 120 then c18 h
else c23 0 h) = zseg zPP true (zcal (ρ := ρ) []) (zget (999, 0, 0, 0) zc_La_isSpoiled) (zcut zu_La_isSpoiled) (zorc (ρ := ρ) [(18, [none], [], zap0 c18), (23, [none], [(0, none)], zap1 c23)]) kr (fun _ _ => none) 400 0 [some (109, a0)] [] h := by rfl
set_option maxRecDepth 100000 in
theorem qe_La_isSpoiled {ρ : Type} (kr : Int → zH → Option ρ) (a0 : Int) (h : zH) : La_isSpoiled a0 h kr = zseg zPP true (zcal (ρ := ρ) []) (zget (999, 0, 0, 0) zc_La_isSpoiled) (zcut zu_La_isSpoiled) (zorc (ρ := ρ) [(18, [none], [], zap0 (La_isSpoiled_18 kr)), (23, [none], [(0, none)], zap1 (La_isSpoiled_23 kr))]) kr (fun _ _ => none) 400 0 [some (109, a0)] [] h := qg_La_isSpoiled kr (La_isSpoiled_18 kr) (La_isSpoiled_23 kr) a0 h
def zc_Le_decide : List zI := [(14, 0, 0, 109), (80, 9, 87, 2), (999, 0, 0, 0), (999, 0, 0, 0), (73, 13, 17, 0), (999, 0, 0, 0), (999, 0, 0, 0), (14, 0, 0, 109), (80, 9, 87, 2), (999, 0, 0, 0), (999, 0, 0, 0), (110, 0, 90, 232), (999, 0, 0, 0), (999, 0, 0, 0), (61, 20, 34, 0), (999, 0, 0, 0), (999, 0, 0, 0), (14, 0, 0, 109), (80, 9, 93, 3), (999, 0, 0, 0), (999, 0, 0, 0), (73, 22, 43, 0), (999, 0, 0, 0), (999, 0, 0, 0), (14, 0, 0, 109), (80, 9, 93, 3), (999, 0, 0, 0), (999, 0, 0, 0), (110, 0, 90, 232), (999, 0, 0, 0), (999, 0, 0, 0), (60, 12, 43, 0), (999, 0, 0, 0), (999, 0, 0, 0), (14, 0, 0, 109), (1, 120, 0, 0), (999, 0, 0, 0), (82, 9, 79, 10), (999, 0, 0, 0), (999, 0, 0, 0), (72, 26, 66, 0), (999, 0, 0, 0), (999, 0, 0, 0), (14, 0, 0, 109), (80, 9, 93, 3), (999, 0, 0, 0), (999, 0, 0, 0), (73, 13, 60, 0), (999, 0, 0, 0), (999, 0, 0, 0), (14, 0, 0, 109), (80, 9, 93, 3), (999, 0, 0, 0), (999, 0, 0, 0), (110, 0, 38, 231), (999, 0, 0, 0), (999, 0, 0, 0), (60, 9, 66, 0), (999, 0, 0, 0), (999, 0, 0, 0), (14, 0, 0, 109), (1, 114, 0, 0), (999, 0, 0, 0), (82, 9, 79, 10), (999, 0, 0, 0), (999, 0, 0, 0), (133, 0, 0, 0)]
def zu_Le_decide : List (Nat × List Bool) := [(17, [true]), (34, [true]), (43, [true]), (60, [true]), (66, [false])]
set_option maxRecDepth 100000 in
theorem qg_Le_decide_66 {ρ : Type} (kr : Int → zH → Option ρ) (h : zH) : (kr 0 h) = zseg zPP true (zcal (ρ := ρ) []) (zget (999, 0, 0, 0) zc_Le_decide) (zcut zu_Le_decide) (zorc (ρ := ρ) []) kr (fun _ _ => none) 400 66 [none] [] h := by rfl
set_option maxRecDepth 100000 in
theorem qe_Le_decide_66 {ρ : Type} (kr : Int → zH → Option ρ) (h : zH) : Le_decide_66 kr h = zseg zPP true (zcal (ρ := ρ) []) (zget (999, 0, 0, 0) zc_Le_decide) (zcut zu_Le_decide) (zorc (ρ := ρ) []) kr (fun _ _ => none) 400 66 [none] [] h := qg_Le_decide_66 kr h
set_option maxRecDepth 100000 in
theorem qg_Le_decide_34 {ρ : Type} (kr : Int → zH → Option ρ) (c66 : zH → Option ρ) (a0 : Int) (h : zH) : (zob h 9 a0 fun p1 =>
zlet (zset h 9 p1 10 120) fun h2 =>
c66 h2) = zseg zPP true (zcal (ρ := ρ) []) (zget (999, 0, 0, 0) zc_Le_decide) (zcut zu_Le_decide) (zorc (ρ := ρ) [(66, [none], [], zap0 c66)]) kr (fun _ _ => none) 400 34 [some (109, a0)] [] h := by rfl
set_option maxRecDepth 100000 in
theorem qe_Le_decide_34 {ρ : Type} (kr : Int → zH → Option ρ) (a0 : Int) (h : zH) : Le_decide_34 kr a0 h = zseg zPP true (zcal (ρ := ρ) []) (zget (999, 0, 0, 0) zc_Le_decide) (zcut zu_Le_decide) (zorc (ρ := ρ) [(66, [none], [], zap0 (Le_decide_66 kr))]) kr (fun _ _ => none) 400 34 [some (109, a0)] [] h := qg_Le_decide_34 kr (Le_decide_66 kr) a0 h
set_option maxRecDepth 100000 in
theorem qg_Le_decide_60 {ρ : Type} (kr : Int → zH → Option ρ) (c66 : zH → Option ρ) (a0 : Int) (h : zH) : (zob h 9 a0 fun p1 =>
zlet (zset h 9 p1 10 114) fun h2 =>
c66 h2) = zseg zPP true (zcal (ρ := ρ) []) (zget (999, 0, 0, 0) zc_Le_decide) (zcut zu_Le_decide) (zorc (ρ := ρ) [(66, [none], [], zap0 c66)]) kr (fun _ _ => none) 400 60 [some (109, a0)] [] h := by rfl
set_option maxRecDepth 100000 in
theorem qe_Le_decide_60 {ρ : Type} (kr : Int → zH → Option ρ) (a0 : Int) (h : zH) : Le_decide_60 kr a0 h = zseg zPP true (zcal (ρ := ρ) []) (zget (999, 0, 0, 0) zc_Le_decide) (zcut zu_Le_decide) (zorc (ρ := ρ) [(66, [none], [], zap0 (Le_decide_66 kr))]) kr (fun _ _ => none) 400 60 [some (109, a0)] [] h := qg_Le_decide_60 kr (Le_decide_66 kr) a0 h
set_option maxRecDepth 100000 in
theorem qg_Le_decide_43 {ρ : Type} (kr : Int → zH → Option ρ) (F_La_isOver : Int → zH → (Int → zH → Option ρ) → Option ρ) (c60 : Int → zH → Option ρ) (c66 : zH → Option ρ) (a0 : Int) (h : zH) : (zob h 9 a0 fun p1 =>
if (zhD h 9 p1 3) < 0 then c60 a0 h
else zob h 9 a0 fun p2 =>
zob h 9 (zhD h 9 p2 3) fun _ =>
F_La_isOver (zhD h 9 p2 3) h  fun v3 h4 =>
if v3 = 0 then c66 h4
else c60 a0 h4) = zseg zPP true (zcal (ρ := ρ) [(231, [none], zca1 F_La_isOver)]) (zget (999, 0, 0, 0) zc_Le_decide) (zcut zu_Le_decide) (zorc (ρ := ρ) [(60, [some (109, none)], [], zap1 c60), (66, [none], [], zap0 c66)]) kr (fun _ _ => none) 400 43 [some (109, a0)] [] h := by rfl
set_option maxRecDepth 100000 in
theorem qe_Le_decide_43 {ρ : Type} (kr : Int → zH → Option ρ) (a0 : Int) (h : zH) : Le_decide_43 kr a0 h = zseg zPP true (zcal (ρ := ρ) [(231, [none], zca1 La_isOver)]) (zget (999, 0, 0, 0) zc_Le_decide) (zcut zu_Le_decide) (zorc (ρ := ρ) [(60, [some (109, none)], [], zap1 (Le_decide_60 kr)), (66, [none], [], zap0 (Le_decide_66 kr))]) kr (fun _ _ => none) 400 43 [some (109, a0)] [] h := qg_Le_decide_43 kr La_isOver (Le_decide_60 kr) (Le_decide_66 kr) a0 h
set_option maxRecDepth 100000 in
theorem qg_Le_decide_17 {ρ : Type} (kr : Int → zH → Option ρ) (F_La_isSpoiled : Int → zH → (Int → zH → Option ρ) → Option ρ) (c34 : Int → zH → Option ρ) (c43 : Int → zH → Option ρ) (a0 : Int) (h : zH) : (zob h 9 a0 fun p1 =>
if (zhD h 9 p1 3) < 0 then c43 a0 h
else zob h 9 a0 fun p2 =>
zob h 9 (zhD h 9 p2 3) fun _ =>
F_La_isSpoiled (zhD h 9 p2 3) h  fun v3 h4 =>
if v3 = 0 then c43 a0 h4
else c34 a0 h4) = zseg zPP true (zcal (ρ := ρ) [(232, [none], zca1 F_La_isSpoiled)]) (zget (999, 0, 0, 0) zc_Le_decide) (zcut zu_Le_decide) (zorc (ρ := ρ) [(34, [some (109, none)], [], zap1 c34), (43, [some (109, none)], [], zap1 c43)]) kr (fun _ _ => none) 400 17 [some (109, a0)] [] h := by rfl
set_option maxRecDepth 100000 in
theorem qe_Le_decide_17 {ρ : Type} (kr : Int → zH → Option ρ) (a0 : Int) (h : zH) : Le_decide_17 kr a0 h = zseg zPP true (zcal (ρ := ρ) [(232, [none], zca1 La_isSpoiled)]) (zget (999, 0, 0, 0) zc_Le_decide) (zcut zu_Le_decide) (zorc (ρ := ρ) [(34, [some (109, none)], [], zap1 (Le_decide_34 kr)), (43, [some (109, none)], [], zap1 (Le_decide_43 kr))]) kr (fun _ _ => none) 400 17 [some (109, a0)] [] h := qg_Le_decide_17 kr La_isSpoiled (Le_decide_34 kr) (Le_decide_43 kr) a0 h
set_option maxRecDepth 100000 in
theorem qg_Le_decide {ρ : Type} (kr : Int → zH → Option ρ) (F_La_isSpoiled : Int → zH → (Int → zH → Option ρ) → Option ρ) (c17 : Int → zH → Option ρ) (c34 : Int → zH → Option ρ) (a0 : Int) (h : zH) : (zob h 9 a0 fun p1 =>
if (zhD h 9 p1 2) < 0 then c17 a0 h
else zob h 9 a0 fun p2 =>
zob h 9 (zhD h 9 p2 2) fun _ =>
F_La_isSpoiled (zhD h 9 p2 2) h  fun v3 h4 =>
if v3 = 0 then c17 a0 h4
else c34 a0 h4) = zseg zPP true (zcal (ρ := ρ) [(232, [none], zca1 F_La_isSpoiled)]) (zget (999, 0, 0, 0) zc_Le_decide) (zcut zu_Le_decide) (zorc (ρ := ρ) [(17, [some (109, none)], [], zap1 c17), (34, [some (109, none)], [], zap1 c34)]) kr (fun _ _ => none) 400 0 [some (109, a0)] [] h := by rfl
set_option maxRecDepth 100000 in
theorem qe_Le_decide {ρ : Type} (kr : Int → zH → Option ρ) (a0 : Int) (h : zH) : Le_decide a0 h kr = zseg zPP true (zcal (ρ := ρ) [(232, [none], zca1 La_isSpoiled)]) (zget (999, 0, 0, 0) zc_Le_decide) (zcut zu_Le_decide) (zorc (ρ := ρ) [(17, [some (109, none)], [], zap1 (Le_decide_17 kr)), (34, [some (109, none)], [], zap1 (Le_decide_34 kr))]) kr (fun _ _ => none) 400 0 [some (109, a0)] [] h := qg_Le_decide kr La_isSpoiled (Le_decide_17 kr) (Le_decide_34 kr) a0 h
def zc_Le_startIn : List zI := [(0, 0, 0, 0), (16, 0, 2, 0), (10, 0, 2, 0), (14, 0, 0, 101), (80, 1, 31, 3), (999, 0, 0, 0), (999, 0, 0, 0), (69, 55, 62, 0), (999, 0, 0, 0), (999, 0, 0, 0), (14, 0, 0, 101), (80, 1, 19, 1), (999, 0, 0, 0), (999, 0, 0, 0), (10, 0, 2, 0), (94, 0, 0, 21), (20, 0, 3, 109), (14, 0, 3, 109), (80, 9, 52, 1), (999, 0, 0, 0), (999, 0, 0, 0), (10, 0, 1, 0), (67, 34, 56, 0), (999, 0, 0, 0), (999, 0, 0, 0), (14, 0, 3, 109), (110, 0, 38, 231), (999, 0, 0, 0), (999, 0, 0, 0), (60, 6, 35, 0), (999, 0, 0, 0), (999, 0, 0, 0), (72, 24, 56, 0), (999, 0, 0, 0), (999, 0, 0, 0), (14, 0, 3, 109), (80, 9, 79, 10), (999, 0, 0, 0), (999, 0, 0, 0), (1, 113, 0, 0), (999, 0, 0, 0), (67, 7, 48, 0), (999, 0, 0, 0), (999, 0, 0, 0), (14, 0, 3, 109), (113, 0, 83, 250), (999, 0, 0, 0), (999, 0, 0, 0), (14, 0, 3, 109), (110, 0, 38, 231), (999, 0, 0, 0), (999, 0, 0, 0), (61, 4, 56, 0), (999, 0, 0, 0), (999, 0, 0, 0), (133, 0, 0, 0), (22, 1, 2, 0), (999, 0, 0, 0), (999, 0, 0, 0), (72, (-57), 2, 0), (999, 0, 0, 0), (999, 0, 0, 0), (133, 0, 0, 0)]
def zu_Le_startIn : List (Nat × List Bool) := [(2, [true, true, true, false]), (48, [true, true, true, true]), (56, [true, true, true, false])]
set_option maxRecDepth 100000 in
theorem qg_Le_startIn_56 {ρ : Type} (kr : Int → zH → Option ρ) (r2 : Int → Int → Int → zH → Option ρ) (a0 a1 a2 : Int) (h : zH) : (r2 a0 a1 (wr (a2 + 1)) h) = zseg zPP true (zcal (ρ := ρ) []) (zget (999, 0, 0, 0) zc_Le_startIn) (zcut zu_Le_startIn) (zorc (ρ := ρ) [(2, [some (101, none), some (0, none), some (0, none), none], [], zap3 r2)]) kr (fun _ _ => none) 400 56 [some (101, a0), some (0, a1), some (0, a2), none] [] h := by rfl
set_option maxRecDepth 100000 in
theorem qe_Le_startIn_56 {ρ : Type} (kr : Int → zH → Option ρ) (r2 : Int → Int → Int → zH → Option ρ) (a0 a1 a2 : Int) (h : zH) : Le_startIn_56 kr r2 a0 a1 a2 h = zseg zPP true (zcal (ρ := ρ) []) (zget (999, 0, 0, 0) zc_Le_startIn) (zcut zu_Le_startIn) (zorc (ρ := ρ) [(2, [some (101, none), some (0, none), some (0, none), none], [], zap3 r2)]) kr (fun _ _ => none) 400 56 [some (101, a0), some (0, a1), some (0, a2), none] [] h := qg_Le_startIn_56 kr r2 a0 a1 a2 h
set_option maxRecDepth 100000 in
theorem qg_Le_startIn_48 {ρ : Type} (kr : Int → zH → Option ρ) (r2 : Int → Int → Int → zH → Option ρ) (F_La_isOver : Int → zH → (Int → zH → Option ρ) → Option ρ) (c56 : Int → Int → Int → zH → Option ρ) (a0 a1 a2 a3 : Int) (h : zH) : (zob h 9 a3 fun _ =>
F_La_isOver a3 h  fun v1 h2 =>
if v1 = 0 then kr 0 h2
else c56 a0 a1 a2 h2) = zseg zPP true (zcal (ρ := ρ) [(231, [none], zca1 F_La_isOver)]) (zget (999, 0, 0, 0) zc_Le_startIn) (zcut zu_Le_startIn) (zorc (ρ := ρ) [(56, [some (101, none), some (0, none), some (0, none), none], [], zap3 c56)]) kr (fun _ _ => none) 400 48 [some (101, a0), some (0, a1), some (0, a2), some (109, a3)] [] h := by rfl
set_option maxRecDepth 100000 in
theorem qe_Le_startIn_48 {ρ : Type} (kr : Int → zH → Option ρ) (r2 : Int → Int → Int → zH → Option ρ) (a0 a1 a2 a3 : Int) (h : zH) : Le_startIn_48 kr r2 a0 a1 a2 a3 h = zseg zPP true (zcal (ρ := ρ) [(231, [none], zca1 La_isOver)]) (zget (999, 0, 0, 0) zc_Le_startIn) (zcut zu_Le_startIn) (zorc (ρ := ρ) [(56, [some (101, none), some (0, none), some (0, none), none], [], zap3 (Le_startIn_56 kr r2))]) kr (fun _ _ => none) 400 48 [some (101, a0), some (0, a1), some (0, a2), some (109, a3)] [] h := qg_Le_startIn_48 kr r2 La_isOver (Le_startIn_56 kr r2) a0 a1 a2 a3 h
set_option maxRecDepth 100000 in
theorem qg_Le_startIn_2b {ρ : Type} (kr : Int → zH → Option ρ) (r2 : Int → Int → Int → zH → Option ρ) (F_La_isOver : Int → zH → (Int → zH → Option ρ) → Option ρ) (F_Le_decide : Int → zH → (Int → zH → Option ρ) → Option ρ) (c48 : Int → Int → Int → Int → zH → Option ρ) (c56 : Int → Int → Int → zH → Option ρ) (a0 a1 a2 : Int) (h : zH) : (zob h 1 a0 fun p1 =>
if a2 < (zhD h 1 p1 3) then (zob h 1 a0 fun p2 =>
zob h 21 (zhD h 1 p2 1) fun p3 =>
zix (zhL h 21 p3) a2 fun j4 =>
zob h 9 (zhD h 21 p3 j4) fun p5 =>
if (zhD h 9 p5 1) = a1 then (zob h 9 (zhD h 21 p3 j4) fun _ =>
F_La_isOver (zhD h 21 p3 j4) h  fun v6 h7 =>
if v6 = 0 then (zob h7 9 (zhD h 21 p3 j4) fun p8 =>
if (zhD h7 9 p8 10) = 113 then (F_Le_decide (zhD h 21 p3 j4) h7  fun _ h10 =>
c48 a0 a1 a2 (zhD h 21 p3 j4) h10)
else c48 a0 a1 a2 (zhD h 21 p3 j4) h7)
else c56 a0 a1 a2 h7)
else c56 a0 a1 a2 h)
else kr 0 h) = zseg zPP true (zcal (ρ := ρ) [(231, [none], zca1 F_La_isOver), (250, [none], zca1 F_Le_decide)]) (zget (999, 0, 0, 0) zc_Le_startIn) (zcut zu_Le_startIn) (zorc (ρ := ρ) [(48, [some (101, none), some (0, none), some (0, none), some (109, none)], [], zap4 c48), (56, [some (101, none), some (0, none), some (0, none), none], [], zap3 c56)]) kr (fun _ _ => none) 400 2 [some (101, a0), some (0, a1), some (0, a2), none] [] h := by rfl
set_option maxRecDepth 100000 in
theorem qe_Le_startIn_2b {ρ : Type} (kr : Int → zH → Option ρ) (r2 : Int → Int → Int → zH → Option ρ) (a0 a1 a2 : Int) (h : zH) : Le_startIn_2b kr r2 a0 a1 a2 h = zseg zPP true (zcal (ρ := ρ) [(231, [none], zca1 La_isOver), (250, [none], zca1 Le_decide)]) (zget (999, 0, 0, 0) zc_Le_startIn) (zcut zu_Le_startIn) (zorc (ρ := ρ) [(48, [some (101, none), some (0, none), some (0, none), some (109, none)], [], zap4 (Le_startIn_48 kr r2)), (56, [some (101, none), some (0, none), some (0, none), none], [], zap3 (Le_startIn_56 kr r2))]) kr (fun _ _ => none) 400 2 [some (101, a0), some (0, a1), some (0, a2), none] [] h := qg_Le_startIn_2b kr r2 La_isOver Le_decide (Le_startIn_48 kr r2) (Le_startIn_56 kr r2) a0 a1 a2 h
set_option maxRecDepth 100000 in
theorem qg_Le_startIn {ρ : Type} (kr : Int → zH → Option ρ) (c2 : Int → Int → Int → zH → Option ρ) (a0 a1 : Int) (h : zH) : (c2 a0 a1 0 h) = zseg zPP true (zcal (ρ := ρ) []) (zget (999, 0, 0, 0) zc_Le_startIn) (zcut zu_Le_startIn) (zorc (ρ := ρ) [(2, [some (101, none), some (0, none), some (0, none), none], [], zap3 c2)]) kr (fun _ _ => none) 400 0 [some (101, a0), some (0, a1), none, none] [] h := by rfl
set_option maxRecDepth 100000 in
theorem qe_Le_startIn {ρ : Type} (kr : Int → zH → Option ρ) (a0 a1 : Int) (h : zH) : Le_startIn a0 a1 h kr = zseg zPP true (zcal (ρ := ρ) []) (zget (999, 0, 0, 0) zc_Le_startIn) (zcut zu_Le_startIn) (zorc (ρ := ρ) [(2, [some (101, none), some (0, none), some (0, none), none], [], zap3 (Le_startIn_2 kr))]) kr (fun _ _ => none) 400 0 [some (101, a0), some (0, a1), none, none] [] h := qg_Le_startIn kr (Le_startIn_2 kr) a0 a1 h
def zc_Le_startQueued : List zI := [(0, 0, 0, 0), (16, 0, 1, 0), (10, 0, 1, 0), (0, 2, 0, 0), (69, 14, 18, 0), (999, 0, 0, 0), (999, 0, 0, 0), (14, 0, 0, 101), (10, 0, 1, 0), (110, 0, 71, 249), (999, 0, 0, 0), (999, 0, 0, 0), (22, 1, 1, 0), (999, 0, 0, 0), (999, 0, 0, 0), (72, (-13), 2, 0), (999, 0, 0, 0), (999, 0, 0, 0), (0, 0, 0, 0), (16, 0, 1, 0), (10, 0, 1, 0), (14, 0, 0, 101), (80, 1, 31, 3), (999, 0, 0, 0), (999, 0, 0, 0), (69, 46, 71, 0), (999, 0, 0, 0), (999, 0, 0, 0), (14, 0, 0, 101), (80, 1, 19, 1), (999, 0, 0, 0), (999, 0, 0, 0), (10, 0, 1, 0), (94, 0, 0, 21), (80, 9, 75, 4), (999, 0, 0, 0), (999, 0, 0, 0), (73, 28, 65, 0), (999, 0, 0, 0), (999, 0, 0, 0), (14, 0, 0, 101), (80, 1, 19, 1), (999, 0, 0, 0), (999, 0, 0, 0), (10, 0, 1, 0), (94, 0, 0, 21), (80, 9, 79, 10), (999, 0, 0, 0), (999, 0, 0, 0), (1, 113, 0, 0), (999, 0, 0, 0), (67, 14, 65, 0), (999, 0, 0, 0), (999, 0, 0, 0), (14, 0, 0, 101), (80, 1, 19, 1), (999, 0, 0, 0), (999, 0, 0, 0), (10, 0, 1, 0), (94, 0, 0, 21), (1, 114, 0, 0), (999, 0, 0, 0), (82, 9, 79, 10), (999, 0, 0, 0), (999, 0, 0, 0), (22, 1, 1, 0), (999, 0, 0, 0), (999, 0, 0, 0), (72, (-48), 20, 0), (999, 0, 0, 0), (999, 0, 0, 0), (133, 0, 0, 0)]
def zu_Le_startQueued : List (Nat × List Bool) := [(2, [true, true]), (20, [true, true]), (65, [true, true])]
set_option maxRecDepth 100000 in
theorem qg_Le_startQueued_65 {ρ : Type} (kr : Int → zH → Option ρ) (r20 : Int → Int → zH → Option ρ) (a0 a1 : Int) (h : zH) : (r20 a0 (wr (a1 + 1)) h) = zseg zPP true (zcal (ρ := ρ) []) (zget (999, 0, 0, 0) zc_Le_startQueued) (zcut zu_Le_startQueued) (zorc (ρ := ρ) [(20, [some (101, none), some (0, none)], [], zap2 r20)]) kr (fun _ _ => none) 400 65 [some (101, a0), some (0, a1)] [] h := by rfl
set_option maxRecDepth 100000 in
theorem qe_Le_startQueued_65 {ρ : Type} (kr : Int → zH → Option ρ) (r20 : Int → Int → zH → Option ρ) (a0 a1 : Int) (h : zH) : Le_startQueued_65 kr r20 a0 a1 h = zseg zPP true (zcal (ρ := ρ) []) (zget (999, 0, 0, 0) zc_Le_startQueued) (zcut zu_Le_startQueued) (zorc (ρ := ρ) [(20, [some (101, none), some (0, none)], [], zap2 r20)]) kr (fun _ _ => none) 400 65 [some (101, a0), some (0, a1)] [] h := qg_Le_startQueued_65 kr r20 a0 a1 h
set_option maxRecDepth 100000 in
theorem qg_Le_startQueued_20b {ρ : Type} (kr : Int → zH → Option ρ) (r20 : Int → Int → zH → Option ρ) (c65 : Int → Int → zH → Option ρ) (a0 a1 : Int) (h : zH) : (zob h 1 a0 fun p1 =>
if a1 < (zhD h 1 p1 3) then (zob h 1 a0 fun p2 =>
zob h 21 (zhD h 1 p2 1) fun p3 =>
zix (zhL h 21 p3) a1 fun j4 =>
zob h 9 (zhD h 21 p3 j4) fun p5 =>
if (zhD h 9 p5 4) < 0 then c65 a0 a1 h
else zob h 1 a0 fun p6 =>
zob h 21 (zhD h 1 p6 1) fun p7 =>
zix (zhL h 21 p7) a1 fun j8 =>
zob h 9 (zhD h 21 p7 j8) fun p9 =>
if (zhD h 9 p9 10) = 113 then (zob h 1 a0 fun p10 =>
zob h 21 (zhD h 1 p10 1) fun p11 =>
zix (zhL h 21 p11) a1 fun j12 =>
zob h 9 (zhD h 21 p11 j12) fun p13 =>
zlet (zset h 9 p13 10 114) fun h14 =>
c65 a0 a1 h14)
else c65 a0 a1 h)
else kr 0 h) = zseg zPP true (zcal (ρ := ρ) []) (zget (999, 0, 0, 0) zc_Le_startQueued) (zcut zu_Le_startQueued) (zorc (ρ := ρ) [(65, [some (101, none), some (0, none)], [], zap2 c65)]) kr (fun _ _ => none) 400 20 [some (101, a0), some (0, a1)] [] h := by rfl
set_option maxRecDepth 100000 in
theorem qe_Le_startQueued_20b {ρ : Type} (kr : Int → zH → Option ρ) (r20 : Int → Int → zH → Option ρ) (a0 a1 : Int) (h : zH) : Le_startQueued_20b kr r20 a0 a1 h = zseg zPP true (zcal (ρ := ρ) []) (zget (999, 0, 0, 0) zc_Le_startQueued) (zcut zu_Le_startQueued) (zorc (ρ := ρ) [(65, [some (101, none), some (0, none)], [], zap2 (Le_startQueued_65 kr r20))]) kr (fun _ _ => none) 400 20 [some (101, a0), some (0, a1)] [] h := qg_Le_startQueued_20b kr r20 (Le_startQueued_65 kr r20) a0 a1 h
set_option maxRecDepth 100000 in
theorem qg_Le_startQueued_2b {ρ : Type} (kr : Int → zH → Option ρ) (r2 : Int → Int → zH → Option ρ) (F_Le_startIn : Int → Int → zH → (Int → zH → Option ρ) → Option ρ) (c20 : Int → Int → zH → Option ρ) (a0 a1 : Int) (h : zH) : (if a1 < 2 then (zob h 1 a0 fun _ =>
F_Le_startIn a0 a1 h  fun _ h2 =>
r2 a0 (wr (a1 + 1)) h2)
else c20 a0 0 h) = zseg zPP true (zcal (ρ := ρ) [(249, [none, none], zca2 F_Le_startIn)]) (zget (999, 0, 0, 0) zc_Le_startQueued) (zcut zu_Le_startQueued) (zorc (ρ := ρ) [(2, [some (101, none), some (0, none)], [], zap2 r2), (20, [some (101, none), some (0, none)], [], zap2 c20)]) kr (fun _ _ => none) 400 2 [some (101, a0), some (0, a1)] [] h := by rfl
set_option maxRecDepth 100000 in
theorem qe_Le_startQueued_2b {ρ : Type} (kr : Int → zH → Option ρ) (r2 : Int → Int → zH → Option ρ) (a0 a1 : Int) (h : zH) : Le_startQueued_2b kr r2 a0 a1 h = zseg zPP true (zcal (ρ := ρ) [(249, [none, none], zca2 Le_startIn)]) (zget (999, 0, 0, 0) zc_Le_startQueued) (zcut zu_Le_startQueued) (zorc (ρ := ρ) [(2, [some (101, none), some (0, none)], [], zap2 r2), (20, [some (101, none), some (0, none)], [], zap2 (Le_startQueued_20 kr))]) kr (fun _ _ => none) 400 2 [some (101, a0), some (0, a1)] [] h := qg_Le_startQueued_2b kr r2 Le_startIn (Le_startQueued_20 kr) a0 a1 h
set_option maxRecDepth 100000 in
theorem qg_Le_startQueued {ρ : Type} (kr : Int → zH → Option ρ) (c2 : Int → Int → zH → Option ρ) (a0 : Int) (h : zH) : (c2 a0 0 h) = zseg zPP true (zcal (ρ := ρ) []) (zget (999, 0, 0, 0) zc_Le_startQueued) (zcut zu_Le_startQueued) (zorc (ρ := ρ) [(2, [some (101, none), some (0, none)], [], zap2 c2)]) kr (fun _ _ => none) 400 0 [some (101, a0), none] [] h := by rfl
set_option maxRecDepth 100000 in
theorem qe_Le_startQueued {ρ : Type} (kr : Int → zH → Option ρ) (a0 : Int) (h : zH) : Le_startQueued a0 h kr = zseg zPP true (zcal (ρ := ρ) []) (zget (999, 0, 0, 0) zc_Le_startQueued) (zcut zu_Le_startQueued) (zorc (ρ := ρ) [(2, [some (101, none), some (0, none)], [], zap2 (Le_startQueued_2 kr))]) kr (fun _ _ => none) 400 0 [some (101, a0), none] [] h := qg_Le_startQueued kr (Le_startQueued_2 kr) a0 h
def zc_Gr_canAct : List zI := [(14, 0, 0, 111), (110, 0, 50, 205), (999, 0, 0, 0), (999, 0, 0, 0), (0, (-1), 0, 0), (66, 15, 20, 0), (999, 0, 0, 0), (999, 0, 0, 0), (10, 0, 1, 0), (14, 0, 0, 111), (80, 11, 61, 6), (999, 0, 0, 0), (999, 0, 0, 0), (68, 7, 20, 0), (999, 0, 0, 0), (999, 0, 0, 0), (0, 1, 0, 0), (72, 4, 21, 0), (999, 0, 0, 0), (999, 0, 0, 0), (0, 0, 0, 0), (130, 0, 1, 0)]
def zu_Gr_canAct : List (Nat × List Bool) := [(20, [false, false]), (21, [false, false])]
set_option maxRecDepth 100000 in
theorem qg_Gr_canAct_21 {ρ : Type} (kr : Int → zH → Option ρ) (t0 : Int) (h : zH) : (znar 1 t0 fun x1 => kr x1 h) = zseg zPP true (zcal (ρ := ρ) []) (zget (999, 0, 0, 0) zc_Gr_canAct) (zcut zu_Gr_canAct) (zorc (ρ := ρ) []) kr (fun _ _ => none) 400 21 [none, none] [(0, t0)] h := by rfl
set_option maxRecDepth 100000 in
theorem qe_Gr_canAct_21 {ρ : Type} (kr : Int → zH → Option ρ) (t0 : Int) (h : zH) : Gr_canAct_21 kr t0 h = zseg zPP true (zcal (ρ := ρ) []) (zget (999, 0, 0, 0) zc_Gr_canAct) (zcut zu_Gr_canAct) (zorc (ρ := ρ) []) kr (fun _ _ => none) 400 21 [none, none] [(0, t0)] h := qg_Gr_canAct_21 kr t0 h
set_option maxRecDepth 100000 in
theorem qg_Gr_canAct_20 {ρ : Type} (kr : Int → zH → Option ρ) (c21 : Int → zH → Option ρ) (h : zH) : (c21 0 h) = zseg zPP true (zcal (ρ := ρ) []) (zget (999, 0, 0, 0) zc_Gr_canAct) (zcut zu_Gr_canAct) (zorc (ρ := ρ) [(21, [none, none], [(0, none)], zap1 c21)]) kr (fun _ _ => none) 400 20 [none, none] [] h := by rfl
set_option maxRecDepth 100000 in
theorem qe_Gr_canAct_20 {ρ : Type} (kr : Int → zH → Option ρ) (h : zH) : Gr_canAct_20 kr h = zseg zPP true (zcal (ρ := ρ) []) (zget (999, 0, 0, 0) zc_Gr_canAct) (zcut zu_Gr_canAct) (zorc (ρ := ρ) [(21, [none, none], [(0, none)], zap1 (Gr_canAct_21 kr))]) kr (fun _ _ => none) 400 20 [none, none] [] h := qg_Gr_canAct_20 kr (Gr_canAct_21 kr) h
set_option maxRecDepth 100000 in
theorem qg_Gr_canAct {ρ : Type} (kr : Int → zH → Option ρ) (F_Gr_leastPlace : Int → zH → (Int → zH → Option ρ) → Option ρ) (c20 : zH → Option ρ) (c21 : Int → zH → Option ρ) (a0 a1 : Int) (h : zH) : (zob h 11 a0 fun _ =>
F_Gr_leastPlace a0 h  fun v1 h2 =>
if v1 = (-1) then c20 h2
else zob h2 11 a0 fun p3 =>
if a1 < (zhD h2 11 p3 6) then c20 h2
else c21 1 h2) = zseg zPP true (zcal (ρ := ρ) [(205, [none], zca1 F_Gr_leastPlace)]) (zget (999, 0, 0, 0) zc_Gr_canAct) (zcut zu_Gr_canAct) (zorc (ρ := ρ) [(20, [none, none], [], zap0 c20), (21, [none, none], [(0, none)], zap1 c21)]) kr (fun _ _ => none) 400 0 [some (111, a0), some (0, a1)] [] h := by rfl
set_option maxRecDepth 100000 in
theorem qe_Gr_canAct {ρ : Type} (kr : Int → zH → Option ρ) (a0 a1 : Int) (h : zH) : Gr_canAct a0 a1 h kr = zseg zPP true (zcal (ρ := ρ) [(205, [none], zca1 Gr_leastPlace)]) (zget (999, 0, 0, 0) zc_Gr_canAct) (zcut zu_Gr_canAct) (zorc (ρ := ρ) [(20, [none, none], [], zap0 (Gr_canAct_20 kr)), (21, [none, none], [(0, none)], zap1 (Gr_canAct_21 kr))]) kr (fun _ _ => none) 400 0 [some (111, a0), some (0, a1)] [] h := qg_Gr_canAct kr Gr_leastPlace (Gr_canAct_20 kr) (Gr_canAct_21 kr) a0 a1 h
def zc_Un_indexOfLast : List zI := [(0, 0, 0, 0), (16, 0, 1, 0), (10, 0, 1, 0), (14, 0, 0, 103), (80, 3, 21, 2), (999, 0, 0, 0), (999, 0, 0, 0), (69, 24, 31, 0), (999, 0, 0, 0), (999, 0, 0, 0), (14, 0, 0, 103), (80, 3, 11, 0), (999, 0, 0, 0), (999, 0, 0, 0), (10, 0, 1, 0), (94, 0, 0, 26), (14, 0, 0, 103), (80, 3, 85, 3), (999, 0, 0, 0), (999, 0, 0, 0), (76, 5, 25, 0), (999, 0, 0, 0), (999, 0, 0, 0), (10, 0, 1, 0), (130, 0, 0, 0), (22, 1, 1, 0), (999, 0, 0, 0), (999, 0, 0, 0), (72, (-26), 2, 0), (999, 0, 0, 0), (999, 0, 0, 0), (0, (-1), 0, 0), (130, 0, 0, 0)]
def zu_Un_indexOfLast : List (Nat × List Bool) := [(2, [true, true])]
set_option maxRecDepth 100000 in
theorem qg_Un_indexOfLast_2b {ρ : Type} (kr : Int → zH → Option ρ) (r2 : Int → Int → zH → Option ρ) (a0 a1 : Int) (h : zH) : (zob h 3 a0 fun p1 =>
if a1 < (zhD h 3 p1 2) then (zob h 3 a0 fun p2 =>
zob h 26 (zhD h 3 p2 0) fun p3 =>
zix (zhL h 26 p3) a1 fun j4 =>
zob h 3 a0 fun p5 =>
if (zhD h 26 p3 j4) = (zhD h 3 p5 3) then kr a1 h
else r2 a0 (wr (a1 + 1)) h)
else kr (-1) h) = zseg zPP true (zcal (ρ := ρ) []) (zget (999, 0, 0, 0) zc_Un_indexOfLast) (zcut zu_Un_indexOfLast) (zorc (ρ := ρ) [(2, [some (103, none), some (0, none)], [], zap2 r2)]) kr (fun _ _ => none) 400 2 [some (103, a0), some (0, a1)] [] h := by rfl
set_option maxRecDepth 100000 in
theorem qe_Un_indexOfLast_2b {ρ : Type} (kr : Int → zH → Option ρ) (r2 : Int → Int → zH → Option ρ) (a0 a1 : Int) (h : zH) : Un_indexOfLast_2b kr r2 a0 a1 h = zseg zPP true (zcal (ρ := ρ) []) (zget (999, 0, 0, 0) zc_Un_indexOfLast) (zcut zu_Un_indexOfLast) (zorc (ρ := ρ) [(2, [some (103, none), some (0, none)], [], zap2 r2)]) kr (fun _ _ => none) 400 2 [some (103, a0), some (0, a1)] [] h := qg_Un_indexOfLast_2b kr r2 a0 a1 h
set_option maxRecDepth 100000 in
theorem qg_Un_indexOfLast {ρ : Type} (kr : Int → zH → Option ρ) (c2 : Int → Int → zH → Option ρ) (a0 : Int) (h : zH) : (c2 a0 0 h) = zseg zPP true (zcal (ρ := ρ) []) (zget (999, 0, 0, 0) zc_Un_indexOfLast) (zcut zu_Un_indexOfLast) (zorc (ρ := ρ) [(2, [some (103, none), some (0, none)], [], zap2 c2)]) kr (fun _ _ => none) 400 0 [some (103, a0), none] [] h := by rfl
set_option maxRecDepth 100000 in
theorem qe_Un_indexOfLast {ρ : Type} (kr : Int → zH → Option ρ) (a0 : Int) (h : zH) : Un_indexOfLast a0 h kr = zseg zPP true (zcal (ρ := ρ) []) (zget (999, 0, 0, 0) zc_Un_indexOfLast) (zcut zu_Un_indexOfLast) (zorc (ρ := ρ) [(2, [some (103, none), some (0, none)], [], zap2 (Un_indexOfLast_2 kr))]) kr (fun _ _ => none) 400 0 [some (103, a0), none] [] h := qg_Un_indexOfLast kr (Un_indexOfLast_2 kr) a0 h
def zc_Un_choose : List zI := [(10, 0, 1, 0), (1, 97, 0, 0), (999, 0, 0, 0), (67, 12, 15, 0), (999, 0, 0, 0), (999, 0, 0, 0), (14, 0, 0, 103), (110, 0, 78, 286), (999, 0, 0, 0), (999, 0, 0, 0), (0, 1, 0, 0), (30, 0, 0, 0), (72, 4, 16, 0), (999, 0, 0, 0), (999, 0, 0, 0), (0, 0, 0, 0), (16, 0, 3, 0), (0, 0, 0, 0), (17, 0, 4, 0), (999, 0, 0, 0), (11, 0, 4, 0), (999, 0, 0, 0), (14, 0, 0, 103), (80, 3, 21, 2), (999, 0, 0, 0), (999, 0, 0, 0), (69, 68, 94, 0), (999, 0, 0, 0), (999, 0, 0, 0), (10, 0, 1, 0), (1, 121, 0, 0), (999, 0, 0, 0), (67, 15, 47, 0), (999, 0, 0, 0), (999, 0, 0, 0), (14, 0, 0, 103), (80, 3, 21, 2), (999, 0, 0, 0), (999, 0, 0, 0), (0, 1, 0, 0), (31, 0, 0, 0), (11, 0, 4, 0), (999, 0, 0, 0), (31, 0, 0, 0), (72, 12, 56, 0), (999, 0, 0, 0), (999, 0, 0, 0), (10, 0, 3, 0), (11, 0, 4, 0), (999, 0, 0, 0), (30, 0, 0, 0), (14, 0, 0, 103), (80, 3, 21, 2), (999, 0, 0, 0), (999, 0, 0, 0), (34, 0, 0, 0), (17, 0, 5, 0), (999, 0, 0, 0), (14, 0, 0, 103), (80, 3, 11, 0), (999, 0, 0, 0), (999, 0, 0, 0), (11, 0, 5, 0), (999, 0, 0, 0), (94, 0, 0, 26), (10, 0, 2, 0), (110, 0, 81, 210), (999, 0, 0, 0), (999, 0, 0, 0), (60, 19, 88, 0), (999, 0, 0, 0), (999, 0, 0, 0), (14, 0, 0, 103), (14, 0, 0, 103), (80, 3, 11, 0), (999, 0, 0, 0), (999, 0, 0, 0), (11, 0, 5, 0), (999, 0, 0, 0), (94, 0, 0, 26), (82, 3, 85, 3), (999, 0, 0, 0), (999, 0, 0, 0), (14, 0, 0, 103), (80, 3, 85, 3), (999, 0, 0, 0), (999, 0, 0, 0), (132, 0, 0, 111), (22, 1, 4, 0), (999, 0, 0, 0), (999, 0, 0, 0), (72, (-71), 20, 0), (999, 0, 0, 0), (999, 0, 0, 0), (7, 0, 0, 111), (132, 0, 0, 111)]
def zu_Un_choose : List (Nat × List Bool) := [(16, [true, true, true, false, false, false]), (20, [true, true, true, true, true, false]), (56, [true, true, true, true, true, false])]
set_option maxRecDepth 100000 in
theorem qg_Un_choose_56 {ρ : Type} (kr : Int → zH → Option ρ) (r20 : Int → Int → Int → Int → Int → zH → Option ρ) (F_Gr_canAct : Int → Int → zH → (Int → zH → Option ρ) → Option ρ) (a0 a1 a2 a3 a4 t0 : Int) (h : zH) : (zob h 3 a0 fun p1 =>
zob h 26 (zhD h 3 p1 0) fun p2 =>
zix (zhL h 26 p2) t0 fun j3 =>
zob h 11 (zhD h 26 p2 j3) fun _ =>
F_Gr_canAct (zhD h 26 p2 j3) a2 h  fun v4 h5 =>
if v4 = 0 then r20 a0 a1 a2 a3 (wr (a4 + 1)) h5
else zob h5 3 a0 fun p6 =>
zob h5 26 (zhD h5 3 p6 0) fun p7 =>
zix (zhL h5 26 p7) t0 fun j8 =>
zob h5 3 a0 fun p9 =>
zlet (zset h5 3 p9 3 (zhD h5 26 p7 j8)) fun h10 =>
zob h10 3 a0 fun p11 =>
kr (zhD h10 3 p11 3) h10) = zseg zPP true (zcal (ρ := ρ) [(210, [none, none], zca2 F_Gr_canAct)]) (zget (999, 0, 0, 0) zc_Un_choose) (zcut zu_Un_choose) (zorc (ρ := ρ) [(20, [some (103, none), some (0, none), some (0, none), some (0, none), some (0, none), none], [], zap5 r20)]) kr (fun _ _ => none) 400 56 [some (103, a0), some (0, a1), some (0, a2), some (0, a3), some (0, a4), none] [(0, t0)] h := by rfl
set_option maxRecDepth 100000 in
theorem qe_Un_choose_56 {ρ : Type} (kr : Int → zH → Option ρ) (r20 : Int → Int → Int → Int → Int → zH → Option ρ) (a0 a1 a2 a3 a4 t0 : Int) (h : zH) : Un_choose_56 kr r20 a0 a1 a2 a3 a4 t0 h = zseg zPP true (zcal (ρ := ρ) [(210, [none, none], zca2 Gr_canAct)]) (zget (999, 0, 0, 0) zc_Un_choose) (zcut zu_Un_choose) (zorc (ρ := ρ) [(20, [some (103, none), some (0, none), some (0, none), some (0, none), some (0, none), none], [], zap5 r20)]) kr (fun _ _ => none) 400 56 [some (103, a0), some (0, a1), some (0, a2), some (0, a3), some (0, a4), none] [(0, t0)] h := qg_Un_choose_56 kr r20 Gr_canAct a0 a1 a2 a3 a4 t0 h
set_option maxRecDepth 100000 in
theorem qg_Un_choose_20b {ρ : Type} (kr : Int → zH → Option ρ) (r20 : Int → Int → Int → Int → Int → zH → Option ρ) (c56 : Int → Int → Int → Int → Int → Int → zH → Option ρ) (a0 a1 a2 a3 a4 : Int) (h : zH) : (zob h 3 a0 fun p1 =>
if a4 < (zhD h 3 p1 2) then (if a1 = 121 then (zob h 3 a0 fun p3 =>
c56 a0 a1 a2 a3 a4 (wr ((wr ((zhD h 3 p3 2) - 1)) - a4)) h)
else zob h 3 a0 fun p2 =>
if zhD h 3 p2 2 = 0 then none else c56 a0 a1 a2 a3 a4 (Int.tmod (wr (a3 + a4)) (zhD h 3 p2 2)) h)
else kr (-1) h) = zseg zPP true (zcal (ρ := ρ) []) (zget (999, 0, 0, 0) zc_Un_choose) (zcut zu_Un_choose) (zorc (ρ := ρ) [(56, [some (103, none), some (0, none), some (0, none), some (0, none), some (0, none), none], [(0, none)], zap6 c56)]) kr (fun _ _ => none) 400 20 [some (103, a0), some (0, a1), some (0, a2), some (0, a3), some (0, a4), none] [] h := by rfl
set_option maxRecDepth 100000 in
theorem qe_Un_choose_20b {ρ : Type} (kr : Int → zH → Option ρ) (r20 : Int → Int → Int → Int → Int → zH → Option ρ) (a0 a1 a2 a3 a4 : Int) (h : zH) : Un_choose_20b kr r20 a0 a1 a2 a3 a4 h = zseg zPP true (zcal (ρ := ρ) []) (zget (999, 0, 0, 0) zc_Un_choose) (zcut zu_Un_choose) (zorc (ρ := ρ) [(56, [some (103, none), some (0, none), some (0, none), some (0, none), some (0, none), none], [(0, none)], zap6 (Un_choose_56 kr r20))]) kr (fun _ _ => none) 400 20 [some (103, a0), some (0, a1), some (0, a2), some (0, a3), some (0, a4), none] [] h := qg_Un_choose_20b kr r20 (Un_choose_56 kr r20) a0 a1 a2 a3 a4 h
set_option maxRecDepth 100000 in
theorem qg_Un_choose_16 {ρ : Type} (kr : Int → zH → Option ρ) (c20 : Int → Int → Int → Int → Int → zH → Option ρ) (a0 a1 a2 t0 : Int) (h : zH) : (c20 a0 a1 a2 t0 0 h) = zseg zPP true (zcal (ρ := ρ) []) (zget (999, 0, 0, 0) zc_Un_choose) (zcut zu_Un_choose) (zorc (ρ := ρ) [(20, [some (103, none), some (0, none), some (0, none), some (0, none), some (0, none), none], [], zap5 c20)]) kr (fun _ _ => none) 400 16 [some (103, a0), some (0, a1), some (0, a2), none, none, none] [(0, t0)] h := by rfl
set_option maxRecDepth 100000 in
theorem qe_Un_choose_16 {ρ : Type} (kr : Int → zH → Option ρ) (a0 a1 a2 t0 : Int) (h : zH) : Un_choose_16 kr a0 a1 a2 t0 h = zseg zPP true (zcal (ρ := ρ) []) (zget (999, 0, 0, 0) zc_Un_choose) (zcut zu_Un_choose) (zorc (ρ := ρ) [(20, [some (103, none), some (0, none), some (0, none), some (0, none), some (0, none), none], [], zap5 (Un_choose_20 kr))]) kr (fun _ _ => none) 400 16 [some (103, a0), some (0, a1), some (0, a2), none, none, none] [(0, t0)] h := qg_Un_choose_16 kr (Un_choose_20 kr) a0 a1 a2 t0 h
set_option maxRecDepth 100000 in
theorem qg_Un_choose {ρ : Type} (kr : Int → zH → Option ρ) (F_Un_indexOfLast : Int → zH → (Int → zH → Option ρ) → Option ρ) (c16 : Int → Int → Int → Int → zH → Option ρ) (a0 a1 a2 : Int) (h : zH) : (if a1 = 97 then (zob h 3 a0 fun _ =>
F_Un_indexOfLast a0 h  fun v1 h2 =>
c16 a0 a1 a2 (wr (v1 + 1)) h2)
else c16 a0 a1 a2 0 h) = zseg zPP true (zcal (ρ := ρ) [(286, [none], zca1 F_Un_indexOfLast)]) (zget (999, 0, 0, 0) zc_Un_choose) (zcut zu_Un_choose) (zorc (ρ := ρ) [(16, [some (103, none), some (0, none), some (0, none), none, none, none], [(0, none)], zap4 c16)]) kr (fun _ _ => none) 400 0 [some (103, a0), some (0, a1), some (0, a2), none, none, none] [] h := by rfl
set_option maxRecDepth 100000 in
theorem qe_Un_choose {ρ : Type} (kr : Int → zH → Option ρ) (a0 a1 a2 : Int) (h : zH) : Un_choose a0 a1 a2 h kr = zseg zPP true (zcal (ρ := ρ) [(286, [none], zca1 Un_indexOfLast)]) (zget (999, 0, 0, 0) zc_Un_choose) (zcut zu_Un_choose) (zorc (ρ := ρ) [(16, [some (103, none), some (0, none), some (0, none), none, none, none], [(0, none)], zap4 (Un_choose_16 kr))]) kr (fun _ _ => none) 400 0 [some (103, a0), some (0, a1), some (0, a2), none, none, none] [] h := qg_Un_choose kr Un_indexOfLast (Un_choose_16 kr) a0 a1 a2 h
def zc_Co_letCycleCome : List zI := [(14, 0, 0, 102), (80, 2, 39, 0), (999, 0, 0, 0), (999, 0, 0, 0), (110, 0, 43, 248), (999, 0, 0, 0), (999, 0, 0, 0), (14, 0, 0, 102), (110, 0, 48, 181), (999, 0, 0, 0), (999, 0, 0, 0), (14, 0, 0, 102), (110, 0, 51, 182), (999, 0, 0, 0), (999, 0, 0, 0), (0, 0, 0, 0), (16, 0, 1, 0), (10, 0, 1, 0), (0, 2, 0, 0), (69, 53, 72, 0), (999, 0, 0, 0), (999, 0, 0, 0), (14, 0, 0, 102), (80, 2, 18, 2), (999, 0, 0, 0), (999, 0, 0, 0), (10, 0, 1, 0), (94, 0, 0, 23), (14, 0, 0, 102), (80, 2, 29, 5), (999, 0, 0, 0), (999, 0, 0, 0), (14, 0, 0, 102), (80, 2, 54, 4), (999, 0, 0, 0), (999, 0, 0, 0), (110, 0, 58, 285), (999, 0, 0, 0), (999, 0, 0, 0), (20, 0, 2, 111), (14, 0, 2, 111), (73, 25, 66, 0), (999, 0, 0, 0), (999, 0, 0, 0), (14, 0, 0, 102), (14, 0, 0, 102), (80, 2, 18, 2), (999, 0, 0, 0), (999, 0, 0, 0), (10, 0, 1, 0), (94, 0, 0, 23), (14, 0, 2, 111), (110, 0, 62, 186), (999, 0, 0, 0), (999, 0, 0, 0), (60, 11, 66, 0), (999, 0, 0, 0), (999, 0, 0, 0), (14, 0, 0, 102), (14, 0, 2, 111), (80, 11, 66, 0), (999, 0, 0, 0), (999, 0, 0, 0), (110, 0, 72, 197), (999, 0, 0, 0), (999, 0, 0, 0), (22, 1, 1, 0), (999, 0, 0, 0), (999, 0, 0, 0), (72, (-52), 17, 0), (999, 0, 0, 0), (999, 0, 0, 0), (14, 0, 0, 102), (80, 2, 54, 4), (999, 0, 0, 0), (999, 0, 0, 0), (0, 3, 0, 0), (34, 0, 0, 0), (0, 2, 0, 0), (67, 7, 86, 0), (999, 0, 0, 0), (999, 0, 0, 0), (14, 0, 0, 102), (110, 0, 76, 185), (999, 0, 0, 0), (999, 0, 0, 0), (14, 0, 0, 102), (50, 0, 0, 0), (80, 2, 54, 4), (999, 0, 0, 0), (999, 0, 0, 0), (0, 1, 0, 0), (30, 0, 0, 0), (82, 2, 54, 4), (999, 0, 0, 0), (999, 0, 0, 0), (133, 0, 0, 0)]
def zu_Co_letCycleCome : List (Nat × List Bool) := [(17, [true, true, false]), (66, [true, true, false]), (86, [true, false, false])]
set_option maxRecDepth 100000 in
theorem qg_Co_letCycleCome_66 {ρ : Type} (kr : Int → zH → Option ρ) (r17 : Int → Int → zH → Option ρ) (a0 a1 : Int) (h : zH) : (r17 a0 (wr (a1 + 1)) h) = zseg zPP true (zcal (ρ := ρ) []) (zget (999, 0, 0, 0) zc_Co_letCycleCome) (zcut zu_Co_letCycleCome) (zorc (ρ := ρ) [(17, [some (102, none), some (0, none), none], [], zap2 r17)]) kr (fun _ _ => none) 400 66 [some (102, a0), some (0, a1), none] [] h := by rfl
set_option maxRecDepth 100000 in
theorem qe_Co_letCycleCome_66 {ρ : Type} (kr : Int → zH → Option ρ) (r17 : Int → Int → zH → Option ρ) (a0 a1 : Int) (h : zH) : Co_letCycleCome_66 kr r17 a0 a1 h = zseg zPP true (zcal (ρ := ρ) []) (zget (999, 0, 0, 0) zc_Co_letCycleCome) (zcut zu_Co_letCycleCome) (zorc (ρ := ρ) [(17, [some (102, none), some (0, none), none], [], zap2 r17)]) kr (fun _ _ => none) 400 66 [some (102, a0), some (0, a1), none] [] h := qg_Co_letCycleCome_66 kr r17 a0 a1 h
set_option maxRecDepth 100000 in
theorem qg_Co_letCycleCome_86 {ρ : Type} (kr : Int → zH → Option ρ) (a0 : Int) (h : zH) : (zob h 2 a0 fun p1 =>
zob h 2 a0 fun p2 =>
zlet (zset h 2 p2 4 (wr ((zhD h 2 p1 4) + 1))) fun h3 =>
kr 0 h3) = zseg zPP true (zcal (ρ := ρ) []) (zget (999, 0, 0, 0) zc_Co_letCycleCome) (zcut zu_Co_letCycleCome) (zorc (ρ := ρ) []) kr (fun _ _ => none) 400 86 [some (102, a0), none, none] [] h := by rfl
set_option maxRecDepth 100000 in
theorem qe_Co_letCycleCome_86 {ρ : Type} (kr : Int → zH → Option ρ) (a0 : Int) (h : zH) : Co_letCycleCome_86 kr a0 h = zseg zPP true (zcal (ρ := ρ) []) (zget (999, 0, 0, 0) zc_Co_letCycleCome) (zcut zu_Co_letCycleCome) (zorc (ρ := ρ) []) kr (fun _ _ => none) 400 86 [some (102, a0), none, none] [] h := qg_Co_letCycleCome_86 kr a0 h
set_option maxRecDepth 100000 in
theorem qg_Co_letCycleCome_17b {ρ : Type} (kr : Int → zH → Option ρ) (r17 : Int → Int → zH → Option ρ) (F_Co_writeFirstOfBuffers : Int → zH → (Int → zH → Option ρ) → Option ρ) (F_Co_carryOut : Int → Int → Int → zH → (Int → zH → Option ρ) → Option ρ) (F_Co_settle : Int → Int → zH → (Int → zH → Option ρ) → Option ρ) (F_Un_choose : Int → Int → Int → zH → (Int → zH → Option ρ) → Option ρ) (c66 : Int → Int → zH → Option ρ) (c86 : Int → zH → Option ρ) (a0 a1 : Int) (h : zH) : (if a1 < 2 then (zob h 2 a0 fun p4 =>
zob h 23 (zhD h 2 p4 2) fun p5 =>
zix (zhL h 23 p5) a1 fun j6 =>
zob h 2 a0 fun p7 =>
zob h 2 a0 fun p8 =>
zob h 3 (zhD h 23 p5 j6) fun _ =>
F_Un_choose (zhD h 23 p5 j6) (zhD h 2 p7 5) (zhD h 2 p8 4) h  fun v9 h10 =>
if v9 < 0 then c66 a0 a1 h10
else zob h10 2 a0 fun p11 =>
zob h10 23 (zhD h10 2 p11 2) fun p12 =>
zix (zhL h10 23 p12) a1 fun j13 =>
zob h10 2 a0 fun _ =>
F_Co_carryOut a0 (zhD h10 23 p12 j13) v9 h10  fun v14 h15 =>
if v14 = 0 then c66 a0 a1 h15
else zob h15 11 v9 fun p16 =>
zob h15 2 a0 fun _ =>
F_Co_settle a0 (zhD h15 11 p16 0) h15  fun _ h18 =>
c66 a0 a1 h18)
else zob h 2 a0 fun p1 =>
if (Int.tmod (zhD h 2 p1 4) 3) = 2 then (zob h 2 a0 fun _ =>
F_Co_writeFirstOfBuffers a0 h  fun _ h3 =>
c86 a0 h3)
else c86 a0 h) = zseg zPP true (zcal (ρ := ρ) [(185, [none], zca1 F_Co_writeFirstOfBuffers), (186, [none, none, none], zca3 F_Co_carryOut), (197, [none, none], zca2 F_Co_settle), (285, [none, none, none], zca3 F_Un_choose)]) (zget (999, 0, 0, 0) zc_Co_letCycleCome) (zcut zu_Co_letCycleCome) (zorc (ρ := ρ) [(66, [some (102, none), some (0, none), none], [], zap2 c66), (86, [some (102, none), none, none], [], zap1 c86)]) kr (fun _ _ => none) 400 17 [some (102, a0), some (0, a1), none] [] h := by rfl
set_option maxRecDepth 100000 in
theorem qe_Co_letCycleCome_17b {ρ : Type} (kr : Int → zH → Option ρ) (r17 : Int → Int → zH → Option ρ) (a0 a1 : Int) (h : zH) : Co_letCycleCome_17b kr r17 a0 a1 h = zseg zPP true (zcal (ρ := ρ) [(185, [none], zca1 Co_writeFirstOfBuffers), (186, [none, none, none], zca3 Co_carryOut), (197, [none, none], zca2 Co_settle), (285, [none, none, none], zca3 Un_choose)]) (zget (999, 0, 0, 0) zc_Co_letCycleCome) (zcut zu_Co_letCycleCome) (zorc (ρ := ρ) [(66, [some (102, none), some (0, none), none], [], zap2 (Co_letCycleCome_66 kr r17)), (86, [some (102, none), none, none], [], zap1 (Co_letCycleCome_86 kr))]) kr (fun _ _ => none) 400 17 [some (102, a0), some (0, a1), none] [] h := qg_Co_letCycleCome_17b kr r17 Co_writeFirstOfBuffers Co_carryOut Co_settle Un_choose (Co_letCycleCome_66 kr r17) (Co_letCycleCome_86 kr) a0 a1 h
set_option maxRecDepth 100000 in
theorem qg_Co_letCycleCome {ρ : Type} (kr : Int → zH → Option ρ) (F_Co_moveCopies : Int → zH → (Int → zH → Option ρ) → Option ρ) (F_Co_giveBlocks : Int → zH → (Int → zH → Option ρ) → Option ρ) (F_Le_startQueued : Int → zH → (Int → zH → Option ρ) → Option ρ) (c17 : Int → Int → zH → Option ρ) (a0 : Int) (h : zH) : (zob h 2 a0 fun p1 =>
zob h 1 (zhD h 2 p1 0) fun _ =>
F_Le_startQueued (zhD h 2 p1 0) h  fun _ h3 =>
zob h3 2 a0 fun _ =>
F_Co_moveCopies a0 h3  fun _ h5 =>
zob h5 2 a0 fun _ =>
F_Co_giveBlocks a0 h5  fun _ h7 =>
c17 a0 0 h7) = zseg zPP true (zcal (ρ := ρ) [(181, [none], zca1 F_Co_moveCopies), (182, [none], zca1 F_Co_giveBlocks), (248, [none], zca1 F_Le_startQueued)]) (zget (999, 0, 0, 0) zc_Co_letCycleCome) (zcut zu_Co_letCycleCome) (zorc (ρ := ρ) [(17, [some (102, none), some (0, none), none], [], zap2 c17)]) kr (fun _ _ => none) 400 0 [some (102, a0), none, none] [] h := by rfl
set_option maxRecDepth 100000 in
theorem qe_Co_letCycleCome {ρ : Type} (kr : Int → zH → Option ρ) (a0 : Int) (h : zH) : Co_letCycleCome a0 h kr = zseg zPP true (zcal (ρ := ρ) [(181, [none], zca1 Co_moveCopies), (182, [none], zca1 Co_giveBlocks), (248, [none], zca1 Le_startQueued)]) (zget (999, 0, 0, 0) zc_Co_letCycleCome) (zcut zu_Co_letCycleCome) (zorc (ρ := ρ) [(17, [some (102, none), some (0, none), none], [], zap2 (Co_letCycleCome_17 kr))]) kr (fun _ _ => none) 400 0 [some (102, a0), none, none] [] h := qg_Co_letCycleCome kr Co_moveCopies Co_giveBlocks Le_startQueued (Co_letCycleCome_17 kr) a0 h
def zc_X_step : List zI := [(10, 0, 1, 0), (0, 1, 0, 0), (1, 100, 0, 0), (999, 0, 0, 0), (113, 0, 32, 54), (999, 0, 0, 0), (999, 0, 0, 0), (61, 11, 18, 0), (999, 0, 0, 0), (999, 0, 0, 0), (134, 38, 36, 1), (999, 0, 0, 0), (999, 0, 0, 0), (999, 0, 0, 0), (999, 0, 0, 0), (999, 0, 0, 0), (999, 0, 0, 0), (999, 0, 0, 0), (14, 0, 0, 100), (80, 0, 21, 1), (999, 0, 0, 0), (999, 0, 0, 0), (80, 2, 141, 3), (999, 0, 0, 0), (999, 0, 0, 0), (80, 4, 145, 0), (999, 0, 0, 0), (999, 0, 0, 0), (18, 0, 2, 0), (0, 0, 0, 0), (17, 0, 4, 0), (999, 0, 0, 0), (11, 0, 4, 0), (999, 0, 0, 0), (10, 0, 1, 0), (69, 16, 51, 0), (999, 0, 0, 0), (999, 0, 0, 0), (14, 0, 0, 100), (80, 0, 21, 1), (999, 0, 0, 0), (999, 0, 0, 0), (110, 0, 151, 180), (999, 0, 0, 0), (999, 0, 0, 0), (22, 1, 4, 0), (999, 0, 0, 0), (999, 0, 0, 0), (72, (-16), 32, 0), (999, 0, 0, 0), (999, 0, 0, 0), (14, 0, 0, 100), (80, 0, 21, 1), (999, 0, 0, 0), (999, 0, 0, 0), (80, 2, 141, 3), (999, 0, 0, 0), (999, 0, 0, 0), (80, 4, 145, 0), (999, 0, 0, 0), (999, 0, 0, 0), (12, 0, 2, 0), (46, 0, 0, 0), (43, 0, 0, 0), (130, 0, 0, 0)]
def zu_X_step : List (Nat × List Bool) := [(32, [true, true, true, false, true])]
set_option maxRecDepth 100000 in
theorem qg_X_step_32b {ρ : Type} (kr : Int → zH → Option ρ) (kt : Nat → zH → Option ρ) (r32 : Int → Int → Int → Int → zH → Option ρ) (F_Co_letCycleCome : Int → zH → (Int → zH → Option ρ) → Option ρ) (a0 a1 a2 a4 : Int) (h : zH) : (if a4 < a1 then (zob h 0 a0 fun p4 =>
zob h 2 (zhD h 0 p4 1) fun _ =>
F_Co_letCycleCome (zhD h 0 p4 1) h  fun _ h6 =>
r32 a0 a1 a2 (wr (a4 + 1)) h6)
else zob h 0 a0 fun p1 =>
zob h 2 (zhD h 0 p1 1) fun p2 =>
zob h 4 (zhD h 2 p2 3) fun p3 =>
kr (wr (wrl ((zhD h 4 p3 0) - a2))) h) = zseg zPP true (zcal (ρ := ρ) [(180, [none], zca1 F_Co_letCycleCome)]) (zget (999, 0, 0, 0) zc_X_step) (zcut zu_X_step) (zorc (ρ := ρ) [(32, [some (100, none), some (0, none), some (1, none), none, some (0, none)], [], zap4 r32)]) kr kt 400 32 [some (100, a0), some (0, a1), some (1, a2), none, some (0, a4)] [] h := by rfl
set_option maxRecDepth 100000 in
theorem qe_X_step_32b {ρ : Type} (kr : Int → zH → Option ρ) (kt : Nat → zH → Option ρ) (r32 : Int → Int → Int → Int → zH → Option ρ) (a0 a1 a2 a4 : Int) (h : zH) : X_step_32b kr kt r32 a0 a1 a2 a4 h = zseg zPP true (zcal (ρ := ρ) [(180, [none], zca1 Co_letCycleCome)]) (zget (999, 0, 0, 0) zc_X_step) (zcut zu_X_step) (zorc (ρ := ρ) [(32, [some (100, none), some (0, none), some (1, none), none, some (0, none)], [], zap4 r32)]) kr kt 400 32 [some (100, a0), some (0, a1), some (1, a2), none, some (0, a4)] [] h := qg_X_step_32b kr kt r32 Co_letCycleCome a0 a1 a2 a4 h
set_option maxRecDepth 100000 in
theorem qg_X_step {ρ : Type} (kr : Int → zH → Option ρ) (kt : Nat → zH → Option ρ) (F_X_isWithin : Int → Int → Int → zH → (Int → zH → Option ρ) → Option ρ) (c32 : Int → Int → Int → Int → zH → Option ρ) (a0 a1 : Int) (h : zH) : (F_X_isWithin a1 1 100 h  fun v1 h2 =>
if v1 = 0 then zlet (zthrown h2) fun h6 => kt 1 h6
else zob h2 0 a0 fun p3 =>
zob h2 2 (zhD h2 0 p3 1) fun p4 =>
zob h2 4 (zhD h2 2 p4 3) fun p5 =>
c32 a0 a1 (zhD h2 4 p5 0) 0 h2) = zseg zPP true (zcal (ρ := ρ) [(54, [none, none, none], zca3 F_X_isWithin)]) (zget (999, 0, 0, 0) zc_X_step) (zcut zu_X_step) (zorc (ρ := ρ) [(32, [some (100, none), some (0, none), some (1, none), none, some (0, none)], [], zap4 c32)]) kr kt 400 0 [some (100, a0), some (0, a1), none, none, none] [] h := by rfl
set_option maxRecDepth 100000 in
theorem qe_X_step {ρ : Type} (kr : Int → zH → Option ρ) (kt : Nat → zH → Option ρ) (a0 a1 : Int) (h : zH) : X_step a0 a1 h kt kr = zseg zPP true (zcal (ρ := ρ) [(54, [none, none, none], zca3 X_isWithin)]) (zget (999, 0, 0, 0) zc_X_step) (zcut zu_X_step) (zorc (ρ := ρ) [(32, [some (100, none), some (0, none), some (1, none), none, some (0, none)], [], zap4 (X_step_32 kr kt))]) kr kt 400 0 [some (100, a0), some (0, a1), none, none, none] [] h := qg_X_step kr kt X_isWithin (X_step_32 kr kt) a0 a1 h
def zc_Le_isAllOver : List zI := [(0, 0, 0, 0), (16, 0, 1, 0), (10, 0, 1, 0), (14, 0, 0, 101), (80, 1, 31, 3), (999, 0, 0, 0), (999, 0, 0, 0), (69, 23, 30, 0), (999, 0, 0, 0), (999, 0, 0, 0), (14, 0, 0, 101), (80, 1, 19, 1), (999, 0, 0, 0), (999, 0, 0, 0), (10, 0, 1, 0), (94, 0, 0, 21), (110, 0, 38, 231), (999, 0, 0, 0), (999, 0, 0, 0), (61, 5, 24, 0), (999, 0, 0, 0), (999, 0, 0, 0), (0, 0, 0, 0), (130, 0, 1, 0), (22, 1, 1, 0), (999, 0, 0, 0), (999, 0, 0, 0), (72, (-25), 2, 0), (999, 0, 0, 0), (999, 0, 0, 0), (0, 1, 0, 0), (130, 0, 1, 0)]
def zu_Le_isAllOver : List (Nat × List Bool) := [(2, [true, true])]
set_option maxRecDepth 100000 in
theorem qg_Le_isAllOver_2b {ρ : Type} (kr : Int → zH → Option ρ) (r2 : Int → Int → zH → Option ρ) (F_La_isOver : Int → zH → (Int → zH → Option ρ) → Option ρ) (a0 a1 : Int) (h : zH) : (zob h 1 a0 fun p1 =>
if a1 < (zhD h 1 p1 3) then (zob h 1 a0 fun p2 =>
zob h 21 (zhD h 1 p2 1) fun p3 =>
zix (zhL h 21 p3) a1 fun j4 =>
zob h 9 (zhD h 21 p3 j4) fun _ =>
F_La_isOver (zhD h 21 p3 j4) h  fun v5 h6 =>
if v5 = 0 then kr 0 h6
else r2 a0 (wr (a1 + 1)) h6)
else kr 1 h) = zseg zPP true (zcal (ρ := ρ) [(231, [none], zca1 F_La_isOver)]) (zget (999, 0, 0, 0) zc_Le_isAllOver) (zcut zu_Le_isAllOver) (zorc (ρ := ρ) [(2, [some (101, none), some (0, none)], [], zap2 r2)]) kr (fun _ _ => none) 400 2 [some (101, a0), some (0, a1)] [] h := by rfl
set_option maxRecDepth 100000 in
theorem qe_Le_isAllOver_2b {ρ : Type} (kr : Int → zH → Option ρ) (r2 : Int → Int → zH → Option ρ) (a0 a1 : Int) (h : zH) : Le_isAllOver_2b kr r2 a0 a1 h = zseg zPP true (zcal (ρ := ρ) [(231, [none], zca1 La_isOver)]) (zget (999, 0, 0, 0) zc_Le_isAllOver) (zcut zu_Le_isAllOver) (zorc (ρ := ρ) [(2, [some (101, none), some (0, none)], [], zap2 r2)]) kr (fun _ _ => none) 400 2 [some (101, a0), some (0, a1)] [] h := qg_Le_isAllOver_2b kr r2 La_isOver a0 a1 h
set_option maxRecDepth 100000 in
theorem qg_Le_isAllOver {ρ : Type} (kr : Int → zH → Option ρ) (c2 : Int → Int → zH → Option ρ) (a0 : Int) (h : zH) : (c2 a0 0 h) = zseg zPP true (zcal (ρ := ρ) []) (zget (999, 0, 0, 0) zc_Le_isAllOver) (zcut zu_Le_isAllOver) (zorc (ρ := ρ) [(2, [some (101, none), some (0, none)], [], zap2 c2)]) kr (fun _ _ => none) 400 0 [some (101, a0), none] [] h := by rfl
set_option maxRecDepth 100000 in
theorem qe_Le_isAllOver {ρ : Type} (kr : Int → zH → Option ρ) (a0 : Int) (h : zH) : Le_isAllOver a0 h kr = zseg zPP true (zcal (ρ := ρ) []) (zget (999, 0, 0, 0) zc_Le_isAllOver) (zcut zu_Le_isAllOver) (zorc (ρ := ρ) [(2, [some (101, none), some (0, none)], [], zap2 (Le_isAllOver_2 kr))]) kr (fun _ _ => none) 400 0 [some (101, a0), none] [] h := qg_Le_isAllOver kr (Le_isAllOver_2 kr) a0 h
def zc_X_run : List zI := [(10, 0, 1, 0), (0, 1, 0, 0), (2, 500, 0, 0), (999, 0, 0, 0), (999, 0, 0, 0), (113, 0, 32, 54), (999, 0, 0, 0), (999, 0, 0, 0), (61, 11, 19, 0), (999, 0, 0, 0), (999, 0, 0, 0), (134, 38, 36, 1), (999, 0, 0, 0), (999, 0, 0, 0), (999, 0, 0, 0), (999, 0, 0, 0), (999, 0, 0, 0), (999, 0, 0, 0), (999, 0, 0, 0), (0, 0, 0, 0), (16, 0, 2, 0), (10, 0, 2, 0), (10, 0, 1, 0), (69, 26, 49, 0), (999, 0, 0, 0), (999, 0, 0, 0), (14, 0, 0, 100), (80, 0, 10, 0), (999, 0, 0, 0), (999, 0, 0, 0), (110, 0, 154, 247), (999, 0, 0, 0), (999, 0, 0, 0), (61, 16, 49, 0), (999, 0, 0, 0), (999, 0, 0, 0), (14, 0, 0, 100), (80, 0, 21, 1), (999, 0, 0, 0), (999, 0, 0, 0), (110, 0, 151, 180), (999, 0, 0, 0), (999, 0, 0, 0), (22, 1, 2, 0), (999, 0, 0, 0), (999, 0, 0, 0), (72, (-25), 21, 0), (999, 0, 0, 0), (999, 0, 0, 0), (10, 0, 2, 0), (130, 0, 0, 0)]
def zu_X_run : List (Nat × List Bool) := [(21, [true, true, true]), (49, [false, false, true])]
set_option maxRecDepth 100000 in
theorem qg_X_run_49 {ρ : Type} (kr : Int → zH → Option ρ) (kt : Nat → zH → Option ρ) (a2 : Int) (h : zH) : (kr a2 h) = zseg zPP true (zcal (ρ := ρ) []) (zget (999, 0, 0, 0) zc_X_run) (zcut zu_X_run) (zorc (ρ := ρ) []) kr kt 400 49 [none, none, some (0, a2)] [] h := by rfl
set_option maxRecDepth 100000 in
theorem qe_X_run_49 {ρ : Type} (kr : Int → zH → Option ρ) (kt : Nat → zH → Option ρ) (a2 : Int) (h : zH) : X_run_49 kr kt a2 h = zseg zPP true (zcal (ρ := ρ) []) (zget (999, 0, 0, 0) zc_X_run) (zcut zu_X_run) (zorc (ρ := ρ) []) kr kt 400 49 [none, none, some (0, a2)] [] h := qg_X_run_49 kr kt a2 h
set_option maxRecDepth 100000 in
theorem qg_X_run_21b {ρ : Type} (kr : Int → zH → Option ρ) (kt : Nat → zH → Option ρ) (r21 : Int → Int → Int → zH → Option ρ) (F_Co_letCycleCome : Int → zH → (Int → zH → Option ρ) → Option ρ) (F_Le_isAllOver : Int → zH → (Int → zH → Option ρ) → Option ρ) (c49 : Int → zH → Option ρ) (a0 a1 a2 : Int) (h : zH) : (if a2 < a1 then (zob h 0 a0 fun p1 =>
zob h 1 (zhD h 0 p1 0) fun _ =>
F_Le_isAllOver (zhD h 0 p1 0) h  fun v2 h3 =>
if v2 = 0 then (zob h3 0 a0 fun p4 =>
zob h3 2 (zhD h3 0 p4 1) fun _ =>
F_Co_letCycleCome (zhD h3 0 p4 1) h3  fun _ h6 =>
r21 a0 a1 (wr (a2 + 1)) h6)
else c49 a2 h3)
else c49 a2 h) = zseg zPP true (zcal (ρ := ρ) [(180, [none], zca1 F_Co_letCycleCome), (247, [none], zca1 F_Le_isAllOver)]) (zget (999, 0, 0, 0) zc_X_run) (zcut zu_X_run) (zorc (ρ := ρ) [(21, [some (100, none), some (0, none), some (0, none)], [], zap3 r21), (49, [none, none, some (0, none)], [], zap1 c49)]) kr kt 400 21 [some (100, a0), some (0, a1), some (0, a2)] [] h := by rfl
set_option maxRecDepth 100000 in
theorem qe_X_run_21b {ρ : Type} (kr : Int → zH → Option ρ) (kt : Nat → zH → Option ρ) (r21 : Int → Int → Int → zH → Option ρ) (a0 a1 a2 : Int) (h : zH) : X_run_21b kr kt r21 a0 a1 a2 h = zseg zPP true (zcal (ρ := ρ) [(180, [none], zca1 Co_letCycleCome), (247, [none], zca1 Le_isAllOver)]) (zget (999, 0, 0, 0) zc_X_run) (zcut zu_X_run) (zorc (ρ := ρ) [(21, [some (100, none), some (0, none), some (0, none)], [], zap3 r21), (49, [none, none, some (0, none)], [], zap1 (X_run_49 kr kt))]) kr kt 400 21 [some (100, a0), some (0, a1), some (0, a2)] [] h := qg_X_run_21b kr kt r21 Co_letCycleCome Le_isAllOver (X_run_49 kr kt) a0 a1 a2 h
set_option maxRecDepth 100000 in
theorem qg_X_run {ρ : Type} (kr : Int → zH → Option ρ) (kt : Nat → zH → Option ρ) (F_X_isWithin : Int → Int → Int → zH → (Int → zH → Option ρ) → Option ρ) (c21 : Int → Int → Int → zH → Option ρ) (a0 a1 : Int) (h : zH) : (F_X_isWithin a1 1 500 h  fun v1 h2 =>
if v1 = 0 then zlet (zthrown h2) fun h3 => kt 1 h3
else c21 a0 a1 0 h2) = zseg zPP true (zcal (ρ := ρ) [(54, [none, none, none], zca3 F_X_isWithin)]) (zget (999, 0, 0, 0) zc_X_run) (zcut zu_X_run) (zorc (ρ := ρ) [(21, [some (100, none), some (0, none), some (0, none)], [], zap3 c21)]) kr kt 400 0 [some (100, a0), some (0, a1), none] [] h := by rfl
set_option maxRecDepth 100000 in
theorem qe_X_run {ρ : Type} (kr : Int → zH → Option ρ) (kt : Nat → zH → Option ρ) (a0 a1 : Int) (h : zH) : X_run a0 a1 h kt kr = zseg zPP true (zcal (ρ := ρ) [(54, [none, none, none], zca3 X_isWithin)]) (zget (999, 0, 0, 0) zc_X_run) (zcut zu_X_run) (zorc (ρ := ρ) [(21, [some (100, none), some (0, none), some (0, none)], [], zap3 (X_run_21 kr kt))]) kr kt 400 0 [some (100, a0), some (0, a1), none] [] h := qg_X_run kr kt X_isWithin (X_run_21 kr kt) a0 a1 h
def zc_X_setOrder : List zI := [(10, 0, 1, 0), (1, 111, 0, 0), (999, 0, 0, 0), (66, 23, 26, 0), (999, 0, 0, 0), (999, 0, 0, 0), (10, 0, 1, 0), (1, 121, 0, 0), (999, 0, 0, 0), (66, 17, 26, 0), (999, 0, 0, 0), (999, 0, 0, 0), (10, 0, 1, 0), (1, 97, 0, 0), (999, 0, 0, 0), (66, 11, 26, 0), (999, 0, 0, 0), (999, 0, 0, 0), (134, 38, 36, 1), (999, 0, 0, 0), (999, 0, 0, 0), (999, 0, 0, 0), (999, 0, 0, 0), (999, 0, 0, 0), (999, 0, 0, 0), (999, 0, 0, 0), (14, 0, 0, 100), (80, 0, 21, 1), (999, 0, 0, 0), (999, 0, 0, 0), (80, 2, 158, 5), (999, 0, 0, 0), (999, 0, 0, 0), (16, 0, 2, 0), (14, 0, 0, 100), (80, 0, 21, 1), (999, 0, 0, 0), (999, 0, 0, 0), (10, 0, 1, 0), (82, 2, 158, 5), (999, 0, 0, 0), (999, 0, 0, 0), (10, 0, 2, 0), (130, 0, 2, 0)]
def zu_X_setOrder : List (Nat × List Bool) := [(26, [true, true, false])]
set_option maxRecDepth 100000 in
theorem qg_X_setOrder_26 {ρ : Type} (kr : Int → zH → Option ρ) (kt : Nat → zH → Option ρ) (a0 a1 : Int) (h : zH) : (zob h 0 a0 fun p1 =>
zob h 2 (zhD h 0 p1 1) fun p2 =>
zob h 0 a0 fun p3 =>
zob h 2 (zhD h 0 p3 1) fun p4 =>
znar 2 a1 fun x5 =>
zlet (zset h 2 p4 5 x5) fun h6 =>
znar 2 (zhD h 2 p2 5) fun x7 => kr x7 h6) = zseg zPP true (zcal (ρ := ρ) []) (zget (999, 0, 0, 0) zc_X_setOrder) (zcut zu_X_setOrder) (zorc (ρ := ρ) []) kr kt 400 26 [some (100, a0), some (0, a1), none] [] h := by rfl
set_option maxRecDepth 100000 in
theorem qe_X_setOrder_26 {ρ : Type} (kr : Int → zH → Option ρ) (kt : Nat → zH → Option ρ) (a0 a1 : Int) (h : zH) : X_setOrder_26 kr kt a0 a1 h = zseg zPP true (zcal (ρ := ρ) []) (zget (999, 0, 0, 0) zc_X_setOrder) (zcut zu_X_setOrder) (zorc (ρ := ρ) []) kr kt 400 26 [some (100, a0), some (0, a1), none] [] h := qg_X_setOrder_26 kr kt a0 a1 h
set_option maxRecDepth 100000 in
theorem qg_X_setOrder {ρ : Type} (kr : Int → zH → Option ρ) (kt : Nat → zH → Option ρ) (c26 : Int → Int → zH → Option ρ) (a0 a1 : Int) (h : zH) : (if a1 = 111 then c26 a0 a1 h
else if a1 = 121 then c26 a0 a1 h
else if a1 = 97 then c26 a0 a1 h
else zlet (zthrown h) fun h1 => kt 1 h1) = zseg zPP true (zcal (ρ := ρ) []) (zget (999, 0, 0, 0) zc_X_setOrder) (zcut zu_X_setOrder) (zorc (ρ := ρ) [(26, [some (100, none), some (0, none), none], [], zap2 c26)]) kr kt 400 0 [some (100, a0), some (0, a1), none] [] h := by rfl
set_option maxRecDepth 100000 in
theorem qe_X_setOrder {ρ : Type} (kr : Int → zH → Option ρ) (kt : Nat → zH → Option ρ) (a0 a1 : Int) (h : zH) : X_setOrder a0 a1 h kt kr = zseg zPP true (zcal (ρ := ρ) []) (zget (999, 0, 0, 0) zc_X_setOrder) (zcut zu_X_setOrder) (zorc (ρ := ρ) [(26, [some (100, none), some (0, none), none], [], zap2 (X_setOrder_26 kr kt))]) kr kt 400 0 [some (100, a0), some (0, a1), none] [] h := qg_X_setOrder kr kt (X_setOrder_26 kr kt) a0 a1 h
def zc_X_cycle : List zI := [(14, 0, 0, 100), (80, 0, 21, 1), (999, 0, 0, 0), (999, 0, 0, 0), (80, 2, 161, 4), (999, 0, 0, 0), (999, 0, 0, 0), (130, 0, 0, 0)]
def zu_X_cycle : List (Nat × List Bool) := []
set_option maxRecDepth 100000 in
theorem qg_X_cycle {ρ : Type} (kr : Int → zH → Option ρ) (a0 : Int) (h : zH) : (zob h 0 a0 fun p1 =>
zob h 2 (zhD h 0 p1 1) fun p2 =>
kr (zhD h 2 p2 4) h) = zseg zPP true (zcal (ρ := ρ) []) (zget (999, 0, 0, 0) zc_X_cycle) (zcut zu_X_cycle) (zorc (ρ := ρ) []) kr (fun _ _ => none) 400 0 [some (100, a0)] [] h := by rfl
set_option maxRecDepth 100000 in
theorem qe_X_cycle {ρ : Type} (kr : Int → zH → Option ρ) (a0 : Int) (h : zH) : X_cycle a0 h kr = zseg zPP true (zcal (ρ := ρ) []) (zget (999, 0, 0, 0) zc_X_cycle) (zcut zu_X_cycle) (zorc (ρ := ρ) []) kr (fun _ _ => none) 400 0 [some (100, a0)] [] h := qg_X_cycle kr a0 h
def zc_X_unitAt : List zI := [(10, 0, 1, 0), (0, 0, 0, 0), (0, 1, 0, 0), (113, 0, 32, 54), (999, 0, 0, 0), (999, 0, 0, 0), (61, 11, 17, 0), (999, 0, 0, 0), (999, 0, 0, 0), (134, 89, 87, 3), (999, 0, 0, 0), (999, 0, 0, 0), (999, 0, 0, 0), (999, 0, 0, 0), (999, 0, 0, 0), (999, 0, 0, 0), (999, 0, 0, 0), (14, 0, 0, 100), (80, 0, 21, 1), (999, 0, 0, 0), (999, 0, 0, 0), (80, 2, 287, 2), (999, 0, 0, 0), (999, 0, 0, 0), (10, 0, 1, 0), (94, 0, 0, 23), (132, 0, 0, 103)]
def zu_X_unitAt : List (Nat × List Bool) := []
set_option maxRecDepth 100000 in
theorem qg_X_unitAt {ρ : Type} (kr : Int → zH → Option ρ) (kt : Nat → zH → Option ρ) (F_X_isWithin : Int → Int → Int → zH → (Int → zH → Option ρ) → Option ρ) (a0 a1 : Int) (h : zH) : (F_X_isWithin a1 0 1 h  fun v1 h2 =>
if v1 = 0 then zlet (zthrown h2) fun h7 => kt 3 h7
else zob h2 0 a0 fun p3 =>
zob h2 2 (zhD h2 0 p3 1) fun p4 =>
zob h2 23 (zhD h2 2 p4 2) fun p5 =>
zix (zhL h2 23 p5) a1 fun j6 =>
kr (zhD h2 23 p5 j6) h2) = zseg zPP true (zcal (ρ := ρ) [(54, [none, none, none], zca3 F_X_isWithin)]) (zget (999, 0, 0, 0) zc_X_unitAt) (zcut zu_X_unitAt) (zorc (ρ := ρ) []) kr kt 400 0 [some (100, a0), some (0, a1)] [] h := by rfl
set_option maxRecDepth 100000 in
theorem qe_X_unitAt {ρ : Type} (kr : Int → zH → Option ρ) (kt : Nat → zH → Option ρ) (a0 a1 : Int) (h : zH) : X_unitAt a0 a1 h kt kr = zseg zPP true (zcal (ρ := ρ) [(54, [none, none, none], zca3 X_isWithin)]) (zget (999, 0, 0, 0) zc_X_unitAt) (zcut zu_X_unitAt) (zorc (ρ := ρ) []) kr kt 400 0 [some (100, a0), some (0, a1)] [] h := qg_X_unitAt kr kt X_isWithin a0 a1 h
def zc_X_groups : List zI := [(14, 0, 0, 100), (10, 0, 1, 0), (110, 0, 164, 50), (999, 0, 0, 0), (999, 0, 0, 0), (80, 3, 168, 2), (999, 0, 0, 0), (999, 0, 0, 0), (130, 0, 0, 0)]
def zu_X_groups : List (Nat × List Bool) := []
set_option maxRecDepth 100000 in
theorem qg_X_groups {ρ : Type} (kr : Int → zH → Option ρ) (kt : Nat → zH → Option ρ) (F_X_unitAt : Int → Int → zH → (Nat → zH → Option ρ) → (Int → zH → Option ρ) → Option ρ) (a0 a1 : Int) (h : zH) : (zob h 0 a0 fun _ =>
F_X_unitAt a0 a1 h kt fun v1 h2 =>
zob h2 3 v1 fun p3 =>
kr (zhD h2 3 p3 2) h2) = zseg zPP true (zcal (ρ := ρ) [(50, [none, none], zcx2 F_X_unitAt)]) (zget (999, 0, 0, 0) zc_X_groups) (zcut zu_X_groups) (zorc (ρ := ρ) []) kr kt 400 0 [some (100, a0), some (0, a1)] [] h := by rfl
set_option maxRecDepth 100000 in
theorem qe_X_groups {ρ : Type} (kr : Int → zH → Option ρ) (kt : Nat → zH → Option ρ) (a0 a1 : Int) (h : zH) : X_groups a0 a1 h kt kr = zseg zPP true (zcal (ρ := ρ) [(50, [none, none], zcx2 X_unitAt)]) (zget (999, 0, 0, 0) zc_X_groups) (zcut zu_X_groups) (zorc (ρ := ρ) []) kr kt 400 0 [some (100, a0), some (0, a1)] [] h := qg_X_groups kr kt X_unitAt a0 a1 h
def zc_Un_groupOf : List zI := [(10, 0, 1, 0), (0, 0, 0, 0), (14, 0, 0, 103), (80, 3, 21, 2), (999, 0, 0, 0), (999, 0, 0, 0), (0, 1, 0, 0), (31, 0, 0, 0), (114, 0, 25, 54), (999, 0, 0, 0), (999, 0, 0, 0), (60, 12, 23, 0), (999, 0, 0, 0), (999, 0, 0, 0), (14, 0, 0, 103), (80, 3, 11, 0), (999, 0, 0, 0), (999, 0, 0, 0), (10, 0, 1, 0), (94, 0, 0, 26), (72, 4, 24, 0), (999, 0, 0, 0), (999, 0, 0, 0), (7, 0, 0, 111), (132, 0, 0, 111)]
def zu_Un_groupOf : List (Nat × List Bool) := [(24, [false, false])]
set_option maxRecDepth 100000 in
theorem qg_Un_groupOf_24 {ρ : Type} (kr : Int → zH → Option ρ) (t0 : Int) (h : zH) : (kr t0 h) = zseg zPP true (zcal (ρ := ρ) []) (zget (999, 0, 0, 0) zc_Un_groupOf) (zcut zu_Un_groupOf) (zorc (ρ := ρ) []) kr (fun _ _ => none) 400 24 [none, none] [(111, t0)] h := by rfl
set_option maxRecDepth 100000 in
theorem qe_Un_groupOf_24 {ρ : Type} (kr : Int → zH → Option ρ) (t0 : Int) (h : zH) : Un_groupOf_24 kr t0 h = zseg zPP true (zcal (ρ := ρ) []) (zget (999, 0, 0, 0) zc_Un_groupOf) (zcut zu_Un_groupOf) (zorc (ρ := ρ) []) kr (fun _ _ => none) 400 24 [none, none] [(111, t0)] h := qg_Un_groupOf_24 kr t0 h
set_option maxRecDepth 100000 in
theorem qg_Un_groupOf {ρ : Type} (kr : Int → zH → Option ρ) (F_X_isWithin : Int → Int → Int → zH → (Int → zH → Option ρ) → Option ρ) (c24 : Int → zH → Option ρ) (a0 a1 : Int) (h : zH) : (zob h 3 a0 fun p1 =>
F_X_isWithin a1 0 (wr ((zhD h 3 p1 2) - 1)) h  fun v2 h3 =>
if v2 = 0 then c24 (-1) h3
else zob h3 3 a0 fun p4 =>
zob h3 26 (zhD h3 3 p4 0) fun p5 =>
zix (zhL h3 26 p5) a1 fun j6 =>
c24 (zhD h3 26 p5 j6) h3) = zseg zPP true (zcal (ρ := ρ) [(54, [none, none, none], zca3 F_X_isWithin)]) (zget (999, 0, 0, 0) zc_Un_groupOf) (zcut zu_Un_groupOf) (zorc (ρ := ρ) [(24, [none, none], [(111, none)], zap1 c24)]) kr (fun _ _ => none) 400 0 [some (103, a0), some (0, a1)] [] h := by rfl
set_option maxRecDepth 100000 in
theorem qe_Un_groupOf {ρ : Type} (kr : Int → zH → Option ρ) (a0 a1 : Int) (h : zH) : Un_groupOf a0 a1 h kr = zseg zPP true (zcal (ρ := ρ) [(54, [none, none, none], zca3 X_isWithin)]) (zget (999, 0, 0, 0) zc_Un_groupOf) (zcut zu_Un_groupOf) (zorc (ρ := ρ) [(24, [none, none], [(111, none)], zap1 (Un_groupOf_24 kr))]) kr (fun _ _ => none) 400 0 [some (103, a0), some (0, a1)] [] h := qg_Un_groupOf kr X_isWithin (Un_groupOf_24 kr) a0 a1 h
def zc_X_groupAt : List zI := [(14, 0, 0, 100), (10, 0, 1, 0), (110, 0, 164, 50), (999, 0, 0, 0), (999, 0, 0, 0), (10, 0, 2, 0), (110, 0, 300, 277), (999, 0, 0, 0), (999, 0, 0, 0), (20, 0, 3, 111), (14, 0, 3, 111), (74, 11, 22, 0), (999, 0, 0, 0), (999, 0, 0, 0), (134, 89, 87, 3), (999, 0, 0, 0), (999, 0, 0, 0), (999, 0, 0, 0), (999, 0, 0, 0), (999, 0, 0, 0), (999, 0, 0, 0), (999, 0, 0, 0), (14, 0, 3, 111), (132, 0, 0, 111)]
def zu_X_groupAt : List (Nat × List Bool) := []
set_option maxRecDepth 100000 in
theorem qg_X_groupAt {ρ : Type} (kr : Int → zH → Option ρ) (kt : Nat → zH → Option ρ) (F_X_unitAt : Int → Int → zH → (Nat → zH → Option ρ) → (Int → zH → Option ρ) → Option ρ) (F_Un_groupOf : Int → Int → zH → (Int → zH → Option ρ) → Option ρ) (a0 a1 a2 : Int) (h : zH) : (zob h 0 a0 fun _ =>
F_X_unitAt a0 a1 h kt fun v1 h2 =>
zob h2 3 v1 fun _ =>
F_Un_groupOf v1 a2 h2  fun v3 h4 =>
if v3 < 0 then zlet (zthrown h4) fun h5 => kt 3 h5
else kr v3 h4) = zseg zPP true (zcal (ρ := ρ) [(50, [none, none], zcx2 F_X_unitAt), (277, [none, none], zca2 F_Un_groupOf)]) (zget (999, 0, 0, 0) zc_X_groupAt) (zcut zu_X_groupAt) (zorc (ρ := ρ) []) kr kt 400 0 [some (100, a0), some (0, a1), some (0, a2), none] [] h := by rfl
set_option maxRecDepth 100000 in
theorem qe_X_groupAt {ρ : Type} (kr : Int → zH → Option ρ) (kt : Nat → zH → Option ρ) (a0 a1 a2 : Int) (h : zH) : X_groupAt a0 a1 a2 h kt kr = zseg zPP true (zcal (ρ := ρ) [(50, [none, none], zcx2 X_unitAt), (277, [none, none], zca2 Un_groupOf)]) (zget (999, 0, 0, 0) zc_X_groupAt) (zcut zu_X_groupAt) (zorc (ρ := ρ) []) kr kt 400 0 [some (100, a0), some (0, a1), some (0, a2), none] [] h := qg_X_groupAt kr kt X_unitAt Un_groupOf a0 a1 a2 h
def zc_X_threadAt : List zI := [(14, 0, 0, 100), (10, 0, 1, 0), (10, 0, 2, 0), (110, 0, 173, 51), (999, 0, 0, 0), (999, 0, 0, 0), (20, 0, 3, 111), (2, 1000, 0, 0), (999, 0, 0, 0), (999, 0, 0, 0), (14, 0, 3, 111), (80, 11, 177, 0), (999, 0, 0, 0), (999, 0, 0, 0), (80, 10, 183, 0), (999, 0, 0, 0), (999, 0, 0, 0), (80, 9, 113, 0), (999, 0, 0, 0), (999, 0, 0, 0), (32, 0, 0, 0), (1, 100, 0, 0), (999, 0, 0, 0), (14, 0, 3, 111), (80, 11, 177, 0), (999, 0, 0, 0), (999, 0, 0, 0), (80, 10, 188, 1), (999, 0, 0, 0), (999, 0, 0, 0), (32, 0, 0, 0), (30, 0, 0, 0), (14, 0, 3, 111), (80, 11, 189, 1), (999, 0, 0, 0), (999, 0, 0, 0), (30, 0, 0, 0), (130, 0, 0, 0)]
def zu_X_threadAt : List (Nat × List Bool) := []
set_option maxRecDepth 100000 in
theorem qg_X_threadAt {ρ : Type} (kr : Int → zH → Option ρ) (kt : Nat → zH → Option ρ) (F_X_groupAt : Int → Int → Int → zH → (Nat → zH → Option ρ) → (Int → zH → Option ρ) → Option ρ) (a0 a1 a2 : Int) (h : zH) : (zob h 0 a0 fun _ =>
F_X_groupAt a0 a1 a2 h kt fun v1 h2 =>
zob h2 11 v1 fun p3 =>
zob h2 10 (zhD h2 11 p3 0) fun p4 =>
zob h2 9 (zhD h2 10 p4 0) fun p5 =>
zob h2 11 v1 fun p6 =>
zob h2 10 (zhD h2 11 p6 0) fun p7 =>
zob h2 11 v1 fun p8 =>
kr (wr ((wr ((wr (1000 * (zhD h2 9 p5 0))) + (wr (100 * (zhD h2 10 p7 1))))) + (zhD h2 11 p8 1))) h2) = zseg zPP true (zcal (ρ := ρ) [(51, [none, none, none], zcx3 F_X_groupAt)]) (zget (999, 0, 0, 0) zc_X_threadAt) (zcut zu_X_threadAt) (zorc (ρ := ρ) []) kr kt 400 0 [some (100, a0), some (0, a1), some (0, a2), none] [] h := by rfl
set_option maxRecDepth 100000 in
theorem qe_X_threadAt {ρ : Type} (kr : Int → zH → Option ρ) (kt : Nat → zH → Option ρ) (a0 a1 a2 : Int) (h : zH) : X_threadAt a0 a1 a2 h kt kr = zseg zPP true (zcal (ρ := ρ) [(51, [none, none, none], zcx3 X_groupAt)]) (zget (999, 0, 0, 0) zc_X_threadAt) (zcut zu_X_threadAt) (zorc (ρ := ρ) []) kr kt 400 0 [some (100, a0), some (0, a1), some (0, a2), none] [] h := qg_X_threadAt kr kt X_groupAt a0 a1 a2 h
def zc_X_place : List zI := [(14, 0, 0, 100), (10, 0, 1, 0), (10, 0, 2, 0), (110, 0, 173, 51), (999, 0, 0, 0), (999, 0, 0, 0), (110, 0, 192, 205), (999, 0, 0, 0), (999, 0, 0, 0), (16, 0, 3, 0), (10, 0, 3, 0), (0, (-1), 0, 0), (67, 11, 23, 0), (999, 0, 0, 0), (999, 0, 0, 0), (134, 137, 135, 5), (999, 0, 0, 0), (999, 0, 0, 0), (999, 0, 0, 0), (999, 0, 0, 0), (999, 0, 0, 0), (999, 0, 0, 0), (999, 0, 0, 0), (10, 0, 3, 0), (130, 0, 0, 0)]
def zu_X_place : List (Nat × List Bool) := []
set_option maxRecDepth 100000 in
theorem qg_X_place {ρ : Type} (kr : Int → zH → Option ρ) (kt : Nat → zH → Option ρ) (F_X_groupAt : Int → Int → Int → zH → (Nat → zH → Option ρ) → (Int → zH → Option ρ) → Option ρ) (F_Gr_leastPlace : Int → zH → (Int → zH → Option ρ) → Option ρ) (a0 a1 a2 : Int) (h : zH) : (zob h 0 a0 fun _ =>
F_X_groupAt a0 a1 a2 h kt fun v1 h2 =>
zob h2 11 v1 fun _ =>
F_Gr_leastPlace v1 h2  fun v3 h4 =>
if v3 = (-1) then zlet (zthrown h4) fun h5 => kt 5 h5
else kr v3 h4) = zseg zPP true (zcal (ρ := ρ) [(51, [none, none, none], zcx3 F_X_groupAt), (205, [none], zca1 F_Gr_leastPlace)]) (zget (999, 0, 0, 0) zc_X_place) (zcut zu_X_place) (zorc (ρ := ρ) []) kr kt 400 0 [some (100, a0), some (0, a1), some (0, a2), none] [] h := by rfl
set_option maxRecDepth 100000 in
theorem qe_X_place {ρ : Type} (kr : Int → zH → Option ρ) (kt : Nat → zH → Option ρ) (a0 a1 a2 : Int) (h : zH) : X_place a0 a1 a2 h kt kr = zseg zPP true (zcal (ρ := ρ) [(51, [none, none, none], zcx3 X_groupAt), (205, [none], zca1 Gr_leastPlace)]) (zget (999, 0, 0, 0) zc_X_place) (zcut zu_X_place) (zorc (ρ := ρ) []) kr kt 400 0 [some (100, a0), some (0, a1), some (0, a2), none] [] h := qg_X_place kr kt X_groupAt Gr_leastPlace a0 a1 a2 h
def zc_X_mask : List zI := [(14, 0, 0, 100), (10, 0, 1, 0), (10, 0, 2, 0), (110, 0, 173, 51), (999, 0, 0, 0), (999, 0, 0, 0), (110, 0, 196, 206), (999, 0, 0, 0), (999, 0, 0, 0), (130, 0, 0, 0)]
def zu_X_mask : List (Nat × List Bool) := []
set_option maxRecDepth 100000 in
theorem qg_X_mask {ρ : Type} (kr : Int → zH → Option ρ) (kt : Nat → zH → Option ρ) (F_X_groupAt : Int → Int → Int → zH → (Nat → zH → Option ρ) → (Int → zH → Option ρ) → Option ρ) (F_Gr_lanesUnderMask : Int → zH → (Int → zH → Option ρ) → Option ρ) (a0 a1 a2 : Int) (h : zH) : (zob h 0 a0 fun _ =>
F_X_groupAt a0 a1 a2 h kt fun v1 h2 =>
zob h2 11 v1 fun _ =>
F_Gr_lanesUnderMask v1 h2  fun v3 h4 =>
kr v3 h4) = zseg zPP true (zcal (ρ := ρ) [(51, [none, none, none], zcx3 F_X_groupAt), (206, [none], zca1 F_Gr_lanesUnderMask)]) (zget (999, 0, 0, 0) zc_X_mask) (zcut zu_X_mask) (zorc (ρ := ρ) []) kr kt 400 0 [some (100, a0), some (0, a1), some (0, a2)] [] h := by rfl
set_option maxRecDepth 100000 in
theorem qe_X_mask {ρ : Type} (kr : Int → zH → Option ρ) (kt : Nat → zH → Option ρ) (a0 a1 a2 : Int) (h : zH) : X_mask a0 a1 a2 h kt kr = zseg zPP true (zcal (ρ := ρ) [(51, [none, none, none], zcx3 X_groupAt), (206, [none], zca1 Gr_lanesUnderMask)]) (zget (999, 0, 0, 0) zc_X_mask) (zcut zu_X_mask) (zorc (ρ := ρ) []) kr kt 400 0 [some (100, a0), some (0, a1), some (0, a2)] [] h := qg_X_mask kr kt X_groupAt Gr_lanesUnderMask a0 a1 a2 h
def zc_Gr_isPlaceOfLower : List zI := [(0, 0, 0, 0), (16, 0, 2, 0), (10, 0, 2, 0), (10, 0, 1, 0), (69, 24, 28, 0), (999, 0, 0, 0), (999, 0, 0, 0), (14, 0, 0, 111), (10, 0, 2, 0), (110, 0, 46, 204), (999, 0, 0, 0), (999, 0, 0, 0), (14, 0, 0, 111), (10, 0, 1, 0), (110, 0, 46, 204), (999, 0, 0, 0), (999, 0, 0, 0), (67, 5, 22, 0), (999, 0, 0, 0), (999, 0, 0, 0), (0, 1, 0, 0), (130, 0, 1, 0), (22, 1, 2, 0), (999, 0, 0, 0), (999, 0, 0, 0), (72, (-23), 2, 0), (999, 0, 0, 0), (999, 0, 0, 0), (0, 0, 0, 0), (130, 0, 1, 0)]
def zu_Gr_isPlaceOfLower : List (Nat × List Bool) := [(2, [true, true, true])]
set_option maxRecDepth 100000 in
theorem qg_Gr_isPlaceOfLower_2b {ρ : Type} (kr : Int → zH → Option ρ) (r2 : Int → Int → Int → zH → Option ρ) (F_Gr_placeIn : Int → Int → zH → (Int → zH → Option ρ) → Option ρ) (a0 a1 a2 : Int) (h : zH) : (if a2 < a1 then (zob h 11 a0 fun _ =>
F_Gr_placeIn a0 a2 h  fun v1 h2 =>
zob h2 11 a0 fun _ =>
F_Gr_placeIn a0 a1 h2  fun v3 h4 =>
if v1 = v3 then kr 1 h4
else r2 a0 a1 (wr (a2 + 1)) h4)
else kr 0 h) = zseg zPP true (zcal (ρ := ρ) [(204, [none, none], zca2 F_Gr_placeIn)]) (zget (999, 0, 0, 0) zc_Gr_isPlaceOfLower) (zcut zu_Gr_isPlaceOfLower) (zorc (ρ := ρ) [(2, [some (111, none), some (0, none), some (0, none)], [], zap3 r2)]) kr (fun _ _ => none) 400 2 [some (111, a0), some (0, a1), some (0, a2)] [] h := by rfl
set_option maxRecDepth 100000 in
theorem qe_Gr_isPlaceOfLower_2b {ρ : Type} (kr : Int → zH → Option ρ) (r2 : Int → Int → Int → zH → Option ρ) (a0 a1 a2 : Int) (h : zH) : Gr_isPlaceOfLower_2b kr r2 a0 a1 a2 h = zseg zPP true (zcal (ρ := ρ) [(204, [none, none], zca2 Gr_placeIn)]) (zget (999, 0, 0, 0) zc_Gr_isPlaceOfLower) (zcut zu_Gr_isPlaceOfLower) (zorc (ρ := ρ) [(2, [some (111, none), some (0, none), some (0, none)], [], zap3 r2)]) kr (fun _ _ => none) 400 2 [some (111, a0), some (0, a1), some (0, a2)] [] h := qg_Gr_isPlaceOfLower_2b kr r2 Gr_placeIn a0 a1 a2 h
set_option maxRecDepth 100000 in
theorem qg_Gr_isPlaceOfLower {ρ : Type} (kr : Int → zH → Option ρ) (c2 : Int → Int → Int → zH → Option ρ) (a0 a1 : Int) (h : zH) : (c2 a0 a1 0 h) = zseg zPP true (zcal (ρ := ρ) []) (zget (999, 0, 0, 0) zc_Gr_isPlaceOfLower) (zcut zu_Gr_isPlaceOfLower) (zorc (ρ := ρ) [(2, [some (111, none), some (0, none), some (0, none)], [], zap3 c2)]) kr (fun _ _ => none) 400 0 [some (111, a0), some (0, a1), none] [] h := by rfl
set_option maxRecDepth 100000 in
theorem qe_Gr_isPlaceOfLower {ρ : Type} (kr : Int → zH → Option ρ) (a0 a1 : Int) (h : zH) : Gr_isPlaceOfLower a0 a1 h kr = zseg zPP true (zcal (ρ := ρ) []) (zget (999, 0, 0, 0) zc_Gr_isPlaceOfLower) (zcut zu_Gr_isPlaceOfLower) (zorc (ρ := ρ) [(2, [some (111, none), some (0, none), some (0, none)], [], zap3 (Gr_isPlaceOfLower_2 kr))]) kr (fun _ _ => none) 400 0 [some (111, a0), some (0, a1), none] [] h := qg_Gr_isPlaceOfLower kr (Gr_isPlaceOfLower_2 kr) a0 a1 h
def zc_Gr_differentPlaces : List zI := [(0, 0, 0, 0), (16, 0, 1, 0), (0, 0, 0, 0), (16, 0, 2, 0), (10, 0, 2, 0), (0, 4, 0, 0), (69, 29, 35, 0), (999, 0, 0, 0), (999, 0, 0, 0), (14, 0, 0, 111), (10, 0, 2, 0), (110, 0, 46, 204), (999, 0, 0, 0), (999, 0, 0, 0), (0, (-1), 0, 0), (66, 14, 29, 0), (999, 0, 0, 0), (999, 0, 0, 0), (14, 0, 0, 111), (10, 0, 2, 0), (110, 0, 54, 208), (999, 0, 0, 0), (999, 0, 0, 0), (61, 6, 29, 0), (999, 0, 0, 0), (999, 0, 0, 0), (22, 1, 1, 0), (999, 0, 0, 0), (999, 0, 0, 0), (22, 1, 2, 0), (999, 0, 0, 0), (999, 0, 0, 0), (72, (-28), 4, 0), (999, 0, 0, 0), (999, 0, 0, 0), (10, 0, 1, 0), (130, 0, 0, 0)]
def zu_Gr_differentPlaces : List (Nat × List Bool) := [(4, [true, true, true]), (29, [true, true, true])]
set_option maxRecDepth 100000 in
theorem qg_Gr_differentPlaces_29 {ρ : Type} (kr : Int → zH → Option ρ) (r4 : Int → Int → Int → zH → Option ρ) (a0 a1 a2 : Int) (h : zH) : (r4 a0 a1 (wr (a2 + 1)) h) = zseg zPP true (zcal (ρ := ρ) []) (zget (999, 0, 0, 0) zc_Gr_differentPlaces) (zcut zu_Gr_differentPlaces) (zorc (ρ := ρ) [(4, [some (111, none), some (0, none), some (0, none)], [], zap3 r4)]) kr (fun _ _ => none) 400 29 [some (111, a0), some (0, a1), some (0, a2)] [] h := by rfl
set_option maxRecDepth 100000 in
theorem qe_Gr_differentPlaces_29 {ρ : Type} (kr : Int → zH → Option ρ) (r4 : Int → Int → Int → zH → Option ρ) (a0 a1 a2 : Int) (h : zH) : Gr_differentPlaces_29 kr r4 a0 a1 a2 h = zseg zPP true (zcal (ρ := ρ) []) (zget (999, 0, 0, 0) zc_Gr_differentPlaces) (zcut zu_Gr_differentPlaces) (zorc (ρ := ρ) [(4, [some (111, none), some (0, none), some (0, none)], [], zap3 r4)]) kr (fun _ _ => none) 400 29 [some (111, a0), some (0, a1), some (0, a2)] [] h := qg_Gr_differentPlaces_29 kr r4 a0 a1 a2 h
set_option maxRecDepth 100000 in
theorem qg_Gr_differentPlaces_4b {ρ : Type} (kr : Int → zH → Option ρ) (r4 : Int → Int → Int → zH → Option ρ) (F_Gr_placeIn : Int → Int → zH → (Int → zH → Option ρ) → Option ρ) (F_Gr_isPlaceOfLower : Int → Int → zH → (Int → zH → Option ρ) → Option ρ) (c29 : Int → Int → Int → zH → Option ρ) (a0 a1 a2 : Int) (h : zH) : (if a2 < 4 then (zob h 11 a0 fun _ =>
F_Gr_placeIn a0 a2 h  fun v1 h2 =>
if v1 = (-1) then c29 a0 a1 a2 h2
else zob h2 11 a0 fun _ =>
F_Gr_isPlaceOfLower a0 a2 h2  fun v3 h4 =>
if v3 = 0 then c29 a0 (wr (a1 + 1)) a2 h4
else c29 a0 a1 a2 h4)
else kr a1 h) = zseg zPP true (zcal (ρ := ρ) [(204, [none, none], zca2 F_Gr_placeIn), (208, [none, none], zca2 F_Gr_isPlaceOfLower)]) (zget (999, 0, 0, 0) zc_Gr_differentPlaces) (zcut zu_Gr_differentPlaces) (zorc (ρ := ρ) [(29, [some (111, none), some (0, none), some (0, none)], [], zap3 c29)]) kr (fun _ _ => none) 400 4 [some (111, a0), some (0, a1), some (0, a2)] [] h := by rfl
set_option maxRecDepth 100000 in
theorem qe_Gr_differentPlaces_4b {ρ : Type} (kr : Int → zH → Option ρ) (r4 : Int → Int → Int → zH → Option ρ) (a0 a1 a2 : Int) (h : zH) : Gr_differentPlaces_4b kr r4 a0 a1 a2 h = zseg zPP true (zcal (ρ := ρ) [(204, [none, none], zca2 Gr_placeIn), (208, [none, none], zca2 Gr_isPlaceOfLower)]) (zget (999, 0, 0, 0) zc_Gr_differentPlaces) (zcut zu_Gr_differentPlaces) (zorc (ρ := ρ) [(29, [some (111, none), some (0, none), some (0, none)], [], zap3 (Gr_differentPlaces_29 kr r4))]) kr (fun _ _ => none) 400 4 [some (111, a0), some (0, a1), some (0, a2)] [] h := qg_Gr_differentPlaces_4b kr r4 Gr_placeIn Gr_isPlaceOfLower (Gr_differentPlaces_29 kr r4) a0 a1 a2 h
set_option maxRecDepth 100000 in
theorem qg_Gr_differentPlaces {ρ : Type} (kr : Int → zH → Option ρ) (c4 : Int → Int → Int → zH → Option ρ) (a0 : Int) (h : zH) : (c4 a0 0 0 h) = zseg zPP true (zcal (ρ := ρ) []) (zget (999, 0, 0, 0) zc_Gr_differentPlaces) (zcut zu_Gr_differentPlaces) (zorc (ρ := ρ) [(4, [some (111, none), some (0, none), some (0, none)], [], zap3 c4)]) kr (fun _ _ => none) 400 0 [some (111, a0), none, none] [] h := by rfl
set_option maxRecDepth 100000 in
theorem qe_Gr_differentPlaces {ρ : Type} (kr : Int → zH → Option ρ) (a0 : Int) (h : zH) : Gr_differentPlaces a0 h kr = zseg zPP true (zcal (ρ := ρ) []) (zget (999, 0, 0, 0) zc_Gr_differentPlaces) (zcut zu_Gr_differentPlaces) (zorc (ρ := ρ) [(4, [some (111, none), some (0, none), some (0, none)], [], zap3 (Gr_differentPlaces_4 kr))]) kr (fun _ _ => none) 400 0 [some (111, a0), none, none] [] h := qg_Gr_differentPlaces kr (Gr_differentPlaces_4 kr) a0 h
def zc_X_places : List zI := [(14, 0, 0, 100), (10, 0, 1, 0), (10, 0, 2, 0), (110, 0, 173, 51), (999, 0, 0, 0), (999, 0, 0, 0), (110, 0, 199, 207), (999, 0, 0, 0), (999, 0, 0, 0), (130, 0, 0, 0)]
def zu_X_places : List (Nat × List Bool) := []
set_option maxRecDepth 100000 in
theorem qg_X_places {ρ : Type} (kr : Int → zH → Option ρ) (kt : Nat → zH → Option ρ) (F_X_groupAt : Int → Int → Int → zH → (Nat → zH → Option ρ) → (Int → zH → Option ρ) → Option ρ) (F_Gr_differentPlaces : Int → zH → (Int → zH → Option ρ) → Option ρ) (a0 a1 a2 : Int) (h : zH) : (zob h 0 a0 fun _ =>
F_X_groupAt a0 a1 a2 h kt fun v1 h2 =>
zob h2 11 v1 fun _ =>
F_Gr_differentPlaces v1 h2  fun v3 h4 =>
kr v3 h4) = zseg zPP true (zcal (ρ := ρ) [(51, [none, none, none], zcx3 F_X_groupAt), (207, [none], zca1 F_Gr_differentPlaces)]) (zget (999, 0, 0, 0) zc_X_places) (zcut zu_X_places) (zorc (ρ := ρ) []) kr kt 400 0 [some (100, a0), some (0, a1), some (0, a2)] [] h := by rfl
set_option maxRecDepth 100000 in
theorem qe_X_places {ρ : Type} (kr : Int → zH → Option ρ) (kt : Nat → zH → Option ρ) (a0 a1 a2 : Int) (h : zH) : X_places a0 a1 a2 h kt kr = zseg zPP true (zcal (ρ := ρ) [(51, [none, none, none], zcx3 X_groupAt), (207, [none], zca1 Gr_differentPlaces)]) (zget (999, 0, 0, 0) zc_X_places) (zcut zu_X_places) (zorc (ρ := ρ) []) kr kt 400 0 [some (100, a0), some (0, a1), some (0, a2)] [] h := qg_X_places kr kt X_groupAt Gr_differentPlaces a0 a1 a2 h
def zc_Gr_whyIdle : List zI := [(14, 0, 0, 111), (110, 0, 50, 205), (999, 0, 0, 0), (999, 0, 0, 0), (0, (-1), 0, 0), (67, 18, 23, 0), (999, 0, 0, 0), (999, 0, 0, 0), (14, 0, 0, 111), (110, 0, 64, 209), (999, 0, 0, 0), (999, 0, 0, 0), (60, 8, 20, 0), (999, 0, 0, 0), (999, 0, 0, 0), (1, 101, 0, 0), (999, 0, 0, 0), (72, 5, 22, 0), (999, 0, 0, 0), (999, 0, 0, 0), (1, 98, 0, 0), (999, 0, 0, 0), (130, 0, 2, 0), (10, 0, 1, 0), (14, 0, 0, 111), (80, 11, 61, 6), (999, 0, 0, 0), (999, 0, 0, 0), (69, 8, 36, 0), (999, 0, 0, 0), (999, 0, 0, 0), (1, 100, 0, 0), (999, 0, 0, 0), (72, 5, 38, 0), (999, 0, 0, 0), (999, 0, 0, 0), (1, 45, 0, 0), (999, 0, 0, 0), (130, 0, 2, 0)]
def zu_Gr_whyIdle : List (Nat × List Bool) := [(22, [false, false]), (38, [false, false])]
set_option maxRecDepth 100000 in
theorem qg_Gr_whyIdle_22 {ρ : Type} (kr : Int → zH → Option ρ) (t0 : Int) (h : zH) : (znar 2 t0 fun x1 => kr x1 h) = zseg zPP true (zcal (ρ := ρ) []) (zget (999, 0, 0, 0) zc_Gr_whyIdle) (zcut zu_Gr_whyIdle) (zorc (ρ := ρ) []) kr (fun _ _ => none) 400 22 [none, none] [(0, t0)] h := by rfl
set_option maxRecDepth 100000 in
theorem qe_Gr_whyIdle_22 {ρ : Type} (kr : Int → zH → Option ρ) (t0 : Int) (h : zH) : Gr_whyIdle_22 kr t0 h = zseg zPP true (zcal (ρ := ρ) []) (zget (999, 0, 0, 0) zc_Gr_whyIdle) (zcut zu_Gr_whyIdle) (zorc (ρ := ρ) []) kr (fun _ _ => none) 400 22 [none, none] [(0, t0)] h := qg_Gr_whyIdle_22 kr t0 h
set_option maxRecDepth 100000 in
theorem qg_Gr_whyIdle_38 {ρ : Type} (kr : Int → zH → Option ρ) (t0 : Int) (h : zH) : (znar 2 t0 fun x1 => kr x1 h) = zseg zPP true (zcal (ρ := ρ) []) (zget (999, 0, 0, 0) zc_Gr_whyIdle) (zcut zu_Gr_whyIdle) (zorc (ρ := ρ) []) kr (fun _ _ => none) 400 38 [none, none] [(0, t0)] h := by rfl
set_option maxRecDepth 100000 in
theorem qe_Gr_whyIdle_38 {ρ : Type} (kr : Int → zH → Option ρ) (t0 : Int) (h : zH) : Gr_whyIdle_38 kr t0 h = zseg zPP true (zcal (ρ := ρ) []) (zget (999, 0, 0, 0) zc_Gr_whyIdle) (zcut zu_Gr_whyIdle) (zorc (ρ := ρ) []) kr (fun _ _ => none) 400 38 [none, none] [(0, t0)] h := qg_Gr_whyIdle_38 kr t0 h
set_option maxRecDepth 100000 in
theorem qg_Gr_whyIdle {ρ : Type} (kr : Int → zH → Option ρ) (F_Gr_leastPlace : Int → zH → (Int → zH → Option ρ) → Option ρ) (F_Gr_hasEnded : Int → zH → (Int → zH → Option ρ) → Option ρ) (c22 : Int → zH → Option ρ) (c38 : Int → zH → Option ρ) (a0 a1 : Int) (h : zH) : (zob h 11 a0 fun _ =>
F_Gr_leastPlace a0 h  fun v1 h2 =>
if v1 = (-1) then (zob h2 11 a0 fun _ =>
F_Gr_hasEnded a0 h2  fun v4 h5 =>
if v4 = 0 then c22 98 h5
else c22 101 h5)
else zob h2 11 a0 fun p3 =>
if a1 < (zhD h2 11 p3 6) then c38 100 h2
else c38 45 h2) = zseg zPP true (zcal (ρ := ρ) [(205, [none], zca1 F_Gr_leastPlace), (209, [none], zca1 F_Gr_hasEnded)]) (zget (999, 0, 0, 0) zc_Gr_whyIdle) (zcut zu_Gr_whyIdle) (zorc (ρ := ρ) [(22, [none, none], [(0, none)], zap1 c22), (38, [none, none], [(0, none)], zap1 c38)]) kr (fun _ _ => none) 400 0 [some (111, a0), some (0, a1)] [] h := by rfl
set_option maxRecDepth 100000 in
theorem qe_Gr_whyIdle {ρ : Type} (kr : Int → zH → Option ρ) (a0 a1 : Int) (h : zH) : Gr_whyIdle a0 a1 h kr = zseg zPP true (zcal (ρ := ρ) [(205, [none], zca1 Gr_leastPlace), (209, [none], zca1 Gr_hasEnded)]) (zget (999, 0, 0, 0) zc_Gr_whyIdle) (zcut zu_Gr_whyIdle) (zorc (ρ := ρ) [(22, [none, none], [(0, none)], zap1 (Gr_whyIdle_22 kr)), (38, [none, none], [(0, none)], zap1 (Gr_whyIdle_38 kr))]) kr (fun _ _ => none) 400 0 [some (111, a0), some (0, a1)] [] h := qg_Gr_whyIdle kr Gr_leastPlace Gr_hasEnded (Gr_whyIdle_22 kr) (Gr_whyIdle_38 kr) a0 a1 h
def zc_X_reason : List zI := [(14, 0, 0, 100), (10, 0, 1, 0), (10, 0, 2, 0), (110, 0, 173, 51), (999, 0, 0, 0), (999, 0, 0, 0), (14, 0, 0, 100), (80, 0, 21, 1), (999, 0, 0, 0), (999, 0, 0, 0), (80, 2, 161, 4), (999, 0, 0, 0), (999, 0, 0, 0), (110, 0, 202, 211), (999, 0, 0, 0), (999, 0, 0, 0), (130, 0, 2, 0)]
def zu_X_reason : List (Nat × List Bool) := []
set_option maxRecDepth 100000 in
theorem qg_X_reason {ρ : Type} (kr : Int → zH → Option ρ) (kt : Nat → zH → Option ρ) (F_X_groupAt : Int → Int → Int → zH → (Nat → zH → Option ρ) → (Int → zH → Option ρ) → Option ρ) (F_Gr_whyIdle : Int → Int → zH → (Int → zH → Option ρ) → Option ρ) (a0 a1 a2 : Int) (h : zH) : (zob h 0 a0 fun _ =>
F_X_groupAt a0 a1 a2 h kt fun v1 h2 =>
zob h2 0 a0 fun p3 =>
zob h2 2 (zhD h2 0 p3 1) fun p4 =>
zob h2 11 v1 fun _ =>
F_Gr_whyIdle v1 (zhD h2 2 p4 4) h2  fun v5 h6 =>
znar 2 v5 fun x7 => kr x7 h6) = zseg zPP true (zcal (ρ := ρ) [(51, [none, none, none], zcx3 F_X_groupAt), (211, [none, none], zca2 F_Gr_whyIdle)]) (zget (999, 0, 0, 0) zc_X_reason) (zcut zu_X_reason) (zorc (ρ := ρ) []) kr kt 400 0 [some (100, a0), some (0, a1), some (0, a2)] [] h := by rfl
set_option maxRecDepth 100000 in
theorem qe_X_reason {ρ : Type} (kr : Int → zH → Option ρ) (kt : Nat → zH → Option ρ) (a0 a1 a2 : Int) (h : zH) : X_reason a0 a1 a2 h kt kr = zseg zPP true (zcal (ρ := ρ) [(51, [none, none, none], zcx3 X_groupAt), (211, [none, none], zca2 Gr_whyIdle)]) (zget (999, 0, 0, 0) zc_X_reason) (zcut zu_X_reason) (zorc (ρ := ρ) []) kr kt 400 0 [some (100, a0), some (0, a1), some (0, a2)] [] h := qg_X_reason kr kt X_groupAt Gr_whyIdle a0 a1 a2 h
def zc_X_register : List zI := [(14, 0, 0, 100), (10, 0, 1, 0), (10, 0, 2, 0), (110, 0, 173, 51), (999, 0, 0, 0), (999, 0, 0, 0), (21, 0, 5, 111), (999, 0, 0, 0), (15, 0, 5, 111), (999, 0, 0, 0), (10, 0, 3, 0), (110, 0, 206, 203), (999, 0, 0, 0), (999, 0, 0, 0), (21, 0, 6, 106), (999, 0, 0, 0), (15, 0, 6, 106), (999, 0, 0, 0), (73, 22, 40, 0), (999, 0, 0, 0), (999, 0, 0, 0), (15, 0, 5, 111), (999, 0, 0, 0), (80, 11, 177, 0), (999, 0, 0, 0), (999, 0, 0, 0), (80, 10, 183, 0), (999, 0, 0, 0), (999, 0, 0, 0), (80, 9, 210, 5), (999, 0, 0, 0), (999, 0, 0, 0), (11, 0, 4, 0), (999, 0, 0, 0), (110, 0, 214, 225), (999, 0, 0, 0), (999, 0, 0, 0), (61, 11, 48, 0), (999, 0, 0, 0), (999, 0, 0, 0), (134, 89, 87, 3), (999, 0, 0, 0), (999, 0, 0, 0), (999, 0, 0, 0), (999, 0, 0, 0), (999, 0, 0, 0), (999, 0, 0, 0), (999, 0, 0, 0), (15, 0, 6, 106), (999, 0, 0, 0), (11, 0, 4, 0), (999, 0, 0, 0), (110, 0, 217, 258), (999, 0, 0, 0), (999, 0, 0, 0), (130, 0, 0, 0)]
def zu_X_register : List (Nat × List Bool) := [(40, [false, false, false, false, false, false, false])]
set_option maxRecDepth 100000 in
theorem qg_X_register_40 {ρ : Type} (kr : Int → zH → Option ρ) (kt : Nat → zH → Option ρ) (h : zH) : (zlet (zthrown h) fun h1 => kt 3 h1) = zseg zPP true (zcal (ρ := ρ) []) (zget (999, 0, 0, 0) zc_X_register) (zcut zu_X_register) (zorc (ρ := ρ) []) kr kt 400 40 [none, none, none, none, none, none, none] [] h := by rfl
set_option maxRecDepth 100000 in
theorem qe_X_register_40 {ρ : Type} (kr : Int → zH → Option ρ) (kt : Nat → zH → Option ρ) (h : zH) : X_register_40 kr kt h = zseg zPP true (zcal (ρ := ρ) []) (zget (999, 0, 0, 0) zc_X_register) (zcut zu_X_register) (zorc (ρ := ρ) []) kr kt 400 40 [none, none, none, none, none, none, none] [] h := qg_X_register_40 kr kt h
set_option maxRecDepth 100000 in
theorem qg_X_register {ρ : Type} (kr : Int → zH → Option ρ) (kt : Nat → zH → Option ρ) (F_X_groupAt : Int → Int → Int → zH → (Nat → zH → Option ρ) → (Int → zH → Option ρ) → Option ρ) (F_Gr_threadIn : Int → Int → zH → (Int → zH → Option ρ) → Option ρ) (F_Ke_hasRegister : Int → Int → zH → (Int → zH → Option ρ) → Option ρ) (F_Th_at : Int → Int → zH → (Int → zH → Option ρ) → Option ρ) (c40 : zH → Option ρ) (a0 a1 a2 a3 a4 : Int) (h : zH) : (zob h 0 a0 fun _ =>
F_X_groupAt a0 a1 a2 h kt fun v1 h2 =>
zob h2 11 v1 fun _ =>
F_Gr_threadIn v1 a3 h2  fun v3 h4 =>
if v3 < 0 then c40 h4
else zob h4 11 v1 fun p5 =>
zob h4 10 (zhD h4 11 p5 0) fun p6 =>
zob h4 9 (zhD h4 10 p6 0) fun p7 =>
zob h4 7 (zhD h4 9 p7 5) fun _ =>
F_Ke_hasRegister (zhD h4 9 p7 5) a4 h4  fun v8 h9 =>
if v8 = 0 then c40 h9
else zob h9 6 v3 fun _ =>
F_Th_at v3 a4 h9  fun v10 h11 =>
kr v10 h11) = zseg zPP true (zcal (ρ := ρ) [(51, [none, none, none], zcx3 F_X_groupAt), (203, [none, none], zca2 F_Gr_threadIn), (225, [none, none], zca2 F_Ke_hasRegister), (258, [none, none], zca2 F_Th_at)]) (zget (999, 0, 0, 0) zc_X_register) (zcut zu_X_register) (zorc (ρ := ρ) [(40, [none, none, none, none, none, none, none], [], zap0 c40)]) kr kt 400 0 [some (100, a0), some (0, a1), some (0, a2), some (0, a3), some (0, a4), none, none] [] h := by rfl
set_option maxRecDepth 100000 in
theorem qe_X_register {ρ : Type} (kr : Int → zH → Option ρ) (kt : Nat → zH → Option ρ) (a0 a1 a2 a3 a4 : Int) (h : zH) : X_register a0 a1 a2 a3 a4 h kt kr = zseg zPP true (zcal (ρ := ρ) [(51, [none, none, none], zcx3 X_groupAt), (203, [none, none], zca2 Gr_threadIn), (225, [none, none], zca2 Ke_hasRegister), (258, [none, none], zca2 Th_at)]) (zget (999, 0, 0, 0) zc_X_register) (zcut zu_X_register) (zorc (ρ := ρ) [(40, [none, none, none, none, none, none, none], [], zap0 (X_register_40 kr kt))]) kr kt 400 0 [some (100, a0), some (0, a1), some (0, a2), some (0, a3), some (0, a4), none, none] [] h := qg_X_register kr kt X_groupAt Gr_threadIn Ke_hasRegister Th_at (X_register_40 kr kt) a0 a1 a2 a3 a4 h
