def zc_Th_set : List zI := [(10, 0, 1, 0), (62, 19, 20, 0), (999, 0, 0, 0), (999, 0, 0, 0), (10, 0, 1, 0), (14, 0, 0, 106), (80, 6, 21, 1), (999, 0, 0, 0), (999, 0, 0, 0), (100, 0, 0, 32), (69, 10, 20, 0), (999, 0, 0, 0), (999, 0, 0, 0), (14, 0, 0, 106), (80, 6, 21, 1), (999, 0, 0, 0), (999, 0, 0, 0), (10, 0, 1, 0), (10, 0, 2, 0), (95, 0, 0, 32), (133, 0, 0, 0)]
def zu_Th_set : List (Nat × List Bool) := [(20, [false, false, false])]
set_option maxRecDepth 100000 in
theorem qg_Th_set_20 {ρ : Type} (kr : Int → zH → Option ρ) (h : zH) : (kr 0 h) = zseg zPP true (zcal (ρ := ρ) []) (zget (999, 0, 0, 0) zc_Th_set) (zcut zu_Th_set) (zorc (ρ := ρ) []) kr (fun _ _ => none) 400 20 [none, none, none] [] h := by rfl
set_option maxRecDepth 100000 in
theorem qe_Th_set_20 {ρ : Type} (kr : Int → zH → Option ρ) (h : zH) : Th_set_20 kr h = zseg zPP true (zcal (ρ := ρ) []) (zget (999, 0, 0, 0) zc_Th_set) (zcut zu_Th_set) (zorc (ρ := ρ) []) kr (fun _ _ => none) 400 20 [none, none, none] [] h := qg_Th_set_20 kr h
set_option maxRecDepth 100000 in
theorem qg_Th_set {ρ : Type} (kr : Int → zH → Option ρ) (c20 : zH → Option ρ) (a0 a1 a2 : Int) (h : zH) : (if a1 < 0 then c20 h
else zob h 6 a0 fun p1 =>
zob h 32 (zhD h 6 p1 1) fun p2 =>
if a1 < (zhL h 32 p2 : Int) then (zob h 6 a0 fun p3 =>
zob h 32 (zhD h 6 p3 1) fun p4 =>
zix (zhL h 32 p4) a1 fun j5 =>
zlet (zset h 32 p4 j5 a2) fun h6 =>
c20 h6)
else c20 h) = zseg zPP true (zcal (ρ := ρ) []) (zget (999, 0, 0, 0) zc_Th_set) (zcut zu_Th_set) (zorc (ρ := ρ) [(20, [none, none, none], [], zap0 c20)]) kr (fun _ _ => none) 400 0 [some (106, a0), some (0, a1), some (0, a2)] [] h := by rfl
set_option maxRecDepth 100000 in
theorem qe_Th_set {ρ : Type} (kr : Int → zH → Option ρ) (a0 a1 a2 : Int) (h : zH) : Th_set a0 a1 a2 h kr = zseg zPP true (zcal (ρ := ρ) []) (zget (999, 0, 0, 0) zc_Th_set) (zcut zu_Th_set) (zorc (ρ := ρ) [(20, [none, none, none], [], zap0 (Th_set_20 kr))]) kr (fun _ _ => none) 400 0 [some (106, a0), some (0, a1), some (0, a2)] [] h := qg_Th_set kr (Th_set_20 kr) a0 a1 a2 h
def zc_X_exchange_22 : List zI := [(14, 0, 0, 122), (10, 0, 1, 0), (90, 0, 0, 22), (17, 0, 4, 0), (999, 0, 0, 0), (14, 0, 2, 106), (14, 0, 3, 108), (80, 8, 305, 3), (999, 0, 0, 0), (999, 0, 0, 0), (110, 0, 217, 258), (999, 0, 0, 0), (999, 0, 0, 0), (17, 0, 5, 0), (999, 0, 0, 0), (14, 0, 0, 122), (10, 0, 1, 0), (14, 0, 3, 108), (80, 8, 308, 0), (999, 0, 0, 0), (999, 0, 0, 0), (1, 97, 0, 0), (999, 0, 0, 0), (67, 11, 34, 0), (999, 0, 0, 0), (999, 0, 0, 0), (11, 0, 4, 0), (999, 0, 0, 0), (11, 0, 5, 0), (999, 0, 0, 0), (30, 0, 0, 0), (72, 5, 36, 0), (999, 0, 0, 0), (999, 0, 0, 0), (11, 0, 5, 0), (999, 0, 0, 0), (95, 0, 0, 22), (14, 0, 2, 106), (14, 0, 3, 108), (80, 8, 311, 1), (999, 0, 0, 0), (999, 0, 0, 0), (11, 0, 4, 0), (999, 0, 0, 0), (110, 0, 314, 259), (999, 0, 0, 0), (999, 0, 0, 0), (133, 0, 0, 0)]
def zu_X_exchange_22 : List (Nat × List Bool) := [(36, [false, false, true, true, true, false])]
set_option maxRecDepth 100000 in
theorem qg_X_exchange_22_36 {ρ : Type} (kr : Int → zH → Option ρ) (F_Th_set : Int → Int → Int → zH → (Int → zH → Option ρ) → Option ρ) (a2 a3 a4 t0 t1 t2 : Int) (h : zH) : (zob h 22 t2 fun p1 =>
zix (zhL h 22 p1) t1 fun j2 =>
zlet (zset h 22 p1 j2 t0) fun h3 =>
zob h3 8 a3 fun p4 =>
zob h3 6 a2 fun _ =>
F_Th_set a2 (zhD h3 8 p4 1) a4 h3  fun _ h6 =>
kr 0 h6) = zseg zPP true (zcal (ρ := ρ) [(259, [none, none, none], zca3 F_Th_set)]) (zget (999, 0, 0, 0) zc_X_exchange_22) (zcut zu_X_exchange_22) (zorc (ρ := ρ) []) kr (fun _ _ => none) 400 36 [none, none, some (106, a2), some (108, a3), some (0, a4), none] [(0, t0), (0, t1), (122, t2)] h := by rfl
set_option maxRecDepth 100000 in
theorem qe_X_exchange_22_36 {ρ : Type} (kr : Int → zH → Option ρ) (a2 a3 a4 t0 t1 t2 : Int) (h : zH) : X_exchange_22_36 kr a2 a3 a4 t0 t1 t2 h = zseg zPP true (zcal (ρ := ρ) [(259, [none, none, none], zca3 Th_set)]) (zget (999, 0, 0, 0) zc_X_exchange_22) (zcut zu_X_exchange_22) (zorc (ρ := ρ) []) kr (fun _ _ => none) 400 36 [none, none, some (106, a2), some (108, a3), some (0, a4), none] [(0, t0), (0, t1), (122, t2)] h := qg_X_exchange_22_36 kr Th_set a2 a3 a4 t0 t1 t2 h
set_option maxRecDepth 100000 in
theorem qg_X_exchange_22 {ρ : Type} (kr : Int → zH → Option ρ) (F_Th_at : Int → Int → zH → (Int → zH → Option ρ) → Option ρ) (c36 : Int → Int → Int → Int → Int → Int → zH → Option ρ) (a0 a1 a2 a3 : Int) (h : zH) : (zob h 22 a0 fun p1 =>
zix (zhL h 22 p1) a1 fun j2 =>
zob h 8 a3 fun p3 =>
zob h 6 a2 fun _ =>
F_Th_at a2 (zhD h 8 p3 3) h  fun v4 h5 =>
zob h5 8 a3 fun p6 =>
if (zhD h5 8 p6 0) = 97 then c36 a2 a3 (zhD h 22 p1 j2) (wr ((zhD h 22 p1 j2) + v4)) a1 a0 h5
else c36 a2 a3 (zhD h 22 p1 j2) v4 a1 a0 h5) = zseg zPP true (zcal (ρ := ρ) [(258, [none, none], zca2 F_Th_at)]) (zget (999, 0, 0, 0) zc_X_exchange_22) (zcut zu_X_exchange_22) (zorc (ρ := ρ) [(36, [none, none, some (106, none), some (108, none), some (0, none), none], [(0, none), (0, none), (122, none)], zap6 c36)]) kr (fun _ _ => none) 400 0 [some (122, a0), some (0, a1), some (106, a2), some (108, a3), none, none] [] h := by rfl
set_option maxRecDepth 100000 in
theorem qe_X_exchange_22 {ρ : Type} (kr : Int → zH → Option ρ) (a0 a1 a2 a3 : Int) (h : zH) : X_exchange_22 a0 a1 a2 a3 h kr = zseg zPP true (zcal (ρ := ρ) [(258, [none, none], zca2 Th_at)]) (zget (999, 0, 0, 0) zc_X_exchange_22) (zcut zu_X_exchange_22) (zorc (ρ := ρ) [(36, [none, none, some (106, none), some (108, none), some (0, none), none], [(0, none), (0, none), (122, none)], zap6 (X_exchange_22_36 kr))]) kr (fun _ _ => none) 400 0 [some (122, a0), some (0, a1), some (106, a2), some (108, a3), none, none] [] h := qg_X_exchange_22 kr Th_at (X_exchange_22_36 kr) a0 a1 a2 a3 h
def zc_X_isClash : List zI := [(10, 0, 2, 0), (60, 11, 12, 0), (999, 0, 0, 0), (999, 0, 0, 0), (10, 0, 0, 0), (4, 65535, 304, 0), (999, 0, 0, 0), (999, 0, 0, 0), (36, 0, 0, 0), (72, 7, 16, 0), (999, 0, 0, 0), (999, 0, 0, 0), (10, 0, 0, 0), (1, 16, 0, 0), (999, 0, 0, 0), (41, 0, 0, 0), (16, 0, 3, 0), (10, 0, 3, 0), (0, 1, 0, 0), (10, 0, 1, 0), (39, 0, 0, 0), (0, (-1), 0, 0), (38, 0, 0, 0), (36, 0, 0, 0), (60, 7, 31, 0), (999, 0, 0, 0), (999, 0, 0, 0), (0, 1, 0, 0), (72, 4, 32, 0), (999, 0, 0, 0), (999, 0, 0, 0), (0, 0, 0, 0), (130, 0, 1, 0)]
def zu_X_isClash : List (Nat × List Bool) := [(16, [false, true, false, false]), (32, [false, false, false, false])]
set_option maxRecDepth 100000 in
theorem qg_X_isClash_32 {ρ : Type} (kr : Int → zH → Option ρ) (t0 : Int) (h : zH) : (znar 1 t0 fun x1 => kr x1 h) = zseg zPP true (zcal (ρ := ρ) []) (zget (999, 0, 0, 0) zc_X_isClash) (zcut zu_X_isClash) (zorc (ρ := ρ) []) kr (fun _ _ => none) 400 32 [none, none, none, none] [(0, t0)] h := by rfl
set_option maxRecDepth 100000 in
theorem qe_X_isClash_32 {ρ : Type} (kr : Int → zH → Option ρ) (t0 : Int) (h : zH) : X_isClash_32 kr t0 h = zseg zPP true (zcal (ρ := ρ) []) (zget (999, 0, 0, 0) zc_X_isClash) (zcut zu_X_isClash) (zorc (ρ := ρ) []) kr (fun _ _ => none) 400 32 [none, none, none, none] [(0, t0)] h := qg_X_isClash_32 kr t0 h
set_option maxRecDepth 100000 in
theorem qg_X_isClash_16 {ρ : Type} (kr : Int → zH → Option ρ) (c32 : Int → zH → Option ρ) (a1 t0 : Int) (h : zH) : (if (zand t0 (zxor (zshl 1 a1) (-1))) = 0 then c32 0 h
else c32 1 h) = zseg zPP true (zcal (ρ := ρ) []) (zget (999, 0, 0, 0) zc_X_isClash) (zcut zu_X_isClash) (zorc (ρ := ρ) [(32, [none, none, none, none], [(0, none)], zap1 c32)]) kr (fun _ _ => none) 400 16 [none, some (0, a1), none, none] [(0, t0)] h := by rfl
set_option maxRecDepth 100000 in
theorem qe_X_isClash_16 {ρ : Type} (kr : Int → zH → Option ρ) (a1 t0 : Int) (h : zH) : X_isClash_16 kr a1 t0 h = zseg zPP true (zcal (ρ := ρ) []) (zget (999, 0, 0, 0) zc_X_isClash) (zcut zu_X_isClash) (zorc (ρ := ρ) [(32, [none, none, none, none], [(0, none)], zap1 (X_isClash_32 kr))]) kr (fun _ _ => none) 400 16 [none, some (0, a1), none, none] [(0, t0)] h := qg_X_isClash_16 kr (X_isClash_32 kr) a1 t0 h
set_option maxRecDepth 100000 in
theorem qg_X_isClash {ρ : Type} (kr : Int → zH → Option ρ) (c16 : Int → Int → zH → Option ρ) (a0 a1 a2 : Int) (h : zH) : (if a2 = 0 then c16 a1 (zushr a0 16) h
else c16 a1 (zand a0 65535) h) = zseg zPP true (zcal (ρ := ρ) []) (zget (999, 0, 0, 0) zc_X_isClash) (zcut zu_X_isClash) (zorc (ρ := ρ) [(16, [none, some (0, none), none, none], [(0, none)], zap2 c16)]) kr (fun _ _ => none) 400 0 [some (0, a0), some (0, a1), some (0, a2), none] [] h := by rfl
set_option maxRecDepth 100000 in
theorem qe_X_isClash {ρ : Type} (kr : Int → zH → Option ρ) (a0 a1 a2 : Int) (h : zH) : X_isClash a0 a1 a2 h kr = zseg zPP true (zcal (ρ := ρ) []) (zget (999, 0, 0, 0) zc_X_isClash) (zcut zu_X_isClash) (zorc (ρ := ρ) [(16, [none, some (0, none), none, none], [(0, none)], zap2 (X_isClash_16 kr))]) kr (fun _ _ => none) 400 0 [some (0, a0), some (0, a1), some (0, a2), none] [] h := qg_X_isClash kr (X_isClash_16 kr) a0 a1 a2 h
def zc_X_withTouch : List zI := [(10, 0, 0, 0), (0, 1, 0, 0), (10, 0, 1, 0), (39, 0, 0, 0), (37, 0, 0, 0), (16, 0, 3, 0), (10, 0, 2, 0), (60, 14, 21, 0), (999, 0, 0, 0), (999, 0, 0, 0), (10, 0, 3, 0), (0, 1, 0, 0), (1, 16, 0, 0), (999, 0, 0, 0), (10, 0, 1, 0), (30, 0, 0, 0), (39, 0, 0, 0), (37, 0, 0, 0), (72, 4, 22, 0), (999, 0, 0, 0), (999, 0, 0, 0), (10, 0, 3, 0), (130, 0, 0, 0)]
def zu_X_withTouch : List (Nat × List Bool) := [(22, [false, false, false, false])]
set_option maxRecDepth 100000 in
theorem qg_X_withTouch_22 {ρ : Type} (kr : Int → zH → Option ρ) (t0 : Int) (h : zH) : (kr t0 h) = zseg zPP true (zcal (ρ := ρ) []) (zget (999, 0, 0, 0) zc_X_withTouch) (zcut zu_X_withTouch) (zorc (ρ := ρ) []) kr (fun _ _ => none) 400 22 [none, none, none, none] [(0, t0)] h := by rfl
set_option maxRecDepth 100000 in
theorem qe_X_withTouch_22 {ρ : Type} (kr : Int → zH → Option ρ) (t0 : Int) (h : zH) : X_withTouch_22 kr t0 h = zseg zPP true (zcal (ρ := ρ) []) (zget (999, 0, 0, 0) zc_X_withTouch) (zcut zu_X_withTouch) (zorc (ρ := ρ) []) kr (fun _ _ => none) 400 22 [none, none, none, none] [(0, t0)] h := qg_X_withTouch_22 kr t0 h
set_option maxRecDepth 100000 in
theorem qg_X_withTouch {ρ : Type} (kr : Int → zH → Option ρ) (c22 : Int → zH → Option ρ) (a0 a1 a2 : Int) (h : zH) : (if a2 = 0 then c22 (zor a0 (zshl 1 a1)) h
else c22 (zor (zor a0 (zshl 1 a1)) (zshl 1 (wr (16 + a1)))) h) = zseg zPP true (zcal (ρ := ρ) []) (zget (999, 0, 0, 0) zc_X_withTouch) (zcut zu_X_withTouch) (zorc (ρ := ρ) [(22, [none, none, none, none], [(0, none)], zap1 c22)]) kr (fun _ _ => none) 400 0 [some (0, a0), some (0, a1), some (0, a2), none] [] h := by rfl
set_option maxRecDepth 100000 in
theorem qe_X_withTouch {ρ : Type} (kr : Int → zH → Option ρ) (a0 a1 a2 : Int) (h : zH) : X_withTouch a0 a1 a2 h kr = zseg zPP true (zcal (ρ := ρ) []) (zget (999, 0, 0, 0) zc_X_withTouch) (zcut zu_X_withTouch) (zorc (ρ := ρ) [(22, [none, none, none, none], [(0, none)], zap1 (X_withTouch_22 kr))]) kr (fun _ _ => none) 400 0 [some (0, a0), some (0, a1), some (0, a2), none] [] h := qg_X_withTouch kr (X_withTouch_22 kr) a0 a1 a2 h
def zc_La_markRace : List zI := [(14, 0, 0, 109), (80, 9, 19, 17), (999, 0, 0, 0), (999, 0, 0, 0), (10, 0, 1, 0), (91, 0, 0, 35), (61, 20, 26, 0), (999, 0, 0, 0), (999, 0, 0, 0), (14, 0, 0, 109), (80, 9, 19, 17), (999, 0, 0, 0), (999, 0, 0, 0), (10, 0, 1, 0), (0, 1, 0, 0), (96, 0, 0, 35), (14, 0, 0, 109), (50, 0, 0, 0), (80, 9, 72, 18), (999, 0, 0, 0), (999, 0, 0, 0), (0, 1, 0, 0), (30, 0, 0, 0), (82, 9, 72, 18), (999, 0, 0, 0), (999, 0, 0, 0), (133, 0, 0, 0)]
def zu_La_markRace : List (Nat × List Bool) := [(26, [false, false])]
set_option maxRecDepth 100000 in
theorem qg_La_markRace_26 {ρ : Type} (kr : Int → zH → Option ρ) (h : zH) : (kr 0 h) = zseg zPP true (zcal (ρ := ρ) []) (zget (999, 0, 0, 0) zc_La_markRace) (zcut zu_La_markRace) (zorc (ρ := ρ) []) kr (fun _ _ => none) 400 26 [none, none] [] h := by rfl
set_option maxRecDepth 100000 in
theorem qe_La_markRace_26 {ρ : Type} (kr : Int → zH → Option ρ) (h : zH) : La_markRace_26 kr h = zseg zPP true (zcal (ρ := ρ) []) (zget (999, 0, 0, 0) zc_La_markRace) (zcut zu_La_markRace) (zorc (ρ := ρ) []) kr (fun _ _ => none) 400 26 [none, none] [] h := qg_La_markRace_26 kr h
set_option maxRecDepth 100000 in
theorem qg_La_markRace {ρ : Type} (kr : Int → zH → Option ρ) (c26 : zH → Option ρ) (a0 a1 : Int) (h : zH) : (zob h 9 a0 fun p1 =>
zob h 35 (zhD h 9 p1 17) fun p2 =>
zix (zhL h 35 p2) a1 fun j3 =>
if (zhD h 35 p2 j3) = 0 then (zob h 9 a0 fun p4 =>
zob h 35 (zhD h 9 p4 17) fun p5 =>
zix (zhL h 35 p5) a1 fun j6 =>
zlet (zset h 35 p5 j6 1) fun h7 =>
zob h7 9 a0 fun p8 =>
zob h7 9 a0 fun p9 =>
zlet (zset h7 9 p9 18 (wr ((zhD h7 9 p8 18) + 1))) fun h10 =>
c26 h10)
else c26 h) = zseg zPP true (zcal (ρ := ρ) []) (zget (999, 0, 0, 0) zc_La_markRace) (zcut zu_La_markRace) (zorc (ρ := ρ) [(26, [none, none], [], zap0 c26)]) kr (fun _ _ => none) 400 0 [some (109, a0), some (0, a1)] [] h := by rfl
set_option maxRecDepth 100000 in
theorem qe_La_markRace {ρ : Type} (kr : Int → zH → Option ρ) (a0 a1 : Int) (h : zH) : La_markRace a0 a1 h kr = zseg zPP true (zcal (ρ := ρ) []) (zget (999, 0, 0, 0) zc_La_markRace) (zcut zu_La_markRace) (zorc (ρ := ρ) [(26, [none, none], [], zap0 (La_markRace_26 kr))]) kr (fun _ _ => none) 400 0 [some (109, a0), some (0, a1)] [] h := qg_La_markRace kr (La_markRace_26 kr) a0 a1 h
def zc_Bl_touchGlobal : List zI := [(14, 0, 0, 110), (80, 10, 9, 5), (999, 0, 0, 0), (999, 0, 0, 0), (10, 0, 2, 0), (90, 0, 0, 39), (10, 0, 1, 0), (10, 0, 3, 0), (114, 0, 104, 58), (999, 0, 0, 0), (999, 0, 0, 0), (61, 23, 34, 0), (999, 0, 0, 0), (999, 0, 0, 0), (14, 0, 0, 110), (80, 10, 15, 0), (999, 0, 0, 0), (999, 0, 0, 0), (80, 9, 108, 16), (999, 0, 0, 0), (999, 0, 0, 0), (10, 0, 2, 0), (90, 0, 0, 34), (14, 0, 0, 110), (80, 10, 19, 1), (999, 0, 0, 0), (999, 0, 0, 0), (10, 0, 3, 0), (114, 0, 104, 58), (999, 0, 0, 0), (999, 0, 0, 0), (60, 11, 42, 0), (999, 0, 0, 0), (999, 0, 0, 0), (14, 0, 0, 110), (80, 10, 15, 0), (999, 0, 0, 0), (999, 0, 0, 0), (10, 0, 2, 0), (110, 0, 109, 238), (999, 0, 0, 0), (999, 0, 0, 0), (14, 0, 0, 110), (80, 10, 9, 5), (999, 0, 0, 0), (999, 0, 0, 0), (10, 0, 2, 0), (14, 0, 0, 110), (80, 10, 9, 5), (999, 0, 0, 0), (999, 0, 0, 0), (10, 0, 2, 0), (90, 0, 0, 39), (10, 0, 1, 0), (10, 0, 3, 0), (114, 0, 113, 59), (999, 0, 0, 0), (999, 0, 0, 0), (95, 0, 0, 39), (14, 0, 0, 110), (80, 10, 15, 0), (999, 0, 0, 0), (999, 0, 0, 0), (80, 9, 108, 16), (999, 0, 0, 0), (999, 0, 0, 0), (10, 0, 2, 0), (14, 0, 0, 110), (80, 10, 15, 0), (999, 0, 0, 0), (999, 0, 0, 0), (80, 9, 108, 16), (999, 0, 0, 0), (999, 0, 0, 0), (10, 0, 2, 0), (90, 0, 0, 34), (14, 0, 0, 110), (80, 10, 19, 1), (999, 0, 0, 0), (999, 0, 0, 0), (10, 0, 3, 0), (114, 0, 113, 59), (999, 0, 0, 0), (999, 0, 0, 0), (95, 0, 0, 34), (133, 0, 0, 0)]
def zu_Bl_touchGlobal : List (Nat × List Bool) := [(34, [true, true, true, true]), (42, [true, true, true, true])]
set_option maxRecDepth 100000 in
theorem qg_Bl_touchGlobal_42 {ρ : Type} (kr : Int → zH → Option ρ) (F_X_withTouch : Int → Int → Int → zH → (Int → zH → Option ρ) → Option ρ) (a0 a1 a2 a3 : Int) (h : zH) : (zob h 10 a0 fun p1 =>
zob h 10 a0 fun p2 =>
zob h 39 (zhD h 10 p2 5) fun p3 =>
zix (zhL h 39 p3) a2 fun j4 =>
F_X_withTouch (zhD h 39 p3 j4) a1 a3 h  fun v5 h6 =>
zob h6 39 (zhD h 10 p1 5) fun p7 =>
zix (zhL h6 39 p7) a2 fun j8 =>
zlet (zset h6 39 p7 j8 v5) fun h9 =>
zob h9 10 a0 fun p10 =>
zob h9 9 (zhD h9 10 p10 0) fun p11 =>
zob h9 10 a0 fun p12 =>
zob h9 9 (zhD h9 10 p12 0) fun p13 =>
zob h9 34 (zhD h9 9 p13 16) fun p14 =>
zix (zhL h9 34 p14) a2 fun j15 =>
zob h9 10 a0 fun p16 =>
F_X_withTouch (zhD h9 34 p14 j15) (zhD h9 10 p16 1) a3 h9  fun v17 h18 =>
zob h18 34 (zhD h9 9 p11 16) fun p19 =>
zix (zhL h18 34 p19) a2 fun j20 =>
zlet (zset h18 34 p19 j20 v17) fun h21 =>
kr 0 h21) = zseg zPP true (zcal (ρ := ρ) [(59, [none, none, none], zca3 F_X_withTouch)]) (zget (999, 0, 0, 0) zc_Bl_touchGlobal) (zcut zu_Bl_touchGlobal) (zorc (ρ := ρ) []) kr (fun _ _ => none) 400 42 [some (110, a0), some (0, a1), some (0, a2), some (0, a3)] [] h := by rfl
set_option maxRecDepth 100000 in
theorem qe_Bl_touchGlobal_42 {ρ : Type} (kr : Int → zH → Option ρ) (a0 a1 a2 a3 : Int) (h : zH) : Bl_touchGlobal_42 kr a0 a1 a2 a3 h = zseg zPP true (zcal (ρ := ρ) [(59, [none, none, none], zca3 X_withTouch)]) (zget (999, 0, 0, 0) zc_Bl_touchGlobal) (zcut zu_Bl_touchGlobal) (zorc (ρ := ρ) []) kr (fun _ _ => none) 400 42 [some (110, a0), some (0, a1), some (0, a2), some (0, a3)] [] h := qg_Bl_touchGlobal_42 kr X_withTouch a0 a1 a2 a3 h
set_option maxRecDepth 100000 in
theorem qg_Bl_touchGlobal_34 {ρ : Type} (kr : Int → zH → Option ρ) (F_La_markRace : Int → Int → zH → (Int → zH → Option ρ) → Option ρ) (c42 : Int → Int → Int → Int → zH → Option ρ) (a0 a1 a2 a3 : Int) (h : zH) : (zob h 10 a0 fun p1 =>
zob h 9 (zhD h 10 p1 0) fun _ =>
F_La_markRace (zhD h 10 p1 0) a2 h  fun _ h3 =>
c42 a0 a1 a2 a3 h3) = zseg zPP true (zcal (ρ := ρ) [(238, [none, none], zca2 F_La_markRace)]) (zget (999, 0, 0, 0) zc_Bl_touchGlobal) (zcut zu_Bl_touchGlobal) (zorc (ρ := ρ) [(42, [some (110, none), some (0, none), some (0, none), some (0, none)], [], zap4 c42)]) kr (fun _ _ => none) 400 34 [some (110, a0), some (0, a1), some (0, a2), some (0, a3)] [] h := by rfl
set_option maxRecDepth 100000 in
theorem qe_Bl_touchGlobal_34 {ρ : Type} (kr : Int → zH → Option ρ) (a0 a1 a2 a3 : Int) (h : zH) : Bl_touchGlobal_34 kr a0 a1 a2 a3 h = zseg zPP true (zcal (ρ := ρ) [(238, [none, none], zca2 La_markRace)]) (zget (999, 0, 0, 0) zc_Bl_touchGlobal) (zcut zu_Bl_touchGlobal) (zorc (ρ := ρ) [(42, [some (110, none), some (0, none), some (0, none), some (0, none)], [], zap4 (Bl_touchGlobal_42 kr))]) kr (fun _ _ => none) 400 34 [some (110, a0), some (0, a1), some (0, a2), some (0, a3)] [] h := qg_Bl_touchGlobal_34 kr La_markRace (Bl_touchGlobal_42 kr) a0 a1 a2 a3 h
set_option maxRecDepth 100000 in
theorem qg_Bl_touchGlobal {ρ : Type} (kr : Int → zH → Option ρ) (F_X_isClash : Int → Int → Int → zH → (Int → zH → Option ρ) → Option ρ) (c34 : Int → Int → Int → Int → zH → Option ρ) (c42 : Int → Int → Int → Int → zH → Option ρ) (a0 a1 a2 a3 : Int) (h : zH) : (zob h 10 a0 fun p1 =>
zob h 39 (zhD h 10 p1 5) fun p2 =>
zix (zhL h 39 p2) a2 fun j3 =>
F_X_isClash (zhD h 39 p2 j3) a1 a3 h  fun v4 h5 =>
if v4 = 0 then (zob h5 10 a0 fun p6 =>
zob h5 9 (zhD h5 10 p6 0) fun p7 =>
zob h5 34 (zhD h5 9 p7 16) fun p8 =>
zix (zhL h5 34 p8) a2 fun j9 =>
zob h5 10 a0 fun p10 =>
F_X_isClash (zhD h5 34 p8 j9) (zhD h5 10 p10 1) a3 h5  fun v11 h12 =>
if v11 = 0 then c42 a0 a1 a2 a3 h12
else c34 a0 a1 a2 a3 h12)
else c34 a0 a1 a2 a3 h5) = zseg zPP true (zcal (ρ := ρ) [(58, [none, none, none], zca3 F_X_isClash)]) (zget (999, 0, 0, 0) zc_Bl_touchGlobal) (zcut zu_Bl_touchGlobal) (zorc (ρ := ρ) [(34, [some (110, none), some (0, none), some (0, none), some (0, none)], [], zap4 c34), (42, [some (110, none), some (0, none), some (0, none), some (0, none)], [], zap4 c42)]) kr (fun _ _ => none) 400 0 [some (110, a0), some (0, a1), some (0, a2), some (0, a3)] [] h := by rfl
set_option maxRecDepth 100000 in
theorem qe_Bl_touchGlobal {ρ : Type} (kr : Int → zH → Option ρ) (a0 a1 a2 a3 : Int) (h : zH) : Bl_touchGlobal a0 a1 a2 a3 h kr = zseg zPP true (zcal (ρ := ρ) [(58, [none, none, none], zca3 X_isClash)]) (zget (999, 0, 0, 0) zc_Bl_touchGlobal) (zcut zu_Bl_touchGlobal) (zorc (ρ := ρ) [(34, [some (110, none), some (0, none), some (0, none), some (0, none)], [], zap4 (Bl_touchGlobal_34 kr)), (42, [some (110, none), some (0, none), some (0, none), some (0, none)], [], zap4 (Bl_touchGlobal_42 kr))]) kr (fun _ _ => none) 400 0 [some (110, a0), some (0, a1), some (0, a2), some (0, a3)] [] h := qg_Bl_touchGlobal kr X_isClash (Bl_touchGlobal_34 kr) (Bl_touchGlobal_42 kr) a0 a1 a2 a3 h
def zc_Gr_isBufferFull : List zI := [(14, 0, 0, 111), (80, 11, 67, 5), (999, 0, 0, 0), (999, 0, 0, 0), (0, 4, 0, 0), (68, 7, 12, 0), (999, 0, 0, 0), (999, 0, 0, 0), (0, 1, 0, 0), (72, 4, 13, 0), (999, 0, 0, 0), (999, 0, 0, 0), (0, 0, 0, 0), (130, 0, 1, 0)]
def zu_Gr_isBufferFull : List (Nat × List Bool) := [(13, [false])]
set_option maxRecDepth 100000 in
theorem qg_Gr_isBufferFull_13 {ρ : Type} (kr : Int → zH → Option ρ) (t0 : Int) (h : zH) : (znar 1 t0 fun x1 => kr x1 h) = zseg zPP true (zcal (ρ := ρ) []) (zget (999, 0, 0, 0) zc_Gr_isBufferFull) (zcut zu_Gr_isBufferFull) (zorc (ρ := ρ) []) kr (fun _ _ => none) 400 13 [none] [(0, t0)] h := by rfl
set_option maxRecDepth 100000 in
theorem qe_Gr_isBufferFull_13 {ρ : Type} (kr : Int → zH → Option ρ) (t0 : Int) (h : zH) : Gr_isBufferFull_13 kr t0 h = zseg zPP true (zcal (ρ := ρ) []) (zget (999, 0, 0, 0) zc_Gr_isBufferFull) (zcut zu_Gr_isBufferFull) (zorc (ρ := ρ) []) kr (fun _ _ => none) 400 13 [none] [(0, t0)] h := qg_Gr_isBufferFull_13 kr t0 h
set_option maxRecDepth 100000 in
theorem qg_Gr_isBufferFull {ρ : Type} (kr : Int → zH → Option ρ) (c13 : Int → zH → Option ρ) (a0 : Int) (h : zH) : (zob h 11 a0 fun p1 =>
if (zhD h 11 p1 5) < 4 then c13 0 h
else c13 1 h) = zseg zPP true (zcal (ρ := ρ) []) (zget (999, 0, 0, 0) zc_Gr_isBufferFull) (zcut zu_Gr_isBufferFull) (zorc (ρ := ρ) [(13, [none], [(0, none)], zap1 c13)]) kr (fun _ _ => none) 400 0 [some (111, a0)] [] h := by rfl
set_option maxRecDepth 100000 in
theorem qe_Gr_isBufferFull {ρ : Type} (kr : Int → zH → Option ρ) (a0 : Int) (h : zH) : Gr_isBufferFull a0 h kr = zseg zPP true (zcal (ρ := ρ) []) (zget (999, 0, 0, 0) zc_Gr_isBufferFull) (zcut zu_Gr_isBufferFull) (zorc (ρ := ρ) [(13, [none], [(0, none)], zap1 (Gr_isBufferFull_13 kr))]) kr (fun _ _ => none) 400 0 [some (111, a0)] [] h := qg_Gr_isBufferFull kr (Gr_isBufferFull_13 kr) a0 h
def zc_Gr_putWrite : List zI := [(14, 0, 0, 111), (110, 0, 70, 212), (999, 0, 0, 0), (999, 0, 0, 0), (61, 33, 37, 0), (999, 0, 0, 0), (999, 0, 0, 0), (14, 0, 0, 111), (80, 11, 11, 3), (999, 0, 0, 0), (999, 0, 0, 0), (14, 0, 0, 111), (80, 11, 67, 5), (999, 0, 0, 0), (999, 0, 0, 0), (10, 0, 1, 0), (95, 0, 0, 43), (14, 0, 0, 111), (80, 11, 15, 4), (999, 0, 0, 0), (999, 0, 0, 0), (14, 0, 0, 111), (80, 11, 67, 5), (999, 0, 0, 0), (999, 0, 0, 0), (10, 0, 2, 0), (95, 0, 0, 44), (14, 0, 0, 111), (50, 0, 0, 0), (80, 11, 67, 5), (999, 0, 0, 0), (999, 0, 0, 0), (0, 1, 0, 0), (30, 0, 0, 0), (82, 11, 67, 5), (999, 0, 0, 0), (999, 0, 0, 0), (133, 0, 0, 0)]
def zu_Gr_putWrite : List (Nat × List Bool) := [(37, [false, false, false])]
set_option maxRecDepth 100000 in
theorem qg_Gr_putWrite_37 {ρ : Type} (kr : Int → zH → Option ρ) (h : zH) : (kr 0 h) = zseg zPP true (zcal (ρ := ρ) []) (zget (999, 0, 0, 0) zc_Gr_putWrite) (zcut zu_Gr_putWrite) (zorc (ρ := ρ) []) kr (fun _ _ => none) 400 37 [none, none, none] [] h := by rfl
set_option maxRecDepth 100000 in
theorem qe_Gr_putWrite_37 {ρ : Type} (kr : Int → zH → Option ρ) (h : zH) : Gr_putWrite_37 kr h = zseg zPP true (zcal (ρ := ρ) []) (zget (999, 0, 0, 0) zc_Gr_putWrite) (zcut zu_Gr_putWrite) (zorc (ρ := ρ) []) kr (fun _ _ => none) 400 37 [none, none, none] [] h := qg_Gr_putWrite_37 kr h
set_option maxRecDepth 100000 in
theorem qg_Gr_putWrite {ρ : Type} (kr : Int → zH → Option ρ) (F_Gr_isBufferFull : Int → zH → (Int → zH → Option ρ) → Option ρ) (c37 : zH → Option ρ) (a0 a1 a2 : Int) (h : zH) : (zob h 11 a0 fun _ =>
F_Gr_isBufferFull a0 h  fun v1 h2 =>
if v1 = 0 then (zob h2 11 a0 fun p3 =>
zob h2 11 a0 fun p4 =>
zob h2 43 (zhD h2 11 p3 3) fun p5 =>
zix (zhL h2 43 p5) (zhD h2 11 p4 5) fun j6 =>
zlet (zset h2 43 p5 j6 a1) fun h7 =>
zob h7 11 a0 fun p8 =>
zob h7 11 a0 fun p9 =>
zob h7 44 (zhD h7 11 p8 4) fun p10 =>
zix (zhL h7 44 p10) (zhD h7 11 p9 5) fun j11 =>
zlet (zset h7 44 p10 j11 a2) fun h12 =>
zob h12 11 a0 fun p13 =>
zob h12 11 a0 fun p14 =>
zlet (zset h12 11 p14 5 (wr ((zhD h12 11 p13 5) + 1))) fun h15 =>
c37 h15)
else c37 h2) = zseg zPP true (zcal (ρ := ρ) [(212, [none], zca1 F_Gr_isBufferFull)]) (zget (999, 0, 0, 0) zc_Gr_putWrite) (zcut zu_Gr_putWrite) (zorc (ρ := ρ) [(37, [none, none, none], [], zap0 c37)]) kr (fun _ _ => none) 400 0 [some (111, a0), some (0, a1), some (0, a2)] [] h := by rfl
set_option maxRecDepth 100000 in
theorem qe_Gr_putWrite {ρ : Type} (kr : Int → zH → Option ρ) (a0 a1 a2 : Int) (h : zH) : Gr_putWrite a0 a1 a2 h kr = zseg zPP true (zcal (ρ := ρ) [(212, [none], zca1 Gr_isBufferFull)]) (zget (999, 0, 0, 0) zc_Gr_putWrite) (zcut zu_Gr_putWrite) (zorc (ρ := ρ) [(37, [none, none, none], [], zap0 (Gr_putWrite_37 kr))]) kr (fun _ _ => none) 400 0 [some (111, a0), some (0, a1), some (0, a2)] [] h := qg_Gr_putWrite kr Gr_isBufferFull (Gr_putWrite_37 kr) a0 a1 a2 h
def zc_Gr_seenIn : List zI := [(14, 0, 0, 111), (80, 11, 67, 5), (999, 0, 0, 0), (999, 0, 0, 0), (0, 1, 0, 0), (31, 0, 0, 0), (16, 0, 3, 0), (10, 0, 3, 0), (62, 26, 34, 0), (999, 0, 0, 0), (999, 0, 0, 0), (14, 0, 0, 111), (80, 11, 11, 3), (999, 0, 0, 0), (999, 0, 0, 0), (10, 0, 3, 0), (90, 0, 0, 43), (10, 0, 1, 0), (67, 10, 28, 0), (999, 0, 0, 0), (999, 0, 0, 0), (14, 0, 0, 111), (80, 11, 15, 4), (999, 0, 0, 0), (999, 0, 0, 0), (10, 0, 3, 0), (90, 0, 0, 44), (130, 0, 0, 0), (22, (-1), 3, 0), (999, 0, 0, 0), (999, 0, 0, 0), (72, (-24), 7, 0), (999, 0, 0, 0), (999, 0, 0, 0), (14, 0, 2, 122), (10, 0, 1, 0), (90, 0, 0, 22), (130, 0, 0, 0)]
def zu_Gr_seenIn : List (Nat × List Bool) := [(7, [true, true, true, true])]
set_option maxRecDepth 100000 in
theorem qg_Gr_seenIn_7b {ρ : Type} (kr : Int → zH → Option ρ) (r7 : Int → Int → Int → Int → zH → Option ρ) (a0 a1 a2 a3 : Int) (h : zH) : (if a3 < 0 then (zob h 22 a2 fun p1 =>
zix (zhL h 22 p1) a1 fun j2 =>
kr (zhD h 22 p1 j2) h)
else zob h 11 a0 fun p3 =>
zob h 43 (zhD h 11 p3 3) fun p4 =>
zix (zhL h 43 p4) a3 fun j5 =>
if (zhD h 43 p4 j5) = a1 then (zob h 11 a0 fun p6 =>
zob h 44 (zhD h 11 p6 4) fun p7 =>
zix (zhL h 44 p7) a3 fun j8 =>
kr (zhD h 44 p7 j8) h)
else r7 a0 a1 a2 (wr (a3 + (-1))) h) = zseg zPP true (zcal (ρ := ρ) []) (zget (999, 0, 0, 0) zc_Gr_seenIn) (zcut zu_Gr_seenIn) (zorc (ρ := ρ) [(7, [some (111, none), some (0, none), some (122, none), some (0, none)], [], zap4 r7)]) kr (fun _ _ => none) 400 7 [some (111, a0), some (0, a1), some (122, a2), some (0, a3)] [] h := by rfl
set_option maxRecDepth 100000 in
theorem qe_Gr_seenIn_7b {ρ : Type} (kr : Int → zH → Option ρ) (r7 : Int → Int → Int → Int → zH → Option ρ) (a0 a1 a2 a3 : Int) (h : zH) : Gr_seenIn_7b kr r7 a0 a1 a2 a3 h = zseg zPP true (zcal (ρ := ρ) []) (zget (999, 0, 0, 0) zc_Gr_seenIn) (zcut zu_Gr_seenIn) (zorc (ρ := ρ) [(7, [some (111, none), some (0, none), some (122, none), some (0, none)], [], zap4 r7)]) kr (fun _ _ => none) 400 7 [some (111, a0), some (0, a1), some (122, a2), some (0, a3)] [] h := qg_Gr_seenIn_7b kr r7 a0 a1 a2 a3 h
set_option maxRecDepth 100000 in
theorem qg_Gr_seenIn {ρ : Type} (kr : Int → zH → Option ρ) (c7 : Int → Int → Int → Int → zH → Option ρ) (a0 a1 a2 : Int) (h : zH) : (zob h 11 a0 fun p1 =>
c7 a0 a1 a2 (wr ((zhD h 11 p1 5) - 1)) h) = zseg zPP true (zcal (ρ := ρ) []) (zget (999, 0, 0, 0) zc_Gr_seenIn) (zcut zu_Gr_seenIn) (zorc (ρ := ρ) [(7, [some (111, none), some (0, none), some (122, none), some (0, none)], [], zap4 c7)]) kr (fun _ _ => none) 400 0 [some (111, a0), some (0, a1), some (122, a2), none] [] h := by rfl
set_option maxRecDepth 100000 in
theorem qe_Gr_seenIn {ρ : Type} (kr : Int → zH → Option ρ) (a0 a1 a2 : Int) (h : zH) : Gr_seenIn a0 a1 a2 h kr = zseg zPP true (zcal (ρ := ρ) []) (zget (999, 0, 0, 0) zc_Gr_seenIn) (zcut zu_Gr_seenIn) (zorc (ρ := ρ) [(7, [some (111, none), some (0, none), some (122, none), some (0, none)], [], zap4 (Gr_seenIn_7 kr))]) kr (fun _ _ => none) 400 0 [some (111, a0), some (0, a1), some (122, a2), none] [] h := qg_Gr_seenIn kr (Gr_seenIn_7 kr) a0 a1 a2 h
def zc_Co_carryGlobal : List zI := [(10, 0, 2, 0), (114, 0, 272, 55), (999, 0, 0, 0), (999, 0, 0, 0), (61, 6, 10, 0), (999, 0, 0, 0), (999, 0, 0, 0), (1, 103, 0, 0), (999, 0, 0, 0), (130, 0, 2, 0), (14, 0, 1, 111), (80, 11, 66, 0), (999, 0, 0, 0), (999, 0, 0, 0), (14, 0, 3, 106), (80, 6, 180, 0), (999, 0, 0, 0), (999, 0, 0, 0), (10, 0, 2, 0), (15, 0, 4, 108), (999, 0, 0, 0), (80, 8, 245, 0), (999, 0, 0, 0), (999, 0, 0, 0), (1, 119, 0, 0), (999, 0, 0, 0), (67, 7, 33, 0), (999, 0, 0, 0), (999, 0, 0, 0), (0, 1, 0, 0), (72, 4, 34, 0), (999, 0, 0, 0), (999, 0, 0, 0), (0, 0, 0, 0), (110, 0, 276, 176), (999, 0, 0, 0), (999, 0, 0, 0), (15, 0, 4, 108), (999, 0, 0, 0), (80, 8, 245, 0), (999, 0, 0, 0), (999, 0, 0, 0), (1, 114, 0, 0), (999, 0, 0, 0), (67, 24, 68, 0), (999, 0, 0, 0), (999, 0, 0, 0), (14, 0, 3, 106), (15, 0, 4, 108), (999, 0, 0, 0), (80, 8, 248, 1), (999, 0, 0, 0), (999, 0, 0, 0), (14, 0, 1, 111), (10, 0, 2, 0), (14, 0, 0, 102), (80, 2, 9, 1), (999, 0, 0, 0), (999, 0, 0, 0), (110, 0, 280, 215), (999, 0, 0, 0), (999, 0, 0, 0), (110, 0, 251, 259), (999, 0, 0, 0), (999, 0, 0, 0), (72, 66, 131, 0), (999, 0, 0, 0), (999, 0, 0, 0), (15, 0, 4, 108), (999, 0, 0, 0), (80, 8, 245, 0), (999, 0, 0, 0), (999, 0, 0, 0), (1, 119, 0, 0), (999, 0, 0, 0), (67, 45, 120, 0), (999, 0, 0, 0), (999, 0, 0, 0), (14, 0, 1, 111), (110, 0, 284, 212), (999, 0, 0, 0), (999, 0, 0, 0), (60, 21, 103, 0), (999, 0, 0, 0), (999, 0, 0, 0), (14, 0, 1, 111), (14, 0, 0, 102), (80, 2, 9, 1), (999, 0, 0, 0), (999, 0, 0, 0), (110, 0, 137, 216), (999, 0, 0, 0), (999, 0, 0, 0), (14, 0, 0, 102), (50, 0, 0, 0), (80, 2, 231, 10), (999, 0, 0, 0), (999, 0, 0, 0), (0, 1, 0, 0), (30, 0, 0, 0), (82, 2, 231, 10), (999, 0, 0, 0), (999, 0, 0, 0), (14, 0, 1, 111), (10, 0, 2, 0), (14, 0, 3, 106), (15, 0, 4, 108), (999, 0, 0, 0), (80, 8, 218, 2), (999, 0, 0, 0), (999, 0, 0, 0), (110, 0, 214, 258), (999, 0, 0, 0), (999, 0, 0, 0), (110, 0, 287, 214), (999, 0, 0, 0), (999, 0, 0, 0), (72, 14, 131, 0), (999, 0, 0, 0), (999, 0, 0, 0), (14, 0, 0, 102), (80, 2, 9, 1), (999, 0, 0, 0), (999, 0, 0, 0), (10, 0, 2, 0), (14, 0, 3, 106), (15, 0, 4, 108), (999, 0, 0, 0), (114, 0, 290, 60), (999, 0, 0, 0), (999, 0, 0, 0), (1, 45, 0, 0), (999, 0, 0, 0), (130, 0, 2, 0)]
def zu_Co_carryGlobal : List (Nat × List Bool) := [(34, [true, true, true, true, true]), (103, [false, true, true, true, true]), (131, [false, false, false, false, false])]
set_option maxRecDepth 100000 in
theorem qg_Co_carryGlobal_131 {ρ : Type} (kr : Int → zH → Option ρ) (h : zH) : (kr 45 h) = zseg zPP true (zcal (ρ := ρ) []) (zget (999, 0, 0, 0) zc_Co_carryGlobal) (zcut zu_Co_carryGlobal) (zorc (ρ := ρ) []) kr (fun _ _ => none) 400 131 [none, none, none, none, none] [] h := by rfl
set_option maxRecDepth 100000 in
theorem qe_Co_carryGlobal_131 {ρ : Type} (kr : Int → zH → Option ρ) (h : zH) : Co_carryGlobal_131 kr h = zseg zPP true (zcal (ρ := ρ) []) (zget (999, 0, 0, 0) zc_Co_carryGlobal) (zcut zu_Co_carryGlobal) (zorc (ρ := ρ) []) kr (fun _ _ => none) 400 131 [none, none, none, none, none] [] h := qg_Co_carryGlobal_131 kr h
set_option maxRecDepth 100000 in
theorem qg_Co_carryGlobal_103 {ρ : Type} (kr : Int → zH → Option ρ) (F_Gr_putWrite : Int → Int → Int → zH → (Int → zH → Option ρ) → Option ρ) (F_Th_at : Int → Int → zH → (Int → zH → Option ρ) → Option ρ) (c131 : zH → Option ρ) (a1 a2 a3 a4 : Int) (h : zH) : (zob h 8 a4 fun p1 =>
zob h 6 a3 fun _ =>
F_Th_at a3 (zhD h 8 p1 2) h  fun v2 h3 =>
zob h3 11 a1 fun _ =>
F_Gr_putWrite a1 a2 v2 h3  fun _ h5 =>
c131 h5) = zseg zPP true (zcal (ρ := ρ) [(214, [none, none, none], zca3 F_Gr_putWrite), (258, [none, none], zca2 F_Th_at)]) (zget (999, 0, 0, 0) zc_Co_carryGlobal) (zcut zu_Co_carryGlobal) (zorc (ρ := ρ) [(131, [none, none, none, none, none], [], zap0 c131)]) kr (fun _ _ => none) 400 103 [none, some (111, a1), some (0, a2), some (106, a3), some (108, a4)] [] h := by rfl
set_option maxRecDepth 100000 in
theorem qe_Co_carryGlobal_103 {ρ : Type} (kr : Int → zH → Option ρ) (a1 a2 a3 a4 : Int) (h : zH) : Co_carryGlobal_103 kr a1 a2 a3 a4 h = zseg zPP true (zcal (ρ := ρ) [(214, [none, none, none], zca3 Gr_putWrite), (258, [none, none], zca2 Th_at)]) (zget (999, 0, 0, 0) zc_Co_carryGlobal) (zcut zu_Co_carryGlobal) (zorc (ρ := ρ) [(131, [none, none, none, none, none], [], zap0 (Co_carryGlobal_131 kr))]) kr (fun _ _ => none) 400 103 [none, some (111, a1), some (0, a2), some (106, a3), some (108, a4)] [] h := qg_Co_carryGlobal_103 kr Gr_putWrite Th_at (Co_carryGlobal_131 kr) a1 a2 a3 a4 h
set_option maxRecDepth 100000 in
theorem qg_Co_carryGlobal_34 {ρ : Type} (kr : Int → zH → Option ρ) (F_X_exchange_22 : Int → Int → Int → Int → zH → (Int → zH → Option ρ) → Option ρ) (F_Bl_touchGlobal : Int → Int → Int → Int → zH → (Int → zH → Option ρ) → Option ρ) (F_Gr_isBufferFull : Int → zH → (Int → zH → Option ρ) → Option ρ) (F_Gr_seenIn : Int → Int → Int → zH → (Int → zH → Option ρ) → Option ρ) (F_Gr_writeFirst : Int → Int → zH → (Int → zH → Option ρ) → Option ρ) (F_Th_set : Int → Int → Int → zH → (Int → zH → Option ρ) → Option ρ) (c103 : Int → Int → Int → Int → zH → Option ρ) (c131 : zH → Option ρ) (a0 a1 a2 a3 a4 t0 t1 t2 t3 : Int) (h : zH) : (zob h 10 t3 fun _ =>
F_Bl_touchGlobal t3 t2 t1 t0 h  fun _ h2 =>
zob h2 8 a4 fun p3 =>
if (zhD h2 8 p3 0) = 114 then (zob h2 8 a4 fun p16 =>
zob h2 2 a0 fun p17 =>
zob h2 11 a1 fun _ =>
F_Gr_seenIn a1 a2 (zhD h2 2 p17 1) h2  fun v18 h19 =>
zob h19 6 a3 fun _ =>
F_Th_set a3 (zhD h2 8 p16 1) v18 h19  fun _ h21 =>
c131 h21)
else zob h2 8 a4 fun p4 =>
if (zhD h2 8 p4 0) = 119 then (zob h2 11 a1 fun _ =>
F_Gr_isBufferFull a1 h2  fun v8 h9 =>
if v8 = 0 then c103 a1 a2 a3 a4 h9
else zob h9 2 a0 fun p10 =>
zob h9 11 a1 fun _ =>
F_Gr_writeFirst a1 (zhD h9 2 p10 1) h9  fun _ h12 =>
zob h12 2 a0 fun p13 =>
zob h12 2 a0 fun p14 =>
zlet (zset h12 2 p14 10 (wr ((zhD h12 2 p13 10) + 1))) fun h15 =>
c103 a1 a2 a3 a4 h15)
else zob h2 2 a0 fun p5 =>
F_X_exchange_22 (zhD h2 2 p5 1) a2 a3 a4 h2  fun _ h7 =>
c131 h7) = zseg zPP true (zcal (ρ := ρ) [(60, [none, none, none, none], zca4 F_X_exchange_22), (176, [none, none, none, none], zca4 F_Bl_touchGlobal), (212, [none], zca1 F_Gr_isBufferFull), (215, [none, none, none], zca3 F_Gr_seenIn), (216, [none, none], zca2 F_Gr_writeFirst), (259, [none, none, none], zca3 F_Th_set)]) (zget (999, 0, 0, 0) zc_Co_carryGlobal) (zcut zu_Co_carryGlobal) (zorc (ρ := ρ) [(103, [none, some (111, none), some (0, none), some (106, none), some (108, none)], [], zap4 c103), (131, [none, none, none, none, none], [], zap0 c131)]) kr (fun _ _ => none) 400 34 [some (102, a0), some (111, a1), some (0, a2), some (106, a3), some (108, a4)] [(0, t0), (0, t1), (0, t2), (110, t3)] h := by rfl
set_option maxRecDepth 100000 in
theorem qe_Co_carryGlobal_34 {ρ : Type} (kr : Int → zH → Option ρ) (a0 a1 a2 a3 a4 t0 t1 t2 t3 : Int) (h : zH) : Co_carryGlobal_34 kr a0 a1 a2 a3 a4 t0 t1 t2 t3 h = zseg zPP true (zcal (ρ := ρ) [(60, [none, none, none, none], zca4 X_exchange_22), (176, [none, none, none, none], zca4 Bl_touchGlobal), (212, [none], zca1 Gr_isBufferFull), (215, [none, none, none], zca3 Gr_seenIn), (216, [none, none], zca2 Gr_writeFirst), (259, [none, none, none], zca3 Th_set)]) (zget (999, 0, 0, 0) zc_Co_carryGlobal) (zcut zu_Co_carryGlobal) (zorc (ρ := ρ) [(103, [none, some (111, none), some (0, none), some (106, none), some (108, none)], [], zap4 (Co_carryGlobal_103 kr)), (131, [none, none, none, none, none], [], zap0 (Co_carryGlobal_131 kr))]) kr (fun _ _ => none) 400 34 [some (102, a0), some (111, a1), some (0, a2), some (106, a3), some (108, a4)] [(0, t0), (0, t1), (0, t2), (110, t3)] h := qg_Co_carryGlobal_34 kr X_exchange_22 Bl_touchGlobal Gr_isBufferFull Gr_seenIn Gr_writeFirst Th_set (Co_carryGlobal_103 kr) (Co_carryGlobal_131 kr) a0 a1 a2 a3 a4 t0 t1 t2 t3 h
set_option maxRecDepth 100000 in
theorem qg_Co_carryGlobal {ρ : Type} (kr : Int → zH → Option ρ) (F_X_isCell : Int → zH → (Int → zH → Option ρ) → Option ρ) (c34 : Int → Int → Int → Int → Int → Int → Int → Int → Int → zH → Option ρ) (a0 a1 a2 a3 a4 : Int) (h : zH) : (F_X_isCell a2 h  fun v1 h2 =>
if v1 = 0 then kr 103 h2
else zob h2 11 a1 fun p3 =>
zob h2 6 a3 fun p4 =>
zob h2 8 a4 fun p5 =>
if (zhD h2 8 p5 0) = 119 then c34 a0 a1 a2 a3 a4 1 a2 (zhD h2 6 p4 0) (zhD h2 11 p3 0) h2
else c34 a0 a1 a2 a3 a4 0 a2 (zhD h2 6 p4 0) (zhD h2 11 p3 0) h2) = zseg zPP true (zcal (ρ := ρ) [(55, [none], zca1 F_X_isCell)]) (zget (999, 0, 0, 0) zc_Co_carryGlobal) (zcut zu_Co_carryGlobal) (zorc (ρ := ρ) [(34, [some (102, none), some (111, none), some (0, none), some (106, none), some (108, none)], [(0, none), (0, none), (0, none), (110, none)], zap9 c34)]) kr (fun _ _ => none) 400 0 [some (102, a0), some (111, a1), some (0, a2), some (106, a3), some (108, a4)] [] h := by rfl
set_option maxRecDepth 100000 in
theorem qe_Co_carryGlobal {ρ : Type} (kr : Int → zH → Option ρ) (a0 a1 a2 a3 a4 : Int) (h : zH) : Co_carryGlobal a0 a1 a2 a3 a4 h kr = zseg zPP true (zcal (ρ := ρ) [(55, [none], zca1 X_isCell)]) (zget (999, 0, 0, 0) zc_Co_carryGlobal) (zcut zu_Co_carryGlobal) (zorc (ρ := ρ) [(34, [some (102, none), some (111, none), some (0, none), some (106, none), some (108, none)], [(0, none), (0, none), (0, none), (110, none)], zap9 (Co_carryGlobal_34 kr))]) kr (fun _ _ => none) 400 0 [some (102, a0), some (111, a1), some (0, a2), some (106, a3), some (108, a4)] [] h := qg_Co_carryGlobal kr X_isCell (Co_carryGlobal_34 kr) a0 a1 a2 a3 a4 h
def zc_Bl_hasShared : List zI := [(10, 0, 1, 0), (0, 0, 0, 0), (14, 0, 0, 110), (80, 10, 64, 4), (999, 0, 0, 0), (999, 0, 0, 0), (100, 0, 0, 38), (0, 1, 0, 0), (31, 0, 0, 0), (114, 0, 82, 54), (999, 0, 0, 0), (999, 0, 0, 0), (130, 0, 1, 0)]
def zu_Bl_hasShared : List (Nat × List Bool) := []
set_option maxRecDepth 100000 in
theorem qg_Bl_hasShared {ρ : Type} (kr : Int → zH → Option ρ) (F_X_isWithin : Int → Int → Int → zH → (Int → zH → Option ρ) → Option ρ) (a0 a1 : Int) (h : zH) : (zob h 10 a0 fun p1 =>
zob h 38 (zhD h 10 p1 4) fun p2 =>
F_X_isWithin a1 0 (wr ((zhL h 38 p2 : Int) - 1)) h  fun v3 h4 =>
znar 1 v3 fun x5 => kr x5 h4) = zseg zPP true (zcal (ρ := ρ) [(54, [none, none, none], zca3 F_X_isWithin)]) (zget (999, 0, 0, 0) zc_Bl_hasShared) (zcut zu_Bl_hasShared) (zorc (ρ := ρ) []) kr (fun _ _ => none) 400 0 [some (110, a0), some (0, a1)] [] h := by rfl
set_option maxRecDepth 100000 in
theorem qe_Bl_hasShared {ρ : Type} (kr : Int → zH → Option ρ) (a0 a1 : Int) (h : zH) : Bl_hasShared a0 a1 h kr = zseg zPP true (zcal (ρ := ρ) [(54, [none, none, none], zca3 X_isWithin)]) (zget (999, 0, 0, 0) zc_Bl_hasShared) (zcut zu_Bl_hasShared) (zorc (ρ := ρ) []) kr (fun _ _ => none) 400 0 [some (110, a0), some (0, a1)] [] h := qg_Bl_hasShared kr X_isWithin a0 a1 h
def zc_Bl_touchShared : List zI := [(14, 0, 0, 110), (80, 10, 66, 6), (999, 0, 0, 0), (999, 0, 0, 0), (10, 0, 2, 0), (90, 0, 0, 40), (10, 0, 1, 0), (10, 0, 3, 0), (114, 0, 104, 58), (999, 0, 0, 0), (999, 0, 0, 0), (60, 32, 43, 0), (999, 0, 0, 0), (999, 0, 0, 0), (14, 0, 0, 110), (80, 10, 69, 7), (999, 0, 0, 0), (999, 0, 0, 0), (10, 0, 2, 0), (91, 0, 0, 41), (61, 23, 43, 0), (999, 0, 0, 0), (999, 0, 0, 0), (14, 0, 0, 110), (80, 10, 69, 7), (999, 0, 0, 0), (999, 0, 0, 0), (10, 0, 2, 0), (0, 1, 0, 0), (96, 0, 0, 41), (14, 0, 0, 110), (80, 10, 15, 0), (999, 0, 0, 0), (999, 0, 0, 0), (50, 0, 0, 0), (80, 9, 117, 18), (999, 0, 0, 0), (999, 0, 0, 0), (0, 1, 0, 0), (30, 0, 0, 0), (82, 9, 117, 18), (999, 0, 0, 0), (999, 0, 0, 0), (14, 0, 0, 110), (80, 10, 66, 6), (999, 0, 0, 0), (999, 0, 0, 0), (10, 0, 2, 0), (14, 0, 0, 110), (80, 10, 66, 6), (999, 0, 0, 0), (999, 0, 0, 0), (10, 0, 2, 0), (90, 0, 0, 40), (10, 0, 1, 0), (10, 0, 3, 0), (114, 0, 113, 59), (999, 0, 0, 0), (999, 0, 0, 0), (95, 0, 0, 40), (133, 0, 0, 0)]
def zu_Bl_touchShared : List (Nat × List Bool) := [(43, [true, true, true, true])]
set_option maxRecDepth 100000 in
theorem qg_Bl_touchShared_43 {ρ : Type} (kr : Int → zH → Option ρ) (F_X_withTouch : Int → Int → Int → zH → (Int → zH → Option ρ) → Option ρ) (a0 a1 a2 a3 : Int) (h : zH) : (zob h 10 a0 fun p1 =>
zob h 10 a0 fun p2 =>
zob h 40 (zhD h 10 p2 6) fun p3 =>
zix (zhL h 40 p3) a2 fun j4 =>
F_X_withTouch (zhD h 40 p3 j4) a1 a3 h  fun v5 h6 =>
zob h6 40 (zhD h 10 p1 6) fun p7 =>
zix (zhL h6 40 p7) a2 fun j8 =>
zlet (zset h6 40 p7 j8 v5) fun h9 =>
kr 0 h9) = zseg zPP true (zcal (ρ := ρ) [(59, [none, none, none], zca3 F_X_withTouch)]) (zget (999, 0, 0, 0) zc_Bl_touchShared) (zcut zu_Bl_touchShared) (zorc (ρ := ρ) []) kr (fun _ _ => none) 400 43 [some (110, a0), some (0, a1), some (0, a2), some (0, a3)] [] h := by rfl
set_option maxRecDepth 100000 in
theorem qe_Bl_touchShared_43 {ρ : Type} (kr : Int → zH → Option ρ) (a0 a1 a2 a3 : Int) (h : zH) : Bl_touchShared_43 kr a0 a1 a2 a3 h = zseg zPP true (zcal (ρ := ρ) [(59, [none, none, none], zca3 X_withTouch)]) (zget (999, 0, 0, 0) zc_Bl_touchShared) (zcut zu_Bl_touchShared) (zorc (ρ := ρ) []) kr (fun _ _ => none) 400 43 [some (110, a0), some (0, a1), some (0, a2), some (0, a3)] [] h := qg_Bl_touchShared_43 kr X_withTouch a0 a1 a2 a3 h
set_option maxRecDepth 100000 in
theorem qg_Bl_touchShared {ρ : Type} (kr : Int → zH → Option ρ) (F_X_isClash : Int → Int → Int → zH → (Int → zH → Option ρ) → Option ρ) (c43 : Int → Int → Int → Int → zH → Option ρ) (a0 a1 a2 a3 : Int) (h : zH) : (zob h 10 a0 fun p1 =>
zob h 40 (zhD h 10 p1 6) fun p2 =>
zix (zhL h 40 p2) a2 fun j3 =>
F_X_isClash (zhD h 40 p2 j3) a1 a3 h  fun v4 h5 =>
if v4 = 0 then c43 a0 a1 a2 a3 h5
else zob h5 10 a0 fun p6 =>
zob h5 41 (zhD h5 10 p6 7) fun p7 =>
zix (zhL h5 41 p7) a2 fun j8 =>
if (zhD h5 41 p7 j8) = 0 then (zob h5 10 a0 fun p9 =>
zob h5 41 (zhD h5 10 p9 7) fun p10 =>
zix (zhL h5 41 p10) a2 fun j11 =>
zlet (zset h5 41 p10 j11 1) fun h12 =>
zob h12 10 a0 fun p13 =>
zob h12 9 (zhD h12 10 p13 0) fun p14 =>
zob h12 9 (zhD h12 10 p13 0) fun p15 =>
zlet (zset h12 9 p15 18 (wr ((zhD h12 9 p14 18) + 1))) fun h16 =>
c43 a0 a1 a2 a3 h16)
else c43 a0 a1 a2 a3 h5) = zseg zPP true (zcal (ρ := ρ) [(58, [none, none, none], zca3 F_X_isClash)]) (zget (999, 0, 0, 0) zc_Bl_touchShared) (zcut zu_Bl_touchShared) (zorc (ρ := ρ) [(43, [some (110, none), some (0, none), some (0, none), some (0, none)], [], zap4 c43)]) kr (fun _ _ => none) 400 0 [some (110, a0), some (0, a1), some (0, a2), some (0, a3)] [] h := by rfl
set_option maxRecDepth 100000 in
theorem qe_Bl_touchShared {ρ : Type} (kr : Int → zH → Option ρ) (a0 a1 a2 a3 : Int) (h : zH) : Bl_touchShared a0 a1 a2 a3 h kr = zseg zPP true (zcal (ρ := ρ) [(58, [none, none, none], zca3 X_isClash)]) (zget (999, 0, 0, 0) zc_Bl_touchShared) (zcut zu_Bl_touchShared) (zorc (ρ := ρ) [(43, [some (110, none), some (0, none), some (0, none), some (0, none)], [], zap4 (Bl_touchShared_43 kr))]) kr (fun _ _ => none) 400 0 [some (110, a0), some (0, a1), some (0, a2), some (0, a3)] [] h := qg_Bl_touchShared kr X_isClash (Bl_touchShared_43 kr) a0 a1 a2 a3 h
def zc_Co_carryShared : List zI := [(14, 0, 0, 110), (10, 0, 1, 0), (110, 0, 294, 171), (999, 0, 0, 0), (999, 0, 0, 0), (61, 6, 11, 0), (999, 0, 0, 0), (999, 0, 0, 0), (1, 115, 0, 0), (999, 0, 0, 0), (130, 0, 2, 0), (14, 0, 0, 110), (14, 0, 2, 106), (80, 6, 180, 0), (999, 0, 0, 0), (999, 0, 0, 0), (10, 0, 1, 0), (14, 0, 3, 108), (80, 8, 245, 0), (999, 0, 0, 0), (999, 0, 0, 0), (1, 87, 0, 0), (999, 0, 0, 0), (67, 7, 30, 0), (999, 0, 0, 0), (999, 0, 0, 0), (0, 1, 0, 0), (72, 4, 31, 0), (999, 0, 0, 0), (999, 0, 0, 0), (0, 0, 0, 0), (110, 0, 297, 177), (999, 0, 0, 0), (999, 0, 0, 0), (14, 0, 3, 108), (80, 8, 245, 0), (999, 0, 0, 0), (999, 0, 0, 0), (1, 82, 0, 0), (999, 0, 0, 0), (67, 20, 60, 0), (999, 0, 0, 0), (999, 0, 0, 0), (14, 0, 2, 106), (14, 0, 3, 108), (80, 8, 248, 1), (999, 0, 0, 0), (999, 0, 0, 0), (14, 0, 0, 110), (80, 10, 300, 4), (999, 0, 0, 0), (999, 0, 0, 0), (10, 0, 1, 0), (90, 0, 0, 38), (110, 0, 251, 259), (999, 0, 0, 0), (999, 0, 0, 0), (72, 17, 74, 0), (999, 0, 0, 0), (999, 0, 0, 0), (14, 0, 0, 110), (80, 10, 300, 4), (999, 0, 0, 0), (999, 0, 0, 0), (10, 0, 1, 0), (14, 0, 2, 106), (14, 0, 3, 108), (80, 8, 218, 2), (999, 0, 0, 0), (999, 0, 0, 0), (110, 0, 214, 258), (999, 0, 0, 0), (999, 0, 0, 0), (95, 0, 0, 38), (1, 45, 0, 0), (999, 0, 0, 0), (130, 0, 2, 0)]
def zu_Co_carryShared : List (Nat × List Bool) := [(31, [true, true, true, true]), (74, [false, false, false, false])]
set_option maxRecDepth 100000 in
theorem qg_Co_carryShared_74 {ρ : Type} (kr : Int → zH → Option ρ) (h : zH) : (kr 45 h) = zseg zPP true (zcal (ρ := ρ) []) (zget (999, 0, 0, 0) zc_Co_carryShared) (zcut zu_Co_carryShared) (zorc (ρ := ρ) []) kr (fun _ _ => none) 400 74 [none, none, none, none] [] h := by rfl
set_option maxRecDepth 100000 in
theorem qe_Co_carryShared_74 {ρ : Type} (kr : Int → zH → Option ρ) (h : zH) : Co_carryShared_74 kr h = zseg zPP true (zcal (ρ := ρ) []) (zget (999, 0, 0, 0) zc_Co_carryShared) (zcut zu_Co_carryShared) (zorc (ρ := ρ) []) kr (fun _ _ => none) 400 74 [none, none, none, none] [] h := qg_Co_carryShared_74 kr h
set_option maxRecDepth 100000 in
theorem qg_Co_carryShared_31 {ρ : Type} (kr : Int → zH → Option ρ) (F_Bl_touchShared : Int → Int → Int → Int → zH → (Int → zH → Option ρ) → Option ρ) (F_Th_at : Int → Int → zH → (Int → zH → Option ρ) → Option ρ) (F_Th_set : Int → Int → Int → zH → (Int → zH → Option ρ) → Option ρ) (c74 : zH → Option ρ) (a0 a1 a2 a3 t0 t1 t2 t3 : Int) (h : zH) : (zob h 10 t3 fun _ =>
F_Bl_touchShared t3 t2 t1 t0 h  fun _ h2 =>
zob h2 8 a3 fun p3 =>
if (zhD h2 8 p3 0) = 82 then (zob h2 8 a3 fun p11 =>
zob h2 10 a0 fun p12 =>
zob h2 38 (zhD h2 10 p12 4) fun p13 =>
zix (zhL h2 38 p13) a1 fun j14 =>
zob h2 6 a2 fun _ =>
F_Th_set a2 (zhD h2 8 p11 1) (zhD h2 38 p13 j14) h2  fun _ h16 =>
c74 h16)
else zob h2 10 a0 fun p4 =>
zob h2 8 a3 fun p5 =>
zob h2 6 a2 fun _ =>
F_Th_at a2 (zhD h2 8 p5 2) h2  fun v6 h7 =>
zob h7 38 (zhD h2 10 p4 4) fun p8 =>
zix (zhL h7 38 p8) a1 fun j9 =>
zlet (zset h7 38 p8 j9 v6) fun h10 =>
c74 h10) = zseg zPP true (zcal (ρ := ρ) [(177, [none, none, none, none], zca4 F_Bl_touchShared), (258, [none, none], zca2 F_Th_at), (259, [none, none, none], zca3 F_Th_set)]) (zget (999, 0, 0, 0) zc_Co_carryShared) (zcut zu_Co_carryShared) (zorc (ρ := ρ) [(74, [none, none, none, none], [], zap0 c74)]) kr (fun _ _ => none) 400 31 [some (110, a0), some (0, a1), some (106, a2), some (108, a3)] [(0, t0), (0, t1), (0, t2), (110, t3)] h := by rfl
set_option maxRecDepth 100000 in
theorem qe_Co_carryShared_31 {ρ : Type} (kr : Int → zH → Option ρ) (a0 a1 a2 a3 t0 t1 t2 t3 : Int) (h : zH) : Co_carryShared_31 kr a0 a1 a2 a3 t0 t1 t2 t3 h = zseg zPP true (zcal (ρ := ρ) [(177, [none, none, none, none], zca4 Bl_touchShared), (258, [none, none], zca2 Th_at), (259, [none, none, none], zca3 Th_set)]) (zget (999, 0, 0, 0) zc_Co_carryShared) (zcut zu_Co_carryShared) (zorc (ρ := ρ) [(74, [none, none, none, none], [], zap0 (Co_carryShared_74 kr))]) kr (fun _ _ => none) 400 31 [some (110, a0), some (0, a1), some (106, a2), some (108, a3)] [(0, t0), (0, t1), (0, t2), (110, t3)] h := qg_Co_carryShared_31 kr Bl_touchShared Th_at Th_set (Co_carryShared_74 kr) a0 a1 a2 a3 t0 t1 t2 t3 h
set_option maxRecDepth 100000 in
theorem qg_Co_carryShared {ρ : Type} (kr : Int → zH → Option ρ) (F_Bl_hasShared : Int → Int → zH → (Int → zH → Option ρ) → Option ρ) (c31 : Int → Int → Int → Int → Int → Int → Int → Int → zH → Option ρ) (a0 a1 a2 a3 : Int) (h : zH) : (zob h 10 a0 fun _ =>
F_Bl_hasShared a0 a1 h  fun v1 h2 =>
if v1 = 0 then kr 115 h2
else zob h2 6 a2 fun p3 =>
zob h2 8 a3 fun p4 =>
if (zhD h2 8 p4 0) = 87 then c31 a0 a1 a2 a3 1 a1 (zhD h2 6 p3 0) a0 h2
else c31 a0 a1 a2 a3 0 a1 (zhD h2 6 p3 0) a0 h2) = zseg zPP true (zcal (ρ := ρ) [(171, [none, none], zca2 F_Bl_hasShared)]) (zget (999, 0, 0, 0) zc_Co_carryShared) (zcut zu_Co_carryShared) (zorc (ρ := ρ) [(31, [some (110, none), some (0, none), some (106, none), some (108, none)], [(0, none), (0, none), (0, none), (110, none)], zap8 c31)]) kr (fun _ _ => none) 400 0 [some (110, a0), some (0, a1), some (106, a2), some (108, a3)] [] h := by rfl
set_option maxRecDepth 100000 in
theorem qe_Co_carryShared {ρ : Type} (kr : Int → zH → Option ρ) (a0 a1 a2 a3 : Int) (h : zH) : Co_carryShared a0 a1 a2 a3 h kr = zseg zPP true (zcal (ρ := ρ) [(171, [none, none], zca2 Bl_hasShared)]) (zget (999, 0, 0, 0) zc_Co_carryShared) (zcut zu_Co_carryShared) (zorc (ρ := ρ) [(31, [some (110, none), some (0, none), some (106, none), some (108, none)], [(0, none), (0, none), (0, none), (110, none)], zap8 (Co_carryShared_31 kr))]) kr (fun _ _ => none) 400 0 [some (110, a0), some (0, a1), some (106, a2), some (108, a3)] [] h := qg_Co_carryShared kr Bl_hasShared (Co_carryShared_31 kr) a0 a1 a2 a3 h
def zc_La_depth : List zI := [(0, 0, 0, 0), (16, 0, 1, 0), (14, 0, 0, 109), (80, 9, 37, 4), (999, 0, 0, 0), (999, 0, 0, 0), (20, 0, 2, 109), (14, 0, 2, 109), (73, 20, 28, 0), (999, 0, 0, 0), (999, 0, 0, 0), (10, 0, 1, 0), (1, 12, 0, 0), (999, 0, 0, 0), (69, 14, 28, 0), (999, 0, 0, 0), (999, 0, 0, 0), (22, 1, 1, 0), (999, 0, 0, 0), (999, 0, 0, 0), (14, 0, 2, 109), (80, 9, 37, 4), (999, 0, 0, 0), (999, 0, 0, 0), (20, 0, 2, 109), (72, (-18), 7, 0), (999, 0, 0, 0), (999, 0, 0, 0), (10, 0, 1, 0), (130, 0, 0, 0)]
def zu_La_depth : List (Nat × List Bool) := [(7, [false, true, true]), (28, [false, true, false])]
set_option maxRecDepth 100000 in
theorem qg_La_depth_28 {ρ : Type} (kr : Int → zH → Option ρ) (a1 : Int) (h : zH) : (kr a1 h) = zseg zPP true (zcal (ρ := ρ) []) (zget (999, 0, 0, 0) zc_La_depth) (zcut zu_La_depth) (zorc (ρ := ρ) []) kr (fun _ _ => none) 400 28 [none, some (0, a1), none] [] h := by rfl
set_option maxRecDepth 100000 in
theorem qe_La_depth_28 {ρ : Type} (kr : Int → zH → Option ρ) (a1 : Int) (h : zH) : La_depth_28 kr a1 h = zseg zPP true (zcal (ρ := ρ) []) (zget (999, 0, 0, 0) zc_La_depth) (zcut zu_La_depth) (zorc (ρ := ρ) []) kr (fun _ _ => none) 400 28 [none, some (0, a1), none] [] h := qg_La_depth_28 kr a1 h
set_option maxRecDepth 100000 in
theorem qg_La_depth_7b {ρ : Type} (kr : Int → zH → Option ρ) (r7 : Int → Int → zH → Option ρ) (c28 : Int → zH → Option ρ) (a1 a2 : Int) (h : zH) : (if a2 < 0 then c28 a1 h
else if a1 < 12 then (zob h 9 a2 fun p1 =>
r7 (wr (a1 + 1)) (zhD h 9 p1 4) h)
else c28 a1 h) = zseg zPP true (zcal (ρ := ρ) []) (zget (999, 0, 0, 0) zc_La_depth) (zcut zu_La_depth) (zorc (ρ := ρ) [(7, [none, some (0, none), some (109, none)], [], zap2 r7), (28, [none, some (0, none), none], [], zap1 c28)]) kr (fun _ _ => none) 400 7 [none, some (0, a1), some (109, a2)] [] h := by rfl
set_option maxRecDepth 100000 in
theorem qe_La_depth_7b {ρ : Type} (kr : Int → zH → Option ρ) (r7 : Int → Int → zH → Option ρ) (a1 a2 : Int) (h : zH) : La_depth_7b kr r7 a1 a2 h = zseg zPP true (zcal (ρ := ρ) []) (zget (999, 0, 0, 0) zc_La_depth) (zcut zu_La_depth) (zorc (ρ := ρ) [(7, [none, some (0, none), some (109, none)], [], zap2 r7), (28, [none, some (0, none), none], [], zap1 (La_depth_28 kr))]) kr (fun _ _ => none) 400 7 [none, some (0, a1), some (109, a2)] [] h := qg_La_depth_7b kr r7 (La_depth_28 kr) a1 a2 h
set_option maxRecDepth 100000 in
theorem qg_La_depth {ρ : Type} (kr : Int → zH → Option ρ) (c7 : Int → Int → zH → Option ρ) (a0 : Int) (h : zH) : (zob h 9 a0 fun p1 =>
c7 0 (zhD h 9 p1 4) h) = zseg zPP true (zcal (ρ := ρ) []) (zget (999, 0, 0, 0) zc_La_depth) (zcut zu_La_depth) (zorc (ρ := ρ) [(7, [none, some (0, none), some (109, none)], [], zap2 c7)]) kr (fun _ _ => none) 400 0 [some (109, a0), none, none] [] h := by rfl
set_option maxRecDepth 100000 in
theorem qe_La_depth {ρ : Type} (kr : Int → zH → Option ρ) (a0 : Int) (h : zH) : La_depth a0 h kr = zseg zPP true (zcal (ρ := ρ) []) (zget (999, 0, 0, 0) zc_La_depth) (zcut zu_La_depth) (zorc (ρ := ρ) [(7, [none, some (0, none), some (109, none)], [], zap2 (La_depth_7 kr))]) kr (fun _ _ => none) 400 0 [some (109, a0), none, none] [] h := qg_La_depth kr (La_depth_7 kr) a0 h
def zc_Le_launchChild : List zI := [(14, 0, 0, 101), (10, 0, 2, 0), (110, 0, 55, 240), (999, 0, 0, 0), (999, 0, 0, 0), (21, 0, 4, 107), (999, 0, 0, 0), (15, 0, 4, 107), (999, 0, 0, 0), (73, 29, 38, 0), (999, 0, 0, 0), (999, 0, 0, 0), (15, 0, 4, 107), (999, 0, 0, 0), (10, 0, 3, 0), (110, 0, 59, 227), (999, 0, 0, 0), (999, 0, 0, 0), (60, 20, 38, 0), (999, 0, 0, 0), (999, 0, 0, 0), (14, 0, 0, 101), (80, 1, 31, 3), (999, 0, 0, 0), (999, 0, 0, 0), (1, 12, 0, 0), (999, 0, 0, 0), (69, 11, 38, 0), (999, 0, 0, 0), (999, 0, 0, 0), (14, 0, 1, 109), (110, 0, 63, 236), (999, 0, 0, 0), (999, 0, 0, 0), (0, 2, 0, 0), (68, 5, 40, 0), (999, 0, 0, 0), (999, 0, 0, 0), (0, 0, 0, 0), (130, 0, 1, 0), (14, 0, 0, 101), (103, 0, 17, 9), (999, 0, 0, 0), (999, 0, 0, 0), (50, 0, 0, 0), (14, 0, 0, 101), (80, 1, 31, 3), (999, 0, 0, 0), (999, 0, 0, 0), (0, (-1), 0, 0), (7, 0, 0, 109), (7, 0, 0, 109), (14, 0, 1, 109), (115, 0, 45, 228), (999, 0, 0, 0), (999, 0, 0, 0), (110, 0, 48, 244), (999, 0, 0, 0), (999, 0, 0, 0), (15, 0, 4, 107), (999, 0, 0, 0), (0, 1, 0, 0), (10, 0, 3, 0), (110, 0, 67, 229), (999, 0, 0, 0), (999, 0, 0, 0), (0, 1, 0, 0), (130, 0, 1, 0)]
def zu_Le_launchChild : List (Nat × List Bool) := [(38, [false, false, false, false, false])]
set_option maxRecDepth 100000 in
theorem qg_Le_launchChild_38 {ρ : Type} (kr : Int → zH → Option ρ) (h : zH) : (kr 0 h) = zseg zPP true (zcal (ρ := ρ) []) (zget (999, 0, 0, 0) zc_Le_launchChild) (zcut zu_Le_launchChild) (zorc (ρ := ρ) []) kr (fun _ _ => none) 400 38 [none, none, none, none, none] [] h := by rfl
set_option maxRecDepth 100000 in
theorem qe_Le_launchChild_38 {ρ : Type} (kr : Int → zH → Option ρ) (h : zH) : Le_launchChild_38 kr h = zseg zPP true (zcal (ρ := ρ) []) (zget (999, 0, 0, 0) zc_Le_launchChild) (zcut zu_Le_launchChild) (zorc (ρ := ρ) []) kr (fun _ _ => none) 400 38 [none, none, none, none, none] [] h := qg_Le_launchChild_38 kr h
set_option maxRecDepth 100000 in
theorem qg_Le_launchChild {ρ : Type} (kr : Int → zH → Option ρ) (F_Ke_blocksInUnit : Int → Int → zH → (Int → zH → Option ρ) → Option ρ) (F_La_init : Int → Int → Int → Int → Int → Int → zH → (Int → zH → Option ρ) → Option ρ) (F_La_useKernel : Int → Int → Int → Int → zH → (Int → zH → Option ρ) → Option ρ) (F_La_depth : Int → zH → (Int → zH → Option ρ) → Option ρ) (F_Le_kernelOf : Int → Int → zH → (Int → zH → Option ρ) → Option ρ) (F_Le_enter : Int → Int → zH → (Int → zH → Option ρ) → Option ρ) (c38 : zH → Option ρ) (a0 a1 a2 a3 : Int) (h : zH) : (zob h 1 a0 fun _ =>
F_Le_kernelOf a0 a2 h  fun v1 h2 =>
if v1 < 0 then c38 h2
else zob h2 7 v1 fun _ =>
F_Ke_blocksInUnit v1 a3 h2  fun v3 h4 =>
if v3 = 0 then c38 h4
else zob h4 1 a0 fun p5 =>
if (zhD h4 1 p5 3) < 12 then (zob h4 9 a1 fun _ =>
F_La_depth a1 h4  fun v6 h7 =>
if v6 < 2 then (zlet (znew h7 9 0 (znf zPP 9) (fun k => zdef (zft zPP 9 k))) fun h8 =>
zob h8 1 a0 fun p9 =>
zob h8 9 (zhN h7 9 : Int) fun _ =>
F_La_init (zhN h7 9 : Int) (zhD h8 1 p9 3) (-1) (-1) (-1) a1 h8  fun _ h11 =>
zob h11 1 a0 fun _ =>
F_Le_enter a0 (zhN h7 9 : Int) h11  fun v12 h13 =>
zob h13 9 v12 fun _ =>
F_La_useKernel v12 v1 1 a3 h13  fun _ h15 =>
kr 1 h15)
else c38 h7)
else c38 h4) = zseg zPP true (zcal (ρ := ρ) [(227, [none, none], zca2 F_Ke_blocksInUnit), (228, [none, none, none, none, none, none], zca6 F_La_init), (229, [none, none, none, none], zca4 F_La_useKernel), (236, [none], zca1 F_La_depth), (240, [none, none], zca2 F_Le_kernelOf), (244, [none, none], zca2 F_Le_enter)]) (zget (999, 0, 0, 0) zc_Le_launchChild) (zcut zu_Le_launchChild) (zorc (ρ := ρ) [(38, [none, none, none, none, none], [], zap0 c38)]) kr (fun _ _ => none) 400 0 [some (101, a0), some (109, a1), some (0, a2), some (0, a3), none] [] h := by rfl
set_option maxRecDepth 100000 in
theorem qe_Le_launchChild {ρ : Type} (kr : Int → zH → Option ρ) (a0 a1 a2 a3 : Int) (h : zH) : Le_launchChild a0 a1 a2 a3 h kr = zseg zPP true (zcal (ρ := ρ) [(227, [none, none], zca2 Ke_blocksInUnit), (228, [none, none, none, none, none, none], zca6 La_init), (229, [none, none, none, none], zca4 La_useKernel), (236, [none], zca1 La_depth), (240, [none, none], zca2 Le_kernelOf), (244, [none, none], zca2 Le_enter)]) (zget (999, 0, 0, 0) zc_Le_launchChild) (zcut zu_Le_launchChild) (zorc (ρ := ρ) [(38, [none, none, none, none, none], [], zap0 (Le_launchChild_38 kr))]) kr (fun _ _ => none) 400 0 [some (101, a0), some (109, a1), some (0, a2), some (0, a3), none] [] h := qg_Le_launchChild kr Ke_blocksInUnit La_init La_useKernel La_depth Le_kernelOf Le_enter (Le_launchChild_38 kr) a0 a1 a2 a3 h
def zc_Co_carryChild : List zI := [(14, 0, 0, 102), (80, 2, 39, 0), (999, 0, 0, 0), (999, 0, 0, 0), (14, 0, 1, 109), (14, 0, 3, 108), (80, 8, 218, 2), (999, 0, 0, 0), (999, 0, 0, 0), (14, 0, 2, 106), (14, 0, 3, 108), (80, 8, 255, 3), (999, 0, 0, 0), (999, 0, 0, 0), (110, 0, 214, 258), (999, 0, 0, 0), (999, 0, 0, 0), (110, 0, 303, 246), (999, 0, 0, 0), (999, 0, 0, 0), (17, 0, 4, 0), (999, 0, 0, 0), (11, 0, 4, 0), (999, 0, 0, 0), (61, 16, 40, 0), (999, 0, 0, 0), (999, 0, 0, 0), (14, 0, 0, 102), (80, 2, 25, 3), (999, 0, 0, 0), (999, 0, 0, 0), (50, 0, 0, 0), (80, 4, 307, 7), (999, 0, 0, 0), (999, 0, 0, 0), (0, 1, 0, 0), (30, 0, 0, 0), (82, 4, 307, 7), (999, 0, 0, 0), (999, 0, 0, 0), (14, 0, 2, 106), (14, 0, 3, 108), (80, 8, 248, 1), (999, 0, 0, 0), (999, 0, 0, 0), (11, 0, 4, 0), (999, 0, 0, 0), (60, 7, 54, 0), (999, 0, 0, 0), (999, 0, 0, 0), (0, 1, 0, 0), (72, 4, 55, 0), (999, 0, 0, 0), (999, 0, 0, 0), (0, 0, 0, 0), (110, 0, 251, 259), (999, 0, 0, 0), (999, 0, 0, 0), (133, 0, 0, 0)]
def zu_Co_carryChild : List (Nat × List Bool) := [(40, [false, false, true, true, true]), (55, [false, false, false, false, false])]
set_option maxRecDepth 100000 in
theorem qg_Co_carryChild_55 {ρ : Type} (kr : Int → zH → Option ρ) (F_Th_set : Int → Int → Int → zH → (Int → zH → Option ρ) → Option ρ) (t0 t1 t2 : Int) (h : zH) : (zob h 6 t2 fun _ =>
F_Th_set t2 t1 t0 h  fun _ h2 =>
kr 0 h2) = zseg zPP true (zcal (ρ := ρ) [(259, [none, none, none], zca3 F_Th_set)]) (zget (999, 0, 0, 0) zc_Co_carryChild) (zcut zu_Co_carryChild) (zorc (ρ := ρ) []) kr (fun _ _ => none) 400 55 [none, none, none, none, none] [(0, t0), (0, t1), (106, t2)] h := by rfl
set_option maxRecDepth 100000 in
theorem qe_Co_carryChild_55 {ρ : Type} (kr : Int → zH → Option ρ) (t0 t1 t2 : Int) (h : zH) : Co_carryChild_55 kr t0 t1 t2 h = zseg zPP true (zcal (ρ := ρ) [(259, [none, none, none], zca3 Th_set)]) (zget (999, 0, 0, 0) zc_Co_carryChild) (zcut zu_Co_carryChild) (zorc (ρ := ρ) []) kr (fun _ _ => none) 400 55 [none, none, none, none, none] [(0, t0), (0, t1), (106, t2)] h := qg_Co_carryChild_55 kr Th_set t0 t1 t2 h
set_option maxRecDepth 100000 in
theorem qg_Co_carryChild_40 {ρ : Type} (kr : Int → zH → Option ρ) (c55 : Int → Int → Int → zH → Option ρ) (a2 a3 a4 : Int) (h : zH) : (zob h 8 a3 fun p1 =>
if a4 = 0 then c55 0 (zhD h 8 p1 1) a2 h
else c55 1 (zhD h 8 p1 1) a2 h) = zseg zPP true (zcal (ρ := ρ) []) (zget (999, 0, 0, 0) zc_Co_carryChild) (zcut zu_Co_carryChild) (zorc (ρ := ρ) [(55, [none, none, none, none, none], [(0, none), (0, none), (106, none)], zap3 c55)]) kr (fun _ _ => none) 400 40 [none, none, some (106, a2), some (108, a3), some (0, a4)] [] h := by rfl
set_option maxRecDepth 100000 in
theorem qe_Co_carryChild_40 {ρ : Type} (kr : Int → zH → Option ρ) (a2 a3 a4 : Int) (h : zH) : Co_carryChild_40 kr a2 a3 a4 h = zseg zPP true (zcal (ρ := ρ) []) (zget (999, 0, 0, 0) zc_Co_carryChild) (zcut zu_Co_carryChild) (zorc (ρ := ρ) [(55, [none, none, none, none, none], [(0, none), (0, none), (106, none)], zap3 (Co_carryChild_55 kr))]) kr (fun _ _ => none) 400 40 [none, none, some (106, a2), some (108, a3), some (0, a4)] [] h := qg_Co_carryChild_40 kr (Co_carryChild_55 kr) a2 a3 a4 h
set_option maxRecDepth 100000 in
theorem qg_Co_carryChild {ρ : Type} (kr : Int → zH → Option ρ) (F_Le_launchChild : Int → Int → Int → Int → zH → (Int → zH → Option ρ) → Option ρ) (F_Th_at : Int → Int → zH → (Int → zH → Option ρ) → Option ρ) (c40 : Int → Int → Int → zH → Option ρ) (a0 a1 a2 a3 : Int) (h : zH) : (zob h 2 a0 fun p1 =>
zob h 8 a3 fun p2 =>
zob h 8 a3 fun p3 =>
zob h 6 a2 fun _ =>
F_Th_at a2 (zhD h 8 p3 3) h  fun v4 h5 =>
zob h5 1 (zhD h 2 p1 0) fun _ =>
F_Le_launchChild (zhD h 2 p1 0) a1 (zhD h 8 p2 2) v4 h5  fun v6 h7 =>
if v6 = 0 then (zob h7 2 a0 fun p8 =>
zob h7 4 (zhD h7 2 p8 3) fun p9 =>
zob h7 4 (zhD h7 2 p8 3) fun p10 =>
zlet (zset h7 4 p10 7 (wr ((zhD h7 4 p9 7) + 1))) fun h11 =>
c40 a2 a3 v6 h11)
else c40 a2 a3 v6 h7) = zseg zPP true (zcal (ρ := ρ) [(246, [none, none, none, none], zca4 F_Le_launchChild), (258, [none, none], zca2 F_Th_at)]) (zget (999, 0, 0, 0) zc_Co_carryChild) (zcut zu_Co_carryChild) (zorc (ρ := ρ) [(40, [none, none, some (106, none), some (108, none), some (0, none)], [], zap3 c40)]) kr (fun _ _ => none) 400 0 [some (102, a0), some (109, a1), some (106, a2), some (108, a3), none] [] h := by rfl
set_option maxRecDepth 100000 in
theorem qe_Co_carryChild {ρ : Type} (kr : Int → zH → Option ρ) (a0 a1 a2 a3 : Int) (h : zH) : Co_carryChild a0 a1 a2 a3 h kr = zseg zPP true (zcal (ρ := ρ) [(246, [none, none, none, none], zca4 Le_launchChild), (258, [none, none], zca2 Th_at)]) (zget (999, 0, 0, 0) zc_Co_carryChild) (zcut zu_Co_carryChild) (zorc (ρ := ρ) [(40, [none, none, some (106, none), some (108, none), some (0, none)], [], zap3 (Co_carryChild_40 kr))]) kr (fun _ _ => none) 400 0 [some (102, a0), some (109, a1), some (106, a2), some (108, a3), none] [] h := qg_Co_carryChild kr Le_launchChild Th_at (Co_carryChild_40 kr) a0 a1 a2 a3 h
def zc_Th_reckon : List zI := [(14, 0, 1, 108), (80, 8, 42, 0), (999, 0, 0, 0), (999, 0, 0, 0), (77, 0, 1, 0), (999, 0, 0, 0), (999, 0, 0, 0), (999, 0, 0, 0), (999, 0, 0, 0), (999, 0, 0, 0), (999, 0, 0, 0), (999, 0, 0, 0), (999, 0, 0, 0), (999, 0, 0, 0), (999, 0, 0, 0), (999, 0, 0, 0), (999, 0, 0, 0), (999, 0, 0, 0), (999, 0, 0, 0), (999, 0, 0, 0), (999, 0, 0, 0), (999, 0, 0, 0), (999, 0, 0, 0), (999, 0, 0, 0), (999, 0, 0, 0), (999, 0, 0, 0), (999, 0, 0, 0), (999, 0, 0, 0), (999, 0, 0, 0), (999, 0, 0, 0), (999, 0, 0, 0), (999, 0, 0, 0), (999, 0, 0, 0), (999, 0, 0, 0), (999, 0, 0, 0), (999, 0, 0, 0), (999, 0, 0, 0), (999, 0, 0, 0), (999, 0, 0, 0), (999, 0, 0, 0), (999, 0, 0, 0), (999, 0, 0, 0), (999, 0, 0, 0), (999, 0, 0, 0), (999, 0, 0, 0), (999, 0, 0, 0), (999, 0, 0, 0), (999, 0, 0, 0), (999, 0, 0, 0), (999, 0, 0, 0), (999, 0, 0, 0), (999, 0, 0, 0), (999, 0, 0, 0), (999, 0, 0, 0), (999, 0, 0, 0), (999, 0, 0, 0), (999, 0, 0, 0), (999, 0, 0, 0), (999, 0, 0, 0), (999, 0, 0, 0), (999, 0, 0, 0), (999, 0, 0, 0), (999, 0, 0, 0), (999, 0, 0, 0), (999, 0, 0, 0), (999, 0, 0, 0), (999, 0, 0, 0), (999, 0, 0, 0), (999, 0, 0, 0), (999, 0, 0, 0), (999, 0, 0, 0), (999, 0, 0, 0), (999, 0, 0, 0), (999, 0, 0, 0), (999, 0, 0, 0), (999, 0, 0, 0), (999, 0, 0, 0), (999, 0, 0, 0), (999, 0, 0, 0), (999, 0, 0, 0), (999, 0, 0, 0), (999, 0, 0, 0), (999, 0, 0, 0), (999, 0, 0, 0), (999, 0, 0, 0), (999, 0, 0, 0), (999, 0, 0, 0), (999, 0, 0, 0), (14, 0, 0, 106), (14, 0, 1, 108), (80, 8, 47, 1), (999, 0, 0, 0), (999, 0, 0, 0), (14, 0, 1, 108), (80, 8, 50, 2), (999, 0, 0, 0), (999, 0, 0, 0), (110, 0, 53, 259), (999, 0, 0, 0), (999, 0, 0, 0), (72, 204, 304, 0), (999, 0, 0, 0), (999, 0, 0, 0), (14, 0, 0, 106), (14, 0, 1, 108), (80, 8, 47, 1), (999, 0, 0, 0), (999, 0, 0, 0), (14, 0, 0, 106), (14, 0, 1, 108), (80, 8, 50, 2), (999, 0, 0, 0), (999, 0, 0, 0), (110, 0, 56, 258), (999, 0, 0, 0), (999, 0, 0, 0), (14, 0, 0, 106), (14, 0, 1, 108), (80, 8, 60, 3), (999, 0, 0, 0), (999, 0, 0, 0), (110, 0, 56, 258), (999, 0, 0, 0), (999, 0, 0, 0), (30, 0, 0, 0), (110, 0, 53, 259), (999, 0, 0, 0), (999, 0, 0, 0), (72, 176, 304, 0), (999, 0, 0, 0), (999, 0, 0, 0), (14, 0, 0, 106), (14, 0, 1, 108), (80, 8, 47, 1), (999, 0, 0, 0), (999, 0, 0, 0), (14, 0, 0, 106), (14, 0, 1, 108), (80, 8, 50, 2), (999, 0, 0, 0), (999, 0, 0, 0), (110, 0, 56, 258), (999, 0, 0, 0), (999, 0, 0, 0), (14, 0, 0, 106), (14, 0, 1, 108), (80, 8, 60, 3), (999, 0, 0, 0), (999, 0, 0, 0), (110, 0, 56, 258), (999, 0, 0, 0), (999, 0, 0, 0), (31, 0, 0, 0), (110, 0, 53, 259), (999, 0, 0, 0), (999, 0, 0, 0), (72, 148, 304, 0), (999, 0, 0, 0), (999, 0, 0, 0), (14, 0, 0, 106), (14, 0, 1, 108), (80, 8, 47, 1), (999, 0, 0, 0), (999, 0, 0, 0), (14, 0, 0, 106), (14, 0, 1, 108), (80, 8, 50, 2), (999, 0, 0, 0), (999, 0, 0, 0), (110, 0, 56, 258), (999, 0, 0, 0), (999, 0, 0, 0), (14, 0, 0, 106), (14, 0, 1, 108), (80, 8, 60, 3), (999, 0, 0, 0), (999, 0, 0, 0), (110, 0, 56, 258), (999, 0, 0, 0), (999, 0, 0, 0), (32, 0, 0, 0), (110, 0, 53, 259), (999, 0, 0, 0), (999, 0, 0, 0), (72, 120, 304, 0), (999, 0, 0, 0), (999, 0, 0, 0), (14, 0, 0, 106), (14, 0, 1, 108), (80, 8, 47, 1), (999, 0, 0, 0), (999, 0, 0, 0), (14, 0, 0, 106), (14, 0, 1, 108), (80, 8, 50, 2), (999, 0, 0, 0), (999, 0, 0, 0), (110, 0, 56, 258), (999, 0, 0, 0), (999, 0, 0, 0), (14, 0, 0, 106), (14, 0, 1, 108), (80, 8, 60, 3), (999, 0, 0, 0), (999, 0, 0, 0), (110, 0, 56, 258), (999, 0, 0, 0), (999, 0, 0, 0), (69, 7, 215, 0), (999, 0, 0, 0), (999, 0, 0, 0), (0, 1, 0, 0), (72, 4, 216, 0), (999, 0, 0, 0), (999, 0, 0, 0), (0, 0, 0, 0), (110, 0, 53, 259), (999, 0, 0, 0), (999, 0, 0, 0), (72, 85, 304, 0), (999, 0, 0, 0), (999, 0, 0, 0), (14, 0, 0, 106), (14, 0, 1, 108), (80, 8, 47, 1), (999, 0, 0, 0), (999, 0, 0, 0), (14, 0, 0, 106), (14, 0, 1, 108), (80, 8, 50, 2), (999, 0, 0, 0), (999, 0, 0, 0), (110, 0, 56, 258), (999, 0, 0, 0), (999, 0, 0, 0), (14, 0, 0, 106), (14, 0, 1, 108), (80, 8, 60, 3), (999, 0, 0, 0), (999, 0, 0, 0), (110, 0, 56, 258), (999, 0, 0, 0), (999, 0, 0, 0), (67, 7, 250, 0), (999, 0, 0, 0), (999, 0, 0, 0), (0, 1, 0, 0), (72, 4, 251, 0), (999, 0, 0, 0), (999, 0, 0, 0), (0, 0, 0, 0), (110, 0, 53, 259), (999, 0, 0, 0), (999, 0, 0, 0), (72, 50, 304, 0), (999, 0, 0, 0), (999, 0, 0, 0), (14, 0, 0, 106), (14, 0, 1, 108), (80, 8, 47, 1), (999, 0, 0, 0), (999, 0, 0, 0), (14, 0, 0, 106), (80, 6, 9, 0), (999, 0, 0, 0), (999, 0, 0, 0), (110, 0, 53, 259), (999, 0, 0, 0), (999, 0, 0, 0), (72, 35, 304, 0), (999, 0, 0, 0), (999, 0, 0, 0), (14, 0, 0, 106), (14, 0, 1, 108), (80, 8, 47, 1), (999, 0, 0, 0), (999, 0, 0, 0), (14, 0, 0, 106), (80, 6, 25, 2), (999, 0, 0, 0), (999, 0, 0, 0), (110, 0, 53, 259), (999, 0, 0, 0), (999, 0, 0, 0), (72, 20, 304, 0), (999, 0, 0, 0), (999, 0, 0, 0), (14, 0, 0, 106), (14, 0, 1, 108), (80, 8, 47, 1), (999, 0, 0, 0), (999, 0, 0, 0), (14, 0, 0, 106), (80, 6, 9, 0), (999, 0, 0, 0), (999, 0, 0, 0), (0, 4, 0, 0), (34, 0, 0, 0), (110, 0, 53, 259), (999, 0, 0, 0), (999, 0, 0, 0), (72, 3, 304, 0), (999, 0, 0, 0), (999, 0, 0, 0), (133, 0, 0, 0)]
def zu_Th_reckon : List (Nat × List Bool) := [(216, [false, false]), (251, [false, false]), (304, [false, false])]
set_option maxRecDepth 100000 in
theorem qg_Th_reckon_304 {ρ : Type} (kr : Int → zH → Option ρ) (h : zH) : (kr 0 h) = zseg zPP true (zcal (ρ := ρ) []) (zget (999, 0, 0, 0) zc_Th_reckon) (zcut zu_Th_reckon) (zorc (ρ := ρ) []) kr (fun _ _ => none) 400 304 [none, none] [] h := by rfl
set_option maxRecDepth 100000 in
theorem qe_Th_reckon_304 {ρ : Type} (kr : Int → zH → Option ρ) (h : zH) : Th_reckon_304 kr h = zseg zPP true (zcal (ρ := ρ) []) (zget (999, 0, 0, 0) zc_Th_reckon) (zcut zu_Th_reckon) (zorc (ρ := ρ) []) kr (fun _ _ => none) 400 304 [none, none] [] h := qg_Th_reckon_304 kr h
set_option maxRecDepth 100000 in
theorem qg_Th_reckon_216 {ρ : Type} (kr : Int → zH → Option ρ) (F_Th_set : Int → Int → Int → zH → (Int → zH → Option ρ) → Option ρ) (c304 : zH → Option ρ) (t0 t1 t2 : Int) (h : zH) : (zob h 6 t2 fun _ =>
F_Th_set t2 t1 t0 h  fun _ h2 =>
c304 h2) = zseg zPP true (zcal (ρ := ρ) [(259, [none, none, none], zca3 F_Th_set)]) (zget (999, 0, 0, 0) zc_Th_reckon) (zcut zu_Th_reckon) (zorc (ρ := ρ) [(304, [none, none], [], zap0 c304)]) kr (fun _ _ => none) 400 216 [none, none] [(0, t0), (0, t1), (106, t2)] h := by rfl
set_option maxRecDepth 100000 in
theorem qe_Th_reckon_216 {ρ : Type} (kr : Int → zH → Option ρ) (t0 t1 t2 : Int) (h : zH) : Th_reckon_216 kr t0 t1 t2 h = zseg zPP true (zcal (ρ := ρ) [(259, [none, none, none], zca3 Th_set)]) (zget (999, 0, 0, 0) zc_Th_reckon) (zcut zu_Th_reckon) (zorc (ρ := ρ) [(304, [none, none], [], zap0 (Th_reckon_304 kr))]) kr (fun _ _ => none) 400 216 [none, none] [(0, t0), (0, t1), (106, t2)] h := qg_Th_reckon_216 kr Th_set (Th_reckon_304 kr) t0 t1 t2 h
set_option maxRecDepth 100000 in
theorem qg_Th_reckon_251 {ρ : Type} (kr : Int → zH → Option ρ) (F_Th_set : Int → Int → Int → zH → (Int → zH → Option ρ) → Option ρ) (c304 : zH → Option ρ) (t0 t1 t2 : Int) (h : zH) : (zob h 6 t2 fun _ =>
F_Th_set t2 t1 t0 h  fun _ h2 =>
c304 h2) = zseg zPP true (zcal (ρ := ρ) [(259, [none, none, none], zca3 F_Th_set)]) (zget (999, 0, 0, 0) zc_Th_reckon) (zcut zu_Th_reckon) (zorc (ρ := ρ) [(304, [none, none], [], zap0 c304)]) kr (fun _ _ => none) 400 251 [none, none] [(0, t0), (0, t1), (106, t2)] h := by rfl
set_option maxRecDepth 100000 in
theorem qe_Th_reckon_251 {ρ : Type} (kr : Int → zH → Option ρ) (t0 t1 t2 : Int) (h : zH) : Th_reckon_251 kr t0 t1 t2 h = zseg zPP true (zcal (ρ := ρ) [(259, [none, none, none], zca3 Th_set)]) (zget (999, 0, 0, 0) zc_Th_reckon) (zcut zu_Th_reckon) (zorc (ρ := ρ) [(304, [none, none], [], zap0 (Th_reckon_304 kr))]) kr (fun _ _ => none) 400 251 [none, none] [(0, t0), (0, t1), (106, t2)] h := qg_Th_reckon_251 kr Th_set (Th_reckon_304 kr) t0 t1 t2 h
set_option maxRecDepth 100000 in
theorem qg_Th_reckon {ρ : Type} (kr : Int → zH → Option ρ) (F_Th_at : Int → Int → zH → (Int → zH → Option ρ) → Option ρ) (F_Th_set : Int → Int → Int → zH → (Int → zH → Option ρ) → Option ρ) (c216 : Int → Int → Int → zH → Option ρ) (c251 : Int → Int → Int → zH → Option ρ) (c304 : zH → Option ρ) (a0 a1 : Int) (h : zH) : (zob h 8 a1 fun p1 =>
if (zhD h 8 p1 0) = 42 then (zob h 8 a1 fun p2 =>
zob h 8 a1 fun p3 =>
zob h 6 a0 fun _ =>
F_Th_at a0 (zhD h 8 p3 2) h  fun v4 h5 =>
zob h5 8 a1 fun p6 =>
zob h5 6 a0 fun _ =>
F_Th_at a0 (zhD h5 8 p6 3) h5  fun v7 h8 =>
zob h8 6 a0 fun _ =>
F_Th_set a0 (zhD h 8 p2 1) (wr (v4 * v7)) h8  fun _ h10 =>
c304 h10)
else if (zhD h 8 p1 0) = 43 then (zob h 8 a1 fun p11 =>
zob h 8 a1 fun p12 =>
zob h 6 a0 fun _ =>
F_Th_at a0 (zhD h 8 p12 2) h  fun v13 h14 =>
zob h14 8 a1 fun p15 =>
zob h14 6 a0 fun _ =>
F_Th_at a0 (zhD h14 8 p15 3) h14  fun v16 h17 =>
zob h17 6 a0 fun _ =>
F_Th_set a0 (zhD h 8 p11 1) (wr (v13 + v16)) h17  fun _ h19 =>
c304 h19)
else if (zhD h 8 p1 0) = 45 then (zob h 8 a1 fun p20 =>
zob h 8 a1 fun p21 =>
zob h 6 a0 fun _ =>
F_Th_at a0 (zhD h 8 p21 2) h  fun v22 h23 =>
zob h23 8 a1 fun p24 =>
zob h23 6 a0 fun _ =>
F_Th_at a0 (zhD h23 8 p24 3) h23  fun v25 h26 =>
zob h26 6 a0 fun _ =>
F_Th_set a0 (zhD h 8 p20 1) (wr (v22 - v25)) h26  fun _ h28 =>
c304 h28)
else if (zhD h 8 p1 0) = 60 then (zob h 8 a1 fun p29 =>
zob h 8 a1 fun p30 =>
zob h 6 a0 fun _ =>
F_Th_at a0 (zhD h 8 p30 2) h  fun v31 h32 =>
zob h32 8 a1 fun p33 =>
zob h32 6 a0 fun _ =>
F_Th_at a0 (zhD h32 8 p33 3) h32  fun v34 h35 =>
if v31 < v34 then c216 1 (zhD h 8 p29 1) a0 h35
else c216 0 (zhD h 8 p29 1) a0 h35)
else if (zhD h 8 p1 0) = 61 then (zob h 8 a1 fun p36 =>
zob h 8 a1 fun p37 =>
zob h 6 a0 fun _ =>
F_Th_at a0 (zhD h 8 p37 2) h  fun v38 h39 =>
zob h39 8 a1 fun p40 =>
zob h39 6 a0 fun _ =>
F_Th_at a0 (zhD h39 8 p40 3) h39  fun v41 h42 =>
if v38 = v41 then c251 1 (zhD h 8 p36 1) a0 h42
else c251 0 (zhD h 8 p36 1) a0 h42)
else if (zhD h 8 p1 0) = 107 then (zob h 8 a1 fun p43 =>
zob h 8 a1 fun p44 =>
zob h 6 a0 fun _ =>
F_Th_set a0 (zhD h 8 p43 1) (zhD h 8 p44 2) h  fun _ h46 =>
c304 h46)
else if (zhD h 8 p1 0) = 108 then (zob h 8 a1 fun p47 =>
zob h 6 a0 fun p48 =>
zob h 6 a0 fun _ =>
F_Th_set a0 (zhD h 8 p47 1) (Int.tmod (zhD h 6 p48 0) 4) h  fun _ h50 =>
c304 h50)
else if (zhD h 8 p1 0) = 110 then (zob h 8 a1 fun p51 =>
zob h 6 a0 fun p52 =>
zob h 6 a0 fun _ =>
F_Th_set a0 (zhD h 8 p51 1) (zhD h 6 p52 2) h  fun _ h54 =>
c304 h54)
else if (zhD h 8 p1 0) = 116 then (zob h 8 a1 fun p55 =>
zob h 6 a0 fun p56 =>
zob h 6 a0 fun _ =>
F_Th_set a0 (zhD h 8 p55 1) (zhD h 6 p56 0) h  fun _ h58 =>
c304 h58)
else c304 h) = zseg zPP true (zcal (ρ := ρ) [(258, [none, none], zca2 F_Th_at), (259, [none, none, none], zca3 F_Th_set)]) (zget (999, 0, 0, 0) zc_Th_reckon) (zcut zu_Th_reckon) (zorc (ρ := ρ) [(216, [none, none], [(0, none), (0, none), (106, none)], zap3 c216), (251, [none, none], [(0, none), (0, none), (106, none)], zap3 c251), (304, [none, none], [], zap0 c304)]) kr (fun _ _ => none) 400 0 [some (106, a0), some (108, a1)] [] h := by rfl
set_option maxRecDepth 100000 in
theorem qe_Th_reckon {ρ : Type} (kr : Int → zH → Option ρ) (a0 a1 : Int) (h : zH) : Th_reckon a0 a1 h kr = zseg zPP true (zcal (ρ := ρ) [(258, [none, none], zca2 Th_at), (259, [none, none, none], zca3 Th_set)]) (zget (999, 0, 0, 0) zc_Th_reckon) (zcut zu_Th_reckon) (zorc (ρ := ρ) [(216, [none, none], [(0, none), (0, none), (106, none)], zap3 (Th_reckon_216 kr)), (251, [none, none], [(0, none), (0, none), (106, none)], zap3 (Th_reckon_251 kr)), (304, [none, none], [], zap0 (Th_reckon_304 kr))]) kr (fun _ _ => none) 400 0 [some (106, a0), some (108, a1)] [] h := qg_Th_reckon kr Th_at Th_set (Th_reckon_216 kr) (Th_reckon_251 kr) (Th_reckon_304 kr) a0 a1 h
def zc_Co_carryLane : List zI := [(15, 0, 4, 108), (999, 0, 0, 0), (8, 2, 234, 0), (999, 0, 0, 0), (110, 0, 223, 219), (999, 0, 0, 0), (999, 0, 0, 0), (60, 18, 25, 0), (999, 0, 0, 0), (999, 0, 0, 0), (14, 0, 0, 102), (14, 0, 1, 111), (14, 0, 0, 102), (80, 2, 33, 6), (999, 0, 0, 0), (999, 0, 0, 0), (10, 0, 2, 0), (90, 0, 0, 24), (14, 0, 3, 106), (15, 0, 4, 108), (999, 0, 0, 0), (110, 0, 236, 189), (999, 0, 0, 0), (999, 0, 0, 0), (130, 0, 2, 0), (15, 0, 4, 108), (999, 0, 0, 0), (8, 3, 239, 0), (999, 0, 0, 0), (110, 0, 223, 219), (999, 0, 0, 0), (999, 0, 0, 0), (60, 20, 52, 0), (999, 0, 0, 0), (999, 0, 0, 0), (14, 0, 1, 111), (80, 11, 66, 0), (999, 0, 0, 0), (999, 0, 0, 0), (14, 0, 0, 102), (80, 2, 33, 6), (999, 0, 0, 0), (999, 0, 0, 0), (10, 0, 2, 0), (90, 0, 0, 24), (14, 0, 3, 106), (15, 0, 4, 108), (999, 0, 0, 0), (113, 0, 241, 190), (999, 0, 0, 0), (999, 0, 0, 0), (130, 0, 2, 0), (15, 0, 4, 108), (999, 0, 0, 0), (80, 8, 245, 0), (999, 0, 0, 0), (999, 0, 0, 0), (1, 118, 0, 0), (999, 0, 0, 0), (67, 19, 78, 0), (999, 0, 0, 0), (999, 0, 0, 0), (14, 0, 3, 106), (15, 0, 4, 108), (999, 0, 0, 0), (80, 8, 248, 1), (999, 0, 0, 0), (999, 0, 0, 0), (14, 0, 0, 102), (80, 2, 206, 9), (999, 0, 0, 0), (999, 0, 0, 0), (110, 0, 251, 259), (999, 0, 0, 0), (999, 0, 0, 0), (72, 96, 171, 0), (999, 0, 0, 0), (999, 0, 0, 0), (15, 0, 4, 108), (999, 0, 0, 0), (80, 8, 245, 0), (999, 0, 0, 0), (999, 0, 0, 0), (1, 115, 0, 0), (999, 0, 0, 0), (67, 53, 138, 0), (999, 0, 0, 0), (999, 0, 0, 0), (14, 0, 3, 106), (15, 0, 4, 108), (999, 0, 0, 0), (80, 8, 255, 3), (999, 0, 0, 0), (999, 0, 0, 0), (110, 0, 214, 258), (999, 0, 0, 0), (999, 0, 0, 0), (0, 4, 0, 0), (113, 0, 258, 1), (999, 0, 0, 0), (999, 0, 0, 0), (17, 0, 5, 0), (999, 0, 0, 0), (14, 0, 3, 106), (15, 0, 4, 108), (999, 0, 0, 0), (80, 8, 248, 1), (999, 0, 0, 0), (999, 0, 0, 0), (14, 0, 0, 102), (80, 2, 36, 7), (999, 0, 0, 0), (999, 0, 0, 0), (14, 0, 0, 102), (80, 2, 161, 8), (999, 0, 0, 0), (999, 0, 0, 0), (11, 0, 5, 0), (999, 0, 0, 0), (114, 0, 172, 56), (999, 0, 0, 0), (999, 0, 0, 0), (60, 8, 130, 0), (999, 0, 0, 0), (999, 0, 0, 0), (11, 0, 5, 0), (999, 0, 0, 0), (72, 4, 131, 0), (999, 0, 0, 0), (999, 0, 0, 0), (10, 0, 2, 0), (90, 0, 0, 25), (110, 0, 251, 259), (999, 0, 0, 0), (999, 0, 0, 0), (72, 36, 171, 0), (999, 0, 0, 0), (999, 0, 0, 0), (15, 0, 4, 108), (999, 0, 0, 0), (80, 8, 245, 0), (999, 0, 0, 0), (999, 0, 0, 0), (1, 99, 0, 0), (999, 0, 0, 0), (67, 20, 165, 0), (999, 0, 0, 0), (999, 0, 0, 0), (14, 0, 0, 102), (14, 0, 1, 111), (80, 11, 66, 0), (999, 0, 0, 0), (999, 0, 0, 0), (80, 10, 144, 0), (999, 0, 0, 0), (999, 0, 0, 0), (14, 0, 3, 106), (15, 0, 4, 108), (999, 0, 0, 0), (110, 0, 264, 191), (999, 0, 0, 0), (999, 0, 0, 0), (72, 9, 171, 0), (999, 0, 0, 0), (999, 0, 0, 0), (14, 0, 3, 106), (15, 0, 4, 108), (999, 0, 0, 0), (110, 0, 268, 260), (999, 0, 0, 0), (999, 0, 0, 0), (1, 45, 0, 0), (999, 0, 0, 0), (130, 0, 2, 0)]
def zu_Co_carryLane : List (Nat × List Bool) := [(131, [false, false, false, false, false, false]), (171, [false, false, false, false, false, false])]
set_option maxRecDepth 100000 in
theorem qg_Co_carryLane_171 {ρ : Type} (kr : Int → zH → Option ρ) (h : zH) : (kr 45 h) = zseg zPP true (zcal (ρ := ρ) []) (zget (999, 0, 0, 0) zc_Co_carryLane) (zcut zu_Co_carryLane) (zorc (ρ := ρ) []) kr (fun _ _ => none) 400 171 [none, none, none, none, none, none] [] h := by rfl
set_option maxRecDepth 100000 in
theorem qe_Co_carryLane_171 {ρ : Type} (kr : Int → zH → Option ρ) (h : zH) : Co_carryLane_171 kr h = zseg zPP true (zcal (ρ := ρ) []) (zget (999, 0, 0, 0) zc_Co_carryLane) (zcut zu_Co_carryLane) (zorc (ρ := ρ) []) kr (fun _ _ => none) 400 171 [none, none, none, none, none, none] [] h := qg_Co_carryLane_171 kr h
set_option maxRecDepth 100000 in
theorem qg_Co_carryLane_131 {ρ : Type} (kr : Int → zH → Option ρ) (F_Th_set : Int → Int → Int → zH → (Int → zH → Option ρ) → Option ρ) (c171 : zH → Option ρ) (t0 t1 t2 t3 : Int) (h : zH) : (zob h 25 t1 fun p1 =>
zix (zhL h 25 p1) t0 fun j2 =>
zob h 6 t3 fun _ =>
F_Th_set t3 t2 (zhD h 25 p1 j2) h  fun _ h4 =>
c171 h4) = zseg zPP true (zcal (ρ := ρ) [(259, [none, none, none], zca3 F_Th_set)]) (zget (999, 0, 0, 0) zc_Co_carryLane) (zcut zu_Co_carryLane) (zorc (ρ := ρ) [(171, [none, none, none, none, none, none], [], zap0 c171)]) kr (fun _ _ => none) 400 131 [none, none, none, none, none, none] [(0, t0), (125, t1), (0, t2), (106, t3)] h := by rfl
set_option maxRecDepth 100000 in
theorem qe_Co_carryLane_131 {ρ : Type} (kr : Int → zH → Option ρ) (t0 t1 t2 t3 : Int) (h : zH) : Co_carryLane_131 kr t0 t1 t2 t3 h = zseg zPP true (zcal (ρ := ρ) [(259, [none, none, none], zca3 Th_set)]) (zget (999, 0, 0, 0) zc_Co_carryLane) (zcut zu_Co_carryLane) (zorc (ρ := ρ) [(171, [none, none, none, none, none, none], [], zap0 (Co_carryLane_171 kr))]) kr (fun _ _ => none) 400 131 [none, none, none, none, none, none] [(0, t0), (125, t1), (0, t2), (106, t3)] h := qg_Co_carryLane_131 kr Th_set (Co_carryLane_171 kr) t0 t1 t2 t3 h
set_option maxRecDepth 100000 in
theorem qg_Co_carryLane {ρ : Type} (kr : Int → zH → Option ρ) (F_Ma_floorMod : Int → Int → zH → (Int → zH → Option ρ) → Option ρ) (F_X_isIn : Int → Int → zH → (Int → zH → Option ρ) → Option ρ) (F_Co_carryGlobal : Int → Int → Int → Int → Int → zH → (Int → zH → Option ρ) → Option ρ) (F_Co_carryShared : Int → Int → Int → Int → zH → (Int → zH → Option ρ) → Option ρ) (F_Co_carryChild : Int → Int → Int → Int → zH → (Int → zH → Option ρ) → Option ρ) (F_In_isOneOf : Int → Int → zH → (Int → zH → Option ρ) → Option ρ) (F_Th_at : Int → Int → zH → (Int → zH → Option ρ) → Option ρ) (F_Th_set : Int → Int → Int → zH → (Int → zH → Option ρ) → Option ρ) (F_Th_reckon : Int → Int → zH → (Int → zH → Option ρ) → Option ρ) (c131 : Int → Int → Int → Int → zH → Option ρ) (c171 : zH → Option ρ) (a0 a1 a2 a3 a4 : Int) (h : zH) : (zob h 8 a4 fun _ =>
F_In_isOneOf a4 2 h  fun v1 h2 =>
if v1 = 0 then (zob h2 8 a4 fun _ =>
F_In_isOneOf a4 3 h2  fun v3 h4 =>
if v3 = 0 then (zob h4 8 a4 fun p5 =>
if (zhD h4 8 p5 0) = 118 then (zob h4 8 a4 fun p24 =>
zob h4 2 a0 fun p25 =>
zob h4 6 a3 fun _ =>
F_Th_set a3 (zhD h4 8 p24 1) (zhD h4 2 p25 9) h4  fun _ h27 =>
c171 h27)
else zob h4 8 a4 fun p6 =>
if (zhD h4 8 p6 0) = 115 then (zob h4 8 a4 fun p14 =>
zob h4 6 a3 fun _ =>
F_Th_at a3 (zhD h4 8 p14 3) h4  fun v15 h16 =>
F_Ma_floorMod v15 4 h16  fun v17 h18 =>
zob h18 8 a4 fun p19 =>
zob h18 2 a0 fun p20 =>
zob h18 2 a0 fun p21 =>
F_X_isIn (zhD h18 2 p21 8) v17 h18  fun v22 h23 =>
if v22 = 0 then c131 a2 (zhD h18 2 p20 7) (zhD h18 8 p19 1) a3 h23
else c131 v17 (zhD h18 2 p20 7) (zhD h18 8 p19 1) a3 h23)
else zob h4 8 a4 fun p7 =>
if (zhD h4 8 p7 0) = 99 then (zob h4 11 a1 fun p10 =>
zob h4 10 (zhD h4 11 p10 0) fun p11 =>
zob h4 2 a0 fun _ =>
F_Co_carryChild a0 (zhD h4 10 p11 0) a3 a4 h4  fun _ h13 =>
c171 h13)
else zob h4 6 a3 fun _ =>
F_Th_reckon a3 a4 h4  fun _ h9 =>
c171 h9)
else zob h4 11 a1 fun p28 =>
zob h4 2 a0 fun p29 =>
zob h4 24 (zhD h4 2 p29 6) fun p30 =>
zix (zhL h4 24 p30) a2 fun j31 =>
F_Co_carryShared (zhD h4 11 p28 0) (zhD h4 24 p30 j31) a3 a4 h4  fun v32 h33 =>
znar 2 v32 fun x34 => kr x34 h33)
else zob h2 2 a0 fun p35 =>
zob h2 24 (zhD h2 2 p35 6) fun p36 =>
zix (zhL h2 24 p36) a2 fun j37 =>
zob h2 2 a0 fun _ =>
F_Co_carryGlobal a0 a1 (zhD h2 24 p36 j37) a3 a4 h2  fun v38 h39 =>
znar 2 v38 fun x40 => kr x40 h39) = zseg zPP true (zcal (ρ := ρ) [(1, [none, none], zca2 F_Ma_floorMod), (56, [none, none], zca2 F_X_isIn), (189, [none, none, none, none, none], zca5 F_Co_carryGlobal), (190, [none, none, none, none], zca4 F_Co_carryShared), (191, [none, none, none, none], zca4 F_Co_carryChild), (219, [none, none], zca2 F_In_isOneOf), (258, [none, none], zca2 F_Th_at), (259, [none, none, none], zca3 F_Th_set), (260, [none, none], zca2 F_Th_reckon)]) (zget (999, 0, 0, 0) zc_Co_carryLane) (zcut zu_Co_carryLane) (zorc (ρ := ρ) [(131, [none, none, none, none, none, none], [(0, none), (125, none), (0, none), (106, none)], zap4 c131), (171, [none, none, none, none, none, none], [], zap0 c171)]) kr (fun _ _ => none) 400 0 [some (102, a0), some (111, a1), some (0, a2), some (106, a3), some (108, a4), none] [] h := by rfl
set_option maxRecDepth 100000 in
theorem qe_Co_carryLane {ρ : Type} (kr : Int → zH → Option ρ) (a0 a1 a2 a3 a4 : Int) (h : zH) : Co_carryLane a0 a1 a2 a3 a4 h kr = zseg zPP true (zcal (ρ := ρ) [(1, [none, none], zca2 Ma_floorMod), (56, [none, none], zca2 X_isIn), (189, [none, none, none, none, none], zca5 Co_carryGlobal), (190, [none, none, none, none], zca4 Co_carryShared), (191, [none, none, none, none], zca4 Co_carryChild), (219, [none, none], zca2 In_isOneOf), (258, [none, none], zca2 Th_at), (259, [none, none, none], zca3 Th_set), (260, [none, none], zca2 Th_reckon)]) (zget (999, 0, 0, 0) zc_Co_carryLane) (zcut zu_Co_carryLane) (zorc (ρ := ρ) [(131, [none, none, none, none, none, none], [(0, none), (125, none), (0, none), (106, none)], zap4 (Co_carryLane_131 kr)), (171, [none, none, none, none, none, none], [], zap0 (Co_carryLane_171 kr))]) kr (fun _ _ => none) 400 0 [some (102, a0), some (111, a1), some (0, a2), some (106, a3), some (108, a4), none] [] h := qg_Co_carryLane kr Ma_floorMod X_isIn Co_carryGlobal Co_carryShared Co_carryChild In_isOneOf Th_at Th_set Th_reckon (Co_carryLane_131 kr) (Co_carryLane_171 kr) a0 a1 a2 a3 a4 h
def zc_Co_isNamedFirst : List zI := [(0, 0, 0, 0), (16, 0, 3, 0), (10, 0, 3, 0), (10, 0, 1, 0), (69, 41, 45, 0), (999, 0, 0, 0), (999, 0, 0, 0), (14, 0, 0, 102), (80, 2, 161, 8), (999, 0, 0, 0), (999, 0, 0, 0), (10, 0, 3, 0), (114, 0, 172, 56), (999, 0, 0, 0), (999, 0, 0, 0), (60, 24, 39, 0), (999, 0, 0, 0), (999, 0, 0, 0), (14, 0, 0, 102), (80, 2, 33, 6), (999, 0, 0, 0), (999, 0, 0, 0), (10, 0, 3, 0), (90, 0, 0, 24), (10, 0, 2, 0), (40, 0, 0, 0), (14, 0, 0, 102), (80, 2, 33, 6), (999, 0, 0, 0), (999, 0, 0, 0), (10, 0, 1, 0), (90, 0, 0, 24), (10, 0, 2, 0), (40, 0, 0, 0), (67, 5, 39, 0), (999, 0, 0, 0), (999, 0, 0, 0), (0, 0, 0, 0), (130, 0, 1, 0), (22, 1, 3, 0), (999, 0, 0, 0), (999, 0, 0, 0), (72, (-40), 2, 0), (999, 0, 0, 0), (999, 0, 0, 0), (14, 0, 0, 102), (80, 2, 161, 8), (999, 0, 0, 0), (999, 0, 0, 0), (10, 0, 1, 0), (114, 0, 172, 56), (999, 0, 0, 0), (999, 0, 0, 0), (130, 0, 1, 0)]
def zu_Co_isNamedFirst : List (Nat × List Bool) := [(2, [true, true, true, true]), (39, [true, true, true, true])]
set_option maxRecDepth 100000 in
theorem qg_Co_isNamedFirst_39 {ρ : Type} (kr : Int → zH → Option ρ) (r2 : Int → Int → Int → Int → zH → Option ρ) (a0 a1 a2 a3 : Int) (h : zH) : (r2 a0 a1 a2 (wr (a3 + 1)) h) = zseg zPP true (zcal (ρ := ρ) []) (zget (999, 0, 0, 0) zc_Co_isNamedFirst) (zcut zu_Co_isNamedFirst) (zorc (ρ := ρ) [(2, [some (102, none), some (0, none), some (0, none), some (0, none)], [], zap4 r2)]) kr (fun _ _ => none) 400 39 [some (102, a0), some (0, a1), some (0, a2), some (0, a3)] [] h := by rfl
set_option maxRecDepth 100000 in
theorem qe_Co_isNamedFirst_39 {ρ : Type} (kr : Int → zH → Option ρ) (r2 : Int → Int → Int → Int → zH → Option ρ) (a0 a1 a2 a3 : Int) (h : zH) : Co_isNamedFirst_39 kr r2 a0 a1 a2 a3 h = zseg zPP true (zcal (ρ := ρ) []) (zget (999, 0, 0, 0) zc_Co_isNamedFirst) (zcut zu_Co_isNamedFirst) (zorc (ρ := ρ) [(2, [some (102, none), some (0, none), some (0, none), some (0, none)], [], zap4 r2)]) kr (fun _ _ => none) 400 39 [some (102, a0), some (0, a1), some (0, a2), some (0, a3)] [] h := qg_Co_isNamedFirst_39 kr r2 a0 a1 a2 a3 h
set_option maxRecDepth 100000 in
theorem qg_Co_isNamedFirst_2b {ρ : Type} (kr : Int → zH → Option ρ) (r2 : Int → Int → Int → Int → zH → Option ρ) (F_X_isIn : Int → Int → zH → (Int → zH → Option ρ) → Option ρ) (c39 : Int → Int → Int → Int → zH → Option ρ) (a0 a1 a2 a3 : Int) (h : zH) : (if a3 < a1 then (zob h 2 a0 fun p5 =>
F_X_isIn (zhD h 2 p5 8) a3 h  fun v6 h7 =>
if v6 = 0 then c39 a0 a1 a2 a3 h7
else zob h7 2 a0 fun p8 =>
zob h7 24 (zhD h7 2 p8 6) fun p9 =>
zix (zhL h7 24 p9) a3 fun j10 =>
zob h7 2 a0 fun p11 =>
zob h7 24 (zhD h7 2 p11 6) fun p12 =>
zix (zhL h7 24 p12) a1 fun j13 =>
if (zshr (zhD h7 24 p9 j10) a2) = (zshr (zhD h7 24 p12 j13) a2) then kr 0 h7
else c39 a0 a1 a2 a3 h7)
else zob h 2 a0 fun p1 =>
F_X_isIn (zhD h 2 p1 8) a1 h  fun v2 h3 =>
znar 1 v2 fun x4 => kr x4 h3) = zseg zPP true (zcal (ρ := ρ) [(56, [none, none], zca2 F_X_isIn)]) (zget (999, 0, 0, 0) zc_Co_isNamedFirst) (zcut zu_Co_isNamedFirst) (zorc (ρ := ρ) [(39, [some (102, none), some (0, none), some (0, none), some (0, none)], [], zap4 c39)]) kr (fun _ _ => none) 400 2 [some (102, a0), some (0, a1), some (0, a2), some (0, a3)] [] h := by rfl
set_option maxRecDepth 100000 in
theorem qe_Co_isNamedFirst_2b {ρ : Type} (kr : Int → zH → Option ρ) (r2 : Int → Int → Int → Int → zH → Option ρ) (a0 a1 a2 a3 : Int) (h : zH) : Co_isNamedFirst_2b kr r2 a0 a1 a2 a3 h = zseg zPP true (zcal (ρ := ρ) [(56, [none, none], zca2 X_isIn)]) (zget (999, 0, 0, 0) zc_Co_isNamedFirst) (zcut zu_Co_isNamedFirst) (zorc (ρ := ρ) [(39, [some (102, none), some (0, none), some (0, none), some (0, none)], [], zap4 (Co_isNamedFirst_39 kr r2))]) kr (fun _ _ => none) 400 2 [some (102, a0), some (0, a1), some (0, a2), some (0, a3)] [] h := qg_Co_isNamedFirst_2b kr r2 X_isIn (Co_isNamedFirst_39 kr r2) a0 a1 a2 a3 h
set_option maxRecDepth 100000 in
theorem qg_Co_isNamedFirst {ρ : Type} (kr : Int → zH → Option ρ) (c2 : Int → Int → Int → Int → zH → Option ρ) (a0 a1 a2 : Int) (h : zH) : (c2 a0 a1 a2 0 h) = zseg zPP true (zcal (ρ := ρ) []) (zget (999, 0, 0, 0) zc_Co_isNamedFirst) (zcut zu_Co_isNamedFirst) (zorc (ρ := ρ) [(2, [some (102, none), some (0, none), some (0, none), some (0, none)], [], zap4 c2)]) kr (fun _ _ => none) 400 0 [some (102, a0), some (0, a1), some (0, a2), none] [] h := by rfl
set_option maxRecDepth 100000 in
theorem qe_Co_isNamedFirst {ρ : Type} (kr : Int → zH → Option ρ) (a0 a1 a2 : Int) (h : zH) : Co_isNamedFirst a0 a1 a2 h kr = zseg zPP true (zcal (ρ := ρ) []) (zget (999, 0, 0, 0) zc_Co_isNamedFirst) (zcut zu_Co_isNamedFirst) (zorc (ρ := ρ) [(2, [some (102, none), some (0, none), some (0, none), some (0, none)], [], zap4 (Co_isNamedFirst_2 kr))]) kr (fun _ _ => none) 400 0 [some (102, a0), some (0, a1), some (0, a2), none] [] h := qg_Co_isNamedFirst kr (Co_isNamedFirst_2 kr) a0 a1 a2 h
def zc_Co_bankDelay : List zI := [(0, 0, 0, 0), (16, 0, 1, 0), (0, 0, 0, 0), (16, 0, 2, 0), (10, 0, 2, 0), (0, 4, 0, 0), (69, 60, 66, 0), (999, 0, 0, 0), (999, 0, 0, 0), (0, 0, 0, 0), (16, 0, 3, 0), (0, 0, 0, 0), (17, 0, 4, 0), (999, 0, 0, 0), (11, 0, 4, 0), (999, 0, 0, 0), (0, 4, 0, 0), (69, 37, 54, 0), (999, 0, 0, 0), (999, 0, 0, 0), (14, 0, 0, 102), (11, 0, 4, 0), (999, 0, 0, 0), (0, 0, 0, 0), (110, 0, 334, 196), (999, 0, 0, 0), (999, 0, 0, 0), (60, 21, 48, 0), (999, 0, 0, 0), (999, 0, 0, 0), (14, 0, 0, 102), (80, 2, 33, 6), (999, 0, 0, 0), (999, 0, 0, 0), (11, 0, 4, 0), (999, 0, 0, 0), (90, 0, 0, 24), (0, 4, 0, 0), (113, 0, 258, 1), (999, 0, 0, 0), (999, 0, 0, 0), (10, 0, 2, 0), (67, 6, 48, 0), (999, 0, 0, 0), (999, 0, 0, 0), (22, 1, 3, 0), (999, 0, 0, 0), (999, 0, 0, 0), (22, 1, 4, 0), (999, 0, 0, 0), (999, 0, 0, 0), (72, (-37), 14, 0), (999, 0, 0, 0), (999, 0, 0, 0), (10, 0, 1, 0), (10, 0, 3, 0), (113, 0, 337, 2), (999, 0, 0, 0), (999, 0, 0, 0), (16, 0, 1, 0), (22, 1, 2, 0), (999, 0, 0, 0), (999, 0, 0, 0), (72, (-59), 4, 0), (999, 0, 0, 0), (999, 0, 0, 0), (10, 0, 1, 0), (130, 0, 0, 0)]
def zu_Co_bankDelay : List (Nat × List Bool) := [(4, [true, true, true, false, false]), (14, [true, true, true, true, true]), (48, [true, true, true, true, true])]
set_option maxRecDepth 100000 in
theorem qg_Co_bankDelay_48 {ρ : Type} (kr : Int → zH → Option ρ) (r4 : Int → Int → Int → zH → Option ρ) (r14 : Int → Int → Int → Int → Int → zH → Option ρ) (a0 a1 a2 a3 a4 : Int) (h : zH) : (r14 a0 a1 a2 a3 (wr (a4 + 1)) h) = zseg zPP true (zcal (ρ := ρ) []) (zget (999, 0, 0, 0) zc_Co_bankDelay) (zcut zu_Co_bankDelay) (zorc (ρ := ρ) [(14, [some (102, none), some (0, none), some (0, none), some (0, none), some (0, none)], [], zap5 r14)]) kr (fun _ _ => none) 400 48 [some (102, a0), some (0, a1), some (0, a2), some (0, a3), some (0, a4)] [] h := by rfl
set_option maxRecDepth 100000 in
theorem qe_Co_bankDelay_48 {ρ : Type} (kr : Int → zH → Option ρ) (r4 : Int → Int → Int → zH → Option ρ) (r14 : Int → Int → Int → Int → Int → zH → Option ρ) (a0 a1 a2 a3 a4 : Int) (h : zH) : Co_bankDelay_48 kr r4 r14 a0 a1 a2 a3 a4 h = zseg zPP true (zcal (ρ := ρ) []) (zget (999, 0, 0, 0) zc_Co_bankDelay) (zcut zu_Co_bankDelay) (zorc (ρ := ρ) [(14, [some (102, none), some (0, none), some (0, none), some (0, none), some (0, none)], [], zap5 r14)]) kr (fun _ _ => none) 400 48 [some (102, a0), some (0, a1), some (0, a2), some (0, a3), some (0, a4)] [] h := qg_Co_bankDelay_48 kr r4 r14 a0 a1 a2 a3 a4 h
set_option maxRecDepth 100000 in
theorem qg_Co_bankDelay_14b {ρ : Type} (kr : Int → zH → Option ρ) (r4 : Int → Int → Int → zH → Option ρ) (r14 : Int → Int → Int → Int → Int → zH → Option ρ) (F_Ma_floorMod : Int → Int → zH → (Int → zH → Option ρ) → Option ρ) (F_Ma_max : Int → Int → zH → (Int → zH → Option ρ) → Option ρ) (F_Co_isNamedFirst : Int → Int → Int → zH → (Int → zH → Option ρ) → Option ρ) (c48 : Int → Int → Int → Int → Int → zH → Option ρ) (a0 a1 a2 a3 a4 : Int) (h : zH) : (if a4 < 4 then (zob h 2 a0 fun _ =>
F_Co_isNamedFirst a0 a4 0 h  fun v3 h4 =>
if v3 = 0 then c48 a0 a1 a2 a3 a4 h4
else zob h4 2 a0 fun p5 =>
zob h4 24 (zhD h4 2 p5 6) fun p6 =>
zix (zhL h4 24 p6) a4 fun j7 =>
F_Ma_floorMod (zhD h4 24 p6 j7) 4 h4  fun v8 h9 =>
if v8 = a2 then c48 a0 a1 a2 (wr (a3 + 1)) a4 h9
else c48 a0 a1 a2 a3 a4 h9)
else F_Ma_max a1 a3 h  fun v1 h2 =>
r4 a0 v1 (wr (a2 + 1)) h2) = zseg zPP true (zcal (ρ := ρ) [(1, [none, none], zca2 F_Ma_floorMod), (2, [none, none], zca2 F_Ma_max), (196, [none, none, none], zca3 F_Co_isNamedFirst)]) (zget (999, 0, 0, 0) zc_Co_bankDelay) (zcut zu_Co_bankDelay) (zorc (ρ := ρ) [(4, [some (102, none), some (0, none), some (0, none), none, none], [], zap3 r4), (48, [some (102, none), some (0, none), some (0, none), some (0, none), some (0, none)], [], zap5 c48)]) kr (fun _ _ => none) 400 14 [some (102, a0), some (0, a1), some (0, a2), some (0, a3), some (0, a4)] [] h := by rfl
set_option maxRecDepth 100000 in
theorem qe_Co_bankDelay_14b {ρ : Type} (kr : Int → zH → Option ρ) (r4 : Int → Int → Int → zH → Option ρ) (r14 : Int → Int → Int → Int → Int → zH → Option ρ) (a0 a1 a2 a3 a4 : Int) (h : zH) : Co_bankDelay_14b kr r4 r14 a0 a1 a2 a3 a4 h = zseg zPP true (zcal (ρ := ρ) [(1, [none, none], zca2 Ma_floorMod), (2, [none, none], zca2 Ma_max), (196, [none, none, none], zca3 Co_isNamedFirst)]) (zget (999, 0, 0, 0) zc_Co_bankDelay) (zcut zu_Co_bankDelay) (zorc (ρ := ρ) [(4, [some (102, none), some (0, none), some (0, none), none, none], [], zap3 r4), (48, [some (102, none), some (0, none), some (0, none), some (0, none), some (0, none)], [], zap5 (Co_bankDelay_48 kr r4 r14))]) kr (fun _ _ => none) 400 14 [some (102, a0), some (0, a1), some (0, a2), some (0, a3), some (0, a4)] [] h := qg_Co_bankDelay_14b kr r4 r14 Ma_floorMod Ma_max Co_isNamedFirst (Co_bankDelay_48 kr r4 r14) a0 a1 a2 a3 a4 h
set_option maxRecDepth 100000 in
theorem qg_Co_bankDelay_4b {ρ : Type} (kr : Int → zH → Option ρ) (r4 : Int → Int → Int → zH → Option ρ) (c14 : Int → Int → Int → Int → Int → zH → Option ρ) (a0 a1 a2 : Int) (h : zH) : (if a2 < 4 then c14 a0 a1 a2 0 0 h
else kr a1 h) = zseg zPP true (zcal (ρ := ρ) []) (zget (999, 0, 0, 0) zc_Co_bankDelay) (zcut zu_Co_bankDelay) (zorc (ρ := ρ) [(14, [some (102, none), some (0, none), some (0, none), some (0, none), some (0, none)], [], zap5 c14)]) kr (fun _ _ => none) 400 4 [some (102, a0), some (0, a1), some (0, a2), none, none] [] h := by rfl
set_option maxRecDepth 100000 in
theorem qe_Co_bankDelay_4b {ρ : Type} (kr : Int → zH → Option ρ) (r4 : Int → Int → Int → zH → Option ρ) (a0 a1 a2 : Int) (h : zH) : Co_bankDelay_4b kr r4 a0 a1 a2 h = zseg zPP true (zcal (ρ := ρ) []) (zget (999, 0, 0, 0) zc_Co_bankDelay) (zcut zu_Co_bankDelay) (zorc (ρ := ρ) [(14, [some (102, none), some (0, none), some (0, none), some (0, none), some (0, none)], [], zap5 (Co_bankDelay_14 kr r4))]) kr (fun _ _ => none) 400 4 [some (102, a0), some (0, a1), some (0, a2), none, none] [] h := qg_Co_bankDelay_4b kr r4 (Co_bankDelay_14 kr r4) a0 a1 a2 h
set_option maxRecDepth 100000 in
theorem qg_Co_bankDelay {ρ : Type} (kr : Int → zH → Option ρ) (c4 : Int → Int → Int → zH → Option ρ) (a0 : Int) (h : zH) : (c4 a0 0 0 h) = zseg zPP true (zcal (ρ := ρ) []) (zget (999, 0, 0, 0) zc_Co_bankDelay) (zcut zu_Co_bankDelay) (zorc (ρ := ρ) [(4, [some (102, none), some (0, none), some (0, none), none, none], [], zap3 c4)]) kr (fun _ _ => none) 400 0 [some (102, a0), none, none, none, none] [] h := by rfl
set_option maxRecDepth 100000 in
theorem qe_Co_bankDelay {ρ : Type} (kr : Int → zH → Option ρ) (a0 : Int) (h : zH) : Co_bankDelay a0 h kr = zseg zPP true (zcal (ρ := ρ) []) (zget (999, 0, 0, 0) zc_Co_bankDelay) (zcut zu_Co_bankDelay) (zorc (ρ := ρ) [(4, [some (102, none), some (0, none), some (0, none), none, none], [], zap3 (Co_bankDelay_4 kr))]) kr (fun _ _ => none) 400 0 [some (102, a0), none, none, none, none] [] h := qg_Co_bankDelay kr (Co_bankDelay_4 kr) a0 h
def zc_Un_missesLine : List zI := [(10, 0, 1, 0), (0, 2, 0, 0), (113, 0, 89, 1), (999, 0, 0, 0), (999, 0, 0, 0), (16, 0, 2, 0), (14, 0, 0, 103), (80, 3, 17, 1), (999, 0, 0, 0), (999, 0, 0, 0), (10, 0, 2, 0), (90, 0, 0, 27), (10, 0, 1, 0), (66, 7, 20, 0), (999, 0, 0, 0), (999, 0, 0, 0), (0, 1, 0, 0), (72, 4, 21, 0), (999, 0, 0, 0), (999, 0, 0, 0), (0, 0, 0, 0), (16, 0, 3, 0), (14, 0, 0, 103), (80, 3, 17, 1), (999, 0, 0, 0), (999, 0, 0, 0), (10, 0, 2, 0), (10, 0, 1, 0), (95, 0, 0, 27), (10, 0, 3, 0), (130, 0, 1, 0)]
def zu_Un_missesLine : List (Nat × List Bool) := [(21, [true, true, true, false])]
set_option maxRecDepth 100000 in
theorem qg_Un_missesLine_21 {ρ : Type} (kr : Int → zH → Option ρ) (a0 a1 a2 t0 : Int) (h : zH) : (zob h 3 a0 fun p1 =>
zob h 27 (zhD h 3 p1 1) fun p2 =>
zix (zhL h 27 p2) a2 fun j3 =>
zlet (zset h 27 p2 j3 a1) fun h4 =>
znar 1 t0 fun x5 => kr x5 h4) = zseg zPP true (zcal (ρ := ρ) []) (zget (999, 0, 0, 0) zc_Un_missesLine) (zcut zu_Un_missesLine) (zorc (ρ := ρ) []) kr (fun _ _ => none) 400 21 [some (103, a0), some (0, a1), some (0, a2), none] [(0, t0)] h := by rfl
set_option maxRecDepth 100000 in
theorem qe_Un_missesLine_21 {ρ : Type} (kr : Int → zH → Option ρ) (a0 a1 a2 t0 : Int) (h : zH) : Un_missesLine_21 kr a0 a1 a2 t0 h = zseg zPP true (zcal (ρ := ρ) []) (zget (999, 0, 0, 0) zc_Un_missesLine) (zcut zu_Un_missesLine) (zorc (ρ := ρ) []) kr (fun _ _ => none) 400 21 [some (103, a0), some (0, a1), some (0, a2), none] [(0, t0)] h := qg_Un_missesLine_21 kr a0 a1 a2 t0 h
set_option maxRecDepth 100000 in
theorem qg_Un_missesLine {ρ : Type} (kr : Int → zH → Option ρ) (F_Ma_floorMod : Int → Int → zH → (Int → zH → Option ρ) → Option ρ) (c21 : Int → Int → Int → Int → zH → Option ρ) (a0 a1 : Int) (h : zH) : (F_Ma_floorMod a1 2 h  fun v1 h2 =>
zob h2 3 a0 fun p3 =>
zob h2 27 (zhD h2 3 p3 1) fun p4 =>
zix (zhL h2 27 p4) v1 fun j5 =>
if (zhD h2 27 p4 j5) = a1 then c21 a0 a1 v1 0 h2
else c21 a0 a1 v1 1 h2) = zseg zPP true (zcal (ρ := ρ) [(1, [none, none], zca2 F_Ma_floorMod)]) (zget (999, 0, 0, 0) zc_Un_missesLine) (zcut zu_Un_missesLine) (zorc (ρ := ρ) [(21, [some (103, none), some (0, none), some (0, none), none], [(0, none)], zap4 c21)]) kr (fun _ _ => none) 400 0 [some (103, a0), some (0, a1), none, none] [] h := by rfl
set_option maxRecDepth 100000 in
theorem qe_Un_missesLine {ρ : Type} (kr : Int → zH → Option ρ) (a0 a1 : Int) (h : zH) : Un_missesLine a0 a1 h kr = zseg zPP true (zcal (ρ := ρ) [(1, [none, none], zca2 Ma_floorMod)]) (zget (999, 0, 0, 0) zc_Un_missesLine) (zcut zu_Un_missesLine) (zorc (ρ := ρ) [(21, [some (103, none), some (0, none), some (0, none), none], [(0, none)], zap4 (Un_missesLine_21 kr))]) kr (fun _ _ => none) 400 0 [some (103, a0), some (0, a1), none, none] [] h := qg_Un_missesLine kr Ma_floorMod (Un_missesLine_21 kr) a0 a1 h
def zc_Co_lineDelay : List zI := [(0, 0, 0, 0), (16, 0, 2, 0), (0, 0, 0, 0), (16, 0, 3, 0), (10, 0, 3, 0), (0, 4, 0, 0), (69, 55, 61, 0), (999, 0, 0, 0), (999, 0, 0, 0), (14, 0, 0, 102), (10, 0, 3, 0), (0, 3, 0, 0), (110, 0, 334, 196), (999, 0, 0, 0), (999, 0, 0, 0), (61, 6, 21, 0), (999, 0, 0, 0), (999, 0, 0, 0), (72, 37, 55, 0), (999, 0, 0, 0), (999, 0, 0, 0), (22, 2, 2, 0), (999, 0, 0, 0), (999, 0, 0, 0), (14, 0, 1, 103), (14, 0, 0, 102), (80, 2, 33, 6), (999, 0, 0, 0), (999, 0, 0, 0), (10, 0, 3, 0), (90, 0, 0, 24), (0, 3, 0, 0), (40, 0, 0, 0), (110, 0, 340, 287), (999, 0, 0, 0), (999, 0, 0, 0), (60, 19, 55, 0), (999, 0, 0, 0), (999, 0, 0, 0), (22, 4, 2, 0), (999, 0, 0, 0), (999, 0, 0, 0), (14, 0, 0, 102), (80, 2, 25, 3), (999, 0, 0, 0), (999, 0, 0, 0), (50, 0, 0, 0), (80, 4, 343, 4), (999, 0, 0, 0), (999, 0, 0, 0), (0, 1, 0, 0), (30, 0, 0, 0), (82, 4, 343, 4), (999, 0, 0, 0), (999, 0, 0, 0), (22, 1, 3, 0), (999, 0, 0, 0), (999, 0, 0, 0), (72, (-54), 4, 0), (999, 0, 0, 0), (999, 0, 0, 0), (10, 0, 2, 0), (130, 0, 0, 0)]
def zu_Co_lineDelay : List (Nat × List Bool) := [(4, [true, true, true, true]), (55, [true, true, true, true])]
set_option maxRecDepth 100000 in
theorem qg_Co_lineDelay_55 {ρ : Type} (kr : Int → zH → Option ρ) (r4 : Int → Int → Int → Int → zH → Option ρ) (a0 a1 a2 a3 : Int) (h : zH) : (r4 a0 a1 a2 (wr (a3 + 1)) h) = zseg zPP true (zcal (ρ := ρ) []) (zget (999, 0, 0, 0) zc_Co_lineDelay) (zcut zu_Co_lineDelay) (zorc (ρ := ρ) [(4, [some (102, none), some (103, none), some (0, none), some (0, none)], [], zap4 r4)]) kr (fun _ _ => none) 400 55 [some (102, a0), some (103, a1), some (0, a2), some (0, a3)] [] h := by rfl
set_option maxRecDepth 100000 in
theorem qe_Co_lineDelay_55 {ρ : Type} (kr : Int → zH → Option ρ) (r4 : Int → Int → Int → Int → zH → Option ρ) (a0 a1 a2 a3 : Int) (h : zH) : Co_lineDelay_55 kr r4 a0 a1 a2 a3 h = zseg zPP true (zcal (ρ := ρ) []) (zget (999, 0, 0, 0) zc_Co_lineDelay) (zcut zu_Co_lineDelay) (zorc (ρ := ρ) [(4, [some (102, none), some (103, none), some (0, none), some (0, none)], [], zap4 r4)]) kr (fun _ _ => none) 400 55 [some (102, a0), some (103, a1), some (0, a2), some (0, a3)] [] h := qg_Co_lineDelay_55 kr r4 a0 a1 a2 a3 h
set_option maxRecDepth 100000 in
theorem qg_Co_lineDelay_4b {ρ : Type} (kr : Int → zH → Option ρ) (r4 : Int → Int → Int → Int → zH → Option ρ) (F_Co_isNamedFirst : Int → Int → Int → zH → (Int → zH → Option ρ) → Option ρ) (F_Un_missesLine : Int → Int → zH → (Int → zH → Option ρ) → Option ρ) (c55 : Int → Int → Int → Int → zH → Option ρ) (a0 a1 a2 a3 : Int) (h : zH) : (if a3 < 4 then (zob h 2 a0 fun _ =>
F_Co_isNamedFirst a0 a3 3 h  fun v1 h2 =>
if v1 = 0 then c55 a0 a1 a2 a3 h2
else zob h2 2 a0 fun p3 =>
zob h2 24 (zhD h2 2 p3 6) fun p4 =>
zix (zhL h2 24 p4) a3 fun j5 =>
zob h2 3 a1 fun _ =>
F_Un_missesLine a1 (zshr (zhD h2 24 p4 j5) 3) h2  fun v6 h7 =>
if v6 = 0 then c55 a0 a1 (wr (a2 + 2)) a3 h7
else zob h7 2 a0 fun p8 =>
zob h7 4 (zhD h7 2 p8 3) fun p9 =>
zob h7 4 (zhD h7 2 p8 3) fun p10 =>
zlet (zset h7 4 p10 4 (wr ((zhD h7 4 p9 4) + 1))) fun h11 =>
c55 a0 a1 (wr ((wr (a2 + 2)) + 4)) a3 h11)
else kr a2 h) = zseg zPP true (zcal (ρ := ρ) [(196, [none, none, none], zca3 F_Co_isNamedFirst), (287, [none, none], zca2 F_Un_missesLine)]) (zget (999, 0, 0, 0) zc_Co_lineDelay) (zcut zu_Co_lineDelay) (zorc (ρ := ρ) [(55, [some (102, none), some (103, none), some (0, none), some (0, none)], [], zap4 c55)]) kr (fun _ _ => none) 400 4 [some (102, a0), some (103, a1), some (0, a2), some (0, a3)] [] h := by rfl
set_option maxRecDepth 100000 in
theorem qe_Co_lineDelay_4b {ρ : Type} (kr : Int → zH → Option ρ) (r4 : Int → Int → Int → Int → zH → Option ρ) (a0 a1 a2 a3 : Int) (h : zH) : Co_lineDelay_4b kr r4 a0 a1 a2 a3 h = zseg zPP true (zcal (ρ := ρ) [(196, [none, none, none], zca3 Co_isNamedFirst), (287, [none, none], zca2 Un_missesLine)]) (zget (999, 0, 0, 0) zc_Co_lineDelay) (zcut zu_Co_lineDelay) (zorc (ρ := ρ) [(55, [some (102, none), some (103, none), some (0, none), some (0, none)], [], zap4 (Co_lineDelay_55 kr r4))]) kr (fun _ _ => none) 400 4 [some (102, a0), some (103, a1), some (0, a2), some (0, a3)] [] h := qg_Co_lineDelay_4b kr r4 Co_isNamedFirst Un_missesLine (Co_lineDelay_55 kr r4) a0 a1 a2 a3 h
set_option maxRecDepth 100000 in
theorem qg_Co_lineDelay {ρ : Type} (kr : Int → zH → Option ρ) (c4 : Int → Int → Int → Int → zH → Option ρ) (a0 a1 : Int) (h : zH) : (c4 a0 a1 0 0 h) = zseg zPP true (zcal (ρ := ρ) []) (zget (999, 0, 0, 0) zc_Co_lineDelay) (zcut zu_Co_lineDelay) (zorc (ρ := ρ) [(4, [some (102, none), some (103, none), some (0, none), some (0, none)], [], zap4 c4)]) kr (fun _ _ => none) 400 0 [some (102, a0), some (103, a1), none, none] [] h := by rfl
set_option maxRecDepth 100000 in
theorem qe_Co_lineDelay {ρ : Type} (kr : Int → zH → Option ρ) (a0 a1 : Int) (h : zH) : Co_lineDelay a0 a1 h kr = zseg zPP true (zcal (ρ := ρ) []) (zget (999, 0, 0, 0) zc_Co_lineDelay) (zcut zu_Co_lineDelay) (zorc (ρ := ρ) [(4, [some (102, none), some (103, none), some (0, none), some (0, none)], [], zap4 (Co_lineDelay_4 kr))]) kr (fun _ _ => none) 400 0 [some (102, a0), some (103, a1), none, none] [] h := qg_Co_lineDelay kr (Co_lineDelay_4 kr) a0 a1 h
def zc_Co_delayOf : List zI := [(14, 0, 2, 108), (80, 8, 245, 0), (999, 0, 0, 0), (999, 0, 0, 0), (77, 0, 0, 0), (999, 0, 0, 0), (999, 0, 0, 0), (999, 0, 0, 0), (999, 0, 0, 0), (999, 0, 0, 0), (999, 0, 0, 0), (999, 0, 0, 0), (999, 0, 0, 0), (999, 0, 0, 0), (999, 0, 0, 0), (999, 0, 0, 0), (999, 0, 0, 0), (999, 0, 0, 0), (999, 0, 0, 0), (999, 0, 0, 0), (999, 0, 0, 0), (999, 0, 0, 0), (999, 0, 0, 0), (999, 0, 0, 0), (999, 0, 0, 0), (999, 0, 0, 0), (999, 0, 0, 0), (999, 0, 0, 0), (999, 0, 0, 0), (999, 0, 0, 0), (999, 0, 0, 0), (999, 0, 0, 0), (999, 0, 0, 0), (999, 0, 0, 0), (999, 0, 0, 0), (999, 0, 0, 0), (999, 0, 0, 0), (999, 0, 0, 0), (999, 0, 0, 0), (999, 0, 0, 0), (999, 0, 0, 0), (999, 0, 0, 0), (999, 0, 0, 0), (999, 0, 0, 0), (999, 0, 0, 0), (999, 0, 0, 0), (999, 0, 0, 0), (999, 0, 0, 0), (999, 0, 0, 0), (999, 0, 0, 0), (999, 0, 0, 0), (999, 0, 0, 0), (999, 0, 0, 0), (999, 0, 0, 0), (999, 0, 0, 0), (999, 0, 0, 0), (999, 0, 0, 0), (999, 0, 0, 0), (999, 0, 0, 0), (999, 0, 0, 0), (999, 0, 0, 0), (999, 0, 0, 0), (999, 0, 0, 0), (999, 0, 0, 0), (999, 0, 0, 0), (999, 0, 0, 0), (999, 0, 0, 0), (999, 0, 0, 0), (999, 0, 0, 0), (999, 0, 0, 0), (999, 0, 0, 0), (999, 0, 0, 0), (999, 0, 0, 0), (999, 0, 0, 0), (999, 0, 0, 0), (999, 0, 0, 0), (999, 0, 0, 0), (999, 0, 0, 0), (999, 0, 0, 0), (999, 0, 0, 0), (999, 0, 0, 0), (999, 0, 0, 0), (999, 0, 0, 0), (999, 0, 0, 0), (999, 0, 0, 0), (999, 0, 0, 0), (999, 0, 0, 0), (999, 0, 0, 0), (0, 2, 0, 0), (130, 0, 0, 0), (14, 0, 0, 102), (110, 0, 322, 194), (999, 0, 0, 0), (999, 0, 0, 0), (130, 0, 0, 0), (14, 0, 0, 102), (14, 0, 1, 103), (110, 0, 325, 195), (999, 0, 0, 0), (999, 0, 0, 0), (130, 0, 0, 0), (0, 1, 0, 0), (14, 0, 0, 102), (80, 2, 231, 10), (999, 0, 0, 0), (999, 0, 0, 0), (30, 0, 0, 0), (130, 0, 0, 0), (0, 2, 0, 0), (14, 0, 0, 102), (80, 2, 161, 8), (999, 0, 0, 0), (999, 0, 0, 0), (113, 0, 329, 0), (999, 0, 0, 0), (999, 0, 0, 0), (32, 0, 0, 0), (130, 0, 0, 0), (0, 4, 0, 0), (14, 0, 0, 102), (80, 2, 161, 8), (999, 0, 0, 0), (999, 0, 0, 0), (113, 0, 329, 0), (999, 0, 0, 0), (999, 0, 0, 0), (32, 0, 0, 0), (130, 0, 0, 0), (0, 1, 0, 0), (130, 0, 0, 0)]
def zu_Co_delayOf : List (Nat × List Bool) := [(90, [true, false, false]), (101, [true, false, false]), (108, [true, false, false])]
set_option maxRecDepth 100000 in
theorem qg_Co_delayOf_90 {ρ : Type} (kr : Int → zH → Option ρ) (F_Co_bankDelay : Int → zH → (Int → zH → Option ρ) → Option ρ) (a0 : Int) (h : zH) : (zob h 2 a0 fun _ =>
F_Co_bankDelay a0 h  fun v1 h2 =>
kr v1 h2) = zseg zPP true (zcal (ρ := ρ) [(194, [none], zca1 F_Co_bankDelay)]) (zget (999, 0, 0, 0) zc_Co_delayOf) (zcut zu_Co_delayOf) (zorc (ρ := ρ) []) kr (fun _ _ => none) 400 90 [some (102, a0), none, none] [] h := by rfl
set_option maxRecDepth 100000 in
theorem qe_Co_delayOf_90 {ρ : Type} (kr : Int → zH → Option ρ) (a0 : Int) (h : zH) : Co_delayOf_90 kr a0 h = zseg zPP true (zcal (ρ := ρ) [(194, [none], zca1 Co_bankDelay)]) (zget (999, 0, 0, 0) zc_Co_delayOf) (zcut zu_Co_delayOf) (zorc (ρ := ρ) []) kr (fun _ _ => none) 400 90 [some (102, a0), none, none] [] h := qg_Co_delayOf_90 kr Co_bankDelay a0 h
set_option maxRecDepth 100000 in
theorem qg_Co_delayOf_101 {ρ : Type} (kr : Int → zH → Option ρ) (a0 : Int) (h : zH) : (zob h 2 a0 fun p1 =>
kr (wr (1 + (zhD h 2 p1 10))) h) = zseg zPP true (zcal (ρ := ρ) []) (zget (999, 0, 0, 0) zc_Co_delayOf) (zcut zu_Co_delayOf) (zorc (ρ := ρ) []) kr (fun _ _ => none) 400 101 [some (102, a0), none, none] [] h := by rfl
set_option maxRecDepth 100000 in
theorem qe_Co_delayOf_101 {ρ : Type} (kr : Int → zH → Option ρ) (a0 : Int) (h : zH) : Co_delayOf_101 kr a0 h = zseg zPP true (zcal (ρ := ρ) []) (zget (999, 0, 0, 0) zc_Co_delayOf) (zcut zu_Co_delayOf) (zorc (ρ := ρ) []) kr (fun _ _ => none) 400 101 [some (102, a0), none, none] [] h := qg_Co_delayOf_101 kr a0 h
set_option maxRecDepth 100000 in
theorem qg_Co_delayOf_108 {ρ : Type} (kr : Int → zH → Option ρ) (F_It_bitCount : Int → zH → (Int → zH → Option ρ) → Option ρ) (a0 : Int) (h : zH) : (zob h 2 a0 fun p1 =>
F_It_bitCount (zhD h 2 p1 8) h  fun v2 h3 =>
kr (wr (2 * v2)) h3) = zseg zPP true (zcal (ρ := ρ) [(0, [none], zca1 F_It_bitCount)]) (zget (999, 0, 0, 0) zc_Co_delayOf) (zcut zu_Co_delayOf) (zorc (ρ := ρ) []) kr (fun _ _ => none) 400 108 [some (102, a0), none, none] [] h := by rfl
set_option maxRecDepth 100000 in
theorem qe_Co_delayOf_108 {ρ : Type} (kr : Int → zH → Option ρ) (a0 : Int) (h : zH) : Co_delayOf_108 kr a0 h = zseg zPP true (zcal (ρ := ρ) [(0, [none], zca1 It_bitCount)]) (zget (999, 0, 0, 0) zc_Co_delayOf) (zcut zu_Co_delayOf) (zorc (ρ := ρ) []) kr (fun _ _ => none) 400 108 [some (102, a0), none, none] [] h := qg_Co_delayOf_108 kr It_bitCount a0 h
set_option maxRecDepth 100000 in
theorem qg_Co_delayOf {ρ : Type} (kr : Int → zH → Option ρ) (F_It_bitCount : Int → zH → (Int → zH → Option ρ) → Option ρ) (F_Co_lineDelay : Int → Int → zH → (Int → zH → Option ρ) → Option ρ) (c90 : Int → zH → Option ρ) (c101 : Int → zH → Option ρ) (c108 : Int → zH → Option ρ) (a0 a1 a2 : Int) (h : zH) : (zob h 8 a2 fun p1 =>
if (zhD h 8 p1 0) = 42 then kr 2 h
else if (zhD h 8 p1 0) = 82 then c90 a0 h
else if (zhD h 8 p1 0) = 87 then c90 a0 h
else if (zhD h 8 p1 0) = 97 then c108 a0 h
else if (zhD h 8 p1 0) = 99 then (zob h 2 a0 fun p2 =>
F_It_bitCount (zhD h 2 p2 8) h  fun v3 h4 =>
kr (wr (4 * v3)) h4)
else if (zhD h 8 p1 0) = 102 then c101 a0 h
else if (zhD h 8 p1 0) = 114 then (zob h 2 a0 fun _ =>
F_Co_lineDelay a0 a1 h  fun v5 h6 =>
kr v5 h6)
else if (zhD h 8 p1 0) = 119 then c101 a0 h
else if (zhD h 8 p1 0) = 120 then c108 a0 h
else kr 1 h) = zseg zPP true (zcal (ρ := ρ) [(0, [none], zca1 F_It_bitCount), (195, [none, none], zca2 F_Co_lineDelay)]) (zget (999, 0, 0, 0) zc_Co_delayOf) (zcut zu_Co_delayOf) (zorc (ρ := ρ) [(90, [some (102, none), none, none], [], zap1 c90), (101, [some (102, none), none, none], [], zap1 c101), (108, [some (102, none), none, none], [], zap1 c108)]) kr (fun _ _ => none) 400 0 [some (102, a0), some (103, a1), some (108, a2)] [] h := by rfl
set_option maxRecDepth 100000 in
theorem qe_Co_delayOf {ρ : Type} (kr : Int → zH → Option ρ) (a0 a1 a2 : Int) (h : zH) : Co_delayOf a0 a1 a2 h kr = zseg zPP true (zcal (ρ := ρ) [(0, [none], zca1 It_bitCount), (195, [none, none], zca2 Co_lineDelay)]) (zget (999, 0, 0, 0) zc_Co_delayOf) (zcut zu_Co_delayOf) (zorc (ρ := ρ) [(90, [some (102, none), none, none], [], zap1 (Co_delayOf_90 kr)), (101, [some (102, none), none, none], [], zap1 (Co_delayOf_101 kr)), (108, [some (102, none), none, none], [], zap1 (Co_delayOf_108 kr))]) kr (fun _ _ => none) 400 0 [some (102, a0), some (103, a1), some (108, a2)] [] h := qg_Co_delayOf kr It_bitCount Co_lineDelay (Co_delayOf_90 kr) (Co_delayOf_101 kr) (Co_delayOf_108 kr) a0 a1 a2 h
def zc_Co_countedDelay : List zI := [(14, 0, 0, 102), (14, 0, 1, 103), (14, 0, 2, 108), (110, 0, 310, 193), (999, 0, 0, 0), (999, 0, 0, 0), (16, 0, 3, 0), (14, 0, 0, 102), (80, 2, 25, 3), (999, 0, 0, 0), (999, 0, 0, 0), (50, 0, 0, 0), (80, 4, 313, 2), (999, 0, 0, 0), (999, 0, 0, 0), (10, 0, 3, 0), (42, 0, 0, 0), (45, 0, 0, 0), (82, 4, 313, 2), (999, 0, 0, 0), (999, 0, 0, 0), (14, 0, 0, 102), (80, 2, 25, 3), (999, 0, 0, 0), (999, 0, 0, 0), (50, 0, 0, 0), (80, 4, 316, 3), (999, 0, 0, 0), (999, 0, 0, 0), (5, 1, 1, 0), (45, 0, 0, 0), (82, 4, 316, 3), (999, 0, 0, 0), (999, 0, 0, 0), (14, 0, 2, 108), (8, 3, 239, 0), (999, 0, 0, 0), (110, 0, 223, 219), (999, 0, 0, 0), (999, 0, 0, 0), (60, 18, 58, 0), (999, 0, 0, 0), (999, 0, 0, 0), (14, 0, 0, 102), (80, 2, 25, 3), (999, 0, 0, 0), (999, 0, 0, 0), (50, 0, 0, 0), (80, 4, 319, 5), (999, 0, 0, 0), (999, 0, 0, 0), (10, 0, 3, 0), (0, 1, 0, 0), (31, 0, 0, 0), (30, 0, 0, 0), (82, 4, 319, 5), (999, 0, 0, 0), (999, 0, 0, 0), (10, 0, 3, 0), (130, 0, 0, 0)]
def zu_Co_countedDelay : List (Nat × List Bool) := [(58, [false, false, false, true])]
set_option maxRecDepth 100000 in
theorem qg_Co_countedDelay_58 {ρ : Type} (kr : Int → zH → Option ρ) (a3 : Int) (h : zH) : (kr a3 h) = zseg zPP true (zcal (ρ := ρ) []) (zget (999, 0, 0, 0) zc_Co_countedDelay) (zcut zu_Co_countedDelay) (zorc (ρ := ρ) []) kr (fun _ _ => none) 400 58 [none, none, none, some (0, a3)] [] h := by rfl
set_option maxRecDepth 100000 in
theorem qe_Co_countedDelay_58 {ρ : Type} (kr : Int → zH → Option ρ) (a3 : Int) (h : zH) : Co_countedDelay_58 kr a3 h = zseg zPP true (zcal (ρ := ρ) []) (zget (999, 0, 0, 0) zc_Co_countedDelay) (zcut zu_Co_countedDelay) (zorc (ρ := ρ) []) kr (fun _ _ => none) 400 58 [none, none, none, some (0, a3)] [] h := qg_Co_countedDelay_58 kr a3 h
set_option maxRecDepth 100000 in
theorem qg_Co_countedDelay {ρ : Type} (kr : Int → zH → Option ρ) (F_Co_delayOf : Int → Int → Int → zH → (Int → zH → Option ρ) → Option ρ) (F_In_isOneOf : Int → Int → zH → (Int → zH → Option ρ) → Option ρ) (c58 : Int → zH → Option ρ) (a0 a1 a2 : Int) (h : zH) : (zob h 2 a0 fun _ =>
F_Co_delayOf a0 a1 a2 h  fun v1 h2 =>
zob h2 2 a0 fun p3 =>
zob h2 4 (zhD h2 2 p3 3) fun p4 =>
zob h2 4 (zhD h2 2 p3 3) fun p5 =>
zlet (zset h2 4 p5 2 (wrl ((zhD h2 4 p4 2) + v1))) fun h6 =>
zob h6 2 a0 fun p7 =>
zob h6 4 (zhD h6 2 p7 3) fun p8 =>
zob h6 4 (zhD h6 2 p7 3) fun p9 =>
zlet (zset h6 4 p9 3 (wrl ((zhD h6 4 p8 3) + 1))) fun h10 =>
zob h10 8 a2 fun _ =>
F_In_isOneOf a2 3 h10  fun v11 h12 =>
if v11 = 0 then c58 v1 h12
else zob h12 2 a0 fun p13 =>
zob h12 4 (zhD h12 2 p13 3) fun p14 =>
zob h12 4 (zhD h12 2 p13 3) fun p15 =>
zlet (zset h12 4 p15 5 (wr ((zhD h12 4 p14 5) + (wr (v1 - 1))))) fun h16 =>
c58 v1 h16) = zseg zPP true (zcal (ρ := ρ) [(193, [none, none, none], zca3 F_Co_delayOf), (219, [none, none], zca2 F_In_isOneOf)]) (zget (999, 0, 0, 0) zc_Co_countedDelay) (zcut zu_Co_countedDelay) (zorc (ρ := ρ) [(58, [none, none, none, some (0, none)], [], zap1 c58)]) kr (fun _ _ => none) 400 0 [some (102, a0), some (103, a1), some (108, a2), none] [] h := by rfl
set_option maxRecDepth 100000 in
theorem qe_Co_countedDelay {ρ : Type} (kr : Int → zH → Option ρ) (a0 a1 a2 : Int) (h : zH) : Co_countedDelay a0 a1 a2 h kr = zseg zPP true (zcal (ρ := ρ) [(193, [none, none, none], zca3 Co_delayOf), (219, [none, none], zca2 In_isOneOf)]) (zget (999, 0, 0, 0) zc_Co_countedDelay) (zcut zu_Co_countedDelay) (zorc (ρ := ρ) [(58, [none, none, none, some (0, none)], [], zap1 (Co_countedDelay_58 kr))]) kr (fun _ _ => none) 400 0 [some (102, a0), some (103, a1), some (108, a2), none] [] h := qg_Co_countedDelay kr Co_delayOf In_isOneOf (Co_countedDelay_58 kr) a0 a1 a2 h
def zc_Un_dropLaunch : List zI := [(0, 0, 0, 0), (16, 0, 2, 0), (0, 0, 0, 0), (16, 0, 3, 0), (10, 0, 3, 0), (14, 0, 0, 103), (80, 3, 21, 2), (999, 0, 0, 0), (999, 0, 0, 0), (69, 40, 49, 0), (999, 0, 0, 0), (999, 0, 0, 0), (14, 0, 0, 103), (80, 3, 11, 0), (999, 0, 0, 0), (999, 0, 0, 0), (10, 0, 3, 0), (94, 0, 0, 26), (80, 11, 48, 0), (999, 0, 0, 0), (999, 0, 0, 0), (80, 10, 61, 0), (999, 0, 0, 0), (999, 0, 0, 0), (14, 0, 1, 109), (75, 18, 43, 0), (999, 0, 0, 0), (999, 0, 0, 0), (14, 0, 0, 103), (80, 3, 11, 0), (999, 0, 0, 0), (999, 0, 0, 0), (10, 0, 2, 0), (14, 0, 0, 103), (80, 3, 11, 0), (999, 0, 0, 0), (999, 0, 0, 0), (10, 0, 3, 0), (94, 0, 0, 26), (99, 0, 0, 26), (22, 1, 2, 0), (999, 0, 0, 0), (999, 0, 0, 0), (22, 1, 3, 0), (999, 0, 0, 0), (999, 0, 0, 0), (72, (-42), 4, 0), (999, 0, 0, 0), (999, 0, 0, 0), (14, 0, 0, 103), (10, 0, 2, 0), (110, 0, 74, 284), (999, 0, 0, 0), (999, 0, 0, 0), (133, 0, 0, 0)]
def zu_Un_dropLaunch : List (Nat × List Bool) := [(4, [true, true, true, true]), (43, [true, true, true, true])]
set_option maxRecDepth 100000 in
theorem qg_Un_dropLaunch_43 {ρ : Type} (kr : Int → zH → Option ρ) (r4 : Int → Int → Int → Int → zH → Option ρ) (a0 a1 a2 a3 : Int) (h : zH) : (r4 a0 a1 a2 (wr (a3 + 1)) h) = zseg zPP true (zcal (ρ := ρ) []) (zget (999, 0, 0, 0) zc_Un_dropLaunch) (zcut zu_Un_dropLaunch) (zorc (ρ := ρ) [(4, [some (103, none), some (109, none), some (0, none), some (0, none)], [], zap4 r4)]) kr (fun _ _ => none) 400 43 [some (103, a0), some (109, a1), some (0, a2), some (0, a3)] [] h := by rfl
set_option maxRecDepth 100000 in
theorem qe_Un_dropLaunch_43 {ρ : Type} (kr : Int → zH → Option ρ) (r4 : Int → Int → Int → Int → zH → Option ρ) (a0 a1 a2 a3 : Int) (h : zH) : Un_dropLaunch_43 kr r4 a0 a1 a2 a3 h = zseg zPP true (zcal (ρ := ρ) []) (zget (999, 0, 0, 0) zc_Un_dropLaunch) (zcut zu_Un_dropLaunch) (zorc (ρ := ρ) [(4, [some (103, none), some (109, none), some (0, none), some (0, none)], [], zap4 r4)]) kr (fun _ _ => none) 400 43 [some (103, a0), some (109, a1), some (0, a2), some (0, a3)] [] h := qg_Un_dropLaunch_43 kr r4 a0 a1 a2 a3 h
set_option maxRecDepth 100000 in
theorem qg_Un_dropLaunch_4b {ρ : Type} (kr : Int → zH → Option ρ) (r4 : Int → Int → Int → Int → zH → Option ρ) (F_Un_cutTo : Int → Int → zH → (Int → zH → Option ρ) → Option ρ) (c43 : Int → Int → Int → Int → zH → Option ρ) (a0 a1 a2 a3 : Int) (h : zH) : (zob h 3 a0 fun p1 =>
if a3 < (zhD h 3 p1 2) then (zob h 3 a0 fun p4 =>
zob h 26 (zhD h 3 p4 0) fun p5 =>
zix (zhL h 26 p5) a3 fun j6 =>
zob h 11 (zhD h 26 p5 j6) fun p7 =>
zob h 10 (zhD h 11 p7 0) fun p8 =>
if (zhD h 10 p8 0) = a1 then c43 a0 a1 a2 a3 h
else zob h 3 a0 fun p9 =>
zob h 3 a0 fun p10 =>
zob h 26 (zhD h 3 p10 0) fun p11 =>
zix (zhL h 26 p11) a3 fun j12 =>
zob h 26 (zhD h 3 p9 0) fun p13 =>
zix (zhL h 26 p13) a2 fun j14 =>
zorn h 11 (zhD h 26 p11 j12) (zlet (zset h 26 p13 j14 (zhD h 26 p11 j12)) fun h15 =>
c43 a0 a1 (wr (a2 + 1)) a3 h15))
else zob h 3 a0 fun _ =>
F_Un_cutTo a0 a2 h  fun _ h3 =>
kr 0 h3) = zseg zPP true (zcal (ρ := ρ) [(284, [none, none], zca2 F_Un_cutTo)]) (zget (999, 0, 0, 0) zc_Un_dropLaunch) (zcut zu_Un_dropLaunch) (zorc (ρ := ρ) [(43, [some (103, none), some (109, none), some (0, none), some (0, none)], [], zap4 c43)]) kr (fun _ _ => none) 400 4 [some (103, a0), some (109, a1), some (0, a2), some (0, a3)] [] h := by rfl
set_option maxRecDepth 100000 in
theorem qe_Un_dropLaunch_4b {ρ : Type} (kr : Int → zH → Option ρ) (r4 : Int → Int → Int → Int → zH → Option ρ) (a0 a1 a2 a3 : Int) (h : zH) : Un_dropLaunch_4b kr r4 a0 a1 a2 a3 h = zseg zPP true (zcal (ρ := ρ) [(284, [none, none], zca2 Un_cutTo)]) (zget (999, 0, 0, 0) zc_Un_dropLaunch) (zcut zu_Un_dropLaunch) (zorc (ρ := ρ) [(43, [some (103, none), some (109, none), some (0, none), some (0, none)], [], zap4 (Un_dropLaunch_43 kr r4))]) kr (fun _ _ => none) 400 4 [some (103, a0), some (109, a1), some (0, a2), some (0, a3)] [] h := qg_Un_dropLaunch_4b kr r4 Un_cutTo (Un_dropLaunch_43 kr r4) a0 a1 a2 a3 h
set_option maxRecDepth 100000 in
theorem qg_Un_dropLaunch {ρ : Type} (kr : Int → zH → Option ρ) (c4 : Int → Int → Int → Int → zH → Option ρ) (a0 a1 : Int) (h : zH) : (c4 a0 a1 0 0 h) = zseg zPP true (zcal (ρ := ρ) []) (zget (999, 0, 0, 0) zc_Un_dropLaunch) (zcut zu_Un_dropLaunch) (zorc (ρ := ρ) [(4, [some (103, none), some (109, none), some (0, none), some (0, none)], [], zap4 c4)]) kr (fun _ _ => none) 400 0 [some (103, a0), some (109, a1), none, none] [] h := by rfl
set_option maxRecDepth 100000 in
theorem qe_Un_dropLaunch {ρ : Type} (kr : Int → zH → Option ρ) (a0 a1 : Int) (h : zH) : Un_dropLaunch a0 a1 h kr = zseg zPP true (zcal (ρ := ρ) []) (zget (999, 0, 0, 0) zc_Un_dropLaunch) (zcut zu_Un_dropLaunch) (zorc (ρ := ρ) [(4, [some (103, none), some (109, none), some (0, none), some (0, none)], [], zap4 (Un_dropLaunch_4 kr))]) kr (fun _ _ => none) 400 0 [some (103, a0), some (109, a1), none, none] [] h := qg_Un_dropLaunch kr (Un_dropLaunch_4 kr) a0 a1 h
def zc_Co_fail : List zI := [(14, 0, 1, 110), (80, 10, 144, 0), (999, 0, 0, 0), (999, 0, 0, 0), (21, 0, 5, 109), (999, 0, 0, 0), (15, 0, 5, 109), (999, 0, 0, 0), (1, 102, 0, 0), (999, 0, 0, 0), (82, 9, 381, 10), (999, 0, 0, 0), (999, 0, 0, 0), (15, 0, 5, 109), (999, 0, 0, 0), (11, 0, 4, 0), (999, 0, 0, 0), (82, 9, 384, 11), (999, 0, 0, 0), (999, 0, 0, 0), (15, 0, 5, 109), (999, 0, 0, 0), (2, 10000, 0, 0), (999, 0, 0, 0), (999, 0, 0, 0), (14, 0, 1, 110), (80, 10, 387, 1), (999, 0, 0, 0), (999, 0, 0, 0), (32, 0, 0, 0), (1, 100, 0, 0), (999, 0, 0, 0), (10, 0, 2, 0), (32, 0, 0, 0), (30, 0, 0, 0), (10, 0, 3, 0), (30, 0, 0, 0), (82, 9, 388, 12), (999, 0, 0, 0), (999, 0, 0, 0), (0, 0, 0, 0), (17, 0, 6, 0), (999, 0, 0, 0), (11, 0, 6, 0), (999, 0, 0, 0), (0, 2, 0, 0), (69, 21, 67, 0), (999, 0, 0, 0), (999, 0, 0, 0), (14, 0, 0, 102), (80, 2, 18, 2), (999, 0, 0, 0), (999, 0, 0, 0), (11, 0, 6, 0), (999, 0, 0, 0), (94, 0, 0, 23), (15, 0, 5, 109), (999, 0, 0, 0), (110, 0, 391, 283), (999, 0, 0, 0), (999, 0, 0, 0), (22, 1, 6, 0), (999, 0, 0, 0), (999, 0, 0, 0), (72, (-21), 43, 0), (999, 0, 0, 0), (999, 0, 0, 0), (14, 0, 0, 102), (80, 2, 39, 0), (999, 0, 0, 0), (999, 0, 0, 0), (15, 0, 5, 109), (999, 0, 0, 0), (80, 9, 394, 4), (999, 0, 0, 0), (999, 0, 0, 0), (110, 0, 377, 251), (999, 0, 0, 0), (999, 0, 0, 0), (133, 0, 0, 0)]
def zu_Co_fail : List (Nat × List Bool) := [(43, [true, false, false, false, false, true, true])]
set_option maxRecDepth 100000 in
theorem qg_Co_fail_43b {ρ : Type} (kr : Int → zH → Option ρ) (r43 : Int → Int → Int → zH → Option ρ) (F_Le_endIfDone : Int → Int → zH → (Int → zH → Option ρ) → Option ρ) (F_Un_dropLaunch : Int → Int → zH → (Int → zH → Option ρ) → Option ρ) (a0 a5 a6 : Int) (h : zH) : (if a6 < 2 then (zob h 2 a0 fun p5 =>
zob h 23 (zhD h 2 p5 2) fun p6 =>
zix (zhL h 23 p6) a6 fun j7 =>
zob h 3 (zhD h 23 p6 j7) fun _ =>
F_Un_dropLaunch (zhD h 23 p6 j7) a5 h  fun _ h9 =>
r43 a0 a5 (wr (a6 + 1)) h9)
else zob h 2 a0 fun p1 =>
zob h 9 a5 fun p2 =>
zob h 1 (zhD h 2 p1 0) fun _ =>
F_Le_endIfDone (zhD h 2 p1 0) (zhD h 9 p2 4) h  fun _ h4 =>
kr 0 h4) = zseg zPP true (zcal (ρ := ρ) [(251, [none, none], zca2 F_Le_endIfDone), (283, [none, none], zca2 F_Un_dropLaunch)]) (zget (999, 0, 0, 0) zc_Co_fail) (zcut zu_Co_fail) (zorc (ρ := ρ) [(43, [some (102, none), none, none, none, none, some (109, none), some (0, none)], [], zap3 r43)]) kr (fun _ _ => none) 400 43 [some (102, a0), none, none, none, none, some (109, a5), some (0, a6)] [] h := by rfl
set_option maxRecDepth 100000 in
theorem qe_Co_fail_43b {ρ : Type} (kr : Int → zH → Option ρ) (r43 : Int → Int → Int → zH → Option ρ) (a0 a5 a6 : Int) (h : zH) : Co_fail_43b kr r43 a0 a5 a6 h = zseg zPP true (zcal (ρ := ρ) [(251, [none, none], zca2 Le_endIfDone), (283, [none, none], zca2 Un_dropLaunch)]) (zget (999, 0, 0, 0) zc_Co_fail) (zcut zu_Co_fail) (zorc (ρ := ρ) [(43, [some (102, none), none, none, none, none, some (109, none), some (0, none)], [], zap3 r43)]) kr (fun _ _ => none) 400 43 [some (102, a0), none, none, none, none, some (109, a5), some (0, a6)] [] h := qg_Co_fail_43b kr r43 Le_endIfDone Un_dropLaunch a0 a5 a6 h
set_option maxRecDepth 100000 in
theorem qg_Co_fail {ρ : Type} (kr : Int → zH → Option ρ) (c43 : Int → Int → Int → zH → Option ρ) (a0 a1 a2 a3 a4 : Int) (h : zH) : (zob h 10 a1 fun p1 =>
zob h 9 (zhD h 10 p1 0) fun p2 =>
zlet (zset h 9 p2 10 102) fun h3 =>
zob h3 9 (zhD h 10 p1 0) fun p4 =>
znar 2 a4 fun x5 =>
zlet (zset h3 9 p4 11 x5) fun h6 =>
zob h6 10 a1 fun p7 =>
zob h6 9 (zhD h 10 p1 0) fun p8 =>
zlet (zset h6 9 p8 12 (wr ((wr ((wr (10000 * (zhD h6 10 p7 1))) + (wr (100 * a2)))) + a3))) fun h9 =>
c43 a0 (zhD h 10 p1 0) 0 h9) = zseg zPP true (zcal (ρ := ρ) []) (zget (999, 0, 0, 0) zc_Co_fail) (zcut zu_Co_fail) (zorc (ρ := ρ) [(43, [some (102, none), none, none, none, none, some (109, none), some (0, none)], [], zap3 c43)]) kr (fun _ _ => none) 400 0 [some (102, a0), some (110, a1), some (0, a2), some (0, a3), some (0, a4), none, none] [] h := by rfl
set_option maxRecDepth 100000 in
theorem qe_Co_fail {ρ : Type} (kr : Int → zH → Option ρ) (a0 a1 a2 a3 a4 : Int) (h : zH) : Co_fail a0 a1 a2 a3 a4 h kr = zseg zPP true (zcal (ρ := ρ) []) (zget (999, 0, 0, 0) zc_Co_fail) (zcut zu_Co_fail) (zorc (ρ := ρ) [(43, [some (102, none), none, none, none, none, some (109, none), some (0, none)], [], zap3 (Co_fail_43 kr))]) kr (fun _ _ => none) 400 0 [some (102, a0), some (110, a1), some (0, a2), some (0, a3), some (0, a4), none, none] [] h := qg_Co_fail kr (Co_fail_43 kr) a0 a1 a2 a3 a4 h
def zc_Gr_placeIn : List zI := [(14, 0, 0, 111), (10, 0, 1, 0), (110, 0, 35, 203), (999, 0, 0, 0), (999, 0, 0, 0), (20, 0, 2, 106), (14, 0, 2, 106), (73, 17, 24, 0), (999, 0, 0, 0), (999, 0, 0, 0), (14, 0, 2, 106), (110, 0, 39, 255), (999, 0, 0, 0), (999, 0, 0, 0), (60, 10, 24, 0), (999, 0, 0, 0), (999, 0, 0, 0), (14, 0, 2, 106), (80, 6, 43, 3), (999, 0, 0, 0), (999, 0, 0, 0), (72, 4, 25, 0), (999, 0, 0, 0), (999, 0, 0, 0), (0, (-1), 0, 0), (130, 0, 0, 0)]
def zu_Gr_placeIn : List (Nat × List Bool) := [(24, [false, false, false]), (25, [false, false, false])]
set_option maxRecDepth 100000 in
theorem qg_Gr_placeIn_25 {ρ : Type} (kr : Int → zH → Option ρ) (t0 : Int) (h : zH) : (kr t0 h) = zseg zPP true (zcal (ρ := ρ) []) (zget (999, 0, 0, 0) zc_Gr_placeIn) (zcut zu_Gr_placeIn) (zorc (ρ := ρ) []) kr (fun _ _ => none) 400 25 [none, none, none] [(0, t0)] h := by rfl
set_option maxRecDepth 100000 in
theorem qe_Gr_placeIn_25 {ρ : Type} (kr : Int → zH → Option ρ) (t0 : Int) (h : zH) : Gr_placeIn_25 kr t0 h = zseg zPP true (zcal (ρ := ρ) []) (zget (999, 0, 0, 0) zc_Gr_placeIn) (zcut zu_Gr_placeIn) (zorc (ρ := ρ) []) kr (fun _ _ => none) 400 25 [none, none, none] [(0, t0)] h := qg_Gr_placeIn_25 kr t0 h
set_option maxRecDepth 100000 in
theorem qg_Gr_placeIn_24 {ρ : Type} (kr : Int → zH → Option ρ) (c25 : Int → zH → Option ρ) (h : zH) : (c25 (-1) h) = zseg zPP true (zcal (ρ := ρ) []) (zget (999, 0, 0, 0) zc_Gr_placeIn) (zcut zu_Gr_placeIn) (zorc (ρ := ρ) [(25, [none, none, none], [(0, none)], zap1 c25)]) kr (fun _ _ => none) 400 24 [none, none, none] [] h := by rfl
set_option maxRecDepth 100000 in
theorem qe_Gr_placeIn_24 {ρ : Type} (kr : Int → zH → Option ρ) (h : zH) : Gr_placeIn_24 kr h = zseg zPP true (zcal (ρ := ρ) []) (zget (999, 0, 0, 0) zc_Gr_placeIn) (zcut zu_Gr_placeIn) (zorc (ρ := ρ) [(25, [none, none, none], [(0, none)], zap1 (Gr_placeIn_25 kr))]) kr (fun _ _ => none) 400 24 [none, none, none] [] h := qg_Gr_placeIn_24 kr (Gr_placeIn_25 kr) h
set_option maxRecDepth 100000 in
theorem qg_Gr_placeIn {ρ : Type} (kr : Int → zH → Option ρ) (F_Gr_threadIn : Int → Int → zH → (Int → zH → Option ρ) → Option ρ) (F_Th_isRunning : Int → zH → (Int → zH → Option ρ) → Option ρ) (c24 : zH → Option ρ) (c25 : Int → zH → Option ρ) (a0 a1 : Int) (h : zH) : (zob h 11 a0 fun _ =>
F_Gr_threadIn a0 a1 h  fun v1 h2 =>
if v1 < 0 then c24 h2
else zob h2 6 v1 fun _ =>
F_Th_isRunning v1 h2  fun v3 h4 =>
if v3 = 0 then c24 h4
else zob h4 6 v1 fun p5 =>
c25 (zhD h4 6 p5 3) h4) = zseg zPP true (zcal (ρ := ρ) [(203, [none, none], zca2 F_Gr_threadIn), (255, [none], zca1 F_Th_isRunning)]) (zget (999, 0, 0, 0) zc_Gr_placeIn) (zcut zu_Gr_placeIn) (zorc (ρ := ρ) [(24, [none, none, none], [], zap0 c24), (25, [none, none, none], [(0, none)], zap1 c25)]) kr (fun _ _ => none) 400 0 [some (111, a0), some (0, a1), none] [] h := by rfl
set_option maxRecDepth 100000 in
theorem qe_Gr_placeIn {ρ : Type} (kr : Int → zH → Option ρ) (a0 a1 : Int) (h : zH) : Gr_placeIn a0 a1 h kr = zseg zPP true (zcal (ρ := ρ) [(203, [none, none], zca2 Gr_threadIn), (255, [none], zca1 Th_isRunning)]) (zget (999, 0, 0, 0) zc_Gr_placeIn) (zcut zu_Gr_placeIn) (zorc (ρ := ρ) [(24, [none, none, none], [], zap0 (Gr_placeIn_24 kr)), (25, [none, none, none], [(0, none)], zap1 (Gr_placeIn_25 kr))]) kr (fun _ _ => none) 400 0 [some (111, a0), some (0, a1), none] [] h := qg_Gr_placeIn kr Gr_threadIn Th_isRunning (Gr_placeIn_24 kr) (Gr_placeIn_25 kr) a0 a1 h
