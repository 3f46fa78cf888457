def zc_X_given : List zI := [(14, 0, 0, 100), (10, 0, 1, 0), (110, 0, 123, 48), (999, 0, 0, 0), (999, 0, 0, 0), (80, 9, 138, 8), (999, 0, 0, 0), (999, 0, 0, 0), (130, 0, 0, 0)]
def zu_X_given : List (Nat × List Bool) := []
set_option maxRecDepth 100000 in
theorem qg_X_given {ρ : Type} (kr : Int → zH → Option ρ) (kt : Nat → zH → Option ρ) (F_X_launchAt : Int → Int → zH → (Nat → zH → Option ρ) → (Int → zH → Option ρ) → Option ρ) (a0 a1 : Int) (h : zH) : (zob h 0 a0 fun _ =>
F_X_launchAt a0 a1 h kt fun v1 h2 =>
zob h2 9 v1 fun p3 =>
kr (zhD h2 9 p3 8) h2) = zseg zPP true (zcal (ρ := ρ) [(48, [none, none], zcx2 F_X_launchAt)]) (zget (999, 0, 0, 0) zc_X_given) (zcut zu_X_given) (zorc (ρ := ρ) []) kr kt 400 0 [some (100, a0), some (0, a1)] [] h := by rfl
set_option maxRecDepth 100000 in
theorem qe_X_given {ρ : Type} (kr : Int → zH → Option ρ) (kt : Nat → zH → Option ρ) (a0 a1 : Int) (h : zH) : X_given a0 a1 h kt kr = zseg zPP true (zcal (ρ := ρ) [(48, [none, none], zcx2 X_launchAt)]) (zget (999, 0, 0, 0) zc_X_given) (zcut zu_X_given) (zorc (ρ := ρ) []) kr kt 400 0 [some (100, a0), some (0, a1)] [] h := qg_X_given kr kt X_launchAt a0 a1 h
def zc_La_isCopyRunning : List zI := [(14, 0, 0, 109), (80, 9, 40, 5), (999, 0, 0, 0), (999, 0, 0, 0), (74, 16, 20, 0), (999, 0, 0, 0), (999, 0, 0, 0), (14, 0, 0, 109), (80, 9, 11, 10), (999, 0, 0, 0), (999, 0, 0, 0), (1, 114, 0, 0), (999, 0, 0, 0), (67, 7, 20, 0), (999, 0, 0, 0), (999, 0, 0, 0), (0, 1, 0, 0), (72, 4, 21, 0), (999, 0, 0, 0), (999, 0, 0, 0), (0, 0, 0, 0), (130, 0, 1, 0)]
def zu_La_isCopyRunning : List (Nat × List Bool) := [(20, [false]), (21, [false])]
set_option maxRecDepth 100000 in
theorem qg_La_isCopyRunning_21 {ρ : Type} (kr : Int → zH → Option ρ) (t0 : Int) (h : zH) : (znar 1 t0 fun x1 => kr x1 h) = zseg zPP true (zcal (ρ := ρ) []) (zget (999, 0, 0, 0) zc_La_isCopyRunning) (zcut zu_La_isCopyRunning) (zorc (ρ := ρ) []) kr (fun _ _ => none) 400 21 [none] [(0, t0)] h := by rfl
set_option maxRecDepth 100000 in
theorem qe_La_isCopyRunning_21 {ρ : Type} (kr : Int → zH → Option ρ) (t0 : Int) (h : zH) : La_isCopyRunning_21 kr t0 h = zseg zPP true (zcal (ρ := ρ) []) (zget (999, 0, 0, 0) zc_La_isCopyRunning) (zcut zu_La_isCopyRunning) (zorc (ρ := ρ) []) kr (fun _ _ => none) 400 21 [none] [(0, t0)] h := qg_La_isCopyRunning_21 kr t0 h
set_option maxRecDepth 100000 in
theorem qg_La_isCopyRunning_20 {ρ : Type} (kr : Int → zH → Option ρ) (c21 : Int → zH → Option ρ) (h : zH) : (c21 0 h) = zseg zPP true (zcal (ρ := ρ) []) (zget (999, 0, 0, 0) zc_La_isCopyRunning) (zcut zu_La_isCopyRunning) (zorc (ρ := ρ) [(21, [none], [(0, none)], zap1 c21)]) kr (fun _ _ => none) 400 20 [none] [] h := by rfl
set_option maxRecDepth 100000 in
theorem qe_La_isCopyRunning_20 {ρ : Type} (kr : Int → zH → Option ρ) (h : zH) : La_isCopyRunning_20 kr h = zseg zPP true (zcal (ρ := ρ) []) (zget (999, 0, 0, 0) zc_La_isCopyRunning) (zcut zu_La_isCopyRunning) (zorc (ρ := ρ) [(21, [none], [(0, none)], zap1 (La_isCopyRunning_21 kr))]) kr (fun _ _ => none) 400 20 [none] [] h := qg_La_isCopyRunning_20 kr (La_isCopyRunning_21 kr) h
set_option maxRecDepth 100000 in
theorem qg_La_isCopyRunning {ρ : Type} (kr : Int → zH → Option ρ) (c20 : zH → Option ρ) (c21 : Int → zH → Option ρ) (a0 : Int) (h : zH) : (zob h 9 a0 fun p1 =>
if (zhD h 9 p1 5) < 0 then (zob h 9 a0 fun p2 =>
if (zhD h 9 p2 10) = 114 then c21 1 h
else c20 h)
else c20 h) = zseg zPP true (zcal (ρ := ρ) []) (zget (999, 0, 0, 0) zc_La_isCopyRunning) (zcut zu_La_isCopyRunning) (zorc (ρ := ρ) [(20, [none], [], zap0 c20), (21, [none], [(0, none)], zap1 c21)]) kr (fun _ _ => none) 400 0 [some (109, a0)] [] h := by rfl
set_option maxRecDepth 100000 in
theorem qe_La_isCopyRunning {ρ : Type} (kr : Int → zH → Option ρ) (a0 : Int) (h : zH) : La_isCopyRunning a0 h kr = zseg zPP true (zcal (ρ := ρ) []) (zget (999, 0, 0, 0) zc_La_isCopyRunning) (zcut zu_La_isCopyRunning) (zorc (ρ := ρ) [(20, [none], [], zap0 (La_isCopyRunning_20 kr)), (21, [none], [(0, none)], zap1 (La_isCopyRunning_21 kr))]) kr (fun _ _ => none) 400 0 [some (109, a0)] [] h := qg_La_isCopyRunning kr (La_isCopyRunning_20 kr) (La_isCopyRunning_21 kr) a0 h
def zc_La_moveCell : List zI := [(14, 0, 0, 109), (80, 9, 62, 15), (999, 0, 0, 0), (999, 0, 0, 0), (65, 65, 69, 0), (999, 0, 0, 0), (999, 0, 0, 0), (14, 0, 0, 109), (80, 9, 56, 13), (999, 0, 0, 0), (999, 0, 0, 0), (114, 0, 68, 55), (999, 0, 0, 0), (999, 0, 0, 0), (60, 55, 69, 0), (999, 0, 0, 0), (999, 0, 0, 0), (14, 0, 0, 109), (80, 9, 59, 14), (999, 0, 0, 0), (999, 0, 0, 0), (114, 0, 68, 55), (999, 0, 0, 0), (999, 0, 0, 0), (60, 45, 69, 0), (999, 0, 0, 0), (999, 0, 0, 0), (14, 0, 1, 122), (14, 0, 0, 109), (80, 9, 59, 14), (999, 0, 0, 0), (999, 0, 0, 0), (14, 0, 1, 122), (14, 0, 0, 109), (80, 9, 56, 13), (999, 0, 0, 0), (999, 0, 0, 0), (90, 0, 0, 22), (95, 0, 0, 22), (14, 0, 0, 109), (50, 0, 0, 0), (80, 9, 56, 13), (999, 0, 0, 0), (999, 0, 0, 0), (0, 1, 0, 0), (30, 0, 0, 0), (82, 9, 56, 13), (999, 0, 0, 0), (999, 0, 0, 0), (14, 0, 0, 109), (50, 0, 0, 0), (80, 9, 59, 14), (999, 0, 0, 0), (999, 0, 0, 0), (0, 1, 0, 0), (30, 0, 0, 0), (82, 9, 59, 14), (999, 0, 0, 0), (999, 0, 0, 0), (14, 0, 0, 109), (50, 0, 0, 0), (80, 9, 62, 15), (999, 0, 0, 0), (999, 0, 0, 0), (0, 1, 0, 0), (31, 0, 0, 0), (82, 9, 62, 15), (999, 0, 0, 0), (999, 0, 0, 0), (14, 0, 0, 109), (80, 9, 62, 15), (999, 0, 0, 0), (999, 0, 0, 0), (61, 9, 82, 0), (999, 0, 0, 0), (999, 0, 0, 0), (14, 0, 0, 109), (1, 100, 0, 0), (999, 0, 0, 0), (82, 9, 11, 10), (999, 0, 0, 0), (999, 0, 0, 0), (133, 0, 0, 0)]
def zu_La_moveCell : List (Nat × List Bool) := [(69, [true, false]), (82, [false, false])]
set_option maxRecDepth 100000 in
theorem qg_La_moveCell_82 {ρ : Type} (kr : Int → zH → Option ρ) (h : zH) : (kr 0 h) = zseg zPP true (zcal (ρ := ρ) []) (zget (999, 0, 0, 0) zc_La_moveCell) (zcut zu_La_moveCell) (zorc (ρ := ρ) []) kr (fun _ _ => none) 400 82 [none, none] [] h := by rfl
set_option maxRecDepth 100000 in
theorem qe_La_moveCell_82 {ρ : Type} (kr : Int → zH → Option ρ) (h : zH) : La_moveCell_82 kr h = zseg zPP true (zcal (ρ := ρ) []) (zget (999, 0, 0, 0) zc_La_moveCell) (zcut zu_La_moveCell) (zorc (ρ := ρ) []) kr (fun _ _ => none) 400 82 [none, none] [] h := qg_La_moveCell_82 kr h
set_option maxRecDepth 100000 in
theorem qg_La_moveCell_69 {ρ : Type} (kr : Int → zH → Option ρ) (c82 : zH → Option ρ) (a0 : Int) (h : zH) : (zob h 9 a0 fun p1 =>
if (zhD h 9 p1 15) = 0 then (zob h 9 a0 fun p2 =>
zlet (zset h 9 p2 10 100) fun h3 =>
c82 h3)
else c82 h) = zseg zPP true (zcal (ρ := ρ) []) (zget (999, 0, 0, 0) zc_La_moveCell) (zcut zu_La_moveCell) (zorc (ρ := ρ) [(82, [none, none], [], zap0 c82)]) kr (fun _ _ => none) 400 69 [some (109, a0), none] [] h := by rfl
set_option maxRecDepth 100000 in
theorem qe_La_moveCell_69 {ρ : Type} (kr : Int → zH → Option ρ) (a0 : Int) (h : zH) : La_moveCell_69 kr a0 h = zseg zPP true (zcal (ρ := ρ) []) (zget (999, 0, 0, 0) zc_La_moveCell) (zcut zu_La_moveCell) (zorc (ρ := ρ) [(82, [none, none], [], zap0 (La_moveCell_82 kr))]) kr (fun _ _ => none) 400 69 [some (109, a0), none] [] h := qg_La_moveCell_69 kr (La_moveCell_82 kr) a0 h
set_option maxRecDepth 100000 in
theorem qg_La_moveCell {ρ : Type} (kr : Int → zH → Option ρ) (F_X_isCell : Int → zH → (Int → zH → Option ρ) → Option ρ) (c69 : Int → zH → Option ρ) (a0 a1 : Int) (h : zH) : (zob h 9 a0 fun p1 =>
if 0 < (zhD h 9 p1 15) then (zob h 9 a0 fun p2 =>
F_X_isCell (zhD h 9 p2 13) h  fun v3 h4 =>
if v3 = 0 then c69 a0 h4
else zob h4 9 a0 fun p5 =>
F_X_isCell (zhD h4 9 p5 14) h4  fun v6 h7 =>
if v6 = 0 then c69 a0 h7
else zob h7 9 a0 fun p8 =>
zob h7 9 a0 fun p9 =>
zob h7 22 a1 fun p10 =>
zix (zhL h7 22 p10) (zhD h7 9 p9 13) fun j11 =>
zob h7 22 a1 fun p12 =>
zix (zhL h7 22 p12) (zhD h7 9 p8 14) fun j13 =>
zlet (zset h7 22 p12 j13 (zhD h7 22 p10 j11)) fun h14 =>
zob h14 9 a0 fun p15 =>
zob h14 9 a0 fun p16 =>
zlet (zset h14 9 p16 13 (wr ((zhD h14 9 p15 13) + 1))) fun h17 =>
zob h17 9 a0 fun p18 =>
zob h17 9 a0 fun p19 =>
zlet (zset h17 9 p19 14 (wr ((zhD h17 9 p18 14) + 1))) fun h20 =>
zob h20 9 a0 fun p21 =>
zob h20 9 a0 fun p22 =>
zlet (zset h20 9 p22 15 (wr ((zhD h20 9 p21 15) - 1))) fun h23 =>
c69 a0 h23)
else c69 a0 h) = zseg zPP true (zcal (ρ := ρ) [(55, [none], zca1 F_X_isCell)]) (zget (999, 0, 0, 0) zc_La_moveCell) (zcut zu_La_moveCell) (zorc (ρ := ρ) [(69, [some (109, none), none], [], zap1 c69)]) kr (fun _ _ => none) 400 0 [some (109, a0), some (122, a1)] [] h := by rfl
set_option maxRecDepth 100000 in
theorem qe_La_moveCell {ρ : Type} (kr : Int → zH → Option ρ) (a0 a1 : Int) (h : zH) : La_moveCell a0 a1 h kr = zseg zPP true (zcal (ρ := ρ) [(55, [none], zca1 X_isCell)]) (zget (999, 0, 0, 0) zc_La_moveCell) (zcut zu_La_moveCell) (zorc (ρ := ρ) [(69, [some (109, none), none], [], zap1 (La_moveCell_69 kr))]) kr (fun _ _ => none) 400 0 [some (109, a0), some (122, a1)] [] h := qg_La_moveCell kr X_isCell (La_moveCell_69 kr) a0 a1 h
def zc_Co_moveCopies : List zI := [(0, 0, 0, 0), (16, 0, 1, 0), (10, 0, 1, 0), (14, 0, 0, 102), (80, 2, 39, 0), (999, 0, 0, 0), (999, 0, 0, 0), (80, 1, 79, 3), (999, 0, 0, 0), (999, 0, 0, 0), (69, 37, 47, 0), (999, 0, 0, 0), (999, 0, 0, 0), (14, 0, 0, 102), (80, 2, 39, 0), (999, 0, 0, 0), (999, 0, 0, 0), (10, 0, 1, 0), (110, 0, 82, 241), (999, 0, 0, 0), (999, 0, 0, 0), (20, 0, 2, 109), (14, 0, 2, 109), (73, 18, 41, 0), (999, 0, 0, 0), (999, 0, 0, 0), (14, 0, 2, 109), (110, 0, 86, 234), (999, 0, 0, 0), (999, 0, 0, 0), (60, 11, 41, 0), (999, 0, 0, 0), (999, 0, 0, 0), (14, 0, 2, 109), (14, 0, 0, 102), (80, 2, 9, 1), (999, 0, 0, 0), (999, 0, 0, 0), (110, 0, 92, 237), (999, 0, 0, 0), (999, 0, 0, 0), (22, 1, 1, 0), (999, 0, 0, 0), (999, 0, 0, 0), (72, (-42), 2, 0), (999, 0, 0, 0), (999, 0, 0, 0), (133, 0, 0, 0)]
def zu_Co_moveCopies : List (Nat × List Bool) := [(2, [true, true, false]), (41, [true, true, false])]
set_option maxRecDepth 100000 in
theorem qg_Co_moveCopies_41 {ρ : Type} (kr : Int → zH → Option ρ) (r2 : Int → Int → zH → Option ρ) (a0 a1 : Int) (h : zH) : (r2 a0 (wr (a1 + 1)) h) = zseg zPP true (zcal (ρ := ρ) []) (zget (999, 0, 0, 0) zc_Co_moveCopies) (zcut zu_Co_moveCopies) (zorc (ρ := ρ) [(2, [some (102, none), some (0, none), none], [], zap2 r2)]) kr (fun _ _ => none) 400 41 [some (102, a0), some (0, a1), none] [] h := by rfl
set_option maxRecDepth 100000 in
theorem qe_Co_moveCopies_41 {ρ : Type} (kr : Int → zH → Option ρ) (r2 : Int → Int → zH → Option ρ) (a0 a1 : Int) (h : zH) : Co_moveCopies_41 kr r2 a0 a1 h = zseg zPP true (zcal (ρ := ρ) []) (zget (999, 0, 0, 0) zc_Co_moveCopies) (zcut zu_Co_moveCopies) (zorc (ρ := ρ) [(2, [some (102, none), some (0, none), none], [], zap2 r2)]) kr (fun _ _ => none) 400 41 [some (102, a0), some (0, a1), none] [] h := qg_Co_moveCopies_41 kr r2 a0 a1 h
set_option maxRecDepth 100000 in
theorem qg_Co_moveCopies_2b {ρ : Type} (kr : Int → zH → Option ρ) (r2 : Int → Int → zH → Option ρ) (F_La_isCopyRunning : Int → zH → (Int → zH → Option ρ) → Option ρ) (F_La_moveCell : Int → Int → zH → (Int → zH → Option ρ) → Option ρ) (F_Le_launchOf : Int → Int → zH → (Int → zH → Option ρ) → Option ρ) (c41 : Int → Int → zH → Option ρ) (a0 a1 : Int) (h : zH) : (zob h 2 a0 fun p1 =>
zob h 1 (zhD h 2 p1 0) fun p2 =>
if a1 < (zhD h 1 p2 3) then (zob h 2 a0 fun p3 =>
zob h 1 (zhD h 2 p3 0) fun _ =>
F_Le_launchOf (zhD h 2 p3 0) a1 h  fun v4 h5 =>
if v4 < 0 then c41 a0 a1 h5
else zob h5 9 v4 fun _ =>
F_La_isCopyRunning v4 h5  fun v6 h7 =>
if v6 = 0 then c41 a0 a1 h7
else zob h7 2 a0 fun p8 =>
zob h7 9 v4 fun _ =>
F_La_moveCell v4 (zhD h7 2 p8 1) h7  fun _ h10 =>
c41 a0 a1 h10)
else kr 0 h) = zseg zPP true (zcal (ρ := ρ) [(234, [none], zca1 F_La_isCopyRunning), (237, [none, none], zca2 F_La_moveCell), (241, [none, none], zca2 F_Le_launchOf)]) (zget (999, 0, 0, 0) zc_Co_moveCopies) (zcut zu_Co_moveCopies) (zorc (ρ := ρ) [(41, [some (102, none), some (0, none), none], [], zap2 c41)]) kr (fun _ _ => none) 400 2 [some (102, a0), some (0, a1), none] [] h := by rfl
set_option maxRecDepth 100000 in
theorem qe_Co_moveCopies_2b {ρ : Type} (kr : Int → zH → Option ρ) (r2 : Int → Int → zH → Option ρ) (a0 a1 : Int) (h : zH) : Co_moveCopies_2b kr r2 a0 a1 h = zseg zPP true (zcal (ρ := ρ) [(234, [none], zca1 La_isCopyRunning), (237, [none, none], zca2 La_moveCell), (241, [none, none], zca2 Le_launchOf)]) (zget (999, 0, 0, 0) zc_Co_moveCopies) (zcut zu_Co_moveCopies) (zorc (ρ := ρ) [(41, [some (102, none), some (0, none), none], [], zap2 (Co_moveCopies_41 kr r2))]) kr (fun _ _ => none) 400 2 [some (102, a0), some (0, a1), none] [] h := qg_Co_moveCopies_2b kr r2 La_isCopyRunning La_moveCell Le_launchOf (Co_moveCopies_41 kr r2) a0 a1 h
set_option maxRecDepth 100000 in
theorem qg_Co_moveCopies {ρ : Type} (kr : Int → zH → Option ρ) (c2 : Int → Int → zH → Option ρ) (a0 : Int) (h : zH) : (c2 a0 0 h) = zseg zPP true (zcal (ρ := ρ) []) (zget (999, 0, 0, 0) zc_Co_moveCopies) (zcut zu_Co_moveCopies) (zorc (ρ := ρ) [(2, [some (102, none), some (0, none), none], [], zap2 c2)]) kr (fun _ _ => none) 400 0 [some (102, a0), none, none] [] h := by rfl
set_option maxRecDepth 100000 in
theorem qe_Co_moveCopies {ρ : Type} (kr : Int → zH → Option ρ) (a0 : Int) (h : zH) : Co_moveCopies a0 h kr = zseg zPP true (zcal (ρ := ρ) []) (zget (999, 0, 0, 0) zc_Co_moveCopies) (zcut zu_Co_moveCopies) (zorc (ρ := ρ) [(2, [some (102, none), some (0, none), none], [], zap2 (Co_moveCopies_2 kr))]) kr (fun _ _ => none) 400 0 [some (102, a0), none, none] [] h := qg_Co_moveCopies kr (Co_moveCopies_2 kr) a0 h
def zc_Un_usedRegisters : List zI := [(0, 0, 0, 0), (16, 0, 1, 0), (0, 0, 0, 0), (16, 0, 2, 0), (10, 0, 2, 0), (14, 0, 0, 103), (80, 3, 21, 2), (999, 0, 0, 0), (999, 0, 0, 0), (69, 54, 63, 0), (999, 0, 0, 0), (999, 0, 0, 0), (14, 0, 0, 103), (80, 3, 11, 0), (999, 0, 0, 0), (999, 0, 0, 0), (10, 0, 2, 0), (94, 0, 0, 26), (80, 11, 48, 0), (999, 0, 0, 0), (999, 0, 0, 0), (20, 0, 3, 110), (10, 0, 1, 0), (14, 0, 0, 103), (80, 3, 11, 0), (999, 0, 0, 0), (999, 0, 0, 0), (10, 0, 2, 0), (94, 0, 0, 26), (80, 11, 52, 1), (999, 0, 0, 0), (999, 0, 0, 0), (61, 22, 54, 0), (999, 0, 0, 0), (999, 0, 0, 0), (14, 0, 3, 110), (80, 10, 55, 2), (999, 0, 0, 0), (999, 0, 0, 0), (100, 0, 0, 36), (14, 0, 3, 110), (80, 10, 61, 0), (999, 0, 0, 0), (999, 0, 0, 0), (80, 9, 65, 5), (999, 0, 0, 0), (999, 0, 0, 0), (80, 7, 37, 0), (999, 0, 0, 0), (999, 0, 0, 0), (32, 0, 0, 0), (72, 4, 55, 0), (999, 0, 0, 0), (999, 0, 0, 0), (0, 0, 0, 0), (30, 0, 0, 0), (16, 0, 1, 0), (22, 1, 2, 0), (999, 0, 0, 0), (999, 0, 0, 0), (72, (-56), 4, 0), (999, 0, 0, 0), (999, 0, 0, 0), (10, 0, 1, 0), (130, 0, 0, 0)]
def zu_Un_usedRegisters : List (Nat × List Bool) := [(4, [true, true, true, false]), (55, [true, false, true, false])]
set_option maxRecDepth 100000 in
theorem qg_Un_usedRegisters_55 {ρ : Type} (kr : Int → zH → Option ρ) (r4 : Int → Int → Int → zH → Option ρ) (a0 a2 t0 t1 : Int) (h : zH) : (r4 a0 (wr (t1 + t0)) (wr (a2 + 1)) h) = zseg zPP true (zcal (ρ := ρ) []) (zget (999, 0, 0, 0) zc_Un_usedRegisters) (zcut zu_Un_usedRegisters) (zorc (ρ := ρ) [(4, [some (103, none), some (0, none), some (0, none), none], [], zap3 r4)]) kr (fun _ _ => none) 400 55 [some (103, a0), none, some (0, a2), none] [(0, t0), (0, t1)] h := by rfl
set_option maxRecDepth 100000 in
theorem qe_Un_usedRegisters_55 {ρ : Type} (kr : Int → zH → Option ρ) (r4 : Int → Int → Int → zH → Option ρ) (a0 a2 t0 t1 : Int) (h : zH) : Un_usedRegisters_55 kr r4 a0 a2 t0 t1 h = zseg zPP true (zcal (ρ := ρ) []) (zget (999, 0, 0, 0) zc_Un_usedRegisters) (zcut zu_Un_usedRegisters) (zorc (ρ := ρ) [(4, [some (103, none), some (0, none), some (0, none), none], [], zap3 r4)]) kr (fun _ _ => none) 400 55 [some (103, a0), none, some (0, a2), none] [(0, t0), (0, t1)] h := qg_Un_usedRegisters_55 kr r4 a0 a2 t0 t1 h
set_option maxRecDepth 100000 in
theorem qg_Un_usedRegisters_4b {ρ : Type} (kr : Int → zH → Option ρ) (r4 : Int → Int → Int → zH → Option ρ) (c55 : Int → Int → Int → Int → zH → Option ρ) (a0 a1 a2 : Int) (h : zH) : (zob h 3 a0 fun p1 =>
if a2 < (zhD h 3 p1 2) then (zob h 3 a0 fun p2 =>
zob h 26 (zhD h 3 p2 0) fun p3 =>
zix (zhL h 26 p3) a2 fun j4 =>
zob h 11 (zhD h 26 p3 j4) fun p5 =>
zob h 3 a0 fun p6 =>
zob h 26 (zhD h 3 p6 0) fun p7 =>
zix (zhL h 26 p7) a2 fun j8 =>
zob h 11 (zhD h 26 p7 j8) fun p9 =>
if (zhD h 11 p9 1) = 0 then (zob h 10 (zhD h 11 p5 0) fun p10 =>
zob h 36 (zhD h 10 p10 2) fun p11 =>
zob h 10 (zhD h 11 p5 0) fun p12 =>
zob h 9 (zhD h 10 p12 0) fun p13 =>
zob h 7 (zhD h 9 p13 5) fun p14 =>
c55 a0 a2 (wr ((zhL h 36 p11 : Int) * (zhD h 7 p14 0))) a1 h)
else c55 a0 a2 0 a1 h)
else kr a1 h) = zseg zPP true (zcal (ρ := ρ) []) (zget (999, 0, 0, 0) zc_Un_usedRegisters) (zcut zu_Un_usedRegisters) (zorc (ρ := ρ) [(55, [some (103, none), none, some (0, none), none], [(0, none), (0, none)], zap4 c55)]) kr (fun _ _ => none) 400 4 [some (103, a0), some (0, a1), some (0, a2), none] [] h := by rfl
set_option maxRecDepth 100000 in
theorem qe_Un_usedRegisters_4b {ρ : Type} (kr : Int → zH → Option ρ) (r4 : Int → Int → Int → zH → Option ρ) (a0 a1 a2 : Int) (h : zH) : Un_usedRegisters_4b kr r4 a0 a1 a2 h = zseg zPP true (zcal (ρ := ρ) []) (zget (999, 0, 0, 0) zc_Un_usedRegisters) (zcut zu_Un_usedRegisters) (zorc (ρ := ρ) [(55, [some (103, none), none, some (0, none), none], [(0, none), (0, none)], zap4 (Un_usedRegisters_55 kr r4))]) kr (fun _ _ => none) 400 4 [some (103, a0), some (0, a1), some (0, a2), none] [] h := qg_Un_usedRegisters_4b kr r4 (Un_usedRegisters_55 kr r4) a0 a1 a2 h
set_option maxRecDepth 100000 in
theorem qg_Un_usedRegisters {ρ : Type} (kr : Int → zH → Option ρ) (c4 : Int → Int → Int → zH → Option ρ) (a0 : Int) (h : zH) : (c4 a0 0 0 h) = zseg zPP true (zcal (ρ := ρ) []) (zget (999, 0, 0, 0) zc_Un_usedRegisters) (zcut zu_Un_usedRegisters) (zorc (ρ := ρ) [(4, [some (103, none), some (0, none), some (0, none), none], [], zap3 c4)]) kr (fun _ _ => none) 400 0 [some (103, a0), none, none, none] [] h := by rfl
set_option maxRecDepth 100000 in
theorem qe_Un_usedRegisters {ρ : Type} (kr : Int → zH → Option ρ) (a0 : Int) (h : zH) : Un_usedRegisters a0 h kr = zseg zPP true (zcal (ρ := ρ) []) (zget (999, 0, 0, 0) zc_Un_usedRegisters) (zcut zu_Un_usedRegisters) (zorc (ρ := ρ) [(4, [some (103, none), some (0, none), some (0, none), none], [], zap3 (Un_usedRegisters_4 kr))]) kr (fun _ _ => none) 400 0 [some (103, a0), none, none, none] [] h := qg_Un_usedRegisters kr (Un_usedRegisters_4 kr) a0 h
def zc_Un_usedShared : List zI := [(0, 0, 0, 0), (16, 0, 1, 0), (0, 0, 0, 0), (16, 0, 2, 0), (10, 0, 2, 0), (14, 0, 0, 103), (80, 3, 21, 2), (999, 0, 0, 0), (999, 0, 0, 0), (69, 41, 50, 0), (999, 0, 0, 0), (999, 0, 0, 0), (10, 0, 1, 0), (14, 0, 0, 103), (80, 3, 11, 0), (999, 0, 0, 0), (999, 0, 0, 0), (10, 0, 2, 0), (94, 0, 0, 26), (80, 11, 52, 1), (999, 0, 0, 0), (999, 0, 0, 0), (61, 19, 41, 0), (999, 0, 0, 0), (999, 0, 0, 0), (14, 0, 0, 103), (80, 3, 11, 0), (999, 0, 0, 0), (999, 0, 0, 0), (10, 0, 2, 0), (94, 0, 0, 26), (80, 11, 48, 0), (999, 0, 0, 0), (999, 0, 0, 0), (80, 10, 71, 4), (999, 0, 0, 0), (999, 0, 0, 0), (100, 0, 0, 38), (72, 4, 42, 0), (999, 0, 0, 0), (999, 0, 0, 0), (0, 0, 0, 0), (30, 0, 0, 0), (16, 0, 1, 0), (22, 1, 2, 0), (999, 0, 0, 0), (999, 0, 0, 0), (72, (-43), 4, 0), (999, 0, 0, 0), (999, 0, 0, 0), (10, 0, 1, 0), (130, 0, 0, 0)]
def zu_Un_usedShared : List (Nat × List Bool) := [(4, [true, true, true]), (42, [true, false, true])]
set_option maxRecDepth 100000 in
theorem qg_Un_usedShared_42 {ρ : Type} (kr : Int → zH → Option ρ) (r4 : Int → Int → Int → zH → Option ρ) (a0 a2 t0 t1 : Int) (h : zH) : (r4 a0 (wr (t1 + t0)) (wr (a2 + 1)) h) = zseg zPP true (zcal (ρ := ρ) []) (zget (999, 0, 0, 0) zc_Un_usedShared) (zcut zu_Un_usedShared) (zorc (ρ := ρ) [(4, [some (103, none), some (0, none), some (0, none)], [], zap3 r4)]) kr (fun _ _ => none) 400 42 [some (103, a0), none, some (0, a2)] [(0, t0), (0, t1)] h := by rfl
set_option maxRecDepth 100000 in
theorem qe_Un_usedShared_42 {ρ : Type} (kr : Int → zH → Option ρ) (r4 : Int → Int → Int → zH → Option ρ) (a0 a2 t0 t1 : Int) (h : zH) : Un_usedShared_42 kr r4 a0 a2 t0 t1 h = zseg zPP true (zcal (ρ := ρ) []) (zget (999, 0, 0, 0) zc_Un_usedShared) (zcut zu_Un_usedShared) (zorc (ρ := ρ) [(4, [some (103, none), some (0, none), some (0, none)], [], zap3 r4)]) kr (fun _ _ => none) 400 42 [some (103, a0), none, some (0, a2)] [(0, t0), (0, t1)] h := qg_Un_usedShared_42 kr r4 a0 a2 t0 t1 h
set_option maxRecDepth 100000 in
theorem qg_Un_usedShared_4b {ρ : Type} (kr : Int → zH → Option ρ) (r4 : Int → Int → Int → zH → Option ρ) (c42 : Int → Int → Int → Int → zH → Option ρ) (a0 a1 a2 : Int) (h : zH) : (zob h 3 a0 fun p1 =>
if a2 < (zhD h 3 p1 2) then (zob h 3 a0 fun p2 =>
zob h 26 (zhD h 3 p2 0) fun p3 =>
zix (zhL h 26 p3) a2 fun j4 =>
zob h 11 (zhD h 26 p3 j4) fun p5 =>
if (zhD h 11 p5 1) = 0 then (zob h 3 a0 fun p6 =>
zob h 26 (zhD h 3 p6 0) fun p7 =>
zix (zhL h 26 p7) a2 fun j8 =>
zob h 11 (zhD h 26 p7 j8) fun p9 =>
zob h 10 (zhD h 11 p9 0) fun p10 =>
zob h 38 (zhD h 10 p10 4) fun p11 =>
c42 a0 a2 (zhL h 38 p11 : Int) a1 h)
else c42 a0 a2 0 a1 h)
else kr a1 h) = zseg zPP true (zcal (ρ := ρ) []) (zget (999, 0, 0, 0) zc_Un_usedShared) (zcut zu_Un_usedShared) (zorc (ρ := ρ) [(42, [some (103, none), none, some (0, none)], [(0, none), (0, none)], zap4 c42)]) kr (fun _ _ => none) 400 4 [some (103, a0), some (0, a1), some (0, a2)] [] h := by rfl
set_option maxRecDepth 100000 in
theorem qe_Un_usedShared_4b {ρ : Type} (kr : Int → zH → Option ρ) (r4 : Int → Int → Int → zH → Option ρ) (a0 a1 a2 : Int) (h : zH) : Un_usedShared_4b kr r4 a0 a1 a2 h = zseg zPP true (zcal (ρ := ρ) []) (zget (999, 0, 0, 0) zc_Un_usedShared) (zcut zu_Un_usedShared) (zorc (ρ := ρ) [(42, [some (103, none), none, some (0, none)], [(0, none), (0, none)], zap4 (Un_usedShared_42 kr r4))]) kr (fun _ _ => none) 400 4 [some (103, a0), some (0, a1), some (0, a2)] [] h := qg_Un_usedShared_4b kr r4 (Un_usedShared_42 kr r4) a0 a1 a2 h
set_option maxRecDepth 100000 in
theorem qg_Un_usedShared {ρ : Type} (kr : Int → zH → Option ρ) (c4 : Int → Int → Int → zH → Option ρ) (a0 : Int) (h : zH) : (c4 a0 0 0 h) = zseg zPP true (zcal (ρ := ρ) []) (zget (999, 0, 0, 0) zc_Un_usedShared) (zcut zu_Un_usedShared) (zorc (ρ := ρ) [(4, [some (103, none), some (0, none), some (0, none)], [], zap3 c4)]) kr (fun _ _ => none) 400 0 [some (103, a0), none, none] [] h := by rfl
set_option maxRecDepth 100000 in
theorem qe_Un_usedShared {ρ : Type} (kr : Int → zH → Option ρ) (a0 : Int) (h : zH) : Un_usedShared a0 h kr = zseg zPP true (zcal (ρ := ρ) []) (zget (999, 0, 0, 0) zc_Un_usedShared) (zcut zu_Un_usedShared) (zorc (ρ := ρ) [(4, [some (103, none), some (0, none), some (0, none)], [], zap3 (Un_usedShared_4 kr))]) kr (fun _ _ => none) 400 0 [some (103, a0), none, none] [] h := qg_Un_usedShared kr (Un_usedShared_4 kr) a0 h
def zc_Un_hasRoomFor : List zI := [(14, 0, 0, 103), (80, 3, 21, 2), (999, 0, 0, 0), (999, 0, 0, 0), (10, 0, 2, 0), (114, 0, 29, 57), (999, 0, 0, 0), (999, 0, 0, 0), (30, 0, 0, 0), (0, 4, 0, 0), (70, 37, 47, 0), (999, 0, 0, 0), (999, 0, 0, 0), (14, 0, 0, 103), (110, 0, 33, 279), (999, 0, 0, 0), (999, 0, 0, 0), (10, 0, 2, 0), (14, 0, 1, 107), (80, 7, 37, 0), (999, 0, 0, 0), (999, 0, 0, 0), (32, 0, 0, 0), (30, 0, 0, 0), (1, 64, 0, 0), (999, 0, 0, 0), (70, 21, 47, 0), (999, 0, 0, 0), (999, 0, 0, 0), (14, 0, 0, 103), (110, 0, 42, 280), (999, 0, 0, 0), (999, 0, 0, 0), (14, 0, 1, 107), (80, 7, 45, 1), (999, 0, 0, 0), (999, 0, 0, 0), (30, 0, 0, 0), (1, 32, 0, 0), (999, 0, 0, 0), (70, 7, 47, 0), (999, 0, 0, 0), (999, 0, 0, 0), (0, 1, 0, 0), (72, 4, 48, 0), (999, 0, 0, 0), (999, 0, 0, 0), (0, 0, 0, 0), (130, 0, 1, 0)]
def zu_Un_hasRoomFor : List (Nat × List Bool) := [(47, [false, false, false]), (48, [false, false, false])]
set_option maxRecDepth 100000 in
theorem qg_Un_hasRoomFor_48 {ρ : Type} (kr : Int → zH → Option ρ) (t0 : Int) (h : zH) : (znar 1 t0 fun x1 => kr x1 h) = zseg zPP true (zcal (ρ := ρ) []) (zget (999, 0, 0, 0) zc_Un_hasRoomFor) (zcut zu_Un_hasRoomFor) (zorc (ρ := ρ) []) kr (fun _ _ => none) 400 48 [none, none, none] [(0, t0)] h := by rfl
set_option maxRecDepth 100000 in
theorem qe_Un_hasRoomFor_48 {ρ : Type} (kr : Int → zH → Option ρ) (t0 : Int) (h : zH) : Un_hasRoomFor_48 kr t0 h = zseg zPP true (zcal (ρ := ρ) []) (zget (999, 0, 0, 0) zc_Un_hasRoomFor) (zcut zu_Un_hasRoomFor) (zorc (ρ := ρ) []) kr (fun _ _ => none) 400 48 [none, none, none] [(0, t0)] h := qg_Un_hasRoomFor_48 kr t0 h
set_option maxRecDepth 100000 in
theorem qg_Un_hasRoomFor_47 {ρ : Type} (kr : Int → zH → Option ρ) (c48 : Int → zH → Option ρ) (h : zH) : (c48 0 h) = zseg zPP true (zcal (ρ := ρ) []) (zget (999, 0, 0, 0) zc_Un_hasRoomFor) (zcut zu_Un_hasRoomFor) (zorc (ρ := ρ) [(48, [none, none, none], [(0, none)], zap1 c48)]) kr (fun _ _ => none) 400 47 [none, none, none] [] h := by rfl
set_option maxRecDepth 100000 in
theorem qe_Un_hasRoomFor_47 {ρ : Type} (kr : Int → zH → Option ρ) (h : zH) : Un_hasRoomFor_47 kr h = zseg zPP true (zcal (ρ := ρ) []) (zget (999, 0, 0, 0) zc_Un_hasRoomFor) (zcut zu_Un_hasRoomFor) (zorc (ρ := ρ) [(48, [none, none, none], [(0, none)], zap1 (Un_hasRoomFor_48 kr))]) kr (fun _ _ => none) 400 47 [none, none, none] [] h := qg_Un_hasRoomFor_47 kr (Un_hasRoomFor_48 kr) h
set_option maxRecDepth 100000 in
theorem qg_Un_hasRoomFor {ρ : Type} (kr : Int → zH → Option ρ) (F_X_groupsFor : Int → zH → (Int → zH → Option ρ) → Option ρ) (F_Un_usedRegisters : Int → zH → (Int → zH → Option ρ) → Option ρ) (F_Un_usedShared : Int → zH → (Int → zH → Option ρ) → Option ρ) (c47 : zH → Option ρ) (c48 : Int → zH → Option ρ) (a0 a1 a2 : Int) (h : zH) : (zob h 3 a0 fun p1 =>
F_X_groupsFor a2 h  fun v2 h3 =>
if 4 < (wr ((zhD h 3 p1 2) + v2)) then c47 h3
else zob h3 3 a0 fun _ =>
F_Un_usedRegisters a0 h3  fun v4 h5 =>
zob h5 7 a1 fun p6 =>
if 64 < (wr (v4 + (wr (a2 * (zhD h5 7 p6 0))))) then c47 h5
else zob h5 3 a0 fun _ =>
F_Un_usedShared a0 h5  fun v7 h8 =>
zob h8 7 a1 fun p9 =>
if 32 < (wr (v7 + (zhD h8 7 p9 1))) then c47 h8
else c48 1 h8) = zseg zPP true (zcal (ρ := ρ) [(57, [none], zca1 F_X_groupsFor), (279, [none], zca1 F_Un_usedRegisters), (280, [none], zca1 F_Un_usedShared)]) (zget (999, 0, 0, 0) zc_Un_hasRoomFor) (zcut zu_Un_hasRoomFor) (zorc (ρ := ρ) [(47, [none, none, none], [], zap0 c47), (48, [none, none, none], [(0, none)], zap1 c48)]) kr (fun _ _ => none) 400 0 [some (103, a0), some (107, a1), some (0, a2)] [] h := by rfl
set_option maxRecDepth 100000 in
theorem qe_Un_hasRoomFor {ρ : Type} (kr : Int → zH → Option ρ) (a0 a1 a2 : Int) (h : zH) : Un_hasRoomFor a0 a1 a2 h kr = zseg zPP true (zcal (ρ := ρ) [(57, [none], zca1 X_groupsFor), (279, [none], zca1 Un_usedRegisters), (280, [none], zca1 Un_usedShared)]) (zget (999, 0, 0, 0) zc_Un_hasRoomFor) (zcut zu_Un_hasRoomFor) (zorc (ρ := ρ) [(47, [none, none, none], [], zap0 (Un_hasRoomFor_47 kr)), (48, [none, none, none], [(0, none)], zap1 (Un_hasRoomFor_48 kr))]) kr (fun _ _ => none) 400 0 [some (103, a0), some (107, a1), some (0, a2)] [] h := qg_Un_hasRoomFor kr X_groupsFor Un_usedRegisters Un_usedShared (Un_hasRoomFor_47 kr) (Un_hasRoomFor_48 kr) a0 a1 a2 h
def zc_Co_unitFor : List zI := [(7, 0, 0, 103), (20, 0, 2, 103), (0, 0, 0, 0), (16, 0, 3, 0), (10, 0, 3, 0), (0, 2, 0, 0), (69, 56, 62, 0), (999, 0, 0, 0), (999, 0, 0, 0), (14, 0, 0, 102), (80, 2, 18, 2), (999, 0, 0, 0), (999, 0, 0, 0), (10, 0, 3, 0), (94, 0, 0, 23), (14, 0, 1, 109), (80, 9, 107, 5), (999, 0, 0, 0), (999, 0, 0, 0), (14, 0, 1, 109), (80, 9, 111, 7), (999, 0, 0, 0), (999, 0, 0, 0), (110, 0, 114, 278), (999, 0, 0, 0), (999, 0, 0, 0), (60, 30, 56, 0), (999, 0, 0, 0), (999, 0, 0, 0), (14, 0, 2, 103), (73, 19, 49, 0), (999, 0, 0, 0), (999, 0, 0, 0), (14, 0, 0, 102), (80, 2, 18, 2), (999, 0, 0, 0), (999, 0, 0, 0), (10, 0, 3, 0), (94, 0, 0, 23), (80, 3, 118, 2), (999, 0, 0, 0), (999, 0, 0, 0), (14, 0, 2, 103), (80, 3, 118, 2), (999, 0, 0, 0), (999, 0, 0, 0), (69, 10, 56, 0), (999, 0, 0, 0), (999, 0, 0, 0), (14, 0, 0, 102), (80, 2, 18, 2), (999, 0, 0, 0), (999, 0, 0, 0), (10, 0, 3, 0), (94, 0, 0, 23), (20, 0, 2, 103), (22, 1, 3, 0), (999, 0, 0, 0), (999, 0, 0, 0), (72, (-55), 4, 0), (999, 0, 0, 0), (999, 0, 0, 0), (14, 0, 2, 103), (132, 0, 0, 103)]
def zu_Co_unitFor : List (Nat × List Bool) := [(4, [true, true, true, true]), (49, [true, true, false, true]), (56, [true, true, true, true])]
set_option maxRecDepth 100000 in
theorem qg_Co_unitFor_56 {ρ : Type} (kr : Int → zH → Option ρ) (r4 : Int → Int → Int → Int → zH → Option ρ) (a0 a1 a2 a3 : Int) (h : zH) : (r4 a0 a1 a2 (wr (a3 + 1)) h) = zseg zPP true (zcal (ρ := ρ) []) (zget (999, 0, 0, 0) zc_Co_unitFor) (zcut zu_Co_unitFor) (zorc (ρ := ρ) [(4, [some (102, none), some (109, none), some (103, none), some (0, none)], [], zap4 r4)]) kr (fun _ _ => none) 400 56 [some (102, a0), some (109, a1), some (103, a2), some (0, a3)] [] h := by rfl
set_option maxRecDepth 100000 in
theorem qe_Co_unitFor_56 {ρ : Type} (kr : Int → zH → Option ρ) (r4 : Int → Int → Int → Int → zH → Option ρ) (a0 a1 a2 a3 : Int) (h : zH) : Co_unitFor_56 kr r4 a0 a1 a2 a3 h = zseg zPP true (zcal (ρ := ρ) []) (zget (999, 0, 0, 0) zc_Co_unitFor) (zcut zu_Co_unitFor) (zorc (ρ := ρ) [(4, [some (102, none), some (109, none), some (103, none), some (0, none)], [], zap4 r4)]) kr (fun _ _ => none) 400 56 [some (102, a0), some (109, a1), some (103, a2), some (0, a3)] [] h := qg_Co_unitFor_56 kr r4 a0 a1 a2 a3 h
set_option maxRecDepth 100000 in
theorem qg_Co_unitFor_49 {ρ : Type} (kr : Int → zH → Option ρ) (r4 : Int → Int → Int → Int → zH → Option ρ) (c56 : Int → Int → Int → Int → zH → Option ρ) (a0 a1 a3 : Int) (h : zH) : (zob h 2 a0 fun p1 =>
zob h 23 (zhD h 2 p1 2) fun p2 =>
zix (zhL h 23 p2) a3 fun j3 =>
c56 a0 a1 (zhD h 23 p2 j3) a3 h) = zseg zPP true (zcal (ρ := ρ) []) (zget (999, 0, 0, 0) zc_Co_unitFor) (zcut zu_Co_unitFor) (zorc (ρ := ρ) [(56, [some (102, none), some (109, none), some (103, none), some (0, none)], [], zap4 c56)]) kr (fun _ _ => none) 400 49 [some (102, a0), some (109, a1), none, some (0, a3)] [] h := by rfl
set_option maxRecDepth 100000 in
theorem qe_Co_unitFor_49 {ρ : Type} (kr : Int → zH → Option ρ) (r4 : Int → Int → Int → Int → zH → Option ρ) (a0 a1 a3 : Int) (h : zH) : Co_unitFor_49 kr r4 a0 a1 a3 h = zseg zPP true (zcal (ρ := ρ) []) (zget (999, 0, 0, 0) zc_Co_unitFor) (zcut zu_Co_unitFor) (zorc (ρ := ρ) [(56, [some (102, none), some (109, none), some (103, none), some (0, none)], [], zap4 (Co_unitFor_56 kr r4))]) kr (fun _ _ => none) 400 49 [some (102, a0), some (109, a1), none, some (0, a3)] [] h := qg_Co_unitFor_49 kr r4 (Co_unitFor_56 kr r4) a0 a1 a3 h
set_option maxRecDepth 100000 in
theorem qg_Co_unitFor_4b {ρ : Type} (kr : Int → zH → Option ρ) (r4 : Int → Int → Int → Int → zH → Option ρ) (F_Un_hasRoomFor : Int → Int → Int → zH → (Int → zH → Option ρ) → Option ρ) (c49 : Int → Int → Int → zH → Option ρ) (c56 : Int → Int → Int → Int → zH → Option ρ) (a0 a1 a2 a3 : Int) (h : zH) : (if a3 < 2 then (zob h 2 a0 fun p1 =>
zob h 23 (zhD h 2 p1 2) fun p2 =>
zix (zhL h 23 p2) a3 fun j3 =>
zob h 9 a1 fun p4 =>
zob h 9 a1 fun p5 =>
zob h 3 (zhD h 23 p2 j3) fun _ =>
F_Un_hasRoomFor (zhD h 23 p2 j3) (zhD h 9 p4 5) (zhD h 9 p5 7) h  fun v6 h7 =>
if v6 = 0 then c56 a0 a1 a2 a3 h7
else if a2 < 0 then c49 a0 a1 a3 h7
else zob h7 2 a0 fun p8 =>
zob h7 23 (zhD h7 2 p8 2) fun p9 =>
zix (zhL h7 23 p9) a3 fun j10 =>
zob h7 3 (zhD h7 23 p9 j10) fun p11 =>
zob h7 3 a2 fun p12 =>
if (zhD h7 3 p11 2) < (zhD h7 3 p12 2) then c49 a0 a1 a3 h7
else c56 a0 a1 a2 a3 h7)
else kr a2 h) = zseg zPP true (zcal (ρ := ρ) [(278, [none, none, none], zca3 F_Un_hasRoomFor)]) (zget (999, 0, 0, 0) zc_Co_unitFor) (zcut zu_Co_unitFor) (zorc (ρ := ρ) [(49, [some (102, none), some (109, none), none, some (0, none)], [], zap3 c49), (56, [some (102, none), some (109, none), some (103, none), some (0, none)], [], zap4 c56)]) kr (fun _ _ => none) 400 4 [some (102, a0), some (109, a1), some (103, a2), some (0, a3)] [] h := by rfl
set_option maxRecDepth 100000 in
theorem qe_Co_unitFor_4b {ρ : Type} (kr : Int → zH → Option ρ) (r4 : Int → Int → Int → Int → zH → Option ρ) (a0 a1 a2 a3 : Int) (h : zH) : Co_unitFor_4b kr r4 a0 a1 a2 a3 h = zseg zPP true (zcal (ρ := ρ) [(278, [none, none, none], zca3 Un_hasRoomFor)]) (zget (999, 0, 0, 0) zc_Co_unitFor) (zcut zu_Co_unitFor) (zorc (ρ := ρ) [(49, [some (102, none), some (109, none), none, some (0, none)], [], zap3 (Co_unitFor_49 kr r4)), (56, [some (102, none), some (109, none), some (103, none), some (0, none)], [], zap4 (Co_unitFor_56 kr r4))]) kr (fun _ _ => none) 400 4 [some (102, a0), some (109, a1), some (103, a2), some (0, a3)] [] h := qg_Co_unitFor_4b kr r4 Un_hasRoomFor (Co_unitFor_49 kr r4) (Co_unitFor_56 kr r4) a0 a1 a2 a3 h
set_option maxRecDepth 100000 in
theorem qg_Co_unitFor {ρ : Type} (kr : Int → zH → Option ρ) (c4 : Int → Int → Int → Int → zH → Option ρ) (a0 a1 : Int) (h : zH) : (c4 a0 a1 (-1) 0 h) = zseg zPP true (zcal (ρ := ρ) []) (zget (999, 0, 0, 0) zc_Co_unitFor) (zcut zu_Co_unitFor) (zorc (ρ := ρ) [(4, [some (102, none), some (109, none), some (103, none), some (0, none)], [], zap4 c4)]) kr (fun _ _ => none) 400 0 [some (102, a0), some (109, a1), none, none] [] h := by rfl
set_option maxRecDepth 100000 in
theorem qe_Co_unitFor {ρ : Type} (kr : Int → zH → Option ρ) (a0 a1 : Int) (h : zH) : Co_unitFor a0 a1 h kr = zseg zPP true (zcal (ρ := ρ) []) (zget (999, 0, 0, 0) zc_Co_unitFor) (zcut zu_Co_unitFor) (zorc (ρ := ρ) [(4, [some (102, none), some (109, none), some (103, none), some (0, none)], [], zap4 (Co_unitFor_4 kr))]) kr (fun _ _ => none) 400 0 [some (102, a0), some (109, a1), none, none] [] h := qg_Co_unitFor kr (Co_unitFor_4 kr) a0 a1 h
def zc_Th_goTo : List zI := [(14, 0, 0, 106), (10, 0, 1, 0), (82, 6, 63, 3), (999, 0, 0, 0), (999, 0, 0, 0), (10, 0, 1, 0), (62, 8, 14, 0), (999, 0, 0, 0), (999, 0, 0, 0), (10, 0, 1, 0), (10, 0, 2, 0), (68, 9, 20, 0), (999, 0, 0, 0), (999, 0, 0, 0), (14, 0, 0, 106), (1, 101, 0, 0), (999, 0, 0, 0), (82, 6, 34, 4), (999, 0, 0, 0), (999, 0, 0, 0), (133, 0, 0, 0)]
def zu_Th_goTo : List (Nat × List Bool) := [(14, [true, false, false]), (20, [false, false, false])]
set_option maxRecDepth 100000 in
theorem qg_Th_goTo_20 {ρ : Type} (kr : Int → zH → Option ρ) (h : zH) : (kr 0 h) = zseg zPP true (zcal (ρ := ρ) []) (zget (999, 0, 0, 0) zc_Th_goTo) (zcut zu_Th_goTo) (zorc (ρ := ρ) []) kr (fun _ _ => none) 400 20 [none, none, none] [] h := by rfl
set_option maxRecDepth 100000 in
theorem qe_Th_goTo_20 {ρ : Type} (kr : Int → zH → Option ρ) (h : zH) : Th_goTo_20 kr h = zseg zPP true (zcal (ρ := ρ) []) (zget (999, 0, 0, 0) zc_Th_goTo) (zcut zu_Th_goTo) (zorc (ρ := ρ) []) kr (fun _ _ => none) 400 20 [none, none, none] [] h := qg_Th_goTo_20 kr h
set_option maxRecDepth 100000 in
theorem qg_Th_goTo_14 {ρ : Type} (kr : Int → zH → Option ρ) (c20 : zH → Option ρ) (a0 : Int) (h : zH) : (zob h 6 a0 fun p1 =>
zlet (zset h 6 p1 4 101) fun h2 =>
c20 h2) = zseg zPP true (zcal (ρ := ρ) []) (zget (999, 0, 0, 0) zc_Th_goTo) (zcut zu_Th_goTo) (zorc (ρ := ρ) [(20, [none, none, none], [], zap0 c20)]) kr (fun _ _ => none) 400 14 [some (106, a0), none, none] [] h := by rfl
set_option maxRecDepth 100000 in
theorem qe_Th_goTo_14 {ρ : Type} (kr : Int → zH → Option ρ) (a0 : Int) (h : zH) : Th_goTo_14 kr a0 h = zseg zPP true (zcal (ρ := ρ) []) (zget (999, 0, 0, 0) zc_Th_goTo) (zcut zu_Th_goTo) (zorc (ρ := ρ) [(20, [none, none, none], [], zap0 (Th_goTo_20 kr))]) kr (fun _ _ => none) 400 14 [some (106, a0), none, none] [] h := qg_Th_goTo_14 kr (Th_goTo_20 kr) a0 h
set_option maxRecDepth 100000 in
theorem qg_Th_goTo {ρ : Type} (kr : Int → zH → Option ρ) (c14 : Int → zH → Option ρ) (c20 : zH → Option ρ) (a0 a1 a2 : Int) (h : zH) : (zob h 6 a0 fun p1 =>
zlet (zset h 6 p1 3 a1) fun h2 =>
if a1 < 0 then c14 a0 h2
else if a1 < a2 then c20 h2
else c14 a0 h2) = zseg zPP true (zcal (ρ := ρ) []) (zget (999, 0, 0, 0) zc_Th_goTo) (zcut zu_Th_goTo) (zorc (ρ := ρ) [(14, [some (106, none), none, none], [], zap1 c14), (20, [none, none, none], [], zap0 c20)]) kr (fun _ _ => none) 400 0 [some (106, a0), some (0, a1), some (0, a2)] [] h := by rfl
set_option maxRecDepth 100000 in
theorem qe_Th_goTo {ρ : Type} (kr : Int → zH → Option ρ) (a0 a1 a2 : Int) (h : zH) : Th_goTo a0 a1 a2 h kr = zseg zPP true (zcal (ρ := ρ) []) (zget (999, 0, 0, 0) zc_Th_goTo) (zcut zu_Th_goTo) (zorc (ρ := ρ) [(14, [some (106, none), none, none], [], zap1 (Th_goTo_14 kr)), (20, [none, none, none], [], zap0 (Th_goTo_20 kr))]) kr (fun _ _ => none) 400 0 [some (106, a0), some (0, a1), some (0, a2)] [] h := qg_Th_goTo kr (Th_goTo_14 kr) (Th_goTo_20 kr) a0 a1 a2 h
def zc_Th_begin : List zI := [(14, 0, 0, 106), (10, 0, 1, 0), (82, 6, 25, 2), (999, 0, 0, 0), (999, 0, 0, 0), (14, 0, 0, 106), (80, 6, 21, 1), (999, 0, 0, 0), (999, 0, 0, 0), (0, 0, 0, 0), (113, 0, 28, 6), (999, 0, 0, 0), (999, 0, 0, 0), (14, 0, 0, 106), (1, 114, 0, 0), (999, 0, 0, 0), (82, 6, 34, 4), (999, 0, 0, 0), (999, 0, 0, 0), (14, 0, 0, 106), (0, 0, 0, 0), (10, 0, 2, 0), (110, 0, 38, 262), (999, 0, 0, 0), (999, 0, 0, 0), (133, 0, 0, 0)]
def zu_Th_begin : List (Nat × List Bool) := []
set_option maxRecDepth 100000 in
theorem qg_Th_begin {ρ : Type} (kr : Int → zH → Option ρ) (F_Ar_fill_32 : Int → Int → zH → (Int → zH → Option ρ) → Option ρ) (F_Th_goTo : Int → Int → Int → zH → (Int → zH → Option ρ) → Option ρ) (a0 a1 a2 : Int) (h : zH) : (zob h 6 a0 fun p1 =>
zlet (zset h 6 p1 2 a1) fun h2 =>
zob h2 6 a0 fun p3 =>
F_Ar_fill_32 (zhD h2 6 p3 1) 0 h2  fun _ h5 =>
zob h5 6 a0 fun p6 =>
zlet (zset h5 6 p6 4 114) fun h7 =>
zob h7 6 a0 fun _ =>
F_Th_goTo a0 0 a2 h7  fun _ h9 =>
kr 0 h9) = zseg zPP true (zcal (ρ := ρ) [(6, [none, none], zca2 F_Ar_fill_32), (262, [none, none, none], zca3 F_Th_goTo)]) (zget (999, 0, 0, 0) zc_Th_begin) (zcut zu_Th_begin) (zorc (ρ := ρ) []) kr (fun _ _ => none) 400 0 [some (106, a0), some (0, a1), some (0, a2)] [] h := by rfl
set_option maxRecDepth 100000 in
theorem qe_Th_begin {ρ : Type} (kr : Int → zH → Option ρ) (a0 a1 a2 : Int) (h : zH) : Th_begin a0 a1 a2 h kr = zseg zPP true (zcal (ρ := ρ) [(6, [none, none], zca2 Ar_fill_32), (262, [none, none, none], zca3 Th_goTo)]) (zget (999, 0, 0, 0) zc_Th_begin) (zcut zu_Th_begin) (zorc (ρ := ρ) []) kr (fun _ _ => none) 400 0 [some (106, a0), some (0, a1), some (0, a2)] [] h := qg_Th_begin kr Ar_fill_32 Th_goTo a0 a1 a2 h
def zc_Bl_init : List zI := [(14, 0, 0, 110), (117, 0, 3, 0), (999, 0, 0, 0), (999, 0, 0, 0), (14, 0, 0, 110), (1, 64, 0, 0), (999, 0, 0, 0), (101, 0, 0, 39), (999, 0, 0, 0), (84, 10, 9, 5), (999, 0, 0, 0), (999, 0, 0, 0), (14, 0, 0, 110), (14, 0, 1, 109), (84, 10, 15, 0), (999, 0, 0, 0), (999, 0, 0, 0), (14, 0, 0, 110), (10, 0, 2, 0), (84, 10, 19, 1), (999, 0, 0, 0), (999, 0, 0, 0), (14, 0, 0, 110), (14, 0, 1, 109), (80, 9, 23, 7), (999, 0, 0, 0), (999, 0, 0, 0), (102, 0, 28, 36), (999, 0, 0, 0), (999, 0, 0, 0), (84, 10, 30, 2), (999, 0, 0, 0), (999, 0, 0, 0), (0, 0, 0, 0), (16, 0, 3, 0), (10, 0, 3, 0), (14, 0, 0, 110), (80, 10, 30, 2), (999, 0, 0, 0), (999, 0, 0, 0), (100, 0, 0, 36), (69, 47, 88, 0), (999, 0, 0, 0), (999, 0, 0, 0), (14, 0, 0, 110), (80, 10, 30, 2), (999, 0, 0, 0), (999, 0, 0, 0), (10, 0, 3, 0), (103, 0, 28, 6), (999, 0, 0, 0), (999, 0, 0, 0), (50, 0, 0, 0), (10, 0, 3, 0), (14, 0, 1, 109), (80, 9, 33, 5), (999, 0, 0, 0), (999, 0, 0, 0), (80, 7, 37, 0), (999, 0, 0, 0), (999, 0, 0, 0), (115, 0, 42, 253), (999, 0, 0, 0), (999, 0, 0, 0), (99, 0, 0, 36), (14, 0, 0, 110), (80, 10, 30, 2), (999, 0, 0, 0), (999, 0, 0, 0), (10, 0, 3, 0), (94, 0, 0, 36), (10, 0, 2, 0), (14, 0, 1, 109), (80, 9, 33, 5), (999, 0, 0, 0), (999, 0, 0, 0), (80, 7, 45, 3), (999, 0, 0, 0), (999, 0, 0, 0), (110, 0, 48, 254), (999, 0, 0, 0), (999, 0, 0, 0), (22, 1, 3, 0), (999, 0, 0, 0), (999, 0, 0, 0), (72, (-50), 35, 0), (999, 0, 0, 0), (999, 0, 0, 0), (14, 0, 0, 110), (14, 0, 1, 109), (80, 9, 23, 7), (999, 0, 0, 0), (999, 0, 0, 0), (114, 0, 51, 57), (999, 0, 0, 0), (999, 0, 0, 0), (102, 0, 55, 37), (999, 0, 0, 0), (999, 0, 0, 0), (84, 10, 57, 3), (999, 0, 0, 0), (999, 0, 0, 0), (14, 0, 0, 110), (14, 0, 1, 109), (80, 9, 33, 5), (999, 0, 0, 0), (999, 0, 0, 0), (80, 7, 61, 1), (999, 0, 0, 0), (999, 0, 0, 0), (101, 0, 0, 38), (999, 0, 0, 0), (84, 10, 64, 4), (999, 0, 0, 0), (999, 0, 0, 0), (14, 0, 0, 110), (14, 0, 1, 109), (80, 9, 33, 5), (999, 0, 0, 0), (999, 0, 0, 0), (80, 7, 61, 1), (999, 0, 0, 0), (999, 0, 0, 0), (101, 0, 0, 40), (999, 0, 0, 0), (84, 10, 66, 6), (999, 0, 0, 0), (999, 0, 0, 0), (14, 0, 0, 110), (14, 0, 1, 109), (80, 9, 33, 5), (999, 0, 0, 0), (999, 0, 0, 0), (80, 7, 61, 1), (999, 0, 0, 0), (999, 0, 0, 0), (101, 0, 0, 41), (999, 0, 0, 0), (84, 10, 69, 7), (999, 0, 0, 0), (999, 0, 0, 0), (133, 0, 0, 0)]
def zu_Bl_init : List (Nat × List Bool) := [(35, [true, true, true, true])]
set_option maxRecDepth 100000 in
theorem qg_Bl_init_35b {ρ : Type} (kr : Int → zH → Option ρ) (r35 : Int → Int → Int → Int → zH → Option ρ) (F_X_groupsFor : Int → zH → (Int → zH → Option ρ) → Option ρ) (F_Th_init : Int → Int → Int → zH → (Int → zH → Option ρ) → Option ρ) (F_Th_begin : Int → Int → Int → zH → (Int → zH → Option ρ) → Option ρ) (a0 a1 a2 a3 : Int) (h : zH) : (zob h 10 a0 fun p1 =>
zob h 36 (zhD h 10 p1 2) fun p2 =>
if a3 < (zhL h 36 p2 : Int) then (zob h 10 a0 fun p28 =>
zlet (znew h 6 0 (znf zPP 6) (fun k => zdef (zft zPP 6 k))) fun h29 =>
zob h29 9 a1 fun p30 =>
zob h29 7 (zhD h29 9 p30 5) fun p31 =>
zob h29 6 (zhN h 6 : Int) fun _ =>
F_Th_init (zhN h 6 : Int) a3 (zhD h29 7 p31 0) h29  fun _ h33 =>
zob h33 36 (zhD h 10 p28 2) fun p34 =>
zix (zhL h33 36 p34) a3 fun j35 =>
zorn h33 6 (zhN h 6 : Int) (zlet (zset h33 36 p34 j35 (zhN h 6 : Int)) fun h36 =>
zob h36 10 a0 fun p37 =>
zob h36 36 (zhD h36 10 p37 2) fun p38 =>
zix (zhL h36 36 p38) a3 fun j39 =>
zob h36 9 a1 fun p40 =>
zob h36 7 (zhD h36 9 p40 5) fun p41 =>
zob h36 6 (zhD h36 36 p38 j39) fun _ =>
F_Th_begin (zhD h36 36 p38 j39) a2 (zhD h36 7 p41 3) h36  fun _ h43 =>
r35 a0 a1 a2 (wr (a3 + 1)) h43))
else zob h 9 a1 fun p3 =>
F_X_groupsFor (zhD h 9 p3 7) h  fun v4 h5 =>
zix 100000 v4 fun n6 =>
zlet (znew h5 37 n6 n6 (fun _ => -1)) fun h7 =>
zob h7 10 a0 fun p8 =>
zlet (zset h7 10 p8 3 (zhN h5 37 : Int)) fun h9 =>
zob h9 9 a1 fun p10 =>
zob h9 7 (zhD h9 9 p10 5) fun p11 =>
zix 100000 (zhD h9 7 p11 1) fun n12 =>
zlet (znew h9 38 n12 n12 (fun _ => 0)) fun h13 =>
zob h13 10 a0 fun p14 =>
zlet (zset h13 10 p14 4 (zhN h9 38 : Int)) fun h15 =>
zob h15 9 a1 fun p16 =>
zob h15 7 (zhD h15 9 p16 5) fun p17 =>
zix 100000 (zhD h15 7 p17 1) fun n18 =>
zlet (znew h15 40 n18 n18 (fun _ => 0)) fun h19 =>
zob h19 10 a0 fun p20 =>
zlet (zset h19 10 p20 6 (zhN h15 40 : Int)) fun h21 =>
zob h21 9 a1 fun p22 =>
zob h21 7 (zhD h21 9 p22 5) fun p23 =>
zix 100000 (zhD h21 7 p23 1) fun n24 =>
zlet (znew h21 41 n24 n24 (fun _ => 0)) fun h25 =>
zob h25 10 a0 fun p26 =>
zlet (zset h25 10 p26 7 (zhN h21 41 : Int)) fun h27 =>
kr 0 h27) = zseg zPP true (zcal (ρ := ρ) [(57, [none], zca1 F_X_groupsFor), (253, [none, none, none], zca3 F_Th_init), (254, [none, none, none], zca3 F_Th_begin)]) (zget (999, 0, 0, 0) zc_Bl_init) (zcut zu_Bl_init) (zorc (ρ := ρ) [(35, [some (110, none), some (109, none), some (0, none), some (0, none)], [], zap4 r35)]) kr (fun _ _ => none) 400 35 [some (110, a0), some (109, a1), some (0, a2), some (0, a3)] [] h := by rfl
set_option maxRecDepth 100000 in
theorem qe_Bl_init_35b {ρ : Type} (kr : Int → zH → Option ρ) (r35 : Int → Int → Int → Int → zH → Option ρ) (a0 a1 a2 a3 : Int) (h : zH) : Bl_init_35b kr r35 a0 a1 a2 a3 h = zseg zPP true (zcal (ρ := ρ) [(57, [none], zca1 X_groupsFor), (253, [none, none, none], zca3 Th_init), (254, [none, none, none], zca3 Th_begin)]) (zget (999, 0, 0, 0) zc_Bl_init) (zcut zu_Bl_init) (zorc (ρ := ρ) [(35, [some (110, none), some (109, none), some (0, none), some (0, none)], [], zap4 r35)]) kr (fun _ _ => none) 400 35 [some (110, a0), some (109, a1), some (0, a2), some (0, a3)] [] h := qg_Bl_init_35b kr r35 X_groupsFor Th_init Th_begin a0 a1 a2 a3 h
set_option maxRecDepth 100000 in
theorem qg_Bl_init {ρ : Type} (kr : Int → zH → Option ρ) (c35 : Int → Int → Int → Int → zH → Option ρ) (a0 a1 a2 : Int) (h : zH) : (zob h 10 a0 fun _ =>
zix 100000 64 fun n2 =>
zlet (znew h 39 n2 n2 (fun _ => 0)) fun h3 =>
zob h3 10 a0 fun p4 =>
zlet (zset h3 10 p4 5 (zhN h 39 : Int)) fun h5 =>
zob h5 10 a0 fun p6 =>
zlet (zset h5 10 p6 0 a1) fun h7 =>
zob h7 10 a0 fun p8 =>
zlet (zset h7 10 p8 1 a2) fun h9 =>
zob h9 9 a1 fun p10 =>
zix 100000 (zhD h9 9 p10 7) fun n11 =>
zlet (znew h9 36 n11 n11 (fun _ => -1)) fun h12 =>
zob h12 10 a0 fun p13 =>
zlet (zset h12 10 p13 2 (zhN h9 36 : Int)) fun h14 =>
c35 a0 a1 a2 0 h14) = zseg zPP true (zcal (ρ := ρ) []) (zget (999, 0, 0, 0) zc_Bl_init) (zcut zu_Bl_init) (zorc (ρ := ρ) [(35, [some (110, none), some (109, none), some (0, none), some (0, none)], [], zap4 c35)]) kr (fun _ _ => none) 400 0 [some (110, a0), some (109, a1), some (0, a2), none] [] h := by rfl
set_option maxRecDepth 100000 in
theorem qe_Bl_init {ρ : Type} (kr : Int → zH → Option ρ) (a0 a1 a2 : Int) (h : zH) : Bl_init a0 a1 a2 h kr = zseg zPP true (zcal (ρ := ρ) []) (zget (999, 0, 0, 0) zc_Bl_init) (zcut zu_Bl_init) (zorc (ρ := ρ) [(35, [some (110, none), some (109, none), some (0, none), some (0, none)], [], zap4 (Bl_init_35 kr))]) kr (fun _ _ => none) 400 0 [some (110, a0), some (109, a1), some (0, a2), none] [] h := qg_Bl_init kr (Bl_init_35 kr) a0 a1 a2 h
def zc_Gr_init : List zI := [(14, 0, 0, 111), (117, 0, 3, 0), (999, 0, 0, 0), (999, 0, 0, 0), (14, 0, 0, 111), (0, 4, 0, 0), (101, 0, 0, 43), (999, 0, 0, 0), (84, 11, 11, 3), (999, 0, 0, 0), (999, 0, 0, 0), (14, 0, 0, 111), (0, 4, 0, 0), (101, 0, 0, 44), (999, 0, 0, 0), (84, 11, 15, 4), (999, 0, 0, 0), (999, 0, 0, 0), (14, 0, 0, 111), (14, 0, 1, 110), (84, 11, 18, 0), (999, 0, 0, 0), (999, 0, 0, 0), (14, 0, 0, 111), (10, 0, 2, 0), (84, 11, 22, 1), (999, 0, 0, 0), (999, 0, 0, 0), (14, 0, 0, 111), (0, 4, 0, 0), (102, 0, 26, 42), (999, 0, 0, 0), (999, 0, 0, 0), (84, 11, 28, 2), (999, 0, 0, 0), (999, 0, 0, 0), (0, 0, 0, 0), (16, 0, 3, 0), (10, 0, 3, 0), (0, 4, 0, 0), (69, 34, 74, 0), (999, 0, 0, 0), (999, 0, 0, 0), (10, 0, 2, 0), (10, 0, 3, 0), (30, 0, 0, 0), (14, 0, 1, 110), (80, 10, 32, 2), (999, 0, 0, 0), (999, 0, 0, 0), (100, 0, 0, 36), (69, 23, 74, 0), (999, 0, 0, 0), (999, 0, 0, 0), (14, 0, 0, 111), (80, 11, 28, 2), (999, 0, 0, 0), (999, 0, 0, 0), (10, 0, 3, 0), (14, 0, 1, 110), (80, 10, 32, 2), (999, 0, 0, 0), (999, 0, 0, 0), (10, 0, 2, 0), (10, 0, 3, 0), (30, 0, 0, 0), (94, 0, 0, 36), (99, 0, 0, 42), (22, 1, 3, 0), (999, 0, 0, 0), (999, 0, 0, 0), (72, (-33), 38, 0), (999, 0, 0, 0), (999, 0, 0, 0), (133, 0, 0, 0)]
def zu_Gr_init : List (Nat × List Bool) := [(38, [true, true, true, true]), (74, [false, false, false, false])]
set_option maxRecDepth 100000 in
theorem qg_Gr_init_74 {ρ : Type} (kr : Int → zH → Option ρ) (h : zH) : (kr 0 h) = zseg zPP true (zcal (ρ := ρ) []) (zget (999, 0, 0, 0) zc_Gr_init) (zcut zu_Gr_init) (zorc (ρ := ρ) []) kr (fun _ _ => none) 400 74 [none, none, none, none] [] h := by rfl
set_option maxRecDepth 100000 in
theorem qe_Gr_init_74 {ρ : Type} (kr : Int → zH → Option ρ) (h : zH) : Gr_init_74 kr h = zseg zPP true (zcal (ρ := ρ) []) (zget (999, 0, 0, 0) zc_Gr_init) (zcut zu_Gr_init) (zorc (ρ := ρ) []) kr (fun _ _ => none) 400 74 [none, none, none, none] [] h := qg_Gr_init_74 kr h
set_option maxRecDepth 100000 in
theorem qg_Gr_init_38b {ρ : Type} (kr : Int → zH → Option ρ) (r38 : Int → Int → Int → Int → zH → Option ρ) (c74 : zH → Option ρ) (a0 a1 a2 a3 : Int) (h : zH) : (if a3 < 4 then (zob h 10 a1 fun p1 =>
zob h 36 (zhD h 10 p1 2) fun p2 =>
if (wr (a2 + a3)) < (zhL h 36 p2 : Int) then (zob h 11 a0 fun p3 =>
zob h 10 a1 fun p4 =>
zob h 36 (zhD h 10 p4 2) fun p5 =>
zix (zhL h 36 p5) (wr (a2 + a3)) fun j6 =>
zob h 42 (zhD h 11 p3 2) fun p7 =>
zix (zhL h 42 p7) a3 fun j8 =>
zorn h 6 (zhD h 36 p5 j6) (zlet (zset h 42 p7 j8 (zhD h 36 p5 j6)) fun h9 =>
r38 a0 a1 a2 (wr (a3 + 1)) h9))
else c74 h)
else c74 h) = zseg zPP true (zcal (ρ := ρ) []) (zget (999, 0, 0, 0) zc_Gr_init) (zcut zu_Gr_init) (zorc (ρ := ρ) [(38, [some (111, none), some (110, none), some (0, none), some (0, none)], [], zap4 r38), (74, [none, none, none, none], [], zap0 c74)]) kr (fun _ _ => none) 400 38 [some (111, a0), some (110, a1), some (0, a2), some (0, a3)] [] h := by rfl
set_option maxRecDepth 100000 in
theorem qe_Gr_init_38b {ρ : Type} (kr : Int → zH → Option ρ) (r38 : Int → Int → Int → Int → zH → Option ρ) (a0 a1 a2 a3 : Int) (h : zH) : Gr_init_38b kr r38 a0 a1 a2 a3 h = zseg zPP true (zcal (ρ := ρ) []) (zget (999, 0, 0, 0) zc_Gr_init) (zcut zu_Gr_init) (zorc (ρ := ρ) [(38, [some (111, none), some (110, none), some (0, none), some (0, none)], [], zap4 r38), (74, [none, none, none, none], [], zap0 (Gr_init_74 kr))]) kr (fun _ _ => none) 400 38 [some (111, a0), some (110, a1), some (0, a2), some (0, a3)] [] h := qg_Gr_init_38b kr r38 (Gr_init_74 kr) a0 a1 a2 a3 h
set_option maxRecDepth 100000 in
theorem qg_Gr_init {ρ : Type} (kr : Int → zH → Option ρ) (c38 : Int → Int → Int → Int → zH → Option ρ) (a0 a1 a2 : Int) (h : zH) : (zob h 11 a0 fun _ =>
zix 100000 4 fun n2 =>
zlet (znew h 43 n2 n2 (fun _ => 0)) fun h3 =>
zob h3 11 a0 fun p4 =>
zlet (zset h3 11 p4 3 (zhN h 43 : Int)) fun h5 =>
zix 100000 4 fun n6 =>
zlet (znew h5 44 n6 n6 (fun _ => 0)) fun h7 =>
zob h7 11 a0 fun p8 =>
zlet (zset h7 11 p8 4 (zhN h5 44 : Int)) fun h9 =>
zob h9 11 a0 fun p10 =>
zlet (zset h9 11 p10 0 a1) fun h11 =>
zob h11 11 a0 fun p12 =>
zlet (zset h11 11 p12 1 a2) fun h13 =>
zix 100000 4 fun n14 =>
zlet (znew h13 42 n14 n14 (fun _ => -1)) fun h15 =>
zob h15 11 a0 fun p16 =>
zlet (zset h15 11 p16 2 (zhN h13 42 : Int)) fun h17 =>
c38 a0 a1 a2 0 h17) = zseg zPP true (zcal (ρ := ρ) []) (zget (999, 0, 0, 0) zc_Gr_init) (zcut zu_Gr_init) (zorc (ρ := ρ) [(38, [some (111, none), some (110, none), some (0, none), some (0, none)], [], zap4 c38)]) kr (fun _ _ => none) 400 0 [some (111, a0), some (110, a1), some (0, a2), none] [] h := by rfl
set_option maxRecDepth 100000 in
theorem qe_Gr_init {ρ : Type} (kr : Int → zH → Option ρ) (a0 a1 a2 : Int) (h : zH) : Gr_init a0 a1 a2 h kr = zseg zPP true (zcal (ρ := ρ) []) (zget (999, 0, 0, 0) zc_Gr_init) (zcut zu_Gr_init) (zorc (ρ := ρ) [(38, [some (111, none), some (110, none), some (0, none), some (0, none)], [], zap4 (Gr_init_38 kr))]) kr (fun _ _ => none) 400 0 [some (111, a0), some (110, a1), some (0, a2), none] [] h := qg_Gr_init kr (Gr_init_38 kr) a0 a1 a2 h
def zc_Bl_nextOf : List zI := [(103, 0, 10, 10), (999, 0, 0, 0), (999, 0, 0, 0), (50, 0, 0, 0), (14, 0, 0, 109), (14, 0, 0, 109), (80, 9, 73, 8), (999, 0, 0, 0), (999, 0, 0, 0), (115, 0, 76, 169), (999, 0, 0, 0), (999, 0, 0, 0), (20, 0, 1, 110), (0, 0, 0, 0), (16, 0, 2, 0), (10, 0, 2, 0), (14, 0, 1, 110), (80, 10, 57, 3), (999, 0, 0, 0), (999, 0, 0, 0), (100, 0, 0, 37), (69, 26, 47, 0), (999, 0, 0, 0), (999, 0, 0, 0), (14, 0, 1, 110), (80, 10, 57, 3), (999, 0, 0, 0), (999, 0, 0, 0), (10, 0, 2, 0), (103, 0, 55, 11), (999, 0, 0, 0), (999, 0, 0, 0), (50, 0, 0, 0), (14, 0, 1, 110), (0, 4, 0, 0), (10, 0, 2, 0), (32, 0, 0, 0), (115, 0, 79, 202), (999, 0, 0, 0), (999, 0, 0, 0), (99, 0, 0, 37), (22, 1, 2, 0), (999, 0, 0, 0), (999, 0, 0, 0), (72, (-29), 15, 0), (999, 0, 0, 0), (999, 0, 0, 0), (14, 0, 0, 109), (50, 0, 0, 0), (80, 9, 73, 8), (999, 0, 0, 0), (999, 0, 0, 0), (0, 1, 0, 0), (30, 0, 0, 0), (82, 9, 73, 8), (999, 0, 0, 0), (999, 0, 0, 0), (14, 0, 1, 110), (132, 0, 0, 110)]
def zu_Bl_nextOf : List (Nat × List Bool) := [(15, [true, true, true])]
set_option maxRecDepth 100000 in
theorem qg_Bl_nextOf_15b {ρ : Type} (kr : Int → zH → Option ρ) (r15 : Int → Int → Int → zH → Option ρ) (F_Gr_init : Int → Int → Int → zH → (Int → zH → Option ρ) → Option ρ) (a0 a1 a2 : Int) (h : zH) : (zob h 10 a1 fun p1 =>
zob h 37 (zhD h 10 p1 3) fun p2 =>
if a2 < (zhL h 37 p2 : Int) then (zob h 10 a1 fun p6 =>
zlet (znew h 11 0 (znf zPP 11) (fun k => zdef (zft zPP 11 k))) fun h7 =>
zob h7 11 (zhN h 11 : Int) fun _ =>
F_Gr_init (zhN h 11 : Int) a1 (wr (4 * a2)) h7  fun _ h9 =>
zob h9 37 (zhD h 10 p6 3) fun p10 =>
zix (zhL h9 37 p10) a2 fun j11 =>
zorn h9 11 (zhN h 11 : Int) (zlet (zset h9 37 p10 j11 (zhN h 11 : Int)) fun h12 =>
r15 a0 a1 (wr (a2 + 1)) h12))
else zob h 9 a0 fun p3 =>
zob h 9 a0 fun p4 =>
zlet (zset h 9 p4 8 (wr ((zhD h 9 p3 8) + 1))) fun h5 =>
kr a1 h5) = zseg zPP true (zcal (ρ := ρ) [(202, [none, none, none], zca3 F_Gr_init)]) (zget (999, 0, 0, 0) zc_Bl_nextOf) (zcut zu_Bl_nextOf) (zorc (ρ := ρ) [(15, [some (109, none), some (110, none), some (0, none)], [], zap3 r15)]) kr (fun _ _ => none) 400 15 [some (109, a0), some (110, a1), some (0, a2)] [] h := by rfl
set_option maxRecDepth 100000 in
theorem qe_Bl_nextOf_15b {ρ : Type} (kr : Int → zH → Option ρ) (r15 : Int → Int → Int → zH → Option ρ) (a0 a1 a2 : Int) (h : zH) : Bl_nextOf_15b kr r15 a0 a1 a2 h = zseg zPP true (zcal (ρ := ρ) [(202, [none, none, none], zca3 Gr_init)]) (zget (999, 0, 0, 0) zc_Bl_nextOf) (zcut zu_Bl_nextOf) (zorc (ρ := ρ) [(15, [some (109, none), some (110, none), some (0, none)], [], zap3 r15)]) kr (fun _ _ => none) 400 15 [some (109, a0), some (110, a1), some (0, a2)] [] h := qg_Bl_nextOf_15b kr r15 Gr_init a0 a1 a2 h
set_option maxRecDepth 100000 in
theorem qg_Bl_nextOf {ρ : Type} (kr : Int → zH → Option ρ) (F_Bl_init : Int → Int → Int → zH → (Int → zH → Option ρ) → Option ρ) (c15 : Int → Int → Int → zH → Option ρ) (a0 : Int) (h : zH) : (zlet (znew h 10 0 (znf zPP 10) (fun k => zdef (zft zPP 10 k))) fun h1 =>
zob h1 9 a0 fun p2 =>
zob h1 10 (zhN h 10 : Int) fun _ =>
F_Bl_init (zhN h 10 : Int) a0 (zhD h1 9 p2 8) h1  fun _ h4 =>
c15 a0 (zhN h 10 : Int) 0 h4) = zseg zPP true (zcal (ρ := ρ) [(169, [none, none, none], zca3 F_Bl_init)]) (zget (999, 0, 0, 0) zc_Bl_nextOf) (zcut zu_Bl_nextOf) (zorc (ρ := ρ) [(15, [some (109, none), some (110, none), some (0, none)], [], zap3 c15)]) kr (fun _ _ => none) 400 0 [some (109, a0), none, none] [] h := by rfl
set_option maxRecDepth 100000 in
theorem qe_Bl_nextOf {ρ : Type} (kr : Int → zH → Option ρ) (a0 : Int) (h : zH) : Bl_nextOf a0 h kr = zseg zPP true (zcal (ρ := ρ) [(169, [none, none, none], zca3 Bl_init)]) (zget (999, 0, 0, 0) zc_Bl_nextOf) (zcut zu_Bl_nextOf) (zorc (ρ := ρ) [(15, [some (109, none), some (110, none), some (0, none)], [], zap3 (Bl_nextOf_15 kr))]) kr (fun _ _ => none) 400 0 [some (109, a0), none, none] [] h := qg_Bl_nextOf kr Bl_init (Bl_nextOf_15 kr) a0 h
def zc_Th_isRunning : List zI := [(14, 0, 0, 106), (80, 6, 34, 4), (999, 0, 0, 0), (999, 0, 0, 0), (1, 114, 0, 0), (999, 0, 0, 0), (67, 7, 13, 0), (999, 0, 0, 0), (999, 0, 0, 0), (0, 1, 0, 0), (72, 4, 14, 0), (999, 0, 0, 0), (999, 0, 0, 0), (0, 0, 0, 0), (130, 0, 1, 0)]
def zu_Th_isRunning : List (Nat × List Bool) := [(14, [false])]
set_option maxRecDepth 100000 in
theorem qg_Th_isRunning_14 {ρ : Type} (kr : Int → zH → Option ρ) (t0 : Int) (h : zH) : (znar 1 t0 fun x1 => kr x1 h) = zseg zPP true (zcal (ρ := ρ) []) (zget (999, 0, 0, 0) zc_Th_isRunning) (zcut zu_Th_isRunning) (zorc (ρ := ρ) []) kr (fun _ _ => none) 400 14 [none] [(0, t0)] h := by rfl
set_option maxRecDepth 100000 in
theorem qe_Th_isRunning_14 {ρ : Type} (kr : Int → zH → Option ρ) (t0 : Int) (h : zH) : Th_isRunning_14 kr t0 h = zseg zPP true (zcal (ρ := ρ) []) (zget (999, 0, 0, 0) zc_Th_isRunning) (zcut zu_Th_isRunning) (zorc (ρ := ρ) []) kr (fun _ _ => none) 400 14 [none] [(0, t0)] h := qg_Th_isRunning_14 kr t0 h
set_option maxRecDepth 100000 in
theorem qg_Th_isRunning {ρ : Type} (kr : Int → zH → Option ρ) (c14 : Int → zH → Option ρ) (a0 : Int) (h : zH) : (zob h 6 a0 fun p1 =>
if (zhD h 6 p1 4) = 114 then c14 1 h
else c14 0 h) = zseg zPP true (zcal (ρ := ρ) []) (zget (999, 0, 0, 0) zc_Th_isRunning) (zcut zu_Th_isRunning) (zorc (ρ := ρ) [(14, [none], [(0, none)], zap1 c14)]) kr (fun _ _ => none) 400 0 [some (106, a0)] [] h := by rfl
set_option maxRecDepth 100000 in
theorem qe_Th_isRunning {ρ : Type} (kr : Int → zH → Option ρ) (a0 : Int) (h : zH) : Th_isRunning a0 h kr = zseg zPP true (zcal (ρ := ρ) []) (zget (999, 0, 0, 0) zc_Th_isRunning) (zcut zu_Th_isRunning) (zorc (ρ := ρ) [(14, [none], [(0, none)], zap1 (Th_isRunning_14 kr))]) kr (fun _ _ => none) 400 0 [some (106, a0)] [] h := qg_Th_isRunning kr (Th_isRunning_14 kr) a0 h
def zc_Th_isAnyRunning : List zI := [(0, 0, 0, 0), (16, 0, 2, 0), (10, 0, 2, 0), (10, 0, 1, 0), (69, 26, 30, 0), (999, 0, 0, 0), (999, 0, 0, 0), (10, 0, 2, 0), (14, 0, 0, 136), (100, 0, 0, 36), (69, 20, 30, 0), (999, 0, 0, 0), (999, 0, 0, 0), (14, 0, 0, 136), (10, 0, 2, 0), (94, 0, 0, 36), (110, 0, 66, 255), (999, 0, 0, 0), (999, 0, 0, 0), (60, 5, 24, 0), (999, 0, 0, 0), (999, 0, 0, 0), (0, 1, 0, 0), (130, 0, 1, 0), (22, 1, 2, 0), (999, 0, 0, 0), (999, 0, 0, 0), (72, (-25), 2, 0), (999, 0, 0, 0), (999, 0, 0, 0), (0, 0, 0, 0), (130, 0, 1, 0)]
def zu_Th_isAnyRunning : List (Nat × List Bool) := [(2, [true, true, true]), (30, [false, false, false])]
set_option maxRecDepth 100000 in
theorem qg_Th_isAnyRunning_30 {ρ : Type} (kr : Int → zH → Option ρ) (h : zH) : (kr 0 h) = zseg zPP true (zcal (ρ := ρ) []) (zget (999, 0, 0, 0) zc_Th_isAnyRunning) (zcut zu_Th_isAnyRunning) (zorc (ρ := ρ) []) kr (fun _ _ => none) 400 30 [none, none, none] [] h := by rfl
set_option maxRecDepth 100000 in
theorem qe_Th_isAnyRunning_30 {ρ : Type} (kr : Int → zH → Option ρ) (h : zH) : Th_isAnyRunning_30 kr h = zseg zPP true (zcal (ρ := ρ) []) (zget (999, 0, 0, 0) zc_Th_isAnyRunning) (zcut zu_Th_isAnyRunning) (zorc (ρ := ρ) []) kr (fun _ _ => none) 400 30 [none, none, none] [] h := qg_Th_isAnyRunning_30 kr h
set_option maxRecDepth 100000 in
theorem qg_Th_isAnyRunning_2b {ρ : Type} (kr : Int → zH → Option ρ) (r2 : Int → Int → Int → zH → Option ρ) (F_Th_isRunning : Int → zH → (Int → zH → Option ρ) → Option ρ) (c30 : zH → Option ρ) (a0 a1 a2 : Int) (h : zH) : (if a2 < a1 then (zob h 36 a0 fun p1 =>
if a2 < (zhL h 36 p1 : Int) then (zob h 36 a0 fun p2 =>
zix (zhL h 36 p2) a2 fun j3 =>
zob h 6 (zhD h 36 p2 j3) fun _ =>
F_Th_isRunning (zhD h 36 p2 j3) h  fun v4 h5 =>
if v4 = 0 then r2 a0 a1 (wr (a2 + 1)) h5
else kr 1 h5)
else c30 h)
else c30 h) = zseg zPP true (zcal (ρ := ρ) [(255, [none], zca1 F_Th_isRunning)]) (zget (999, 0, 0, 0) zc_Th_isAnyRunning) (zcut zu_Th_isAnyRunning) (zorc (ρ := ρ) [(2, [some (136, none), some (0, none), some (0, none)], [], zap3 r2), (30, [none, none, none], [], zap0 c30)]) kr (fun _ _ => none) 400 2 [some (136, a0), some (0, a1), some (0, a2)] [] h := by rfl
set_option maxRecDepth 100000 in
theorem qe_Th_isAnyRunning_2b {ρ : Type} (kr : Int → zH → Option ρ) (r2 : Int → Int → Int → zH → Option ρ) (a0 a1 a2 : Int) (h : zH) : Th_isAnyRunning_2b kr r2 a0 a1 a2 h = zseg zPP true (zcal (ρ := ρ) [(255, [none], zca1 Th_isRunning)]) (zget (999, 0, 0, 0) zc_Th_isAnyRunning) (zcut zu_Th_isAnyRunning) (zorc (ρ := ρ) [(2, [some (136, none), some (0, none), some (0, none)], [], zap3 r2), (30, [none, none, none], [], zap0 (Th_isAnyRunning_30 kr))]) kr (fun _ _ => none) 400 2 [some (136, a0), some (0, a1), some (0, a2)] [] h := qg_Th_isAnyRunning_2b kr r2 Th_isRunning (Th_isAnyRunning_30 kr) a0 a1 a2 h
set_option maxRecDepth 100000 in
theorem qg_Th_isAnyRunning {ρ : Type} (kr : Int → zH → Option ρ) (c2 : Int → Int → Int → zH → Option ρ) (a0 a1 : Int) (h : zH) : (c2 a0 a1 0 h) = zseg zPP true (zcal (ρ := ρ) []) (zget (999, 0, 0, 0) zc_Th_isAnyRunning) (zcut zu_Th_isAnyRunning) (zorc (ρ := ρ) [(2, [some (136, none), some (0, none), some (0, none)], [], zap3 c2)]) kr (fun _ _ => none) 400 0 [some (136, a0), some (0, a1), none] [] h := by rfl
set_option maxRecDepth 100000 in
theorem qe_Th_isAnyRunning {ρ : Type} (kr : Int → zH → Option ρ) (a0 a1 : Int) (h : zH) : Th_isAnyRunning a0 a1 h kr = zseg zPP true (zcal (ρ := ρ) []) (zget (999, 0, 0, 0) zc_Th_isAnyRunning) (zcut zu_Th_isAnyRunning) (zorc (ρ := ρ) [(2, [some (136, none), some (0, none), some (0, none)], [], zap3 (Th_isAnyRunning_2 kr))]) kr (fun _ _ => none) 400 0 [some (136, a0), some (0, a1), none] [] h := qg_Th_isAnyRunning kr (Th_isAnyRunning_2 kr) a0 a1 h
def zc_Th_isWaiting : List zI := [(14, 0, 0, 106), (80, 6, 34, 4), (999, 0, 0, 0), (999, 0, 0, 0), (1, 119, 0, 0), (999, 0, 0, 0), (67, 7, 13, 0), (999, 0, 0, 0), (999, 0, 0, 0), (0, 1, 0, 0), (72, 4, 14, 0), (999, 0, 0, 0), (999, 0, 0, 0), (0, 0, 0, 0), (130, 0, 1, 0)]
def zu_Th_isWaiting : List (Nat × List Bool) := [(14, [false])]
set_option maxRecDepth 100000 in
theorem qg_Th_isWaiting_14 {ρ : Type} (kr : Int → zH → Option ρ) (t0 : Int) (h : zH) : (znar 1 t0 fun x1 => kr x1 h) = zseg zPP true (zcal (ρ := ρ) []) (zget (999, 0, 0, 0) zc_Th_isWaiting) (zcut zu_Th_isWaiting) (zorc (ρ := ρ) []) kr (fun _ _ => none) 400 14 [none] [(0, t0)] h := by rfl
set_option maxRecDepth 100000 in
theorem qe_Th_isWaiting_14 {ρ : Type} (kr : Int → zH → Option ρ) (t0 : Int) (h : zH) : Th_isWaiting_14 kr t0 h = zseg zPP true (zcal (ρ := ρ) []) (zget (999, 0, 0, 0) zc_Th_isWaiting) (zcut zu_Th_isWaiting) (zorc (ρ := ρ) []) kr (fun _ _ => none) 400 14 [none] [(0, t0)] h := qg_Th_isWaiting_14 kr t0 h
set_option maxRecDepth 100000 in
theorem qg_Th_isWaiting {ρ : Type} (kr : Int → zH → Option ρ) (c14 : Int → zH → Option ρ) (a0 : Int) (h : zH) : (zob h 6 a0 fun p1 =>
if (zhD h 6 p1 4) = 119 then c14 1 h
else c14 0 h) = zseg zPP true (zcal (ρ := ρ) []) (zget (999, 0, 0, 0) zc_Th_isWaiting) (zcut zu_Th_isWaiting) (zorc (ρ := ρ) [(14, [none], [(0, none)], zap1 c14)]) kr (fun _ _ => none) 400 0 [some (106, a0)] [] h := by rfl
set_option maxRecDepth 100000 in
theorem qe_Th_isWaiting {ρ : Type} (kr : Int → zH → Option ρ) (a0 : Int) (h : zH) : Th_isWaiting a0 h kr = zseg zPP true (zcal (ρ := ρ) []) (zget (999, 0, 0, 0) zc_Th_isWaiting) (zcut zu_Th_isWaiting) (zorc (ρ := ρ) [(14, [none], [(0, none)], zap1 (Th_isWaiting_14 kr))]) kr (fun _ _ => none) 400 0 [some (106, a0)] [] h := qg_Th_isWaiting kr (Th_isWaiting_14 kr) a0 h
def zc_Th_lowestOfWaiting_36 : List zI := [(0, 0, 0, 0), (16, 0, 2, 0), (10, 0, 2, 0), (10, 0, 1, 0), (69, 28, 32, 0), (999, 0, 0, 0), (999, 0, 0, 0), (10, 0, 2, 0), (14, 0, 0, 136), (100, 0, 0, 36), (69, 22, 32, 0), (999, 0, 0, 0), (999, 0, 0, 0), (14, 0, 0, 136), (10, 0, 2, 0), (94, 0, 0, 36), (110, 0, 70, 256), (999, 0, 0, 0), (999, 0, 0, 0), (60, 7, 26, 0), (999, 0, 0, 0), (999, 0, 0, 0), (14, 0, 0, 136), (10, 0, 2, 0), (94, 0, 0, 36), (132, 0, 0, 106), (22, 1, 2, 0), (999, 0, 0, 0), (999, 0, 0, 0), (72, (-27), 2, 0), (999, 0, 0, 0), (999, 0, 0, 0), (7, 0, 0, 106), (132, 0, 0, 106)]
def zu_Th_lowestOfWaiting_36 : List (Nat × List Bool) := [(2, [true, true, true]), (32, [false, false, false])]
set_option maxRecDepth 100000 in
theorem qg_Th_lowestOfWaiting_36_32 {ρ : Type} (kr : Int → zH → Option ρ) (h : zH) : (kr (-1) h) = zseg zPP true (zcal (ρ := ρ) []) (zget (999, 0, 0, 0) zc_Th_lowestOfWaiting_36) (zcut zu_Th_lowestOfWaiting_36) (zorc (ρ := ρ) []) kr (fun _ _ => none) 400 32 [none, none, none] [] h := by rfl
set_option maxRecDepth 100000 in
theorem qe_Th_lowestOfWaiting_36_32 {ρ : Type} (kr : Int → zH → Option ρ) (h : zH) : Th_lowestOfWaiting_36_32 kr h = zseg zPP true (zcal (ρ := ρ) []) (zget (999, 0, 0, 0) zc_Th_lowestOfWaiting_36) (zcut zu_Th_lowestOfWaiting_36) (zorc (ρ := ρ) []) kr (fun _ _ => none) 400 32 [none, none, none] [] h := qg_Th_lowestOfWaiting_36_32 kr h
set_option maxRecDepth 100000 in
theorem qg_Th_lowestOfWaiting_36_2b {ρ : Type} (kr : Int → zH → Option ρ) (r2 : Int → Int → Int → zH → Option ρ) (F_Th_isWaiting : Int → zH → (Int → zH → Option ρ) → Option ρ) (c32 : zH → Option ρ) (a0 a1 a2 : Int) (h : zH) : (if a2 < a1 then (zob h 36 a0 fun p1 =>
if a2 < (zhL h 36 p1 : Int) then (zob h 36 a0 fun p2 =>
zix (zhL h 36 p2) a2 fun j3 =>
zob h 6 (zhD h 36 p2 j3) fun _ =>
F_Th_isWaiting (zhD h 36 p2 j3) h  fun v4 h5 =>
if v4 = 0 then r2 a0 a1 (wr (a2 + 1)) h5
else zob h5 36 a0 fun p6 =>
zix (zhL h5 36 p6) a2 fun j7 =>
kr (zhD h5 36 p6 j7) h5)
else c32 h)
else c32 h) = zseg zPP true (zcal (ρ := ρ) [(256, [none], zca1 F_Th_isWaiting)]) (zget (999, 0, 0, 0) zc_Th_lowestOfWaiting_36) (zcut zu_Th_lowestOfWaiting_36) (zorc (ρ := ρ) [(2, [some (136, none), some (0, none), some (0, none)], [], zap3 r2), (32, [none, none, none], [], zap0 c32)]) kr (fun _ _ => none) 400 2 [some (136, a0), some (0, a1), some (0, a2)] [] h := by rfl
set_option maxRecDepth 100000 in
theorem qe_Th_lowestOfWaiting_36_2b {ρ : Type} (kr : Int → zH → Option ρ) (r2 : Int → Int → Int → zH → Option ρ) (a0 a1 a2 : Int) (h : zH) : Th_lowestOfWaiting_36_2b kr r2 a0 a1 a2 h = zseg zPP true (zcal (ρ := ρ) [(256, [none], zca1 Th_isWaiting)]) (zget (999, 0, 0, 0) zc_Th_lowestOfWaiting_36) (zcut zu_Th_lowestOfWaiting_36) (zorc (ρ := ρ) [(2, [some (136, none), some (0, none), some (0, none)], [], zap3 r2), (32, [none, none, none], [], zap0 (Th_lowestOfWaiting_36_32 kr))]) kr (fun _ _ => none) 400 2 [some (136, a0), some (0, a1), some (0, a2)] [] h := qg_Th_lowestOfWaiting_36_2b kr r2 Th_isWaiting (Th_lowestOfWaiting_36_32 kr) a0 a1 a2 h
set_option maxRecDepth 100000 in
theorem qg_Th_lowestOfWaiting_36 {ρ : Type} (kr : Int → zH → Option ρ) (c2 : Int → Int → Int → zH → Option ρ) (a0 a1 : Int) (h : zH) : (c2 a0 a1 0 h) = zseg zPP true (zcal (ρ := ρ) []) (zget (999, 0, 0, 0) zc_Th_lowestOfWaiting_36) (zcut zu_Th_lowestOfWaiting_36) (zorc (ρ := ρ) [(2, [some (136, none), some (0, none), some (0, none)], [], zap3 c2)]) kr (fun _ _ => none) 400 0 [some (136, a0), some (0, a1), none] [] h := by rfl
set_option maxRecDepth 100000 in
theorem qe_Th_lowestOfWaiting_36 {ρ : Type} (kr : Int → zH → Option ρ) (a0 a1 : Int) (h : zH) : Th_lowestOfWaiting_36 a0 a1 h kr = zseg zPP true (zcal (ρ := ρ) []) (zget (999, 0, 0, 0) zc_Th_lowestOfWaiting_36) (zcut zu_Th_lowestOfWaiting_36) (zorc (ρ := ρ) [(2, [some (136, none), some (0, none), some (0, none)], [], zap3 (Th_lowestOfWaiting_36_2 kr))]) kr (fun _ _ => none) 400 0 [some (136, a0), some (0, a1), none] [] h := qg_Th_lowestOfWaiting_36 kr (Th_lowestOfWaiting_36_2 kr) a0 a1 h
def zc_Bl_isAllEnded : List zI := [(14, 0, 0, 110), (80, 10, 30, 2), (999, 0, 0, 0), (999, 0, 0, 0), (14, 0, 0, 110), (80, 10, 30, 2), (999, 0, 0, 0), (999, 0, 0, 0), (100, 0, 0, 36), (113, 0, 86, 263), (999, 0, 0, 0), (999, 0, 0, 0), (61, 22, 34, 0), (999, 0, 0, 0), (999, 0, 0, 0), (14, 0, 0, 110), (80, 10, 30, 2), (999, 0, 0, 0), (999, 0, 0, 0), (14, 0, 0, 110), (80, 10, 30, 2), (999, 0, 0, 0), (999, 0, 0, 0), (100, 0, 0, 36), (113, 0, 90, 265), (999, 0, 0, 0), (999, 0, 0, 0), (74, 7, 34, 0), (999, 0, 0, 0), (999, 0, 0, 0), (0, 1, 0, 0), (72, 4, 35, 0), (999, 0, 0, 0), (999, 0, 0, 0), (0, 0, 0, 0), (130, 0, 1, 0)]
def zu_Bl_isAllEnded : List (Nat × List Bool) := [(34, [false]), (35, [false])]
set_option maxRecDepth 100000 in
theorem qg_Bl_isAllEnded_35 {ρ : Type} (kr : Int → zH → Option ρ) (t0 : Int) (h : zH) : (znar 1 t0 fun x1 => kr x1 h) = zseg zPP true (zcal (ρ := ρ) []) (zget (999, 0, 0, 0) zc_Bl_isAllEnded) (zcut zu_Bl_isAllEnded) (zorc (ρ := ρ) []) kr (fun _ _ => none) 400 35 [none] [(0, t0)] h := by rfl
set_option maxRecDepth 100000 in
theorem qe_Bl_isAllEnded_35 {ρ : Type} (kr : Int → zH → Option ρ) (t0 : Int) (h : zH) : Bl_isAllEnded_35 kr t0 h = zseg zPP true (zcal (ρ := ρ) []) (zget (999, 0, 0, 0) zc_Bl_isAllEnded) (zcut zu_Bl_isAllEnded) (zorc (ρ := ρ) []) kr (fun _ _ => none) 400 35 [none] [(0, t0)] h := qg_Bl_isAllEnded_35 kr t0 h
set_option maxRecDepth 100000 in
theorem qg_Bl_isAllEnded_34 {ρ : Type} (kr : Int → zH → Option ρ) (c35 : Int → zH → Option ρ) (h : zH) : (c35 0 h) = zseg zPP true (zcal (ρ := ρ) []) (zget (999, 0, 0, 0) zc_Bl_isAllEnded) (zcut zu_Bl_isAllEnded) (zorc (ρ := ρ) [(35, [none], [(0, none)], zap1 c35)]) kr (fun _ _ => none) 400 34 [none] [] h := by rfl
set_option maxRecDepth 100000 in
theorem qe_Bl_isAllEnded_34 {ρ : Type} (kr : Int → zH → Option ρ) (h : zH) : Bl_isAllEnded_34 kr h = zseg zPP true (zcal (ρ := ρ) []) (zget (999, 0, 0, 0) zc_Bl_isAllEnded) (zcut zu_Bl_isAllEnded) (zorc (ρ := ρ) [(35, [none], [(0, none)], zap1 (Bl_isAllEnded_35 kr))]) kr (fun _ _ => none) 400 34 [none] [] h := qg_Bl_isAllEnded_34 kr (Bl_isAllEnded_35 kr) h
set_option maxRecDepth 100000 in
theorem qg_Bl_isAllEnded {ρ : Type} (kr : Int → zH → Option ρ) (F_Th_isAnyRunning : Int → Int → zH → (Int → zH → Option ρ) → Option ρ) (F_Th_lowestOfWaiting_36 : Int → Int → zH → (Int → zH → Option ρ) → Option ρ) (c34 : zH → Option ρ) (c35 : Int → zH → Option ρ) (a0 : Int) (h : zH) : (zob h 10 a0 fun p1 =>
zob h 10 a0 fun p2 =>
zob h 36 (zhD h 10 p2 2) fun p3 =>
F_Th_isAnyRunning (zhD h 10 p1 2) (zhL h 36 p3 : Int) h  fun v4 h5 =>
if v4 = 0 then (zob h5 10 a0 fun p6 =>
zob h5 10 a0 fun p7 =>
zob h5 36 (zhD h5 10 p7 2) fun p8 =>
F_Th_lowestOfWaiting_36 (zhD h5 10 p6 2) (zhL h5 36 p8 : Int) h5  fun v9 h10 =>
if v9 < 0 then c35 1 h10
else c34 h10)
else c34 h5) = zseg zPP true (zcal (ρ := ρ) [(263, [none, none], zca2 F_Th_isAnyRunning), (265, [none, none], zca2 F_Th_lowestOfWaiting_36)]) (zget (999, 0, 0, 0) zc_Bl_isAllEnded) (zcut zu_Bl_isAllEnded) (zorc (ρ := ρ) [(34, [none], [], zap0 c34), (35, [none], [(0, none)], zap1 c35)]) kr (fun _ _ => none) 400 0 [some (110, a0)] [] h := by rfl
set_option maxRecDepth 100000 in
theorem qe_Bl_isAllEnded {ρ : Type} (kr : Int → zH → Option ρ) (a0 : Int) (h : zH) : Bl_isAllEnded a0 h kr = zseg zPP true (zcal (ρ := ρ) [(263, [none, none], zca2 Th_isAnyRunning), (265, [none, none], zca2 Th_lowestOfWaiting_36)]) (zget (999, 0, 0, 0) zc_Bl_isAllEnded) (zcut zu_Bl_isAllEnded) (zorc (ρ := ρ) [(34, [none], [], zap0 (Bl_isAllEnded_34 kr)), (35, [none], [(0, none)], zap1 (Bl_isAllEnded_35 kr))]) kr (fun _ _ => none) 400 0 [some (110, a0)] [] h := qg_Bl_isAllEnded kr Th_isAnyRunning Th_lowestOfWaiting_36 (Bl_isAllEnded_34 kr) (Bl_isAllEnded_35 kr) a0 h
def zc_La_isRunning : List zI := [(14, 0, 0, 109), (80, 9, 11, 10), (999, 0, 0, 0), (999, 0, 0, 0), (1, 114, 0, 0), (999, 0, 0, 0), (67, 7, 13, 0), (999, 0, 0, 0), (999, 0, 0, 0), (0, 1, 0, 0), (72, 4, 14, 0), (999, 0, 0, 0), (999, 0, 0, 0), (0, 0, 0, 0), (130, 0, 1, 0)]
def zu_La_isRunning : List (Nat × List Bool) := [(14, [false])]
set_option maxRecDepth 100000 in
theorem qg_La_isRunning_14 {ρ : Type} (kr : Int → zH → Option ρ) (t0 : Int) (h : zH) : (znar 1 t0 fun x1 => kr x1 h) = zseg zPP true (zcal (ρ := ρ) []) (zget (999, 0, 0, 0) zc_La_isRunning) (zcut zu_La_isRunning) (zorc (ρ := ρ) []) kr (fun _ _ => none) 400 14 [none] [(0, t0)] h := by rfl
set_option maxRecDepth 100000 in
theorem qe_La_isRunning_14 {ρ : Type} (kr : Int → zH → Option ρ) (t0 : Int) (h : zH) : La_isRunning_14 kr t0 h = zseg zPP true (zcal (ρ := ρ) []) (zget (999, 0, 0, 0) zc_La_isRunning) (zcut zu_La_isRunning) (zorc (ρ := ρ) []) kr (fun _ _ => none) 400 14 [none] [(0, t0)] h := qg_La_isRunning_14 kr t0 h
set_option maxRecDepth 100000 in
theorem qg_La_isRunning {ρ : Type} (kr : Int → zH → Option ρ) (c14 : Int → zH → Option ρ) (a0 : Int) (h : zH) : (zob h 9 a0 fun p1 =>
if (zhD h 9 p1 10) = 114 then c14 1 h
else c14 0 h) = zseg zPP true (zcal (ρ := ρ) []) (zget (999, 0, 0, 0) zc_La_isRunning) (zcut zu_La_isRunning) (zorc (ρ := ρ) [(14, [none], [(0, none)], zap1 c14)]) kr (fun _ _ => none) 400 0 [some (109, a0)] [] h := by rfl
set_option maxRecDepth 100000 in
theorem qe_La_isRunning {ρ : Type} (kr : Int → zH → Option ρ) (a0 : Int) (h : zH) : La_isRunning a0 h kr = zseg zPP true (zcal (ρ := ρ) []) (zget (999, 0, 0, 0) zc_La_isRunning) (zcut zu_La_isRunning) (zorc (ρ := ρ) [(14, [none], [(0, none)], zap1 (La_isRunning_14 kr))]) kr (fun _ _ => none) 400 0 [some (109, a0)] [] h := qg_La_isRunning kr (La_isRunning_14 kr) a0 h
def zc_Le_hasOpenChild : List zI := [(0, 0, 0, 0), (16, 0, 2, 0), (10, 0, 2, 0), (14, 0, 0, 101), (80, 1, 31, 3), (999, 0, 0, 0), (999, 0, 0, 0), (69, 36, 43, 0), (999, 0, 0, 0), (999, 0, 0, 0), (14, 0, 0, 101), (80, 1, 19, 1), (999, 0, 0, 0), (999, 0, 0, 0), (10, 0, 2, 0), (94, 0, 0, 21), (80, 9, 75, 4), (999, 0, 0, 0), (999, 0, 0, 0), (14, 0, 1, 109), (76, 17, 37, 0), (999, 0, 0, 0), (999, 0, 0, 0), (14, 0, 0, 101), (80, 1, 19, 1), (999, 0, 0, 0), (999, 0, 0, 0), (10, 0, 2, 0), (94, 0, 0, 21), (110, 0, 38, 231), (999, 0, 0, 0), (999, 0, 0, 0), (61, 5, 37, 0), (999, 0, 0, 0), (999, 0, 0, 0), (0, 1, 0, 0), (130, 0, 1, 0), (22, 1, 2, 0), (999, 0, 0, 0), (999, 0, 0, 0), (72, (-38), 2, 0), (999, 0, 0, 0), (999, 0, 0, 0), (0, 0, 0, 0), (130, 0, 1, 0)]
def zu_Le_hasOpenChild : List (Nat × List Bool) := [(2, [true, true, true]), (37, [true, true, true])]
set_option maxRecDepth 100000 in
theorem qg_Le_hasOpenChild_37 {ρ : Type} (kr : Int → zH → Option ρ) (r2 : Int → Int → Int → zH → Option ρ) (a0 a1 a2 : Int) (h : zH) : (r2 a0 a1 (wr (a2 + 1)) h) = zseg zPP true (zcal (ρ := ρ) []) (zget (999, 0, 0, 0) zc_Le_hasOpenChild) (zcut zu_Le_hasOpenChild) (zorc (ρ := ρ) [(2, [some (101, none), some (109, none), some (0, none)], [], zap3 r2)]) kr (fun _ _ => none) 400 37 [some (101, a0), some (109, a1), some (0, a2)] [] h := by rfl
set_option maxRecDepth 100000 in
theorem qe_Le_hasOpenChild_37 {ρ : Type} (kr : Int → zH → Option ρ) (r2 : Int → Int → Int → zH → Option ρ) (a0 a1 a2 : Int) (h : zH) : Le_hasOpenChild_37 kr r2 a0 a1 a2 h = zseg zPP true (zcal (ρ := ρ) []) (zget (999, 0, 0, 0) zc_Le_hasOpenChild) (zcut zu_Le_hasOpenChild) (zorc (ρ := ρ) [(2, [some (101, none), some (109, none), some (0, none)], [], zap3 r2)]) kr (fun _ _ => none) 400 37 [some (101, a0), some (109, a1), some (0, a2)] [] h := qg_Le_hasOpenChild_37 kr r2 a0 a1 a2 h
set_option maxRecDepth 100000 in
theorem qg_Le_hasOpenChild_2b {ρ : Type} (kr : Int → zH → Option ρ) (r2 : Int → Int → Int → zH → Option ρ) (F_La_isOver : Int → zH → (Int → zH → Option ρ) → Option ρ) (c37 : Int → Int → Int → zH → Option ρ) (a0 a1 a2 : Int) (h : zH) : (zob h 1 a0 fun p1 =>
if a2 < (zhD h 1 p1 3) then (zob h 1 a0 fun p2 =>
zob h 21 (zhD h 1 p2 1) fun p3 =>
zix (zhL h 21 p3) a2 fun j4 =>
zob h 9 (zhD h 21 p3 j4) fun p5 =>
if (zhD h 9 p5 4) = a1 then (zob h 1 a0 fun p6 =>
zob h 21 (zhD h 1 p6 1) fun p7 =>
zix (zhL h 21 p7) a2 fun j8 =>
zob h 9 (zhD h 21 p7 j8) fun _ =>
F_La_isOver (zhD h 21 p7 j8) h  fun v9 h10 =>
if v9 = 0 then kr 1 h10
else c37 a0 a1 a2 h10)
else c37 a0 a1 a2 h)
else kr 0 h) = zseg zPP true (zcal (ρ := ρ) [(231, [none], zca1 F_La_isOver)]) (zget (999, 0, 0, 0) zc_Le_hasOpenChild) (zcut zu_Le_hasOpenChild) (zorc (ρ := ρ) [(37, [some (101, none), some (109, none), some (0, none)], [], zap3 c37)]) kr (fun _ _ => none) 400 2 [some (101, a0), some (109, a1), some (0, a2)] [] h := by rfl
set_option maxRecDepth 100000 in
theorem qe_Le_hasOpenChild_2b {ρ : Type} (kr : Int → zH → Option ρ) (r2 : Int → Int → Int → zH → Option ρ) (a0 a1 a2 : Int) (h : zH) : Le_hasOpenChild_2b kr r2 a0 a1 a2 h = zseg zPP true (zcal (ρ := ρ) [(231, [none], zca1 La_isOver)]) (zget (999, 0, 0, 0) zc_Le_hasOpenChild) (zcut zu_Le_hasOpenChild) (zorc (ρ := ρ) [(37, [some (101, none), some (109, none), some (0, none)], [], zap3 (Le_hasOpenChild_37 kr r2))]) kr (fun _ _ => none) 400 2 [some (101, a0), some (109, a1), some (0, a2)] [] h := qg_Le_hasOpenChild_2b kr r2 La_isOver (Le_hasOpenChild_37 kr r2) a0 a1 a2 h
set_option maxRecDepth 100000 in
theorem qg_Le_hasOpenChild {ρ : Type} (kr : Int → zH → Option ρ) (c2 : Int → Int → Int → zH → Option ρ) (a0 a1 : Int) (h : zH) : (c2 a0 a1 0 h) = zseg zPP true (zcal (ρ := ρ) []) (zget (999, 0, 0, 0) zc_Le_hasOpenChild) (zcut zu_Le_hasOpenChild) (zorc (ρ := ρ) [(2, [some (101, none), some (109, none), some (0, none)], [], zap3 c2)]) kr (fun _ _ => none) 400 0 [some (101, a0), some (109, a1), none] [] h := by rfl
set_option maxRecDepth 100000 in
theorem qe_Le_hasOpenChild {ρ : Type} (kr : Int → zH → Option ρ) (a0 a1 : Int) (h : zH) : Le_hasOpenChild a0 a1 h kr = zseg zPP true (zcal (ρ := ρ) []) (zget (999, 0, 0, 0) zc_Le_hasOpenChild) (zcut zu_Le_hasOpenChild) (zorc (ρ := ρ) [(2, [some (101, none), some (109, none), some (0, none)], [], zap3 (Le_hasOpenChild_2 kr))]) kr (fun _ _ => none) 400 0 [some (101, a0), some (109, a1), none] [] h := qg_Le_hasOpenChild kr (Le_hasOpenChild_2 kr) a0 a1 h
def zc_Le_endIfDone : List zI := [(14, 0, 1, 109), (20, 0, 2, 109), (0, 0, 0, 0), (16, 0, 3, 0), (10, 0, 3, 0), (1, 12, 0, 0), (999, 0, 0, 0), (69, 51, 58, 0), (999, 0, 0, 0), (999, 0, 0, 0), (14, 0, 2, 109), (73, 47, 58, 0), (999, 0, 0, 0), (999, 0, 0, 0), (14, 0, 2, 109), (110, 0, 96, 233), (999, 0, 0, 0), (999, 0, 0, 0), (60, 22, 40, 0), (999, 0, 0, 0), (999, 0, 0, 0), (14, 0, 2, 109), (80, 9, 99, 9), (999, 0, 0, 0), (999, 0, 0, 0), (14, 0, 2, 109), (80, 9, 102, 6), (999, 0, 0, 0), (999, 0, 0, 0), (68, 11, 40, 0), (999, 0, 0, 0), (999, 0, 0, 0), (14, 0, 0, 101), (14, 0, 2, 109), (110, 0, 105, 252), (999, 0, 0, 0), (999, 0, 0, 0), (60, 4, 41, 0), (999, 0, 0, 0), (999, 0, 0, 0), (133, 0, 0, 0), (14, 0, 2, 109), (1, 100, 0, 0), (999, 0, 0, 0), (82, 9, 79, 10), (999, 0, 0, 0), (999, 0, 0, 0), (14, 0, 2, 109), (80, 9, 75, 4), (999, 0, 0, 0), (999, 0, 0, 0), (20, 0, 2, 109), (22, 1, 3, 0), (999, 0, 0, 0), (999, 0, 0, 0), (72, (-51), 4, 0), (999, 0, 0, 0), (999, 0, 0, 0), (133, 0, 0, 0)]
def zu_Le_endIfDone : List (Nat × List Bool) := [(4, [true, false, true, true]), (40, [false, false, false, false]), (58, [false, false, false, false])]
set_option maxRecDepth 100000 in
theorem qg_Le_endIfDone_40 {ρ : Type} (kr : Int → zH → Option ρ) (h : zH) : (kr 0 h) = zseg zPP true (zcal (ρ := ρ) []) (zget (999, 0, 0, 0) zc_Le_endIfDone) (zcut zu_Le_endIfDone) (zorc (ρ := ρ) []) kr (fun _ _ => none) 400 40 [none, none, none, none] [] h := by rfl
set_option maxRecDepth 100000 in
theorem qe_Le_endIfDone_40 {ρ : Type} (kr : Int → zH → Option ρ) (h : zH) : Le_endIfDone_40 kr h = zseg zPP true (zcal (ρ := ρ) []) (zget (999, 0, 0, 0) zc_Le_endIfDone) (zcut zu_Le_endIfDone) (zorc (ρ := ρ) []) kr (fun _ _ => none) 400 40 [none, none, none, none] [] h := qg_Le_endIfDone_40 kr h
set_option maxRecDepth 100000 in
theorem qg_Le_endIfDone_58 {ρ : Type} (kr : Int → zH → Option ρ) (h : zH) : (kr 0 h) = zseg zPP true (zcal (ρ := ρ) []) (zget (999, 0, 0, 0) zc_Le_endIfDone) (zcut zu_Le_endIfDone) (zorc (ρ := ρ) []) kr (fun _ _ => none) 400 58 [none, none, none, none] [] h := by rfl
set_option maxRecDepth 100000 in
theorem qe_Le_endIfDone_58 {ρ : Type} (kr : Int → zH → Option ρ) (h : zH) : Le_endIfDone_58 kr h = zseg zPP true (zcal (ρ := ρ) []) (zget (999, 0, 0, 0) zc_Le_endIfDone) (zcut zu_Le_endIfDone) (zorc (ρ := ρ) []) kr (fun _ _ => none) 400 58 [none, none, none, none] [] h := qg_Le_endIfDone_58 kr h
set_option maxRecDepth 100000 in
theorem qg_Le_endIfDone_4b {ρ : Type} (kr : Int → zH → Option ρ) (r4 : Int → Int → Int → zH → Option ρ) (F_La_isRunning : Int → zH → (Int → zH → Option ρ) → Option ρ) (F_Le_hasOpenChild : Int → Int → zH → (Int → zH → Option ρ) → Option ρ) (c40 : zH → Option ρ) (c58 : zH → Option ρ) (a0 a2 a3 : Int) (h : zH) : (if a3 < 12 then (if a2 < 0 then c58 h
else zob h 9 a2 fun _ =>
F_La_isRunning a2 h  fun v1 h2 =>
if v1 = 0 then c40 h2
else zob h2 9 a2 fun p3 =>
zob h2 9 a2 fun p4 =>
if (zhD h2 9 p3 9) < (zhD h2 9 p4 6) then c40 h2
else zob h2 1 a0 fun _ =>
F_Le_hasOpenChild a0 a2 h2  fun v5 h6 =>
if v5 = 0 then (zob h6 9 a2 fun p7 =>
zlet (zset h6 9 p7 10 100) fun h8 =>
zob h8 9 a2 fun p9 =>
r4 a0 (zhD h8 9 p9 4) (wr (a3 + 1)) h8)
else c40 h6)
else c58 h) = zseg zPP true (zcal (ρ := ρ) [(233, [none], zca1 F_La_isRunning), (252, [none, none], zca2 F_Le_hasOpenChild)]) (zget (999, 0, 0, 0) zc_Le_endIfDone) (zcut zu_Le_endIfDone) (zorc (ρ := ρ) [(4, [some (101, none), none, some (109, none), some (0, none)], [], zap3 r4), (40, [none, none, none, none], [], zap0 c40), (58, [none, none, none, none], [], zap0 c58)]) kr (fun _ _ => none) 400 4 [some (101, a0), none, some (109, a2), some (0, a3)] [] h := by rfl
set_option maxRecDepth 100000 in
theorem qe_Le_endIfDone_4b {ρ : Type} (kr : Int → zH → Option ρ) (r4 : Int → Int → Int → zH → Option ρ) (a0 a2 a3 : Int) (h : zH) : Le_endIfDone_4b kr r4 a0 a2 a3 h = zseg zPP true (zcal (ρ := ρ) [(233, [none], zca1 La_isRunning), (252, [none, none], zca2 Le_hasOpenChild)]) (zget (999, 0, 0, 0) zc_Le_endIfDone) (zcut zu_Le_endIfDone) (zorc (ρ := ρ) [(4, [some (101, none), none, some (109, none), some (0, none)], [], zap3 r4), (40, [none, none, none, none], [], zap0 (Le_endIfDone_40 kr)), (58, [none, none, none, none], [], zap0 (Le_endIfDone_58 kr))]) kr (fun _ _ => none) 400 4 [some (101, a0), none, some (109, a2), some (0, a3)] [] h := qg_Le_endIfDone_4b kr r4 La_isRunning Le_hasOpenChild (Le_endIfDone_40 kr) (Le_endIfDone_58 kr) a0 a2 a3 h
set_option maxRecDepth 100000 in
theorem qg_Le_endIfDone {ρ : Type} (kr : Int → zH → Option ρ) (c4 : Int → Int → Int → zH → Option ρ) (a0 a1 : Int) (h : zH) : (c4 a0 a1 0 h) = zseg zPP true (zcal (ρ := ρ) []) (zget (999, 0, 0, 0) zc_Le_endIfDone) (zcut zu_Le_endIfDone) (zorc (ρ := ρ) [(4, [some (101, none), none, some (109, none), some (0, none)], [], zap3 c4)]) kr (fun _ _ => none) 400 0 [some (101, a0), some (109, a1), none, none] [] h := by rfl
set_option maxRecDepth 100000 in
theorem qe_Le_endIfDone {ρ : Type} (kr : Int → zH → Option ρ) (a0 a1 : Int) (h : zH) : Le_endIfDone a0 a1 h kr = zseg zPP true (zcal (ρ := ρ) []) (zget (999, 0, 0, 0) zc_Le_endIfDone) (zcut zu_Le_endIfDone) (zorc (ρ := ρ) [(4, [some (101, none), none, some (109, none), some (0, none)], [], zap3 (Le_endIfDone_4 kr))]) kr (fun _ _ => none) 400 0 [some (101, a0), some (109, a1), none, none] [] h := qg_Le_endIfDone kr (Le_endIfDone_4 kr) a0 a1 h
def zc_Un_cutTo : List zI := [(10, 0, 1, 0), (16, 0, 2, 0), (10, 0, 2, 0), (14, 0, 0, 103), (80, 3, 21, 2), (999, 0, 0, 0), (999, 0, 0, 0), (69, 16, 23, 0), (999, 0, 0, 0), (999, 0, 0, 0), (14, 0, 0, 103), (80, 3, 11, 0), (999, 0, 0, 0), (999, 0, 0, 0), (10, 0, 2, 0), (7, 0, 0, 111), (99, 0, 0, 26), (22, 1, 2, 0), (999, 0, 0, 0), (999, 0, 0, 0), (72, (-18), 2, 0), (999, 0, 0, 0), (999, 0, 0, 0), (14, 0, 0, 103), (10, 0, 1, 0), (82, 3, 21, 2), (999, 0, 0, 0), (999, 0, 0, 0), (133, 0, 0, 0)]
def zu_Un_cutTo : List (Nat × List Bool) := [(2, [true, true, true])]
set_option maxRecDepth 100000 in
theorem qg_Un_cutTo_2b {ρ : Type} (kr : Int → zH → Option ρ) (r2 : Int → Int → Int → zH → Option ρ) (a0 a1 a2 : Int) (h : zH) : (zob h 3 a0 fun p1 =>
if a2 < (zhD h 3 p1 2) then (zob h 3 a0 fun p4 =>
zob h 26 (zhD h 3 p4 0) fun p5 =>
zix (zhL h 26 p5) a2 fun j6 =>
zorn h 11 (-1) (zlet (zset h 26 p5 j6 (-1)) fun h7 =>
r2 a0 a1 (wr (a2 + 1)) h7))
else zob h 3 a0 fun p2 =>
zlet (zset h 3 p2 2 a1) fun h3 =>
kr 0 h3) = zseg zPP true (zcal (ρ := ρ) []) (zget (999, 0, 0, 0) zc_Un_cutTo) (zcut zu_Un_cutTo) (zorc (ρ := ρ) [(2, [some (103, none), some (0, none), some (0, none)], [], zap3 r2)]) kr (fun _ _ => none) 400 2 [some (103, a0), some (0, a1), some (0, a2)] [] h := by rfl
set_option maxRecDepth 100000 in
theorem qe_Un_cutTo_2b {ρ : Type} (kr : Int → zH → Option ρ) (r2 : Int → Int → Int → zH → Option ρ) (a0 a1 a2 : Int) (h : zH) : Un_cutTo_2b kr r2 a0 a1 a2 h = zseg zPP true (zcal (ρ := ρ) []) (zget (999, 0, 0, 0) zc_Un_cutTo) (zcut zu_Un_cutTo) (zorc (ρ := ρ) [(2, [some (103, none), some (0, none), some (0, none)], [], zap3 r2)]) kr (fun _ _ => none) 400 2 [some (103, a0), some (0, a1), some (0, a2)] [] h := qg_Un_cutTo_2b kr r2 a0 a1 a2 h
set_option maxRecDepth 100000 in
theorem qg_Un_cutTo {ρ : Type} (kr : Int → zH → Option ρ) (c2 : Int → Int → Int → zH → Option ρ) (a0 a1 : Int) (h : zH) : (c2 a0 a1 a1 h) = zseg zPP true (zcal (ρ := ρ) []) (zget (999, 0, 0, 0) zc_Un_cutTo) (zcut zu_Un_cutTo) (zorc (ρ := ρ) [(2, [some (103, none), some (0, none), some (0, none)], [], zap3 c2)]) kr (fun _ _ => none) 400 0 [some (103, a0), some (0, a1), none] [] h := by rfl
set_option maxRecDepth 100000 in
theorem qe_Un_cutTo {ρ : Type} (kr : Int → zH → Option ρ) (a0 a1 : Int) (h : zH) : Un_cutTo a0 a1 h kr = zseg zPP true (zcal (ρ := ρ) []) (zget (999, 0, 0, 0) zc_Un_cutTo) (zcut zu_Un_cutTo) (zorc (ρ := ρ) [(2, [some (103, none), some (0, none), some (0, none)], [], zap3 (Un_cutTo_2 kr))]) kr (fun _ _ => none) 400 0 [some (103, a0), some (0, a1), none] [] h := qg_Un_cutTo kr (Un_cutTo_2 kr) a0 a1 h
def zc_Un_dropBlock : List zI := [(0, 0, 0, 0), (16, 0, 2, 0), (0, 0, 0, 0), (16, 0, 3, 0), (10, 0, 3, 0), (14, 0, 0, 103), (80, 3, 21, 2), (999, 0, 0, 0), (999, 0, 0, 0), (69, 37, 46, 0), (999, 0, 0, 0), (999, 0, 0, 0), (14, 0, 0, 103), (80, 3, 11, 0), (999, 0, 0, 0), (999, 0, 0, 0), (10, 0, 3, 0), (94, 0, 0, 26), (80, 11, 48, 0), (999, 0, 0, 0), (999, 0, 0, 0), (14, 0, 1, 110), (75, 18, 40, 0), (999, 0, 0, 0), (999, 0, 0, 0), (14, 0, 0, 103), (80, 3, 11, 0), (999, 0, 0, 0), (999, 0, 0, 0), (10, 0, 2, 0), (14, 0, 0, 103), (80, 3, 11, 0), (999, 0, 0, 0), (999, 0, 0, 0), (10, 0, 3, 0), (94, 0, 0, 26), (99, 0, 0, 26), (22, 1, 2, 0), (999, 0, 0, 0), (999, 0, 0, 0), (22, 1, 3, 0), (999, 0, 0, 0), (999, 0, 0, 0), (72, (-39), 4, 0), (999, 0, 0, 0), (999, 0, 0, 0), (14, 0, 0, 103), (10, 0, 2, 0), (110, 0, 74, 284), (999, 0, 0, 0), (999, 0, 0, 0), (133, 0, 0, 0)]
def zu_Un_dropBlock : List (Nat × List Bool) := [(4, [true, true, true, true]), (40, [true, true, true, true])]
set_option maxRecDepth 100000 in
theorem qg_Un_dropBlock_40 {ρ : Type} (kr : Int → zH → Option ρ) (r4 : Int → Int → Int → Int → zH → Option ρ) (a0 a1 a2 a3 : Int) (h : zH) : (r4 a0 a1 a2 (wr (a3 + 1)) h) = zseg zPP true (zcal (ρ := ρ) []) (zget (999, 0, 0, 0) zc_Un_dropBlock) (zcut zu_Un_dropBlock) (zorc (ρ := ρ) [(4, [some (103, none), some (110, none), some (0, none), some (0, none)], [], zap4 r4)]) kr (fun _ _ => none) 400 40 [some (103, a0), some (110, a1), some (0, a2), some (0, a3)] [] h := by rfl
set_option maxRecDepth 100000 in
theorem qe_Un_dropBlock_40 {ρ : Type} (kr : Int → zH → Option ρ) (r4 : Int → Int → Int → Int → zH → Option ρ) (a0 a1 a2 a3 : Int) (h : zH) : Un_dropBlock_40 kr r4 a0 a1 a2 a3 h = zseg zPP true (zcal (ρ := ρ) []) (zget (999, 0, 0, 0) zc_Un_dropBlock) (zcut zu_Un_dropBlock) (zorc (ρ := ρ) [(4, [some (103, none), some (110, none), some (0, none), some (0, none)], [], zap4 r4)]) kr (fun _ _ => none) 400 40 [some (103, a0), some (110, a1), some (0, a2), some (0, a3)] [] h := qg_Un_dropBlock_40 kr r4 a0 a1 a2 a3 h
set_option maxRecDepth 100000 in
theorem qg_Un_dropBlock_4b {ρ : Type} (kr : Int → zH → Option ρ) (r4 : Int → Int → Int → Int → zH → Option ρ) (F_Un_cutTo : Int → Int → zH → (Int → zH → Option ρ) → Option ρ) (c40 : Int → Int → Int → Int → zH → Option ρ) (a0 a1 a2 a3 : Int) (h : zH) : (zob h 3 a0 fun p1 =>
if a3 < (zhD h 3 p1 2) then (zob h 3 a0 fun p4 =>
zob h 26 (zhD h 3 p4 0) fun p5 =>
zix (zhL h 26 p5) a3 fun j6 =>
zob h 11 (zhD h 26 p5 j6) fun p7 =>
if (zhD h 11 p7 0) = a1 then c40 a0 a1 a2 a3 h
else zob h 3 a0 fun p8 =>
zob h 3 a0 fun p9 =>
zob h 26 (zhD h 3 p9 0) fun p10 =>
zix (zhL h 26 p10) a3 fun j11 =>
zob h 26 (zhD h 3 p8 0) fun p12 =>
zix (zhL h 26 p12) a2 fun j13 =>
zorn h 11 (zhD h 26 p10 j11) (zlet (zset h 26 p12 j13 (zhD h 26 p10 j11)) fun h14 =>
c40 a0 a1 (wr (a2 + 1)) a3 h14))
else zob h 3 a0 fun _ =>
F_Un_cutTo a0 a2 h  fun _ h3 =>
kr 0 h3) = zseg zPP true (zcal (ρ := ρ) [(284, [none, none], zca2 F_Un_cutTo)]) (zget (999, 0, 0, 0) zc_Un_dropBlock) (zcut zu_Un_dropBlock) (zorc (ρ := ρ) [(40, [some (103, none), some (110, none), some (0, none), some (0, none)], [], zap4 c40)]) kr (fun _ _ => none) 400 4 [some (103, a0), some (110, a1), some (0, a2), some (0, a3)] [] h := by rfl
set_option maxRecDepth 100000 in
theorem qe_Un_dropBlock_4b {ρ : Type} (kr : Int → zH → Option ρ) (r4 : Int → Int → Int → Int → zH → Option ρ) (a0 a1 a2 a3 : Int) (h : zH) : Un_dropBlock_4b kr r4 a0 a1 a2 a3 h = zseg zPP true (zcal (ρ := ρ) [(284, [none, none], zca2 Un_cutTo)]) (zget (999, 0, 0, 0) zc_Un_dropBlock) (zcut zu_Un_dropBlock) (zorc (ρ := ρ) [(40, [some (103, none), some (110, none), some (0, none), some (0, none)], [], zap4 (Un_dropBlock_40 kr r4))]) kr (fun _ _ => none) 400 4 [some (103, a0), some (110, a1), some (0, a2), some (0, a3)] [] h := qg_Un_dropBlock_4b kr r4 Un_cutTo (Un_dropBlock_40 kr r4) a0 a1 a2 a3 h
set_option maxRecDepth 100000 in
theorem qg_Un_dropBlock {ρ : Type} (kr : Int → zH → Option ρ) (c4 : Int → Int → Int → Int → zH → Option ρ) (a0 a1 : Int) (h : zH) : (c4 a0 a1 0 0 h) = zseg zPP true (zcal (ρ := ρ) []) (zget (999, 0, 0, 0) zc_Un_dropBlock) (zcut zu_Un_dropBlock) (zorc (ρ := ρ) [(4, [some (103, none), some (110, none), some (0, none), some (0, none)], [], zap4 c4)]) kr (fun _ _ => none) 400 0 [some (103, a0), some (110, a1), none, none] [] h := by rfl
set_option maxRecDepth 100000 in
theorem qe_Un_dropBlock {ρ : Type} (kr : Int → zH → Option ρ) (a0 a1 : Int) (h : zH) : Un_dropBlock a0 a1 h kr = zseg zPP true (zcal (ρ := ρ) []) (zget (999, 0, 0, 0) zc_Un_dropBlock) (zcut zu_Un_dropBlock) (zorc (ρ := ρ) [(4, [some (103, none), some (110, none), some (0, none), some (0, none)], [], zap4 (Un_dropBlock_4 kr))]) kr (fun _ _ => none) 400 0 [some (103, a0), some (110, a1), none, none] [] h := qg_Un_dropBlock kr (Un_dropBlock_4 kr) a0 a1 h
def zc_Co_endIfEnded : List zI := [(14, 0, 1, 110), (110, 0, 368, 172), (999, 0, 0, 0), (999, 0, 0, 0), (61, 4, 8, 0), (999, 0, 0, 0), (999, 0, 0, 0), (133, 0, 0, 0), (0, 0, 0, 0), (16, 0, 2, 0), (10, 0, 2, 0), (0, 2, 0, 0), (69, 19, 31, 0), (999, 0, 0, 0), (999, 0, 0, 0), (14, 0, 0, 102), (80, 2, 18, 2), (999, 0, 0, 0), (999, 0, 0, 0), (10, 0, 2, 0), (94, 0, 0, 23), (14, 0, 1, 110), (110, 0, 371, 282), (999, 0, 0, 0), (999, 0, 0, 0), (22, 1, 2, 0), (999, 0, 0, 0), (999, 0, 0, 0), (72, (-18), 10, 0), (999, 0, 0, 0), (999, 0, 0, 0), (14, 0, 1, 110), (80, 10, 144, 0), (999, 0, 0, 0), (999, 0, 0, 0), (50, 0, 0, 0), (80, 9, 374, 9), (999, 0, 0, 0), (999, 0, 0, 0), (0, 1, 0, 0), (30, 0, 0, 0), (82, 9, 374, 9), (999, 0, 0, 0), (999, 0, 0, 0), (14, 0, 0, 102), (80, 2, 39, 0), (999, 0, 0, 0), (999, 0, 0, 0), (14, 0, 1, 110), (80, 10, 144, 0), (999, 0, 0, 0), (999, 0, 0, 0), (110, 0, 377, 251), (999, 0, 0, 0), (999, 0, 0, 0), (133, 0, 0, 0)]
def zu_Co_endIfEnded : List (Nat × List Bool) := [(10, [true, true, true])]
set_option maxRecDepth 100000 in
theorem qg_Co_endIfEnded_10b {ρ : Type} (kr : Int → zH → Option ρ) (r10 : Int → Int → Int → zH → Option ρ) (F_Le_endIfDone : Int → Int → zH → (Int → zH → Option ρ) → Option ρ) (F_Un_dropBlock : Int → Int → zH → (Int → zH → Option ρ) → Option ρ) (a0 a1 a2 : Int) (h : zH) : (if a2 < 2 then (zob h 2 a0 fun p9 =>
zob h 23 (zhD h 2 p9 2) fun p10 =>
zix (zhL h 23 p10) a2 fun j11 =>
zob h 3 (zhD h 23 p10 j11) fun _ =>
F_Un_dropBlock (zhD h 23 p10 j11) a1 h  fun _ h13 =>
r10 a0 a1 (wr (a2 + 1)) h13)
else zob h 10 a1 fun p1 =>
zob h 9 (zhD h 10 p1 0) fun p2 =>
zob h 9 (zhD h 10 p1 0) fun p3 =>
zlet (zset h 9 p3 9 (wr ((zhD h 9 p2 9) + 1))) fun h4 =>
zob h4 2 a0 fun p5 =>
zob h4 10 a1 fun p6 =>
zob h4 1 (zhD h4 2 p5 0) fun _ =>
F_Le_endIfDone (zhD h4 2 p5 0) (zhD h4 10 p6 0) h4  fun _ h8 =>
kr 0 h8) = zseg zPP true (zcal (ρ := ρ) [(251, [none, none], zca2 F_Le_endIfDone), (282, [none, none], zca2 F_Un_dropBlock)]) (zget (999, 0, 0, 0) zc_Co_endIfEnded) (zcut zu_Co_endIfEnded) (zorc (ρ := ρ) [(10, [some (102, none), some (110, none), some (0, none)], [], zap3 r10)]) kr (fun _ _ => none) 400 10 [some (102, a0), some (110, a1), some (0, a2)] [] h := by rfl
set_option maxRecDepth 100000 in
theorem qe_Co_endIfEnded_10b {ρ : Type} (kr : Int → zH → Option ρ) (r10 : Int → Int → Int → zH → Option ρ) (a0 a1 a2 : Int) (h : zH) : Co_endIfEnded_10b kr r10 a0 a1 a2 h = zseg zPP true (zcal (ρ := ρ) [(251, [none, none], zca2 Le_endIfDone), (282, [none, none], zca2 Un_dropBlock)]) (zget (999, 0, 0, 0) zc_Co_endIfEnded) (zcut zu_Co_endIfEnded) (zorc (ρ := ρ) [(10, [some (102, none), some (110, none), some (0, none)], [], zap3 r10)]) kr (fun _ _ => none) 400 10 [some (102, a0), some (110, a1), some (0, a2)] [] h := qg_Co_endIfEnded_10b kr r10 Le_endIfDone Un_dropBlock a0 a1 a2 h
set_option maxRecDepth 100000 in
theorem qg_Co_endIfEnded {ρ : Type} (kr : Int → zH → Option ρ) (F_Bl_isAllEnded : Int → zH → (Int → zH → Option ρ) → Option ρ) (c10 : Int → Int → Int → zH → Option ρ) (a0 a1 : Int) (h : zH) : (zob h 10 a1 fun _ =>
F_Bl_isAllEnded a1 h  fun v1 h2 =>
if v1 = 0 then kr 0 h2
else c10 a0 a1 0 h2) = zseg zPP true (zcal (ρ := ρ) [(172, [none], zca1 F_Bl_isAllEnded)]) (zget (999, 0, 0, 0) zc_Co_endIfEnded) (zcut zu_Co_endIfEnded) (zorc (ρ := ρ) [(10, [some (102, none), some (110, none), some (0, none)], [], zap3 c10)]) kr (fun _ _ => none) 400 0 [some (102, a0), some (110, a1), none] [] h := by rfl
set_option maxRecDepth 100000 in
theorem qe_Co_endIfEnded {ρ : Type} (kr : Int → zH → Option ρ) (a0 a1 : Int) (h : zH) : Co_endIfEnded a0 a1 h kr = zseg zPP true (zcal (ρ := ρ) [(172, [none], zca1 Bl_isAllEnded)]) (zget (999, 0, 0, 0) zc_Co_endIfEnded) (zcut zu_Co_endIfEnded) (zorc (ρ := ρ) [(10, [some (102, none), some (110, none), some (0, none)], [], zap3 (Co_endIfEnded_10 kr))]) kr (fun _ _ => none) 400 0 [some (102, a0), some (110, a1), none] [] h := qg_Co_endIfEnded kr Bl_isAllEnded (Co_endIfEnded_10 kr) a0 a1 h
def zc_Un_take : List zI := [(0, 0, 0, 0), (16, 0, 2, 0), (10, 0, 2, 0), (14, 0, 1, 110), (80, 10, 73, 3), (999, 0, 0, 0), (999, 0, 0, 0), (100, 0, 0, 37), (69, 46, 54, 0), (999, 0, 0, 0), (999, 0, 0, 0), (14, 0, 0, 103), (80, 3, 21, 2), (999, 0, 0, 0), (999, 0, 0, 0), (14, 0, 0, 103), (80, 3, 11, 0), (999, 0, 0, 0), (999, 0, 0, 0), (100, 0, 0, 26), (69, 34, 54, 0), (999, 0, 0, 0), (999, 0, 0, 0), (14, 0, 0, 103), (80, 3, 11, 0), (999, 0, 0, 0), (999, 0, 0, 0), (14, 0, 0, 103), (80, 3, 21, 2), (999, 0, 0, 0), (999, 0, 0, 0), (14, 0, 1, 110), (80, 10, 73, 3), (999, 0, 0, 0), (999, 0, 0, 0), (10, 0, 2, 0), (94, 0, 0, 37), (99, 0, 0, 26), (14, 0, 0, 103), (50, 0, 0, 0), (80, 3, 21, 2), (999, 0, 0, 0), (999, 0, 0, 0), (0, 1, 0, 0), (30, 0, 0, 0), (82, 3, 21, 2), (999, 0, 0, 0), (999, 0, 0, 0), (22, 1, 2, 0), (999, 0, 0, 0), (999, 0, 0, 0), (72, (-49), 2, 0), (999, 0, 0, 0), (999, 0, 0, 0), (133, 0, 0, 0)]
def zu_Un_take : List (Nat × List Bool) := [(2, [true, true, true]), (54, [false, false, false])]
set_option maxRecDepth 100000 in
theorem qg_Un_take_54 {ρ : Type} (kr : Int → zH → Option ρ) (h : zH) : (kr 0 h) = zseg zPP true (zcal (ρ := ρ) []) (zget (999, 0, 0, 0) zc_Un_take) (zcut zu_Un_take) (zorc (ρ := ρ) []) kr (fun _ _ => none) 400 54 [none, none, none] [] h := by rfl
set_option maxRecDepth 100000 in
theorem qe_Un_take_54 {ρ : Type} (kr : Int → zH → Option ρ) (h : zH) : Un_take_54 kr h = zseg zPP true (zcal (ρ := ρ) []) (zget (999, 0, 0, 0) zc_Un_take) (zcut zu_Un_take) (zorc (ρ := ρ) []) kr (fun _ _ => none) 400 54 [none, none, none] [] h := qg_Un_take_54 kr h
set_option maxRecDepth 100000 in
theorem qg_Un_take_2b {ρ : Type} (kr : Int → zH → Option ρ) (r2 : Int → Int → Int → zH → Option ρ) (c54 : zH → Option ρ) (a0 a1 a2 : Int) (h : zH) : (zob h 10 a1 fun p1 =>
zob h 37 (zhD h 10 p1 3) fun p2 =>
if a2 < (zhL h 37 p2 : Int) then (zob h 3 a0 fun p3 =>
zob h 3 a0 fun p4 =>
zob h 26 (zhD h 3 p4 0) fun p5 =>
if (zhD h 3 p3 2) < (zhL h 26 p5 : Int) then (zob h 3 a0 fun p6 =>
zob h 3 a0 fun p7 =>
zob h 10 a1 fun p8 =>
zob h 37 (zhD h 10 p8 3) fun p9 =>
zix (zhL h 37 p9) a2 fun j10 =>
zob h 26 (zhD h 3 p6 0) fun p11 =>
zix (zhL h 26 p11) (zhD h 3 p7 2) fun j12 =>
zorn h 11 (zhD h 37 p9 j10) (zlet (zset h 26 p11 j12 (zhD h 37 p9 j10)) fun h13 =>
zob h13 3 a0 fun p14 =>
zob h13 3 a0 fun p15 =>
zlet (zset h13 3 p15 2 (wr ((zhD h13 3 p14 2) + 1))) fun h16 =>
r2 a0 a1 (wr (a2 + 1)) h16))
else c54 h)
else c54 h) = zseg zPP true (zcal (ρ := ρ) []) (zget (999, 0, 0, 0) zc_Un_take) (zcut zu_Un_take) (zorc (ρ := ρ) [(2, [some (103, none), some (110, none), some (0, none)], [], zap3 r2), (54, [none, none, none], [], zap0 c54)]) kr (fun _ _ => none) 400 2 [some (103, a0), some (110, a1), some (0, a2)] [] h := by rfl
set_option maxRecDepth 100000 in
theorem qe_Un_take_2b {ρ : Type} (kr : Int → zH → Option ρ) (r2 : Int → Int → Int → zH → Option ρ) (a0 a1 a2 : Int) (h : zH) : Un_take_2b kr r2 a0 a1 a2 h = zseg zPP true (zcal (ρ := ρ) []) (zget (999, 0, 0, 0) zc_Un_take) (zcut zu_Un_take) (zorc (ρ := ρ) [(2, [some (103, none), some (110, none), some (0, none)], [], zap3 r2), (54, [none, none, none], [], zap0 (Un_take_54 kr))]) kr (fun _ _ => none) 400 2 [some (103, a0), some (110, a1), some (0, a2)] [] h := qg_Un_take_2b kr r2 (Un_take_54 kr) a0 a1 a2 h
set_option maxRecDepth 100000 in
theorem qg_Un_take {ρ : Type} (kr : Int → zH → Option ρ) (c2 : Int → Int → Int → zH → Option ρ) (a0 a1 : Int) (h : zH) : (c2 a0 a1 0 h) = zseg zPP true (zcal (ρ := ρ) []) (zget (999, 0, 0, 0) zc_Un_take) (zcut zu_Un_take) (zorc (ρ := ρ) [(2, [some (103, none), some (110, none), some (0, none)], [], zap3 c2)]) kr (fun _ _ => none) 400 0 [some (103, a0), some (110, a1), none] [] h := by rfl
set_option maxRecDepth 100000 in
theorem qe_Un_take {ρ : Type} (kr : Int → zH → Option ρ) (a0 a1 : Int) (h : zH) : Un_take a0 a1 h kr = zseg zPP true (zcal (ρ := ρ) []) (zget (999, 0, 0, 0) zc_Un_take) (zcut zu_Un_take) (zorc (ρ := ρ) [(2, [some (103, none), some (110, none), some (0, none)], [], zap3 (Un_take_2 kr))]) kr (fun _ _ => none) 400 0 [some (103, a0), some (110, a1), none] [] h := qg_Un_take kr (Un_take_2 kr) a0 a1 h
def zc_Co_give : List zI := [(14, 0, 2, 109), (113, 0, 121, 170), (999, 0, 0, 0), (999, 0, 0, 0), (20, 0, 3, 110), (14, 0, 1, 103), (14, 0, 3, 110), (110, 0, 127, 281), (999, 0, 0, 0), (999, 0, 0, 0), (14, 0, 0, 102), (14, 0, 3, 110), (110, 0, 130, 199), (999, 0, 0, 0), (999, 0, 0, 0), (133, 0, 0, 0)]
def zu_Co_give : List (Nat × List Bool) := []
set_option maxRecDepth 100000 in
theorem qg_Co_give {ρ : Type} (kr : Int → zH → Option ρ) (F_Bl_nextOf : Int → zH → (Int → zH → Option ρ) → Option ρ) (F_Co_endIfEnded : Int → Int → zH → (Int → zH → Option ρ) → Option ρ) (F_Un_take : Int → Int → zH → (Int → zH → Option ρ) → Option ρ) (a0 a1 a2 : Int) (h : zH) : (F_Bl_nextOf a2 h  fun v1 h2 =>
zob h2 3 a1 fun _ =>
F_Un_take a1 v1 h2  fun _ h4 =>
zob h4 2 a0 fun _ =>
F_Co_endIfEnded a0 v1 h4  fun _ h6 =>
kr 0 h6) = zseg zPP true (zcal (ρ := ρ) [(170, [none], zca1 F_Bl_nextOf), (199, [none, none], zca2 F_Co_endIfEnded), (281, [none, none], zca2 F_Un_take)]) (zget (999, 0, 0, 0) zc_Co_give) (zcut zu_Co_give) (zorc (ρ := ρ) []) kr (fun _ _ => none) 400 0 [some (102, a0), some (103, a1), some (109, a2), none] [] h := by rfl
set_option maxRecDepth 100000 in
theorem qe_Co_give {ρ : Type} (kr : Int → zH → Option ρ) (a0 a1 a2 : Int) (h : zH) : Co_give a0 a1 a2 h kr = zseg zPP true (zcal (ρ := ρ) [(170, [none], zca1 Bl_nextOf), (199, [none, none], zca2 Co_endIfEnded), (281, [none, none], zca2 Un_take)]) (zget (999, 0, 0, 0) zc_Co_give) (zcut zu_Co_give) (zorc (ρ := ρ) []) kr (fun _ _ => none) 400 0 [some (102, a0), some (103, a1), some (109, a2), none] [] h := qg_Co_give kr Bl_nextOf Co_endIfEnded Un_take a0 a1 a2 h
def zc_La_hasBlockToGive : List zI := [(14, 0, 0, 109), (80, 9, 40, 5), (999, 0, 0, 0), (999, 0, 0, 0), (73, 27, 31, 0), (999, 0, 0, 0), (999, 0, 0, 0), (14, 0, 0, 109), (80, 9, 11, 10), (999, 0, 0, 0), (999, 0, 0, 0), (1, 114, 0, 0), (999, 0, 0, 0), (67, 18, 31, 0), (999, 0, 0, 0), (999, 0, 0, 0), (14, 0, 0, 109), (80, 9, 65, 8), (999, 0, 0, 0), (999, 0, 0, 0), (14, 0, 0, 109), (80, 9, 50, 6), (999, 0, 0, 0), (999, 0, 0, 0), (69, 7, 31, 0), (999, 0, 0, 0), (999, 0, 0, 0), (0, 1, 0, 0), (72, 4, 32, 0), (999, 0, 0, 0), (999, 0, 0, 0), (0, 0, 0, 0), (130, 0, 1, 0)]
def zu_La_hasBlockToGive : List (Nat × List Bool) := [(31, [false]), (32, [false])]
set_option maxRecDepth 100000 in
theorem qg_La_hasBlockToGive_32 {ρ : Type} (kr : Int → zH → Option ρ) (t0 : Int) (h : zH) : (znar 1 t0 fun x1 => kr x1 h) = zseg zPP true (zcal (ρ := ρ) []) (zget (999, 0, 0, 0) zc_La_hasBlockToGive) (zcut zu_La_hasBlockToGive) (zorc (ρ := ρ) []) kr (fun _ _ => none) 400 32 [none] [(0, t0)] h := by rfl
set_option maxRecDepth 100000 in
theorem qe_La_hasBlockToGive_32 {ρ : Type} (kr : Int → zH → Option ρ) (t0 : Int) (h : zH) : La_hasBlockToGive_32 kr t0 h = zseg zPP true (zcal (ρ := ρ) []) (zget (999, 0, 0, 0) zc_La_hasBlockToGive) (zcut zu_La_hasBlockToGive) (zorc (ρ := ρ) []) kr (fun _ _ => none) 400 32 [none] [(0, t0)] h := qg_La_hasBlockToGive_32 kr t0 h
set_option maxRecDepth 100000 in
theorem qg_La_hasBlockToGive_31 {ρ : Type} (kr : Int → zH → Option ρ) (c32 : Int → zH → Option ρ) (h : zH) : (c32 0 h) = zseg zPP true (zcal (ρ := ρ) []) (zget (999, 0, 0, 0) zc_La_hasBlockToGive) (zcut zu_La_hasBlockToGive) (zorc (ρ := ρ) [(32, [none], [(0, none)], zap1 c32)]) kr (fun _ _ => none) 400 31 [none] [] h := by rfl
set_option maxRecDepth 100000 in
theorem qe_La_hasBlockToGive_31 {ρ : Type} (kr : Int → zH → Option ρ) (h : zH) : La_hasBlockToGive_31 kr h = zseg zPP true (zcal (ρ := ρ) []) (zget (999, 0, 0, 0) zc_La_hasBlockToGive) (zcut zu_La_hasBlockToGive) (zorc (ρ := ρ) [(32, [none], [(0, none)], zap1 (La_hasBlockToGive_32 kr))]) kr (fun _ _ => none) 400 31 [none] [] h := qg_La_hasBlockToGive_31 kr (La_hasBlockToGive_32 kr) h
set_option maxRecDepth 100000 in
theorem qg_La_hasBlockToGive {ρ : Type} (kr : Int → zH → Option ρ) (c31 : zH → Option ρ) (c32 : Int → zH → Option ρ) (a0 : Int) (h : zH) : (zob h 9 a0 fun p1 =>
if (zhD h 9 p1 5) < 0 then c31 h
else zob h 9 a0 fun p2 =>
if (zhD h 9 p2 10) = 114 then (zob h 9 a0 fun p3 =>
zob h 9 a0 fun p4 =>
if (zhD h 9 p3 8) < (zhD h 9 p4 6) then c32 1 h
else c31 h)
else c31 h) = zseg zPP true (zcal (ρ := ρ) []) (zget (999, 0, 0, 0) zc_La_hasBlockToGive) (zcut zu_La_hasBlockToGive) (zorc (ρ := ρ) [(31, [none], [], zap0 c31), (32, [none], [(0, none)], zap1 c32)]) kr (fun _ _ => none) 400 0 [some (109, a0)] [] h := by rfl
set_option maxRecDepth 100000 in
theorem qe_La_hasBlockToGive {ρ : Type} (kr : Int → zH → Option ρ) (a0 : Int) (h : zH) : La_hasBlockToGive a0 h kr = zseg zPP true (zcal (ρ := ρ) []) (zget (999, 0, 0, 0) zc_La_hasBlockToGive) (zcut zu_La_hasBlockToGive) (zorc (ρ := ρ) [(31, [none], [], zap0 (La_hasBlockToGive_31 kr)), (32, [none], [(0, none)], zap1 (La_hasBlockToGive_32 kr))]) kr (fun _ _ => none) 400 0 [some (109, a0)] [] h := qg_La_hasBlockToGive kr (La_hasBlockToGive_31 kr) (La_hasBlockToGive_32 kr) a0 h
def zc_Co_giveBlocks : List zI := [(0, 0, 0, 0), (16, 0, 1, 0), (10, 0, 1, 0), (14, 0, 0, 102), (80, 2, 39, 0), (999, 0, 0, 0), (999, 0, 0, 0), (80, 1, 79, 3), (999, 0, 0, 0), (999, 0, 0, 0), (69, 65, 75, 0), (999, 0, 0, 0), (999, 0, 0, 0), (14, 0, 0, 102), (80, 2, 39, 0), (999, 0, 0, 0), (999, 0, 0, 0), (10, 0, 1, 0), (110, 0, 82, 241), (999, 0, 0, 0), (999, 0, 0, 0), (20, 0, 2, 109), (0, 0, 0, 0), (16, 0, 3, 0), (10, 0, 3, 0), (1, 6, 0, 0), (999, 0, 0, 0), (69, 42, 69, 0), (999, 0, 0, 0), (999, 0, 0, 0), (14, 0, 2, 109), (73, 38, 69, 0), (999, 0, 0, 0), (999, 0, 0, 0), (14, 0, 2, 109), (110, 0, 96, 235), (999, 0, 0, 0), (999, 0, 0, 0), (60, 31, 69, 0), (999, 0, 0, 0), (999, 0, 0, 0), (14, 0, 0, 102), (14, 0, 2, 109), (110, 0, 99, 183), (999, 0, 0, 0), (999, 0, 0, 0), (21, 0, 4, 103), (999, 0, 0, 0), (15, 0, 4, 103), (999, 0, 0, 0), (74, 6, 56, 0), (999, 0, 0, 0), (999, 0, 0, 0), (72, 16, 69, 0), (999, 0, 0, 0), (999, 0, 0, 0), (14, 0, 0, 102), (15, 0, 4, 103), (999, 0, 0, 0), (14, 0, 2, 109), (110, 0, 103, 184), (999, 0, 0, 0), (999, 0, 0, 0), (22, 1, 3, 0), (999, 0, 0, 0), (999, 0, 0, 0), (72, (-42), 24, 0), (999, 0, 0, 0), (999, 0, 0, 0), (22, 1, 1, 0), (999, 0, 0, 0), (999, 0, 0, 0), (72, (-70), 2, 0), (999, 0, 0, 0), (999, 0, 0, 0), (133, 0, 0, 0)]
def zu_Co_giveBlocks : List (Nat × List Bool) := [(2, [true, true, false, false, false]), (24, [true, true, true, true, false]), (69, [true, true, false, false, false])]
set_option maxRecDepth 100000 in
theorem qg_Co_giveBlocks_69 {ρ : Type} (kr : Int → zH → Option ρ) (r2 : Int → Int → zH → Option ρ) (a0 a1 : Int) (h : zH) : (r2 a0 (wr (a1 + 1)) h) = zseg zPP true (zcal (ρ := ρ) []) (zget (999, 0, 0, 0) zc_Co_giveBlocks) (zcut zu_Co_giveBlocks) (zorc (ρ := ρ) [(2, [some (102, none), some (0, none), none, none, none], [], zap2 r2)]) kr (fun _ _ => none) 400 69 [some (102, a0), some (0, a1), none, none, none] [] h := by rfl
set_option maxRecDepth 100000 in
theorem qe_Co_giveBlocks_69 {ρ : Type} (kr : Int → zH → Option ρ) (r2 : Int → Int → zH → Option ρ) (a0 a1 : Int) (h : zH) : Co_giveBlocks_69 kr r2 a0 a1 h = zseg zPP true (zcal (ρ := ρ) []) (zget (999, 0, 0, 0) zc_Co_giveBlocks) (zcut zu_Co_giveBlocks) (zorc (ρ := ρ) [(2, [some (102, none), some (0, none), none, none, none], [], zap2 r2)]) kr (fun _ _ => none) 400 69 [some (102, a0), some (0, a1), none, none, none] [] h := qg_Co_giveBlocks_69 kr r2 a0 a1 h
set_option maxRecDepth 100000 in
theorem qg_Co_giveBlocks_24b {ρ : Type} (kr : Int → zH → Option ρ) (r2 : Int → Int → zH → Option ρ) (r24 : Int → Int → Int → Int → zH → Option ρ) (F_Co_unitFor : Int → Int → zH → (Int → zH → Option ρ) → Option ρ) (F_Co_give : Int → Int → Int → zH → (Int → zH → Option ρ) → Option ρ) (F_La_hasBlockToGive : Int → zH → (Int → zH → Option ρ) → Option ρ) (c69 : Int → Int → zH → Option ρ) (a0 a1 a2 a3 : Int) (h : zH) : (if a3 < 6 then (if a2 < 0 then c69 a0 a1 h
else zob h 9 a2 fun _ =>
F_La_hasBlockToGive a2 h  fun v1 h2 =>
if v1 = 0 then c69 a0 a1 h2
else zob h2 2 a0 fun _ =>
F_Co_unitFor a0 a2 h2  fun v3 h4 =>
if v3 < 0 then c69 a0 a1 h4
else zob h4 2 a0 fun _ =>
F_Co_give a0 v3 a2 h4  fun _ h6 =>
r24 a0 a1 a2 (wr (a3 + 1)) h6)
else c69 a0 a1 h) = zseg zPP true (zcal (ρ := ρ) [(183, [none, none], zca2 F_Co_unitFor), (184, [none, none, none], zca3 F_Co_give), (235, [none], zca1 F_La_hasBlockToGive)]) (zget (999, 0, 0, 0) zc_Co_giveBlocks) (zcut zu_Co_giveBlocks) (zorc (ρ := ρ) [(24, [some (102, none), some (0, none), some (109, none), some (0, none), none], [], zap4 r24), (69, [some (102, none), some (0, none), none, none, none], [], zap2 c69)]) kr (fun _ _ => none) 400 24 [some (102, a0), some (0, a1), some (109, a2), some (0, a3), none] [] h := by rfl
set_option maxRecDepth 100000 in
theorem qe_Co_giveBlocks_24b {ρ : Type} (kr : Int → zH → Option ρ) (r2 : Int → Int → zH → Option ρ) (r24 : Int → Int → Int → Int → zH → Option ρ) (a0 a1 a2 a3 : Int) (h : zH) : Co_giveBlocks_24b kr r2 r24 a0 a1 a2 a3 h = zseg zPP true (zcal (ρ := ρ) [(183, [none, none], zca2 Co_unitFor), (184, [none, none, none], zca3 Co_give), (235, [none], zca1 La_hasBlockToGive)]) (zget (999, 0, 0, 0) zc_Co_giveBlocks) (zcut zu_Co_giveBlocks) (zorc (ρ := ρ) [(24, [some (102, none), some (0, none), some (109, none), some (0, none), none], [], zap4 r24), (69, [some (102, none), some (0, none), none, none, none], [], zap2 (Co_giveBlocks_69 kr r2))]) kr (fun _ _ => none) 400 24 [some (102, a0), some (0, a1), some (109, a2), some (0, a3), none] [] h := qg_Co_giveBlocks_24b kr r2 r24 Co_unitFor Co_give La_hasBlockToGive (Co_giveBlocks_69 kr r2) a0 a1 a2 a3 h
set_option maxRecDepth 100000 in
theorem qg_Co_giveBlocks_2b {ρ : Type} (kr : Int → zH → Option ρ) (r2 : Int → Int → zH → Option ρ) (F_Le_launchOf : Int → Int → zH → (Int → zH → Option ρ) → Option ρ) (c24 : Int → Int → Int → Int → zH → Option ρ) (a0 a1 : Int) (h : zH) : (zob h 2 a0 fun p1 =>
zob h 1 (zhD h 2 p1 0) fun p2 =>
if a1 < (zhD h 1 p2 3) then (zob h 2 a0 fun p3 =>
zob h 1 (zhD h 2 p3 0) fun _ =>
F_Le_launchOf (zhD h 2 p3 0) a1 h  fun v4 h5 =>
c24 a0 a1 v4 0 h5)
else kr 0 h) = zseg zPP true (zcal (ρ := ρ) [(241, [none, none], zca2 F_Le_launchOf)]) (zget (999, 0, 0, 0) zc_Co_giveBlocks) (zcut zu_Co_giveBlocks) (zorc (ρ := ρ) [(24, [some (102, none), some (0, none), some (109, none), some (0, none), none], [], zap4 c24)]) kr (fun _ _ => none) 400 2 [some (102, a0), some (0, a1), none, none, none] [] h := by rfl
set_option maxRecDepth 100000 in
theorem qe_Co_giveBlocks_2b {ρ : Type} (kr : Int → zH → Option ρ) (r2 : Int → Int → zH → Option ρ) (a0 a1 : Int) (h : zH) : Co_giveBlocks_2b kr r2 a0 a1 h = zseg zPP true (zcal (ρ := ρ) [(241, [none, none], zca2 Le_launchOf)]) (zget (999, 0, 0, 0) zc_Co_giveBlocks) (zcut zu_Co_giveBlocks) (zorc (ρ := ρ) [(24, [some (102, none), some (0, none), some (109, none), some (0, none), none], [], zap4 (Co_giveBlocks_24 kr r2))]) kr (fun _ _ => none) 400 2 [some (102, a0), some (0, a1), none, none, none] [] h := qg_Co_giveBlocks_2b kr r2 Le_launchOf (Co_giveBlocks_24 kr r2) a0 a1 h
set_option maxRecDepth 100000 in
theorem qg_Co_giveBlocks {ρ : Type} (kr : Int → zH → Option ρ) (c2 : Int → Int → zH → Option ρ) (a0 : Int) (h : zH) : (c2 a0 0 h) = zseg zPP true (zcal (ρ := ρ) []) (zget (999, 0, 0, 0) zc_Co_giveBlocks) (zcut zu_Co_giveBlocks) (zorc (ρ := ρ) [(2, [some (102, none), some (0, none), none, none, none], [], zap2 c2)]) kr (fun _ _ => none) 400 0 [some (102, a0), none, none, none, none] [] h := by rfl
set_option maxRecDepth 100000 in
theorem qe_Co_giveBlocks {ρ : Type} (kr : Int → zH → Option ρ) (a0 : Int) (h : zH) : Co_giveBlocks a0 h kr = zseg zPP true (zcal (ρ := ρ) []) (zget (999, 0, 0, 0) zc_Co_giveBlocks) (zcut zu_Co_giveBlocks) (zorc (ρ := ρ) [(2, [some (102, none), some (0, none), none, none, none], [], zap2 (Co_giveBlocks_2 kr))]) kr (fun _ _ => none) 400 0 [some (102, a0), none, none, none, none] [] h := qg_Co_giveBlocks kr (Co_giveBlocks_2 kr) a0 h
def zc_Gr_writeFirst : List zI := [(14, 0, 0, 111), (80, 11, 67, 5), (999, 0, 0, 0), (999, 0, 0, 0), (61, 4, 8, 0), (999, 0, 0, 0), (999, 0, 0, 0), (133, 0, 0, 0), (14, 0, 1, 122), (14, 0, 0, 111), (80, 11, 11, 3), (999, 0, 0, 0), (999, 0, 0, 0), (0, 0, 0, 0), (90, 0, 0, 43), (14, 0, 0, 111), (80, 11, 15, 4), (999, 0, 0, 0), (999, 0, 0, 0), (0, 0, 0, 0), (90, 0, 0, 44), (95, 0, 0, 22), (14, 0, 0, 111), (50, 0, 0, 0), (80, 11, 67, 5), (999, 0, 0, 0), (999, 0, 0, 0), (0, 1, 0, 0), (31, 0, 0, 0), (82, 11, 67, 5), (999, 0, 0, 0), (999, 0, 0, 0), (14, 0, 0, 111), (80, 11, 11, 3), (999, 0, 0, 0), (999, 0, 0, 0), (0, 1, 0, 0), (14, 0, 0, 111), (80, 11, 11, 3), (999, 0, 0, 0), (999, 0, 0, 0), (0, 0, 0, 0), (14, 0, 0, 111), (80, 11, 67, 5), (999, 0, 0, 0), (999, 0, 0, 0), (119, 0, 73, 43), (999, 0, 0, 0), (999, 0, 0, 0), (14, 0, 0, 111), (80, 11, 15, 4), (999, 0, 0, 0), (999, 0, 0, 0), (0, 1, 0, 0), (14, 0, 0, 111), (80, 11, 15, 4), (999, 0, 0, 0), (999, 0, 0, 0), (0, 0, 0, 0), (14, 0, 0, 111), (80, 11, 67, 5), (999, 0, 0, 0), (999, 0, 0, 0), (119, 0, 73, 44), (999, 0, 0, 0), (999, 0, 0, 0), (133, 0, 0, 0)]
def zu_Gr_writeFirst : List (Nat × List Bool) := []
set_option maxRecDepth 100000 in
theorem qg_Gr_writeFirst {ρ : Type} (kr : Int → zH → Option ρ) (a0 a1 : Int) (h : zH) : (zob h 11 a0 fun p1 =>
if (zhD h 11 p1 5) = 0 then kr 0 h
else zob h 11 a0 fun p2 =>
zob h 43 (zhD h 11 p2 3) fun p3 =>
zix (zhL h 43 p3) 0 fun j4 =>
zob h 11 a0 fun p5 =>
zob h 44 (zhD h 11 p5 4) fun p6 =>
zix (zhL h 44 p6) 0 fun j7 =>
zob h 22 a1 fun p8 =>
zix (zhL h 22 p8) (zhD h 43 p3 j4) fun j9 =>
zlet (zset h 22 p8 j9 (zhD h 44 p6 j7)) fun h10 =>
zob h10 11 a0 fun p11 =>
zob h10 11 a0 fun p12 =>
zlet (zset h10 11 p12 5 (wr ((zhD h10 11 p11 5) - 1))) fun h13 =>
zob h13 11 a0 fun p14 =>
zob h13 11 a0 fun p15 =>
zob h13 11 a0 fun p16 =>
zcopy 43 h13 (zhD h13 11 p14 3) 1 (zhD h13 11 p15 3) 0 (zhD h13 11 p16 5) fun h17 =>
zob h17 11 a0 fun p18 =>
zob h17 11 a0 fun p19 =>
zob h17 11 a0 fun p20 =>
zcopy 44 h17 (zhD h17 11 p18 4) 1 (zhD h17 11 p19 4) 0 (zhD h17 11 p20 5) fun h21 =>
kr 0 h21) = zseg zPP true (zcal (ρ := ρ) []) (zget (999, 0, 0, 0) zc_Gr_writeFirst) (zcut zu_Gr_writeFirst) (zorc (ρ := ρ) []) kr (fun _ _ => none) 400 0 [some (111, a0), some (122, a1)] [] h := by rfl
set_option maxRecDepth 100000 in
theorem qe_Gr_writeFirst {ρ : Type} (kr : Int → zH → Option ρ) (a0 a1 : Int) (h : zH) : Gr_writeFirst a0 a1 h kr = zseg zPP true (zcal (ρ := ρ) []) (zget (999, 0, 0, 0) zc_Gr_writeFirst) (zcut zu_Gr_writeFirst) (zorc (ρ := ρ) []) kr (fun _ _ => none) 400 0 [some (111, a0), some (122, a1)] [] h := qg_Gr_writeFirst kr a0 a1 h
def zc_Co_writeFirstOfBuffers : List zI := [(0, 0, 0, 0), (16, 0, 1, 0), (10, 0, 1, 0), (0, 2, 0, 0), (69, 48, 52, 0), (999, 0, 0, 0), (999, 0, 0, 0), (0, 0, 0, 0), (16, 0, 2, 0), (10, 0, 2, 0), (14, 0, 0, 102), (80, 2, 18, 2), (999, 0, 0, 0), (999, 0, 0, 0), (10, 0, 1, 0), (94, 0, 0, 23), (80, 3, 118, 2), (999, 0, 0, 0), (999, 0, 0, 0), (69, 27, 46, 0), (999, 0, 0, 0), (999, 0, 0, 0), (14, 0, 0, 102), (80, 2, 18, 2), (999, 0, 0, 0), (999, 0, 0, 0), (10, 0, 1, 0), (94, 0, 0, 23), (81, 3, 133, 0), (999, 0, 0, 0), (999, 0, 0, 0), (10, 0, 2, 0), (94, 0, 0, 26), (14, 0, 0, 102), (80, 2, 9, 1), (999, 0, 0, 0), (999, 0, 0, 0), (110, 0, 137, 216), (999, 0, 0, 0), (999, 0, 0, 0), (22, 1, 2, 0), (999, 0, 0, 0), (999, 0, 0, 0), (72, (-34), 9, 0), (999, 0, 0, 0), (999, 0, 0, 0), (22, 1, 1, 0), (999, 0, 0, 0), (999, 0, 0, 0), (72, (-47), 2, 0), (999, 0, 0, 0), (999, 0, 0, 0), (133, 0, 0, 0)]
def zu_Co_writeFirstOfBuffers : List (Nat × List Bool) := [(2, [true, true, false]), (9, [true, true, true])]
set_option maxRecDepth 100000 in
theorem qg_Co_writeFirstOfBuffers_9b {ρ : Type} (kr : Int → zH → Option ρ) (r2 : Int → Int → zH → Option ρ) (r9 : Int → Int → Int → zH → Option ρ) (F_Gr_writeFirst : Int → Int → zH → (Int → zH → Option ρ) → Option ρ) (a0 a1 a2 : Int) (h : zH) : (zob h 2 a0 fun p1 =>
zob h 23 (zhD h 2 p1 2) fun p2 =>
zix (zhL h 23 p2) a1 fun j3 =>
zob h 3 (zhD h 23 p2 j3) fun p4 =>
if a2 < (zhD h 3 p4 2) then (zob h 2 a0 fun p5 =>
zob h 23 (zhD h 2 p5 2) fun p6 =>
zix (zhL h 23 p6) a1 fun j7 =>
zob h 3 (zhD h 23 p6 j7) fun p8 =>
zob h 26 (zhD h 3 p8 0) fun p9 =>
zix (zhL h 26 p9) a2 fun j10 =>
zob h 2 a0 fun p11 =>
zob h 11 (zhD h 26 p9 j10) fun _ =>
F_Gr_writeFirst (zhD h 26 p9 j10) (zhD h 2 p11 1) h  fun _ h13 =>
r9 a0 a1 (wr (a2 + 1)) h13)
else r2 a0 (wr (a1 + 1)) h) = zseg zPP true (zcal (ρ := ρ) [(216, [none, none], zca2 F_Gr_writeFirst)]) (zget (999, 0, 0, 0) zc_Co_writeFirstOfBuffers) (zcut zu_Co_writeFirstOfBuffers) (zorc (ρ := ρ) [(2, [some (102, none), some (0, none), none], [], zap2 r2), (9, [some (102, none), some (0, none), some (0, none)], [], zap3 r9)]) kr (fun _ _ => none) 400 9 [some (102, a0), some (0, a1), some (0, a2)] [] h := by rfl
set_option maxRecDepth 100000 in
theorem qe_Co_writeFirstOfBuffers_9b {ρ : Type} (kr : Int → zH → Option ρ) (r2 : Int → Int → zH → Option ρ) (r9 : Int → Int → Int → zH → Option ρ) (a0 a1 a2 : Int) (h : zH) : Co_writeFirstOfBuffers_9b kr r2 r9 a0 a1 a2 h = zseg zPP true (zcal (ρ := ρ) [(216, [none, none], zca2 Gr_writeFirst)]) (zget (999, 0, 0, 0) zc_Co_writeFirstOfBuffers) (zcut zu_Co_writeFirstOfBuffers) (zorc (ρ := ρ) [(2, [some (102, none), some (0, none), none], [], zap2 r2), (9, [some (102, none), some (0, none), some (0, none)], [], zap3 r9)]) kr (fun _ _ => none) 400 9 [some (102, a0), some (0, a1), some (0, a2)] [] h := qg_Co_writeFirstOfBuffers_9b kr r2 r9 Gr_writeFirst a0 a1 a2 h
set_option maxRecDepth 100000 in
theorem qg_Co_writeFirstOfBuffers_2b {ρ : Type} (kr : Int → zH → Option ρ) (r2 : Int → Int → zH → Option ρ) (c9 : Int → Int → Int → zH → Option ρ) (a0 a1 : Int) (h : zH) : (if a1 < 2 then c9 a0 a1 0 h
else kr 0 h) = zseg zPP true (zcal (ρ := ρ) []) (zget (999, 0, 0, 0) zc_Co_writeFirstOfBuffers) (zcut zu_Co_writeFirstOfBuffers) (zorc (ρ := ρ) [(9, [some (102, none), some (0, none), some (0, none)], [], zap3 c9)]) kr (fun _ _ => none) 400 2 [some (102, a0), some (0, a1), none] [] h := by rfl
set_option maxRecDepth 100000 in
theorem qe_Co_writeFirstOfBuffers_2b {ρ : Type} (kr : Int → zH → Option ρ) (r2 : Int → Int → zH → Option ρ) (a0 a1 : Int) (h : zH) : Co_writeFirstOfBuffers_2b kr r2 a0 a1 h = zseg zPP true (zcal (ρ := ρ) []) (zget (999, 0, 0, 0) zc_Co_writeFirstOfBuffers) (zcut zu_Co_writeFirstOfBuffers) (zorc (ρ := ρ) [(9, [some (102, none), some (0, none), some (0, none)], [], zap3 (Co_writeFirstOfBuffers_9 kr r2))]) kr (fun _ _ => none) 400 2 [some (102, a0), some (0, a1), none] [] h := qg_Co_writeFirstOfBuffers_2b kr r2 (Co_writeFirstOfBuffers_9 kr r2) a0 a1 h
set_option maxRecDepth 100000 in
theorem qg_Co_writeFirstOfBuffers {ρ : Type} (kr : Int → zH → Option ρ) (c2 : Int → Int → zH → Option ρ) (a0 : Int) (h : zH) : (c2 a0 0 h) = zseg zPP true (zcal (ρ := ρ) []) (zget (999, 0, 0, 0) zc_Co_writeFirstOfBuffers) (zcut zu_Co_writeFirstOfBuffers) (zorc (ρ := ρ) [(2, [some (102, none), some (0, none), none], [], zap2 c2)]) kr (fun _ _ => none) 400 0 [some (102, a0), none, none] [] h := by rfl
set_option maxRecDepth 100000 in
theorem qe_Co_writeFirstOfBuffers {ρ : Type} (kr : Int → zH → Option ρ) (a0 : Int) (h : zH) : Co_writeFirstOfBuffers a0 h kr = zseg zPP true (zcal (ρ := ρ) []) (zget (999, 0, 0, 0) zc_Co_writeFirstOfBuffers) (zcut zu_Co_writeFirstOfBuffers) (zorc (ρ := ρ) [(2, [some (102, none), some (0, none), none], [], zap2 (Co_writeFirstOfBuffers_2 kr))]) kr (fun _ _ => none) 400 0 [some (102, a0), none, none] [] h := qg_Co_writeFirstOfBuffers kr (Co_writeFirstOfBuffers_2 kr) a0 h
def zc_X_isIn : List zI := [(10, 0, 0, 0), (10, 0, 1, 0), (40, 0, 0, 0), (0, 1, 0, 0), (36, 0, 0, 0), (60, 7, 12, 0), (999, 0, 0, 0), (999, 0, 0, 0), (0, 1, 0, 0), (72, 4, 13, 0), (999, 0, 0, 0), (999, 0, 0, 0), (0, 0, 0, 0), (130, 0, 1, 0)]
def zu_X_isIn : List (Nat × List Bool) := [(13, [false, false])]
set_option maxRecDepth 100000 in
theorem qg_X_isIn_13 {ρ : Type} (kr : Int → zH → Option ρ) (t0 : Int) (h : zH) : (znar 1 t0 fun x1 => kr x1 h) = zseg zPP true (zcal (ρ := ρ) []) (zget (999, 0, 0, 0) zc_X_isIn) (zcut zu_X_isIn) (zorc (ρ := ρ) []) kr (fun _ _ => none) 400 13 [none, none] [(0, t0)] h := by rfl
set_option maxRecDepth 100000 in
theorem qe_X_isIn_13 {ρ : Type} (kr : Int → zH → Option ρ) (t0 : Int) (h : zH) : X_isIn_13 kr t0 h = zseg zPP true (zcal (ρ := ρ) []) (zget (999, 0, 0, 0) zc_X_isIn) (zcut zu_X_isIn) (zorc (ρ := ρ) []) kr (fun _ _ => none) 400 13 [none, none] [(0, t0)] h := qg_X_isIn_13 kr t0 h
set_option maxRecDepth 100000 in
theorem qg_X_isIn {ρ : Type} (kr : Int → zH → Option ρ) (c13 : Int → zH → Option ρ) (a0 a1 : Int) (h : zH) : (if (zand (zshr a0 a1) 1) = 0 then c13 0 h
else c13 1 h) = zseg zPP true (zcal (ρ := ρ) []) (zget (999, 0, 0, 0) zc_X_isIn) (zcut zu_X_isIn) (zorc (ρ := ρ) [(13, [none, none], [(0, none)], zap1 c13)]) kr (fun _ _ => none) 400 0 [some (0, a0), some (0, a1)] [] h := by rfl
set_option maxRecDepth 100000 in
theorem qe_X_isIn {ρ : Type} (kr : Int → zH → Option ρ) (a0 a1 : Int) (h : zH) : X_isIn a0 a1 h kr = zseg zPP true (zcal (ρ := ρ) []) (zget (999, 0, 0, 0) zc_X_isIn) (zcut zu_X_isIn) (zorc (ρ := ρ) [(13, [none, none], [(0, none)], zap1 (X_isIn_13 kr))]) kr (fun _ _ => none) 400 0 [some (0, a0), some (0, a1)] [] h := qg_X_isIn kr (X_isIn_13 kr) a0 a1 h
def zc_Gr_threadIn : List zI := [(10, 0, 1, 0), (62, 17, 18, 0), (999, 0, 0, 0), (999, 0, 0, 0), (10, 0, 1, 0), (0, 4, 0, 0), (69, 12, 18, 0), (999, 0, 0, 0), (999, 0, 0, 0), (14, 0, 0, 111), (80, 11, 28, 2), (999, 0, 0, 0), (999, 0, 0, 0), (10, 0, 1, 0), (94, 0, 0, 42), (72, 4, 19, 0), (999, 0, 0, 0), (999, 0, 0, 0), (7, 0, 0, 106), (132, 0, 0, 106)]
def zu_Gr_threadIn : List (Nat × List Bool) := [(18, [false, false]), (19, [false, false])]
set_option maxRecDepth 100000 in
theorem qg_Gr_threadIn_19 {ρ : Type} (kr : Int → zH → Option ρ) (t0 : Int) (h : zH) : (kr t0 h) = zseg zPP true (zcal (ρ := ρ) []) (zget (999, 0, 0, 0) zc_Gr_threadIn) (zcut zu_Gr_threadIn) (zorc (ρ := ρ) []) kr (fun _ _ => none) 400 19 [none, none] [(106, t0)] h := by rfl
set_option maxRecDepth 100000 in
theorem qe_Gr_threadIn_19 {ρ : Type} (kr : Int → zH → Option ρ) (t0 : Int) (h : zH) : Gr_threadIn_19 kr t0 h = zseg zPP true (zcal (ρ := ρ) []) (zget (999, 0, 0, 0) zc_Gr_threadIn) (zcut zu_Gr_threadIn) (zorc (ρ := ρ) []) kr (fun _ _ => none) 400 19 [none, none] [(106, t0)] h := qg_Gr_threadIn_19 kr t0 h
set_option maxRecDepth 100000 in
theorem qg_Gr_threadIn_18 {ρ : Type} (kr : Int → zH → Option ρ) (c19 : Int → zH → Option ρ) (h : zH) : (c19 (-1) h) = zseg zPP true (zcal (ρ := ρ) []) (zget (999, 0, 0, 0) zc_Gr_threadIn) (zcut zu_Gr_threadIn) (zorc (ρ := ρ) [(19, [none, none], [(106, none)], zap1 c19)]) kr (fun _ _ => none) 400 18 [none, none] [] h := by rfl
set_option maxRecDepth 100000 in
theorem qe_Gr_threadIn_18 {ρ : Type} (kr : Int → zH → Option ρ) (h : zH) : Gr_threadIn_18 kr h = zseg zPP true (zcal (ρ := ρ) []) (zget (999, 0, 0, 0) zc_Gr_threadIn) (zcut zu_Gr_threadIn) (zorc (ρ := ρ) [(19, [none, none], [(106, none)], zap1 (Gr_threadIn_19 kr))]) kr (fun _ _ => none) 400 18 [none, none] [] h := qg_Gr_threadIn_18 kr (Gr_threadIn_19 kr) h
set_option maxRecDepth 100000 in
theorem qg_Gr_threadIn {ρ : Type} (kr : Int → zH → Option ρ) (c18 : zH → Option ρ) (c19 : Int → zH → Option ρ) (a0 a1 : Int) (h : zH) : (if a1 < 0 then c18 h
else if a1 < 4 then (zob h 11 a0 fun p1 =>
zob h 42 (zhD h 11 p1 2) fun p2 =>
zix (zhL h 42 p2) a1 fun j3 =>
c19 (zhD h 42 p2 j3) h)
else c18 h) = zseg zPP true (zcal (ρ := ρ) []) (zget (999, 0, 0, 0) zc_Gr_threadIn) (zcut zu_Gr_threadIn) (zorc (ρ := ρ) [(18, [none, none], [], zap0 c18), (19, [none, none], [(106, none)], zap1 c19)]) kr (fun _ _ => none) 400 0 [some (111, a0), some (0, a1)] [] h := by rfl
set_option maxRecDepth 100000 in
theorem qe_Gr_threadIn {ρ : Type} (kr : Int → zH → Option ρ) (a0 a1 : Int) (h : zH) : Gr_threadIn a0 a1 h kr = zseg zPP true (zcal (ρ := ρ) []) (zget (999, 0, 0, 0) zc_Gr_threadIn) (zcut zu_Gr_threadIn) (zorc (ρ := ρ) [(18, [none, none], [], zap0 (Gr_threadIn_18 kr)), (19, [none, none], [(106, none)], zap1 (Gr_threadIn_19 kr))]) kr (fun _ _ => none) 400 0 [some (111, a0), some (0, a1)] [] h := qg_Gr_threadIn kr (Gr_threadIn_18 kr) (Gr_threadIn_19 kr) a0 a1 h
def zc_Gr_writeAll : List zI := [(14, 0, 0, 111), (80, 11, 67, 5), (999, 0, 0, 0), (999, 0, 0, 0), (16, 0, 2, 0), (0, 0, 0, 0), (16, 0, 3, 0), (10, 0, 3, 0), (10, 0, 2, 0), (69, 23, 32, 0), (999, 0, 0, 0), (999, 0, 0, 0), (14, 0, 1, 122), (14, 0, 0, 111), (80, 11, 11, 3), (999, 0, 0, 0), (999, 0, 0, 0), (10, 0, 3, 0), (90, 0, 0, 43), (14, 0, 0, 111), (80, 11, 15, 4), (999, 0, 0, 0), (999, 0, 0, 0), (10, 0, 3, 0), (90, 0, 0, 44), (95, 0, 0, 22), (22, 1, 3, 0), (999, 0, 0, 0), (999, 0, 0, 0), (72, (-22), 7, 0), (999, 0, 0, 0), (999, 0, 0, 0), (14, 0, 0, 111), (0, 0, 0, 0), (82, 11, 67, 5), (999, 0, 0, 0), (999, 0, 0, 0), (10, 0, 2, 0), (130, 0, 0, 0)]
def zu_Gr_writeAll : List (Nat × List Bool) := [(7, [true, true, true, true])]
set_option maxRecDepth 100000 in
theorem qg_Gr_writeAll_7b {ρ : Type} (kr : Int → zH → Option ρ) (r7 : Int → Int → Int → Int → zH → Option ρ) (a0 a1 a2 a3 : Int) (h : zH) : (if a3 < a2 then (zob h 11 a0 fun p3 =>
zob h 43 (zhD h 11 p3 3) fun p4 =>
zix (zhL h 43 p4) a3 fun j5 =>
zob h 11 a0 fun p6 =>
zob h 44 (zhD h 11 p6 4) fun p7 =>
zix (zhL h 44 p7) a3 fun j8 =>
zob h 22 a1 fun p9 =>
zix (zhL h 22 p9) (zhD h 43 p4 j5) fun j10 =>
zlet (zset h 22 p9 j10 (zhD h 44 p7 j8)) fun h11 =>
r7 a0 a1 a2 (wr (a3 + 1)) h11)
else zob h 11 a0 fun p1 =>
zlet (zset h 11 p1 5 0) fun h2 =>
kr a2 h2) = zseg zPP true (zcal (ρ := ρ) []) (zget (999, 0, 0, 0) zc_Gr_writeAll) (zcut zu_Gr_writeAll) (zorc (ρ := ρ) [(7, [some (111, none), some (122, none), some (0, none), some (0, none)], [], zap4 r7)]) kr (fun _ _ => none) 400 7 [some (111, a0), some (122, a1), some (0, a2), some (0, a3)] [] h := by rfl
set_option maxRecDepth 100000 in
theorem qe_Gr_writeAll_7b {ρ : Type} (kr : Int → zH → Option ρ) (r7 : Int → Int → Int → Int → zH → Option ρ) (a0 a1 a2 a3 : Int) (h : zH) : Gr_writeAll_7b kr r7 a0 a1 a2 a3 h = zseg zPP true (zcal (ρ := ρ) []) (zget (999, 0, 0, 0) zc_Gr_writeAll) (zcut zu_Gr_writeAll) (zorc (ρ := ρ) [(7, [some (111, none), some (122, none), some (0, none), some (0, none)], [], zap4 r7)]) kr (fun _ _ => none) 400 7 [some (111, a0), some (122, a1), some (0, a2), some (0, a3)] [] h := qg_Gr_writeAll_7b kr r7 a0 a1 a2 a3 h
set_option maxRecDepth 100000 in
theorem qg_Gr_writeAll {ρ : Type} (kr : Int → zH → Option ρ) (c7 : Int → Int → Int → Int → zH → Option ρ) (a0 a1 : Int) (h : zH) : (zob h 11 a0 fun p1 =>
c7 a0 a1 (zhD h 11 p1 5) 0 h) = zseg zPP true (zcal (ρ := ρ) []) (zget (999, 0, 0, 0) zc_Gr_writeAll) (zcut zu_Gr_writeAll) (zorc (ρ := ρ) [(7, [some (111, none), some (122, none), some (0, none), some (0, none)], [], zap4 c7)]) kr (fun _ _ => none) 400 0 [some (111, a0), some (122, a1), none, none] [] h := by rfl
set_option maxRecDepth 100000 in
theorem qe_Gr_writeAll {ρ : Type} (kr : Int → zH → Option ρ) (a0 a1 : Int) (h : zH) : Gr_writeAll a0 a1 h kr = zseg zPP true (zcal (ρ := ρ) []) (zget (999, 0, 0, 0) zc_Gr_writeAll) (zcut zu_Gr_writeAll) (zorc (ρ := ρ) [(7, [some (111, none), some (122, none), some (0, none), some (0, none)], [], zap4 (Gr_writeAll_7 kr))]) kr (fun _ _ => none) 400 0 [some (111, a0), some (122, a1), none, none] [] h := qg_Gr_writeAll kr (Gr_writeAll_7 kr) a0 a1 h
def zc_In_cellRegister : List zI := [(14, 0, 0, 108), (8, 9, 55, 0), (999, 0, 0, 0), (110, 0, 33, 219), (999, 0, 0, 0), (999, 0, 0, 0), (60, 10, 16, 0), (999, 0, 0, 0), (999, 0, 0, 0), (14, 0, 0, 108), (80, 8, 15, 1), (999, 0, 0, 0), (999, 0, 0, 0), (72, 7, 20, 0), (999, 0, 0, 0), (999, 0, 0, 0), (14, 0, 0, 108), (80, 8, 19, 2), (999, 0, 0, 0), (999, 0, 0, 0), (130, 0, 0, 0)]
def zu_In_cellRegister : List (Nat × List Bool) := [(20, [false])]
set_option maxRecDepth 100000 in
theorem qg_In_cellRegister_20 {ρ : Type} (kr : Int → zH → Option ρ) (t0 : Int) (h : zH) : (kr t0 h) = zseg zPP true (zcal (ρ := ρ) []) (zget (999, 0, 0, 0) zc_In_cellRegister) (zcut zu_In_cellRegister) (zorc (ρ := ρ) []) kr (fun _ _ => none) 400 20 [none] [(0, t0)] h := by rfl
set_option maxRecDepth 100000 in
theorem qe_In_cellRegister_20 {ρ : Type} (kr : Int → zH → Option ρ) (t0 : Int) (h : zH) : In_cellRegister_20 kr t0 h = zseg zPP true (zcal (ρ := ρ) []) (zget (999, 0, 0, 0) zc_In_cellRegister) (zcut zu_In_cellRegister) (zorc (ρ := ρ) []) kr (fun _ _ => none) 400 20 [none] [(0, t0)] h := qg_In_cellRegister_20 kr t0 h
set_option maxRecDepth 100000 in
theorem qg_In_cellRegister {ρ : Type} (kr : Int → zH → Option ρ) (F_In_isOneOf : Int → Int → zH → (Int → zH → Option ρ) → Option ρ) (c20 : Int → zH → Option ρ) (a0 : Int) (h : zH) : (zob h 8 a0 fun _ =>
F_In_isOneOf a0 9 h  fun v1 h2 =>
if v1 = 0 then (zob h2 8 a0 fun p3 =>
c20 (zhD h2 8 p3 2) h2)
else zob h2 8 a0 fun p4 =>
c20 (zhD h2 8 p4 1) h2) = zseg zPP true (zcal (ρ := ρ) [(219, [none, none], zca2 F_In_isOneOf)]) (zget (999, 0, 0, 0) zc_In_cellRegister) (zcut zu_In_cellRegister) (zorc (ρ := ρ) [(20, [none], [(0, none)], zap1 c20)]) kr (fun _ _ => none) 400 0 [some (108, a0)] [] h := by rfl
set_option maxRecDepth 100000 in
theorem qe_In_cellRegister {ρ : Type} (kr : Int → zH → Option ρ) (a0 : Int) (h : zH) : In_cellRegister a0 h kr = zseg zPP true (zcal (ρ := ρ) [(219, [none, none], zca2 In_isOneOf)]) (zget (999, 0, 0, 0) zc_In_cellRegister) (zcut zu_In_cellRegister) (zorc (ρ := ρ) [(20, [none], [(0, none)], zap1 (In_cellRegister_20 kr))]) kr (fun _ _ => none) 400 0 [some (108, a0)] [] h := qg_In_cellRegister kr In_isOneOf (In_cellRegister_20 kr) a0 h
def zc_Th_at : List zI := [(10, 0, 1, 0), (62, 21, 22, 0), (999, 0, 0, 0), (999, 0, 0, 0), (10, 0, 1, 0), (14, 0, 0, 106), (80, 6, 21, 1), (999, 0, 0, 0), (999, 0, 0, 0), (100, 0, 0, 32), (69, 12, 22, 0), (999, 0, 0, 0), (999, 0, 0, 0), (14, 0, 0, 106), (80, 6, 21, 1), (999, 0, 0, 0), (999, 0, 0, 0), (10, 0, 1, 0), (90, 0, 0, 32), (72, 4, 23, 0), (999, 0, 0, 0), (999, 0, 0, 0), (0, 0, 0, 0), (130, 0, 0, 0)]
def zu_Th_at : List (Nat × List Bool) := [(22, [false, false]), (23, [false, false])]
set_option maxRecDepth 100000 in
theorem qg_Th_at_23 {ρ : Type} (kr : Int → zH → Option ρ) (t0 : Int) (h : zH) : (kr t0 h) = zseg zPP true (zcal (ρ := ρ) []) (zget (999, 0, 0, 0) zc_Th_at) (zcut zu_Th_at) (zorc (ρ := ρ) []) kr (fun _ _ => none) 400 23 [none, none] [(0, t0)] h := by rfl
set_option maxRecDepth 100000 in
theorem qe_Th_at_23 {ρ : Type} (kr : Int → zH → Option ρ) (t0 : Int) (h : zH) : Th_at_23 kr t0 h = zseg zPP true (zcal (ρ := ρ) []) (zget (999, 0, 0, 0) zc_Th_at) (zcut zu_Th_at) (zorc (ρ := ρ) []) kr (fun _ _ => none) 400 23 [none, none] [(0, t0)] h := qg_Th_at_23 kr t0 h
set_option maxRecDepth 100000 in
theorem qg_Th_at_22 {ρ : Type} (kr : Int → zH → Option ρ) (c23 : Int → zH → Option ρ) (h : zH) : (c23 0 h) = zseg zPP true (zcal (ρ := ρ) []) (zget (999, 0, 0, 0) zc_Th_at) (zcut zu_Th_at) (zorc (ρ := ρ) [(23, [none, none], [(0, none)], zap1 c23)]) kr (fun _ _ => none) 400 22 [none, none] [] h := by rfl
set_option maxRecDepth 100000 in
theorem qe_Th_at_22 {ρ : Type} (kr : Int → zH → Option ρ) (h : zH) : Th_at_22 kr h = zseg zPP true (zcal (ρ := ρ) []) (zget (999, 0, 0, 0) zc_Th_at) (zcut zu_Th_at) (zorc (ρ := ρ) [(23, [none, none], [(0, none)], zap1 (Th_at_23 kr))]) kr (fun _ _ => none) 400 22 [none, none] [] h := qg_Th_at_22 kr (Th_at_23 kr) h
set_option maxRecDepth 100000 in
theorem qg_Th_at {ρ : Type} (kr : Int → zH → Option ρ) (c22 : zH → Option ρ) (c23 : Int → zH → Option ρ) (a0 a1 : Int) (h : zH) : (if a1 < 0 then c22 h
else zob h 6 a0 fun p1 =>
zob h 32 (zhD h 6 p1 1) fun p2 =>
if a1 < (zhL h 32 p2 : Int) then (zob h 6 a0 fun p3 =>
zob h 32 (zhD h 6 p3 1) fun p4 =>
zix (zhL h 32 p4) a1 fun j5 =>
c23 (zhD h 32 p4 j5) h)
else c22 h) = zseg zPP true (zcal (ρ := ρ) []) (zget (999, 0, 0, 0) zc_Th_at) (zcut zu_Th_at) (zorc (ρ := ρ) [(22, [none, none], [], zap0 c22), (23, [none, none], [(0, none)], zap1 c23)]) kr (fun _ _ => none) 400 0 [some (106, a0), some (0, a1)] [] h := by rfl
set_option maxRecDepth 100000 in
theorem qe_Th_at {ρ : Type} (kr : Int → zH → Option ρ) (a0 a1 : Int) (h : zH) : Th_at a0 a1 h kr = zseg zPP true (zcal (ρ := ρ) []) (zget (999, 0, 0, 0) zc_Th_at) (zcut zu_Th_at) (zorc (ρ := ρ) [(22, [none, none], [], zap0 (Th_at_22 kr)), (23, [none, none], [(0, none)], zap1 (Th_at_23 kr))]) kr (fun _ _ => none) 400 0 [some (106, a0), some (0, a1)] [] h := qg_Th_at kr (Th_at_22 kr) (Th_at_23 kr) a0 a1 h
def zc_Co_lookAhead : List zI := [(14, 0, 0, 102), (0, 0, 0, 0), (82, 2, 206, 9), (999, 0, 0, 0), (999, 0, 0, 0), (0, 0, 0, 0), (16, 0, 3, 0), (10, 0, 3, 0), (0, 4, 0, 0), (69, 96, 105, 0), (999, 0, 0, 0), (999, 0, 0, 0), (14, 0, 1, 111), (10, 0, 3, 0), (110, 0, 168, 203), (999, 0, 0, 0), (999, 0, 0, 0), (21, 0, 4, 106), (999, 0, 0, 0), (14, 0, 0, 102), (80, 2, 33, 6), (999, 0, 0, 0), (999, 0, 0, 0), (10, 0, 3, 0), (15, 0, 4, 106), (999, 0, 0, 0), (74, 7, 33, 0), (999, 0, 0, 0), (999, 0, 0, 0), (0, 0, 0, 0), (72, 12, 42, 0), (999, 0, 0, 0), (999, 0, 0, 0), (15, 0, 4, 106), (999, 0, 0, 0), (14, 0, 2, 108), (110, 0, 209, 221), (999, 0, 0, 0), (999, 0, 0, 0), (110, 0, 214, 258), (999, 0, 0, 0), (999, 0, 0, 0), (95, 0, 0, 24), (14, 0, 0, 102), (80, 2, 36, 7), (999, 0, 0, 0), (999, 0, 0, 0), (10, 0, 3, 0), (15, 0, 4, 106), (999, 0, 0, 0), (74, 7, 57, 0), (999, 0, 0, 0), (999, 0, 0, 0), (0, 0, 0, 0), (72, 12, 66, 0), (999, 0, 0, 0), (999, 0, 0, 0), (15, 0, 4, 106), (999, 0, 0, 0), (14, 0, 2, 108), (80, 8, 218, 2), (999, 0, 0, 0), (999, 0, 0, 0), (110, 0, 214, 258), (999, 0, 0, 0), (999, 0, 0, 0), (95, 0, 0, 25), (14, 0, 0, 102), (80, 2, 161, 8), (999, 0, 0, 0), (999, 0, 0, 0), (10, 0, 3, 0), (114, 0, 172, 56), (999, 0, 0, 0), (999, 0, 0, 0), (60, 24, 99, 0), (999, 0, 0, 0), (999, 0, 0, 0), (14, 0, 0, 102), (80, 2, 36, 7), (999, 0, 0, 0), (999, 0, 0, 0), (10, 0, 3, 0), (90, 0, 0, 25), (60, 15, 99, 0), (999, 0, 0, 0), (999, 0, 0, 0), (14, 0, 0, 102), (50, 0, 0, 0), (80, 2, 206, 9), (999, 0, 0, 0), (999, 0, 0, 0), (0, 1, 0, 0), (10, 0, 3, 0), (39, 0, 0, 0), (37, 0, 0, 0), (82, 2, 206, 9), (999, 0, 0, 0), (999, 0, 0, 0), (22, 1, 3, 0), (999, 0, 0, 0), (999, 0, 0, 0), (72, (-95), 7, 0), (999, 0, 0, 0), (999, 0, 0, 0), (14, 0, 0, 102), (14, 0, 2, 108), (8, 1, 221, 0), (999, 0, 0, 0), (110, 0, 223, 219), (999, 0, 0, 0), (999, 0, 0, 0), (60, 14, 126, 0), (999, 0, 0, 0), (999, 0, 0, 0), (14, 0, 1, 111), (14, 0, 0, 102), (80, 2, 9, 1), (999, 0, 0, 0), (999, 0, 0, 0), (110, 0, 227, 217), (999, 0, 0, 0), (999, 0, 0, 0), (72, 4, 127, 0), (999, 0, 0, 0), (999, 0, 0, 0), (0, 0, 0, 0), (82, 2, 231, 10), (999, 0, 0, 0), (999, 0, 0, 0), (133, 0, 0, 0)]
def zu_Co_lookAhead : List (Nat × List Bool) := [(7, [true, true, true, true, false]), (42, [true, true, true, true, true]), (66, [true, true, true, true, false]), (99, [true, true, true, true, false]), (127, [false, false, false, false, false])]
set_option maxRecDepth 100000 in
theorem qg_Co_lookAhead_99 {ρ : Type} (kr : Int → zH → Option ρ) (r7 : Int → Int → Int → Int → zH → Option ρ) (a0 a1 a2 a3 : Int) (h : zH) : (r7 a0 a1 a2 (wr (a3 + 1)) h) = zseg zPP true (zcal (ρ := ρ) []) (zget (999, 0, 0, 0) zc_Co_lookAhead) (zcut zu_Co_lookAhead) (zorc (ρ := ρ) [(7, [some (102, none), some (111, none), some (108, none), some (0, none), none], [], zap4 r7)]) kr (fun _ _ => none) 400 99 [some (102, a0), some (111, a1), some (108, a2), some (0, a3), none] [] h := by rfl
set_option maxRecDepth 100000 in
theorem qe_Co_lookAhead_99 {ρ : Type} (kr : Int → zH → Option ρ) (r7 : Int → Int → Int → Int → zH → Option ρ) (a0 a1 a2 a3 : Int) (h : zH) : Co_lookAhead_99 kr r7 a0 a1 a2 a3 h = zseg zPP true (zcal (ρ := ρ) []) (zget (999, 0, 0, 0) zc_Co_lookAhead) (zcut zu_Co_lookAhead) (zorc (ρ := ρ) [(7, [some (102, none), some (111, none), some (108, none), some (0, none), none], [], zap4 r7)]) kr (fun _ _ => none) 400 99 [some (102, a0), some (111, a1), some (108, a2), some (0, a3), none] [] h := qg_Co_lookAhead_99 kr r7 a0 a1 a2 a3 h
set_option maxRecDepth 100000 in
theorem qg_Co_lookAhead_66 {ρ : Type} (kr : Int → zH → Option ρ) (r7 : Int → Int → Int → Int → zH → Option ρ) (F_X_isIn : Int → Int → zH → (Int → zH → Option ρ) → Option ρ) (c99 : Int → Int → Int → Int → zH → Option ρ) (a0 a1 a2 a3 t0 t1 t2 : Int) (h : zH) : (zob h 25 t2 fun p1 =>
zix (zhL h 25 p1) t1 fun j2 =>
zlet (zset h 25 p1 j2 t0) fun h3 =>
zob h3 2 a0 fun p4 =>
F_X_isIn (zhD h3 2 p4 8) a3 h3  fun v5 h6 =>
if v5 = 0 then c99 a0 a1 a2 a3 h6
else zob h6 2 a0 fun p7 =>
zob h6 25 (zhD h6 2 p7 7) fun p8 =>
zix (zhL h6 25 p8) a3 fun j9 =>
if (zhD h6 25 p8 j9) = 0 then c99 a0 a1 a2 a3 h6
else zob h6 2 a0 fun p10 =>
zob h6 2 a0 fun p11 =>
zlet (zset h6 2 p11 9 (zor (zhD h6 2 p10 9) (zshl 1 a3))) fun h12 =>
c99 a0 a1 a2 a3 h12) = zseg zPP true (zcal (ρ := ρ) [(56, [none, none], zca2 F_X_isIn)]) (zget (999, 0, 0, 0) zc_Co_lookAhead) (zcut zu_Co_lookAhead) (zorc (ρ := ρ) [(99, [some (102, none), some (111, none), some (108, none), some (0, none), none], [], zap4 c99)]) kr (fun _ _ => none) 400 66 [some (102, a0), some (111, a1), some (108, a2), some (0, a3), none] [(0, t0), (0, t1), (125, t2)] h := by rfl
set_option maxRecDepth 100000 in
theorem qe_Co_lookAhead_66 {ρ : Type} (kr : Int → zH → Option ρ) (r7 : Int → Int → Int → Int → zH → Option ρ) (a0 a1 a2 a3 t0 t1 t2 : Int) (h : zH) : Co_lookAhead_66 kr r7 a0 a1 a2 a3 t0 t1 t2 h = zseg zPP true (zcal (ρ := ρ) [(56, [none, none], zca2 X_isIn)]) (zget (999, 0, 0, 0) zc_Co_lookAhead) (zcut zu_Co_lookAhead) (zorc (ρ := ρ) [(99, [some (102, none), some (111, none), some (108, none), some (0, none), none], [], zap4 (Co_lookAhead_99 kr r7))]) kr (fun _ _ => none) 400 66 [some (102, a0), some (111, a1), some (108, a2), some (0, a3), none] [(0, t0), (0, t1), (125, t2)] h := qg_Co_lookAhead_66 kr r7 X_isIn (Co_lookAhead_99 kr r7) a0 a1 a2 a3 t0 t1 t2 h
set_option maxRecDepth 100000 in
theorem qg_Co_lookAhead_42 {ρ : Type} (kr : Int → zH → Option ρ) (r7 : Int → Int → Int → Int → zH → Option ρ) (F_Th_at : Int → Int → zH → (Int → zH → Option ρ) → Option ρ) (c66 : Int → Int → Int → Int → Int → Int → Int → zH → Option ρ) (a0 a1 a2 a3 a4 t0 t1 t2 : Int) (h : zH) : (zob h 24 t2 fun p1 =>
zix (zhL h 24 p1) t1 fun j2 =>
zlet (zset h 24 p1 j2 t0) fun h3 =>
zob h3 2 a0 fun p4 =>
if a4 < 0 then c66 a0 a1 a2 a3 0 a3 (zhD h3 2 p4 7) h3
else zob h3 8 a2 fun p5 =>
zob h3 6 a4 fun _ =>
F_Th_at a4 (zhD h3 8 p5 2) h3  fun v6 h7 =>
c66 a0 a1 a2 a3 v6 a3 (zhD h3 2 p4 7) h7) = zseg zPP true (zcal (ρ := ρ) [(258, [none, none], zca2 F_Th_at)]) (zget (999, 0, 0, 0) zc_Co_lookAhead) (zcut zu_Co_lookAhead) (zorc (ρ := ρ) [(66, [some (102, none), some (111, none), some (108, none), some (0, none), none], [(0, none), (0, none), (125, none)], zap7 c66)]) kr (fun _ _ => none) 400 42 [some (102, a0), some (111, a1), some (108, a2), some (0, a3), some (106, a4)] [(0, t0), (0, t1), (124, t2)] h := by rfl
set_option maxRecDepth 100000 in
theorem qe_Co_lookAhead_42 {ρ : Type} (kr : Int → zH → Option ρ) (r7 : Int → Int → Int → Int → zH → Option ρ) (a0 a1 a2 a3 a4 t0 t1 t2 : Int) (h : zH) : Co_lookAhead_42 kr r7 a0 a1 a2 a3 a4 t0 t1 t2 h = zseg zPP true (zcal (ρ := ρ) [(258, [none, none], zca2 Th_at)]) (zget (999, 0, 0, 0) zc_Co_lookAhead) (zcut zu_Co_lookAhead) (zorc (ρ := ρ) [(66, [some (102, none), some (111, none), some (108, none), some (0, none), none], [(0, none), (0, none), (125, none)], zap7 (Co_lookAhead_66 kr r7))]) kr (fun _ _ => none) 400 42 [some (102, a0), some (111, a1), some (108, a2), some (0, a3), some (106, a4)] [(0, t0), (0, t1), (124, t2)] h := qg_Co_lookAhead_42 kr r7 Th_at (Co_lookAhead_66 kr r7) a0 a1 a2 a3 a4 t0 t1 t2 h
set_option maxRecDepth 100000 in
theorem qg_Co_lookAhead_127 {ρ : Type} (kr : Int → zH → Option ρ) (t0 t1 : Int) (h : zH) : (zob h 2 t1 fun p1 =>
zlet (zset h 2 p1 10 t0) fun h2 =>
kr 0 h2) = zseg zPP true (zcal (ρ := ρ) []) (zget (999, 0, 0, 0) zc_Co_lookAhead) (zcut zu_Co_lookAhead) (zorc (ρ := ρ) []) kr (fun _ _ => none) 400 127 [none, none, none, none, none] [(0, t0), (102, t1)] h := by rfl
set_option maxRecDepth 100000 in
theorem qe_Co_lookAhead_127 {ρ : Type} (kr : Int → zH → Option ρ) (t0 t1 : Int) (h : zH) : Co_lookAhead_127 kr t0 t1 h = zseg zPP true (zcal (ρ := ρ) []) (zget (999, 0, 0, 0) zc_Co_lookAhead) (zcut zu_Co_lookAhead) (zorc (ρ := ρ) []) kr (fun _ _ => none) 400 127 [none, none, none, none, none] [(0, t0), (102, t1)] h := qg_Co_lookAhead_127 kr t0 t1 h
set_option maxRecDepth 100000 in
theorem qg_Co_lookAhead_7b {ρ : Type} (kr : Int → zH → Option ρ) (r7 : Int → Int → Int → Int → zH → Option ρ) (F_Gr_threadIn : Int → Int → zH → (Int → zH → Option ρ) → Option ρ) (F_Gr_writeAll : Int → Int → zH → (Int → zH → Option ρ) → Option ρ) (F_In_isOneOf : Int → Int → zH → (Int → zH → Option ρ) → Option ρ) (F_In_cellRegister : Int → zH → (Int → zH → Option ρ) → Option ρ) (F_Th_at : Int → Int → zH → (Int → zH → Option ρ) → Option ρ) (c42 : Int → Int → Int → Int → Int → Int → Int → Int → zH → Option ρ) (c127 : Int → Int → zH → Option ρ) (a0 a1 a2 a3 : Int) (h : zH) : (if a3 < 4 then (zob h 11 a1 fun _ =>
F_Gr_threadIn a1 a3 h  fun v6 h7 =>
zob h7 2 a0 fun p8 =>
if v6 < 0 then c42 a0 a1 a2 a3 v6 0 a3 (zhD h7 2 p8 6) h7
else zob h7 8 a2 fun _ =>
F_In_cellRegister a2 h7  fun v9 h10 =>
zob h10 6 v6 fun _ =>
F_Th_at v6 v9 h10  fun v11 h12 =>
c42 a0 a1 a2 a3 v6 v11 a3 (zhD h7 2 p8 6) h12)
else zob h 8 a2 fun _ =>
F_In_isOneOf a2 1 h  fun v1 h2 =>
if v1 = 0 then c127 0 a0 h2
else zob h2 2 a0 fun p3 =>
zob h2 11 a1 fun _ =>
F_Gr_writeAll a1 (zhD h2 2 p3 1) h2  fun v4 h5 =>
c127 v4 a0 h5) = zseg zPP true (zcal (ρ := ρ) [(203, [none, none], zca2 F_Gr_threadIn), (217, [none, none], zca2 F_Gr_writeAll), (219, [none, none], zca2 F_In_isOneOf), (221, [none], zca1 F_In_cellRegister), (258, [none, none], zca2 F_Th_at)]) (zget (999, 0, 0, 0) zc_Co_lookAhead) (zcut zu_Co_lookAhead) (zorc (ρ := ρ) [(42, [some (102, none), some (111, none), some (108, none), some (0, none), some (106, none)], [(0, none), (0, none), (124, none)], zap8 c42), (127, [none, none, none, none, none], [(0, none), (102, none)], zap2 c127)]) kr (fun _ _ => none) 400 7 [some (102, a0), some (111, a1), some (108, a2), some (0, a3), none] [] h := by rfl
set_option maxRecDepth 100000 in
theorem qe_Co_lookAhead_7b {ρ : Type} (kr : Int → zH → Option ρ) (r7 : Int → Int → Int → Int → zH → Option ρ) (a0 a1 a2 a3 : Int) (h : zH) : Co_lookAhead_7b kr r7 a0 a1 a2 a3 h = zseg zPP true (zcal (ρ := ρ) [(203, [none, none], zca2 Gr_threadIn), (217, [none, none], zca2 Gr_writeAll), (219, [none, none], zca2 In_isOneOf), (221, [none], zca1 In_cellRegister), (258, [none, none], zca2 Th_at)]) (zget (999, 0, 0, 0) zc_Co_lookAhead) (zcut zu_Co_lookAhead) (zorc (ρ := ρ) [(42, [some (102, none), some (111, none), some (108, none), some (0, none), some (106, none)], [(0, none), (0, none), (124, none)], zap8 (Co_lookAhead_42 kr r7)), (127, [none, none, none, none, none], [(0, none), (102, none)], zap2 (Co_lookAhead_127 kr))]) kr (fun _ _ => none) 400 7 [some (102, a0), some (111, a1), some (108, a2), some (0, a3), none] [] h := qg_Co_lookAhead_7b kr r7 Gr_threadIn Gr_writeAll In_isOneOf In_cellRegister Th_at (Co_lookAhead_42 kr r7) (Co_lookAhead_127 kr) a0 a1 a2 a3 h
set_option maxRecDepth 100000 in
theorem qg_Co_lookAhead {ρ : Type} (kr : Int → zH → Option ρ) (c7 : Int → Int → Int → Int → zH → Option ρ) (a0 a1 a2 : Int) (h : zH) : (zob h 2 a0 fun p1 =>
zlet (zset h 2 p1 9 0) fun h2 =>
c7 a0 a1 a2 0 h2) = zseg zPP true (zcal (ρ := ρ) []) (zget (999, 0, 0, 0) zc_Co_lookAhead) (zcut zu_Co_lookAhead) (zorc (ρ := ρ) [(7, [some (102, none), some (111, none), some (108, none), some (0, none), none], [], zap4 c7)]) kr (fun _ _ => none) 400 0 [some (102, a0), some (111, a1), some (108, a2), none, none] [] h := by rfl
set_option maxRecDepth 100000 in
theorem qe_Co_lookAhead {ρ : Type} (kr : Int → zH → Option ρ) (a0 a1 a2 : Int) (h : zH) : Co_lookAhead a0 a1 a2 h kr = zseg zPP true (zcal (ρ := ρ) []) (zget (999, 0, 0, 0) zc_Co_lookAhead) (zcut zu_Co_lookAhead) (zorc (ρ := ρ) [(7, [some (102, none), some (111, none), some (108, none), some (0, none), none], [], zap4 (Co_lookAhead_7 kr))]) kr (fun _ _ => none) 400 0 [some (102, a0), some (111, a1), some (108, a2), none, none] [] h := qg_Co_lookAhead kr (Co_lookAhead_7 kr) a0 a1 a2 h
