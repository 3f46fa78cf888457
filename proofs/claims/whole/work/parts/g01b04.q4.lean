def zc_X_shared : List zI := [(14, 0, 0, 100), (10, 0, 1, 0), (10, 0, 2, 0), (110, 0, 173, 51), (999, 0, 0, 0), (999, 0, 0, 0), (80, 11, 177, 0), (999, 0, 0, 0), (999, 0, 0, 0), (21, 0, 4, 110), (999, 0, 0, 0), (15, 0, 4, 110), (999, 0, 0, 0), (10, 0, 3, 0), (110, 0, 222, 171), (999, 0, 0, 0), (999, 0, 0, 0), (61, 11, 28, 0), (999, 0, 0, 0), (999, 0, 0, 0), (134, 89, 87, 3), (999, 0, 0, 0), (999, 0, 0, 0), (999, 0, 0, 0), (999, 0, 0, 0), (999, 0, 0, 0), (999, 0, 0, 0), (999, 0, 0, 0), (15, 0, 4, 110), (999, 0, 0, 0), (80, 10, 225, 4), (999, 0, 0, 0), (999, 0, 0, 0), (10, 0, 3, 0), (90, 0, 0, 38), (130, 0, 0, 0)]
def zu_X_shared : List (Nat × List Bool) := []
set_option maxRecDepth 100000 in
theorem qg_X_shared {ρ : Type} (kr : Int → zH → Option ρ) (kt : Nat → zH → Option ρ) (F_X_groupAt : Int → Int → Int → zH → (Nat → zH → Option ρ) → (Int → zH → Option ρ) → Option ρ) (F_Bl_hasShared : Int → Int → zH → (Int → zH → Option ρ) → Option ρ) (a0 a1 a2 a3 : Int) (h : zH) : (zob h 0 a0 fun _ =>
F_X_groupAt a0 a1 a2 h kt fun v1 h2 =>
zob h2 11 v1 fun p3 =>
zob h2 10 (zhD h2 11 p3 0) fun _ =>
F_Bl_hasShared (zhD h2 11 p3 0) a3 h2  fun v4 h5 =>
if v4 = 0 then zlet (zthrown h5) fun h9 => kt 3 h9
else zob h5 10 (zhD h2 11 p3 0) fun p6 =>
zob h5 38 (zhD h5 10 p6 4) fun p7 =>
zix (zhL h5 38 p7) a3 fun j8 =>
kr (zhD h5 38 p7 j8) h5) = zseg zPP true (zcal (ρ := ρ) [(51, [none, none, none], zcx3 F_X_groupAt), (171, [none, none], zca2 F_Bl_hasShared)]) (zget (999, 0, 0, 0) zc_X_shared) (zcut zu_X_shared) (zorc (ρ := ρ) []) kr kt 400 0 [some (100, a0), some (0, a1), some (0, a2), some (0, a3), none] [] h := by rfl
set_option maxRecDepth 100000 in
theorem qe_X_shared {ρ : Type} (kr : Int → zH → Option ρ) (kt : Nat → zH → Option ρ) (a0 a1 a2 a3 : Int) (h : zH) : X_shared a0 a1 a2 a3 h kt kr = zseg zPP true (zcal (ρ := ρ) [(51, [none, none, none], zcx3 X_groupAt), (171, [none, none], zca2 Bl_hasShared)]) (zget (999, 0, 0, 0) zc_X_shared) (zcut zu_X_shared) (zorc (ρ := ρ) []) kr kt 400 0 [some (100, a0), some (0, a1), some (0, a2), some (0, a3), none] [] h := qg_X_shared kr kt X_groupAt Bl_hasShared a0 a1 a2 a3 h
def zc_X_buffered : List zI := [(14, 0, 0, 100), (10, 0, 1, 0), (10, 0, 2, 0), (110, 0, 173, 51), (999, 0, 0, 0), (999, 0, 0, 0), (80, 11, 228, 5), (999, 0, 0, 0), (999, 0, 0, 0), (130, 0, 0, 0)]
def zu_X_buffered : List (Nat × List Bool) := []
set_option maxRecDepth 100000 in
theorem qg_X_buffered {ρ : Type} (kr : Int → zH → Option ρ) (kt : Nat → zH → Option ρ) (F_X_groupAt : Int → Int → Int → zH → (Nat → zH → Option ρ) → (Int → zH → Option ρ) → Option ρ) (a0 a1 a2 : Int) (h : zH) : (zob h 0 a0 fun _ =>
F_X_groupAt a0 a1 a2 h kt fun v1 h2 =>
zob h2 11 v1 fun p3 =>
kr (zhD h2 11 p3 5) h2) = zseg zPP true (zcal (ρ := ρ) [(51, [none, none, none], zcx3 F_X_groupAt)]) (zget (999, 0, 0, 0) zc_X_buffered) (zcut zu_X_buffered) (zorc (ρ := ρ) []) kr kt 400 0 [some (100, a0), some (0, a1), some (0, a2)] [] h := by rfl
set_option maxRecDepth 100000 in
theorem qe_X_buffered {ρ : Type} (kr : Int → zH → Option ρ) (kt : Nat → zH → Option ρ) (a0 a1 a2 : Int) (h : zH) : X_buffered a0 a1 a2 h kt kr = zseg zPP true (zcal (ρ := ρ) [(51, [none, none, none], zcx3 X_groupAt)]) (zget (999, 0, 0, 0) zc_X_buffered) (zcut zu_X_buffered) (zorc (ρ := ρ) []) kr kt 400 0 [some (100, a0), some (0, a1), some (0, a2)] [] h := qg_X_buffered kr kt X_groupAt a0 a1 a2 h
def zc_X_failedAt : List zI := [(14, 0, 0, 100), (10, 0, 1, 0), (110, 0, 123, 48), (999, 0, 0, 0), (999, 0, 0, 0), (20, 0, 2, 109), (14, 0, 2, 109), (80, 9, 127, 10), (999, 0, 0, 0), (999, 0, 0, 0), (1, 102, 0, 0), (999, 0, 0, 0), (66, 11, 23, 0), (999, 0, 0, 0), (999, 0, 0, 0), (134, 137, 135, 5), (999, 0, 0, 0), (999, 0, 0, 0), (999, 0, 0, 0), (999, 0, 0, 0), (999, 0, 0, 0), (999, 0, 0, 0), (999, 0, 0, 0), (14, 0, 2, 109), (132, 0, 0, 109)]
def zu_X_failedAt : List (Nat × List Bool) := []
set_option maxRecDepth 100000 in
theorem qg_X_failedAt {ρ : Type} (kr : Int → zH → Option ρ) (kt : Nat → zH → Option ρ) (F_X_launchAt : Int → Int → zH → (Nat → zH → Option ρ) → (Int → zH → Option ρ) → Option ρ) (a0 a1 : Int) (h : zH) : (zob h 0 a0 fun _ =>
F_X_launchAt a0 a1 h kt fun v1 h2 =>
zob h2 9 v1 fun p3 =>
if (zhD h2 9 p3 10) = 102 then kr v1 h2
else zlet (zthrown h2) fun h4 => kt 5 h4) = zseg zPP true (zcal (ρ := ρ) [(48, [none, none], zcx2 F_X_launchAt)]) (zget (999, 0, 0, 0) zc_X_failedAt) (zcut zu_X_failedAt) (zorc (ρ := ρ) []) kr kt 400 0 [some (100, a0), some (0, a1), none] [] h := by rfl
set_option maxRecDepth 100000 in
theorem qe_X_failedAt {ρ : Type} (kr : Int → zH → Option ρ) (kt : Nat → zH → Option ρ) (a0 a1 : Int) (h : zH) : X_failedAt a0 a1 h kt kr = zseg zPP true (zcal (ρ := ρ) [(48, [none, none], zcx2 X_launchAt)]) (zget (999, 0, 0, 0) zc_X_failedAt) (zcut zu_X_failedAt) (zorc (ρ := ρ) []) kr kt 400 0 [some (100, a0), some (0, a1), none] [] h := qg_X_failedAt kr kt X_launchAt a0 a1 h
def zc_X_fault : List zI := [(14, 0, 0, 100), (10, 0, 1, 0), (110, 0, 231, 49), (999, 0, 0, 0), (999, 0, 0, 0), (80, 9, 234, 11), (999, 0, 0, 0), (999, 0, 0, 0), (130, 0, 2, 0)]
def zu_X_fault : List (Nat × List Bool) := []
set_option maxRecDepth 100000 in
theorem qg_X_fault {ρ : Type} (kr : Int → zH → Option ρ) (kt : Nat → zH → Option ρ) (F_X_failedAt : Int → Int → zH → (Nat → zH → Option ρ) → (Int → zH → Option ρ) → Option ρ) (a0 a1 : Int) (h : zH) : (zob h 0 a0 fun _ =>
F_X_failedAt a0 a1 h kt fun v1 h2 =>
zob h2 9 v1 fun p3 =>
znar 2 (zhD h2 9 p3 11) fun x4 => kr x4 h2) = zseg zPP true (zcal (ρ := ρ) [(49, [none, none], zcx2 F_X_failedAt)]) (zget (999, 0, 0, 0) zc_X_fault) (zcut zu_X_fault) (zorc (ρ := ρ) []) kr kt 400 0 [some (100, a0), some (0, a1)] [] h := by rfl
set_option maxRecDepth 100000 in
theorem qe_X_fault {ρ : Type} (kr : Int → zH → Option ρ) (kt : Nat → zH → Option ρ) (a0 a1 : Int) (h : zH) : X_fault a0 a1 h kt kr = zseg zPP true (zcal (ρ := ρ) [(49, [none, none], zcx2 X_failedAt)]) (zget (999, 0, 0, 0) zc_X_fault) (zcut zu_X_fault) (zorc (ρ := ρ) []) kr kt 400 0 [some (100, a0), some (0, a1)] [] h := qg_X_fault kr kt X_failedAt a0 a1 h
def zc_X_faultAt : List zI := [(14, 0, 0, 100), (10, 0, 1, 0), (110, 0, 231, 49), (999, 0, 0, 0), (999, 0, 0, 0), (80, 9, 237, 12), (999, 0, 0, 0), (999, 0, 0, 0), (130, 0, 0, 0)]
def zu_X_faultAt : List (Nat × List Bool) := []
set_option maxRecDepth 100000 in
theorem qg_X_faultAt {ρ : Type} (kr : Int → zH → Option ρ) (kt : Nat → zH → Option ρ) (F_X_failedAt : Int → Int → zH → (Nat → zH → Option ρ) → (Int → zH → Option ρ) → Option ρ) (a0 a1 : Int) (h : zH) : (zob h 0 a0 fun _ =>
F_X_failedAt a0 a1 h kt fun v1 h2 =>
zob h2 9 v1 fun p3 =>
kr (zhD h2 9 p3 12) h2) = zseg zPP true (zcal (ρ := ρ) [(49, [none, none], zcx2 F_X_failedAt)]) (zget (999, 0, 0, 0) zc_X_faultAt) (zcut zu_X_faultAt) (zorc (ρ := ρ) []) kr kt 400 0 [some (100, a0), some (0, a1)] [] h := by rfl
set_option maxRecDepth 100000 in
theorem qe_X_faultAt {ρ : Type} (kr : Int → zH → Option ρ) (kt : Nat → zH → Option ρ) (a0 a1 : Int) (h : zH) : X_faultAt a0 a1 h kt kr = zseg zPP true (zcal (ρ := ρ) [(49, [none, none], zcx2 X_failedAt)]) (zget (999, 0, 0, 0) zc_X_faultAt) (zcut zu_X_faultAt) (zorc (ρ := ρ) []) kr kt 400 0 [some (100, a0), some (0, a1)] [] h := qg_X_faultAt kr kt X_failedAt a0 a1 h
def zc_X_isRacing : List zI := [(14, 0, 0, 100), (10, 0, 1, 0), (110, 0, 123, 48), (999, 0, 0, 0), (999, 0, 0, 0), (20, 0, 3, 109), (10, 0, 2, 0), (113, 0, 83, 55), (999, 0, 0, 0), (999, 0, 0, 0), (61, 11, 21, 0), (999, 0, 0, 0), (999, 0, 0, 0), (134, 89, 87, 3), (999, 0, 0, 0), (999, 0, 0, 0), (999, 0, 0, 0), (999, 0, 0, 0), (999, 0, 0, 0), (999, 0, 0, 0), (999, 0, 0, 0), (14, 0, 3, 109), (80, 9, 240, 17), (999, 0, 0, 0), (999, 0, 0, 0), (10, 0, 2, 0), (91, 0, 0, 35), (130, 0, 1, 0)]
def zu_X_isRacing : List (Nat × List Bool) := []
set_option maxRecDepth 100000 in
theorem qg_X_isRacing {ρ : Type} (kr : Int → zH → Option ρ) (kt : Nat → zH → Option ρ) (F_X_launchAt : Int → Int → zH → (Nat → zH → Option ρ) → (Int → zH → Option ρ) → Option ρ) (F_X_isCell : Int → zH → (Int → zH → Option ρ) → Option ρ) (a0 a1 a2 : Int) (h : zH) : (zob h 0 a0 fun _ =>
F_X_launchAt a0 a1 h kt fun v1 h2 =>
F_X_isCell a2 h2  fun v3 h4 =>
if v3 = 0 then zlet (zthrown h4) fun h9 => kt 3 h9
else zob h4 9 v1 fun p5 =>
zob h4 35 (zhD h4 9 p5 17) fun p6 =>
zix (zhL h4 35 p6) a2 fun j7 =>
znar 1 (zhD h4 35 p6 j7) fun x8 => kr x8 h4) = zseg zPP true (zcal (ρ := ρ) [(48, [none, none], zcx2 F_X_launchAt), (55, [none], zca1 F_X_isCell)]) (zget (999, 0, 0, 0) zc_X_isRacing) (zcut zu_X_isRacing) (zorc (ρ := ρ) []) kr kt 400 0 [some (100, a0), some (0, a1), some (0, a2), none] [] h := by rfl
set_option maxRecDepth 100000 in
theorem qe_X_isRacing {ρ : Type} (kr : Int → zH → Option ρ) (kt : Nat → zH → Option ρ) (a0 a1 a2 : Int) (h : zH) : X_isRacing a0 a1 a2 h kt kr = zseg zPP true (zcal (ρ := ρ) [(48, [none, none], zcx2 X_launchAt), (55, [none], zca1 X_isCell)]) (zget (999, 0, 0, 0) zc_X_isRacing) (zcut zu_X_isRacing) (zorc (ρ := ρ) []) kr kt 400 0 [some (100, a0), some (0, a1), some (0, a2), none] [] h := qg_X_isRacing kr kt X_launchAt X_isCell a0 a1 a2 h
def zc_X_races : List zI := [(14, 0, 0, 100), (10, 0, 1, 0), (110, 0, 123, 48), (999, 0, 0, 0), (999, 0, 0, 0), (80, 9, 244, 18), (999, 0, 0, 0), (999, 0, 0, 0), (130, 0, 0, 0)]
def zu_X_races : List (Nat × List Bool) := []
set_option maxRecDepth 100000 in
theorem qg_X_races {ρ : Type} (kr : Int → zH → Option ρ) (kt : Nat → zH → Option ρ) (F_X_launchAt : Int → Int → zH → (Nat → zH → Option ρ) → (Int → zH → Option ρ) → Option ρ) (a0 a1 : Int) (h : zH) : (zob h 0 a0 fun _ =>
F_X_launchAt a0 a1 h kt fun v1 h2 =>
zob h2 9 v1 fun p3 =>
kr (zhD h2 9 p3 18) h2) = zseg zPP true (zcal (ρ := ρ) [(48, [none, none], zcx2 F_X_launchAt)]) (zget (999, 0, 0, 0) zc_X_races) (zcut zu_X_races) (zorc (ρ := ρ) []) kr kt 400 0 [some (100, a0), some (0, a1)] [] h := by rfl
set_option maxRecDepth 100000 in
theorem qe_X_races {ρ : Type} (kr : Int → zH → Option ρ) (kt : Nat → zH → Option ρ) (a0 a1 : Int) (h : zH) : X_races a0 a1 h kt kr = zseg zPP true (zcal (ρ := ρ) [(48, [none, none], zcx2 X_launchAt)]) (zget (999, 0, 0, 0) zc_X_races) (zcut zu_X_races) (zorc (ρ := ρ) []) kr kt 400 0 [some (100, a0), some (0, a1)] [] h := qg_X_races kr kt X_launchAt a0 a1 h
def zc_Ke_hasLetterOf : List zI := [(0, 0, 0, 0), (16, 0, 2, 0), (10, 0, 2, 0), (14, 0, 0, 107), (80, 7, 24, 3), (999, 0, 0, 0), (999, 0, 0, 0), (69, 24, 31, 0), (999, 0, 0, 0), (999, 0, 0, 0), (14, 0, 0, 107), (80, 7, 11, 2), (999, 0, 0, 0), (999, 0, 0, 0), (10, 0, 2, 0), (94, 0, 0, 33), (14, 0, 1, 3), (110, 0, 31, 219), (999, 0, 0, 0), (999, 0, 0, 0), (60, 5, 25, 0), (999, 0, 0, 0), (999, 0, 0, 0), (0, 1, 0, 0), (130, 0, 1, 0), (22, 1, 2, 0), (999, 0, 0, 0), (999, 0, 0, 0), (72, (-26), 2, 0), (999, 0, 0, 0), (999, 0, 0, 0), (0, 0, 0, 0), (130, 0, 1, 0)]
def zu_Ke_hasLetterOf : List (Nat × List Bool) := [(2, [true, true, true])]
set_option maxRecDepth 100000 in
theorem qg_Ke_hasLetterOf_2b {ρ : Type} (kr : Int → zH → Option ρ) (r2 : Int → Int → Int → zH → Option ρ) (F_In_isOneOf : Int → Int → zH → (Int → zH → Option ρ) → Option ρ) (a0 a1 a2 : Int) (h : zH) : (zob h 7 a0 fun p1 =>
if a2 < (zhD h 7 p1 3) then (zob h 7 a0 fun p2 =>
zob h 33 (zhD h 7 p2 2) fun p3 =>
zix (zhL h 33 p3) a2 fun j4 =>
zob h 8 (zhD h 33 p3 j4) fun _ =>
F_In_isOneOf (zhD h 33 p3 j4) a1 h  fun v5 h6 =>
if v5 = 0 then r2 a0 a1 (wr (a2 + 1)) h6
else kr 1 h6)
else kr 0 h) = zseg zPP true (zcal (ρ := ρ) [(219, [none, none], zca2 F_In_isOneOf)]) (zget (999, 0, 0, 0) zc_Ke_hasLetterOf) (zcut zu_Ke_hasLetterOf) (zorc (ρ := ρ) [(2, [some (107, none), some (3, none), some (0, none)], [], zap3 r2)]) kr (fun _ _ => none) 400 2 [some (107, a0), some (3, a1), some (0, a2)] [] h := by rfl
set_option maxRecDepth 100000 in
theorem qe_Ke_hasLetterOf_2b {ρ : Type} (kr : Int → zH → Option ρ) (r2 : Int → Int → Int → zH → Option ρ) (a0 a1 a2 : Int) (h : zH) : Ke_hasLetterOf_2b kr r2 a0 a1 a2 h = zseg zPP true (zcal (ρ := ρ) [(219, [none, none], zca2 In_isOneOf)]) (zget (999, 0, 0, 0) zc_Ke_hasLetterOf) (zcut zu_Ke_hasLetterOf) (zorc (ρ := ρ) [(2, [some (107, none), some (3, none), some (0, none)], [], zap3 r2)]) kr (fun _ _ => none) 400 2 [some (107, a0), some (3, a1), some (0, a2)] [] h := qg_Ke_hasLetterOf_2b kr r2 In_isOneOf a0 a1 a2 h
set_option maxRecDepth 100000 in
theorem qg_Ke_hasLetterOf {ρ : Type} (kr : Int → zH → Option ρ) (c2 : Int → Int → Int → zH → Option ρ) (a0 a1 : Int) (h : zH) : (c2 a0 a1 0 h) = zseg zPP true (zcal (ρ := ρ) []) (zget (999, 0, 0, 0) zc_Ke_hasLetterOf) (zcut zu_Ke_hasLetterOf) (zorc (ρ := ρ) [(2, [some (107, none), some (3, none), some (0, none)], [], zap3 c2)]) kr (fun _ _ => none) 400 0 [some (107, a0), some (3, a1), none] [] h := by rfl
set_option maxRecDepth 100000 in
theorem qe_Ke_hasLetterOf {ρ : Type} (kr : Int → zH → Option ρ) (a0 a1 : Int) (h : zH) : Ke_hasLetterOf a0 a1 h kr = zseg zPP true (zcal (ρ := ρ) []) (zget (999, 0, 0, 0) zc_Ke_hasLetterOf) (zcut zu_Ke_hasLetterOf) (zorc (ρ := ρ) [(2, [some (107, none), some (3, none), some (0, none)], [], zap3 (Ke_hasLetterOf_2 kr))]) kr (fun _ _ => none) 400 0 [some (107, a0), some (3, a1), none] [] h := qg_Ke_hasLetterOf kr (Ke_hasLetterOf_2 kr) a0 a1 h
def zc_Re_begin : List zI := [(14, 0, 0, 105), (14, 0, 1, 107), (82, 5, 30, 4), (999, 0, 0, 0), (999, 0, 0, 0), (14, 0, 0, 105), (10, 0, 2, 0), (1, 16, 0, 0), (999, 0, 0, 0), (113, 0, 34, 3), (999, 0, 0, 0), (999, 0, 0, 0), (82, 5, 40, 5), (999, 0, 0, 0), (999, 0, 0, 0), (14, 0, 0, 105), (10, 0, 3, 0), (82, 5, 44, 6), (999, 0, 0, 0), (999, 0, 0, 0), (0, 0, 0, 0), (17, 0, 5, 0), (999, 0, 0, 0), (11, 0, 5, 0), (999, 0, 0, 0), (1, 64, 0, 0), (999, 0, 0, 0), (69, 29, 56, 0), (999, 0, 0, 0), (999, 0, 0, 0), (11, 0, 5, 0), (999, 0, 0, 0), (15, 0, 4, 122), (999, 0, 0, 0), (100, 0, 0, 22), (69, 21, 56, 0), (999, 0, 0, 0), (999, 0, 0, 0), (14, 0, 0, 105), (80, 5, 9, 0), (999, 0, 0, 0), (999, 0, 0, 0), (11, 0, 5, 0), (999, 0, 0, 0), (15, 0, 4, 122), (999, 0, 0, 0), (11, 0, 5, 0), (999, 0, 0, 0), (90, 0, 0, 22), (95, 0, 0, 28), (22, 1, 5, 0), (999, 0, 0, 0), (999, 0, 0, 0), (72, (-30), 23, 0), (999, 0, 0, 0), (999, 0, 0, 0), (133, 0, 0, 0)]
def zu_Re_begin : List (Nat × List Bool) := [(23, [true, false, false, false, true, true]), (56, [false, false, false, false, false, false])]
set_option maxRecDepth 100000 in
theorem qg_Re_begin_56 {ρ : Type} (kr : Int → zH → Option ρ) (h : zH) : (kr 0 h) = zseg zPP true (zcal (ρ := ρ) []) (zget (999, 0, 0, 0) zc_Re_begin) (zcut zu_Re_begin) (zorc (ρ := ρ) []) kr (fun _ _ => none) 400 56 [none, none, none, none, none, none] [] h := by rfl
set_option maxRecDepth 100000 in
theorem qe_Re_begin_56 {ρ : Type} (kr : Int → zH → Option ρ) (h : zH) : Re_begin_56 kr h = zseg zPP true (zcal (ρ := ρ) []) (zget (999, 0, 0, 0) zc_Re_begin) (zcut zu_Re_begin) (zorc (ρ := ρ) []) kr (fun _ _ => none) 400 56 [none, none, none, none, none, none] [] h := qg_Re_begin_56 kr h
set_option maxRecDepth 100000 in
theorem qg_Re_begin_23b {ρ : Type} (kr : Int → zH → Option ρ) (r23 : Int → Int → Int → zH → Option ρ) (c56 : zH → Option ρ) (a0 a4 a5 : Int) (h : zH) : (if a5 < 64 then (zob h 22 a4 fun p1 =>
if a5 < (zhL h 22 p1 : Int) then (zob h 5 a0 fun p2 =>
zob h 22 a4 fun p3 =>
zix (zhL h 22 p3) a5 fun j4 =>
zob h 28 (zhD h 5 p2 0) fun p5 =>
zix (zhL h 28 p5) a5 fun j6 =>
zlet (zset h 28 p5 j6 (zhD h 22 p3 j4)) fun h7 =>
r23 a0 a4 (wr (a5 + 1)) h7)
else c56 h)
else c56 h) = zseg zPP true (zcal (ρ := ρ) []) (zget (999, 0, 0, 0) zc_Re_begin) (zcut zu_Re_begin) (zorc (ρ := ρ) [(23, [some (105, none), none, none, none, some (122, none), some (0, none)], [], zap3 r23), (56, [none, none, none, none, none, none], [], zap0 c56)]) kr (fun _ _ => none) 400 23 [some (105, a0), none, none, none, some (122, a4), some (0, a5)] [] h := by rfl
set_option maxRecDepth 100000 in
theorem qe_Re_begin_23b {ρ : Type} (kr : Int → zH → Option ρ) (r23 : Int → Int → Int → zH → Option ρ) (a0 a4 a5 : Int) (h : zH) : Re_begin_23b kr r23 a0 a4 a5 h = zseg zPP true (zcal (ρ := ρ) []) (zget (999, 0, 0, 0) zc_Re_begin) (zcut zu_Re_begin) (zorc (ρ := ρ) [(23, [some (105, none), none, none, none, some (122, none), some (0, none)], [], zap3 r23), (56, [none, none, none, none, none, none], [], zap0 (Re_begin_56 kr))]) kr (fun _ _ => none) 400 23 [some (105, a0), none, none, none, some (122, a4), some (0, a5)] [] h := qg_Re_begin_23b kr r23 (Re_begin_56 kr) a0 a4 a5 h
set_option maxRecDepth 100000 in
theorem qg_Re_begin {ρ : Type} (kr : Int → zH → Option ρ) (F_Ma_min : Int → Int → zH → (Int → zH → Option ρ) → Option ρ) (c23 : Int → Int → Int → zH → Option ρ) (a0 a1 a2 a3 a4 : Int) (h : zH) : (zob h 5 a0 fun p1 =>
zlet (zset h 5 p1 4 a1) fun h2 =>
F_Ma_min a2 16 h2  fun v3 h4 =>
zob h4 5 a0 fun p5 =>
zlet (zset h4 5 p5 5 v3) fun h6 =>
zob h6 5 a0 fun p7 =>
znar 1 a3 fun x8 =>
zlet (zset h6 5 p7 6 x8) fun h9 =>
c23 a0 a4 0 h9) = zseg zPP true (zcal (ρ := ρ) [(3, [none, none], zca2 F_Ma_min)]) (zget (999, 0, 0, 0) zc_Re_begin) (zcut zu_Re_begin) (zorc (ρ := ρ) [(23, [some (105, none), none, none, none, some (122, none), some (0, none)], [], zap3 c23)]) kr (fun _ _ => none) 400 0 [some (105, a0), some (107, a1), some (0, a2), some (0, a3), some (122, a4), none] [] h := by rfl
set_option maxRecDepth 100000 in
theorem qe_Re_begin {ρ : Type} (kr : Int → zH → Option ρ) (a0 a1 a2 a3 a4 : Int) (h : zH) : Re_begin a0 a1 a2 a3 a4 h kr = zseg zPP true (zcal (ρ := ρ) [(3, [none, none], zca2 Ma_min)]) (zget (999, 0, 0, 0) zc_Re_begin) (zcut zu_Re_begin) (zorc (ρ := ρ) [(23, [some (105, none), none, none, none, some (122, none), some (0, none)], [], zap3 (Re_begin_23 kr))]) kr (fun _ _ => none) 400 0 [some (105, a0), some (107, a1), some (0, a2), some (0, a3), some (122, a4), none] [] h := qg_Re_begin kr Ma_min (Re_begin_23 kr) a0 a1 a2 a3 a4 h
def zc_Th_lowestOfWaiting_30 : List zI := [(0, 0, 0, 0), (16, 0, 2, 0), (10, 0, 2, 0), (10, 0, 1, 0), (69, 28, 32, 0), (999, 0, 0, 0), (999, 0, 0, 0), (10, 0, 2, 0), (14, 0, 0, 130), (100, 0, 0, 30), (69, 22, 32, 0), (999, 0, 0, 0), (999, 0, 0, 0), (14, 0, 0, 130), (10, 0, 2, 0), (94, 0, 0, 30), (110, 0, 70, 256), (999, 0, 0, 0), (999, 0, 0, 0), (60, 7, 26, 0), (999, 0, 0, 0), (999, 0, 0, 0), (14, 0, 0, 130), (10, 0, 2, 0), (94, 0, 0, 30), (132, 0, 0, 106), (22, 1, 2, 0), (999, 0, 0, 0), (999, 0, 0, 0), (72, (-27), 2, 0), (999, 0, 0, 0), (999, 0, 0, 0), (7, 0, 0, 106), (132, 0, 0, 106)]
def zu_Th_lowestOfWaiting_30 : List (Nat × List Bool) := [(2, [true, true, true]), (32, [false, false, false])]
set_option maxRecDepth 100000 in
theorem qg_Th_lowestOfWaiting_30_32 {ρ : Type} (kr : Int → zH → Option ρ) (h : zH) : (kr (-1) h) = zseg zPP true (zcal (ρ := ρ) []) (zget (999, 0, 0, 0) zc_Th_lowestOfWaiting_30) (zcut zu_Th_lowestOfWaiting_30) (zorc (ρ := ρ) []) kr (fun _ _ => none) 400 32 [none, none, none] [] h := by rfl
set_option maxRecDepth 100000 in
theorem qe_Th_lowestOfWaiting_30_32 {ρ : Type} (kr : Int → zH → Option ρ) (h : zH) : Th_lowestOfWaiting_30_32 kr h = zseg zPP true (zcal (ρ := ρ) []) (zget (999, 0, 0, 0) zc_Th_lowestOfWaiting_30) (zcut zu_Th_lowestOfWaiting_30) (zorc (ρ := ρ) []) kr (fun _ _ => none) 400 32 [none, none, none] [] h := qg_Th_lowestOfWaiting_30_32 kr h
set_option maxRecDepth 100000 in
theorem qg_Th_lowestOfWaiting_30_2b {ρ : Type} (kr : Int → zH → Option ρ) (r2 : Int → Int → Int → zH → Option ρ) (F_Th_isWaiting : Int → zH → (Int → zH → Option ρ) → Option ρ) (c32 : zH → Option ρ) (a0 a1 a2 : Int) (h : zH) : (if a2 < a1 then (zob h 30 a0 fun p1 =>
if a2 < (zhL h 30 p1 : Int) then (zob h 30 a0 fun p2 =>
zix (zhL h 30 p2) a2 fun j3 =>
zob h 6 (zhD h 30 p2 j3) fun _ =>
F_Th_isWaiting (zhD h 30 p2 j3) h  fun v4 h5 =>
if v4 = 0 then r2 a0 a1 (wr (a2 + 1)) h5
else zob h5 30 a0 fun p6 =>
zix (zhL h5 30 p6) a2 fun j7 =>
kr (zhD h5 30 p6 j7) h5)
else c32 h)
else c32 h) = zseg zPP true (zcal (ρ := ρ) [(256, [none], zca1 F_Th_isWaiting)]) (zget (999, 0, 0, 0) zc_Th_lowestOfWaiting_30) (zcut zu_Th_lowestOfWaiting_30) (zorc (ρ := ρ) [(2, [some (130, none), some (0, none), some (0, none)], [], zap3 r2), (32, [none, none, none], [], zap0 c32)]) kr (fun _ _ => none) 400 2 [some (130, a0), some (0, a1), some (0, a2)] [] h := by rfl
set_option maxRecDepth 100000 in
theorem qe_Th_lowestOfWaiting_30_2b {ρ : Type} (kr : Int → zH → Option ρ) (r2 : Int → Int → Int → zH → Option ρ) (a0 a1 a2 : Int) (h : zH) : Th_lowestOfWaiting_30_2b kr r2 a0 a1 a2 h = zseg zPP true (zcal (ρ := ρ) [(256, [none], zca1 Th_isWaiting)]) (zget (999, 0, 0, 0) zc_Th_lowestOfWaiting_30) (zcut zu_Th_lowestOfWaiting_30) (zorc (ρ := ρ) [(2, [some (130, none), some (0, none), some (0, none)], [], zap3 r2), (32, [none, none, none], [], zap0 (Th_lowestOfWaiting_30_32 kr))]) kr (fun _ _ => none) 400 2 [some (130, a0), some (0, a1), some (0, a2)] [] h := qg_Th_lowestOfWaiting_30_2b kr r2 Th_isWaiting (Th_lowestOfWaiting_30_32 kr) a0 a1 a2 h
set_option maxRecDepth 100000 in
theorem qg_Th_lowestOfWaiting_30 {ρ : Type} (kr : Int → zH → Option ρ) (c2 : Int → Int → Int → zH → Option ρ) (a0 a1 : Int) (h : zH) : (c2 a0 a1 0 h) = zseg zPP true (zcal (ρ := ρ) []) (zget (999, 0, 0, 0) zc_Th_lowestOfWaiting_30) (zcut zu_Th_lowestOfWaiting_30) (zorc (ρ := ρ) [(2, [some (130, none), some (0, none), some (0, none)], [], zap3 c2)]) kr (fun _ _ => none) 400 0 [some (130, a0), some (0, a1), none] [] h := by rfl
set_option maxRecDepth 100000 in
theorem qe_Th_lowestOfWaiting_30 {ρ : Type} (kr : Int → zH → Option ρ) (a0 a1 : Int) (h : zH) : Th_lowestOfWaiting_30 a0 a1 h kr = zseg zPP true (zcal (ρ := ρ) []) (zget (999, 0, 0, 0) zc_Th_lowestOfWaiting_30) (zcut zu_Th_lowestOfWaiting_30) (zorc (ρ := ρ) [(2, [some (130, none), some (0, none), some (0, none)], [], zap3 (Th_lowestOfWaiting_30_2 kr))]) kr (fun _ _ => none) 400 0 [some (130, a0), some (0, a1), none] [] h := qg_Th_lowestOfWaiting_30 kr (Th_lowestOfWaiting_30_2 kr) a0 a1 h
def zc_Th_release_30 : List zI := [(0, 0, 0, 0), (17, 0, 4, 0), (999, 0, 0, 0), (11, 0, 4, 0), (999, 0, 0, 0), (10, 0, 1, 0), (69, 39, 45, 0), (999, 0, 0, 0), (999, 0, 0, 0), (11, 0, 4, 0), (999, 0, 0, 0), (14, 0, 0, 130), (100, 0, 0, 30), (69, 32, 45, 0), (999, 0, 0, 0), (999, 0, 0, 0), (14, 0, 0, 130), (11, 0, 4, 0), (999, 0, 0, 0), (94, 0, 0, 30), (110, 0, 70, 256), (999, 0, 0, 0), (999, 0, 0, 0), (60, 16, 39, 0), (999, 0, 0, 0), (999, 0, 0, 0), (14, 0, 0, 130), (11, 0, 4, 0), (999, 0, 0, 0), (94, 0, 0, 30), (80, 6, 63, 3), (999, 0, 0, 0), (999, 0, 0, 0), (10, 0, 2, 0), (66, 5, 39, 0), (999, 0, 0, 0), (999, 0, 0, 0), (0, 0, 0, 0), (130, 0, 1, 0), (22, 1, 4, 0), (999, 0, 0, 0), (999, 0, 0, 0), (72, (-39), 3, 0), (999, 0, 0, 0), (999, 0, 0, 0), (0, 0, 0, 0), (17, 0, 4, 0), (999, 0, 0, 0), (11, 0, 4, 0), (999, 0, 0, 0), (10, 0, 1, 0), (69, 46, 97, 0), (999, 0, 0, 0), (999, 0, 0, 0), (11, 0, 4, 0), (999, 0, 0, 0), (14, 0, 0, 130), (100, 0, 0, 30), (69, 39, 97, 0), (999, 0, 0, 0), (999, 0, 0, 0), (14, 0, 0, 130), (11, 0, 4, 0), (999, 0, 0, 0), (94, 0, 0, 30), (110, 0, 70, 256), (999, 0, 0, 0), (999, 0, 0, 0), (60, 23, 91, 0), (999, 0, 0, 0), (999, 0, 0, 0), (14, 0, 0, 130), (11, 0, 4, 0), (999, 0, 0, 0), (94, 0, 0, 30), (1, 114, 0, 0), (999, 0, 0, 0), (82, 6, 34, 4), (999, 0, 0, 0), (999, 0, 0, 0), (14, 0, 0, 130), (11, 0, 4, 0), (999, 0, 0, 0), (94, 0, 0, 30), (10, 0, 2, 0), (0, 1, 0, 0), (30, 0, 0, 0), (10, 0, 3, 0), (110, 0, 38, 262), (999, 0, 0, 0), (999, 0, 0, 0), (22, 1, 4, 0), (999, 0, 0, 0), (999, 0, 0, 0), (72, (-46), 48, 0), (999, 0, 0, 0), (999, 0, 0, 0), (0, 1, 0, 0), (130, 0, 1, 0)]
def zu_Th_release_30 : List (Nat × List Bool) := [(3, [true, true, true, true, true]), (39, [true, true, true, true, true]), (45, [true, true, true, true, false]), (48, [true, true, true, true, true]), (91, [true, true, true, true, true]), (97, [false, false, false, false, false])]
set_option maxRecDepth 100000 in
theorem qg_Th_release_30_39 {ρ : Type} (kr : Int → zH → Option ρ) (r3 : Int → Int → Int → Int → Int → zH → Option ρ) (a0 a1 a2 a3 a4 : Int) (h : zH) : (r3 a0 a1 a2 a3 (wr (a4 + 1)) h) = zseg zPP true (zcal (ρ := ρ) []) (zget (999, 0, 0, 0) zc_Th_release_30) (zcut zu_Th_release_30) (zorc (ρ := ρ) [(3, [some (130, none), some (0, none), some (0, none), some (0, none), some (0, none)], [], zap5 r3)]) kr (fun _ _ => none) 400 39 [some (130, a0), some (0, a1), some (0, a2), some (0, a3), some (0, a4)] [] h := by rfl
set_option maxRecDepth 100000 in
theorem qe_Th_release_30_39 {ρ : Type} (kr : Int → zH → Option ρ) (r3 : Int → Int → Int → Int → Int → zH → Option ρ) (a0 a1 a2 a3 a4 : Int) (h : zH) : Th_release_30_39 kr r3 a0 a1 a2 a3 a4 h = zseg zPP true (zcal (ρ := ρ) []) (zget (999, 0, 0, 0) zc_Th_release_30) (zcut zu_Th_release_30) (zorc (ρ := ρ) [(3, [some (130, none), some (0, none), some (0, none), some (0, none), some (0, none)], [], zap5 r3)]) kr (fun _ _ => none) 400 39 [some (130, a0), some (0, a1), some (0, a2), some (0, a3), some (0, a4)] [] h := qg_Th_release_30_39 kr r3 a0 a1 a2 a3 a4 h
set_option maxRecDepth 100000 in
theorem qg_Th_release_30_91 {ρ : Type} (kr : Int → zH → Option ρ) (r48 : Int → Int → Int → Int → Int → zH → Option ρ) (a0 a1 a2 a3 a4 : Int) (h : zH) : (r48 a0 a1 a2 a3 (wr (a4 + 1)) h) = zseg zPP true (zcal (ρ := ρ) []) (zget (999, 0, 0, 0) zc_Th_release_30) (zcut zu_Th_release_30) (zorc (ρ := ρ) [(48, [some (130, none), some (0, none), some (0, none), some (0, none), some (0, none)], [], zap5 r48)]) kr (fun _ _ => none) 400 91 [some (130, a0), some (0, a1), some (0, a2), some (0, a3), some (0, a4)] [] h := by rfl
set_option maxRecDepth 100000 in
theorem qe_Th_release_30_91 {ρ : Type} (kr : Int → zH → Option ρ) (r48 : Int → Int → Int → Int → Int → zH → Option ρ) (a0 a1 a2 a3 a4 : Int) (h : zH) : Th_release_30_91 kr r48 a0 a1 a2 a3 a4 h = zseg zPP true (zcal (ρ := ρ) []) (zget (999, 0, 0, 0) zc_Th_release_30) (zcut zu_Th_release_30) (zorc (ρ := ρ) [(48, [some (130, none), some (0, none), some (0, none), some (0, none), some (0, none)], [], zap5 r48)]) kr (fun _ _ => none) 400 91 [some (130, a0), some (0, a1), some (0, a2), some (0, a3), some (0, a4)] [] h := qg_Th_release_30_91 kr r48 a0 a1 a2 a3 a4 h
set_option maxRecDepth 100000 in
theorem qg_Th_release_30_97 {ρ : Type} (kr : Int → zH → Option ρ) (h : zH) : (kr 1 h) = zseg zPP true (zcal (ρ := ρ) []) (zget (999, 0, 0, 0) zc_Th_release_30) (zcut zu_Th_release_30) (zorc (ρ := ρ) []) kr (fun _ _ => none) 400 97 [none, none, none, none, none] [] h := by rfl
set_option maxRecDepth 100000 in
theorem qe_Th_release_30_97 {ρ : Type} (kr : Int → zH → Option ρ) (h : zH) : Th_release_30_97 kr h = zseg zPP true (zcal (ρ := ρ) []) (zget (999, 0, 0, 0) zc_Th_release_30) (zcut zu_Th_release_30) (zorc (ρ := ρ) []) kr (fun _ _ => none) 400 97 [none, none, none, none, none] [] h := qg_Th_release_30_97 kr h
set_option maxRecDepth 100000 in
theorem qg_Th_release_30_48b {ρ : Type} (kr : Int → zH → Option ρ) (r48 : Int → Int → Int → Int → Int → zH → Option ρ) (F_Th_isWaiting : Int → zH → (Int → zH → Option ρ) → Option ρ) (F_Th_goTo : Int → Int → Int → zH → (Int → zH → Option ρ) → Option ρ) (c91 : Int → Int → Int → Int → Int → zH → Option ρ) (c97 : zH → Option ρ) (a0 a1 a2 a3 a4 : Int) (h : zH) : (if a4 < a1 then (zob h 30 a0 fun p1 =>
if a4 < (zhL h 30 p1 : Int) then (zob h 30 a0 fun p2 =>
zix (zhL h 30 p2) a4 fun j3 =>
zob h 6 (zhD h 30 p2 j3) fun _ =>
F_Th_isWaiting (zhD h 30 p2 j3) h  fun v4 h5 =>
if v4 = 0 then c91 a0 a1 a2 a3 a4 h5
else zob h5 30 a0 fun p6 =>
zix (zhL h5 30 p6) a4 fun j7 =>
zob h5 6 (zhD h5 30 p6 j7) fun p8 =>
zlet (zset h5 6 p8 4 114) fun h9 =>
zob h9 30 a0 fun p10 =>
zix (zhL h9 30 p10) a4 fun j11 =>
zob h9 6 (zhD h9 30 p10 j11) fun _ =>
F_Th_goTo (zhD h9 30 p10 j11) (wr (a2 + 1)) a3 h9  fun _ h13 =>
c91 a0 a1 a2 a3 a4 h13)
else c97 h)
else c97 h) = zseg zPP true (zcal (ρ := ρ) [(256, [none], zca1 F_Th_isWaiting), (262, [none, none, none], zca3 F_Th_goTo)]) (zget (999, 0, 0, 0) zc_Th_release_30) (zcut zu_Th_release_30) (zorc (ρ := ρ) [(91, [some (130, none), some (0, none), some (0, none), some (0, none), some (0, none)], [], zap5 c91), (97, [none, none, none, none, none], [], zap0 c97)]) kr (fun _ _ => none) 400 48 [some (130, a0), some (0, a1), some (0, a2), some (0, a3), some (0, a4)] [] h := by rfl
set_option maxRecDepth 100000 in
theorem qe_Th_release_30_48b {ρ : Type} (kr : Int → zH → Option ρ) (r48 : Int → Int → Int → Int → Int → zH → Option ρ) (a0 a1 a2 a3 a4 : Int) (h : zH) : Th_release_30_48b kr r48 a0 a1 a2 a3 a4 h = zseg zPP true (zcal (ρ := ρ) [(256, [none], zca1 Th_isWaiting), (262, [none, none, none], zca3 Th_goTo)]) (zget (999, 0, 0, 0) zc_Th_release_30) (zcut zu_Th_release_30) (zorc (ρ := ρ) [(91, [some (130, none), some (0, none), some (0, none), some (0, none), some (0, none)], [], zap5 (Th_release_30_91 kr r48)), (97, [none, none, none, none, none], [], zap0 (Th_release_30_97 kr))]) kr (fun _ _ => none) 400 48 [some (130, a0), some (0, a1), some (0, a2), some (0, a3), some (0, a4)] [] h := qg_Th_release_30_48b kr r48 Th_isWaiting Th_goTo (Th_release_30_91 kr r48) (Th_release_30_97 kr) a0 a1 a2 a3 a4 h
set_option maxRecDepth 100000 in
theorem qg_Th_release_30_45 {ρ : Type} (kr : Int → zH → Option ρ) (c48 : Int → Int → Int → Int → Int → zH → Option ρ) (a0 a1 a2 a3 : Int) (h : zH) : (c48 a0 a1 a2 a3 0 h) = zseg zPP true (zcal (ρ := ρ) []) (zget (999, 0, 0, 0) zc_Th_release_30) (zcut zu_Th_release_30) (zorc (ρ := ρ) [(48, [some (130, none), some (0, none), some (0, none), some (0, none), some (0, none)], [], zap5 c48)]) kr (fun _ _ => none) 400 45 [some (130, a0), some (0, a1), some (0, a2), some (0, a3), none] [] h := by rfl
set_option maxRecDepth 100000 in
theorem qe_Th_release_30_45 {ρ : Type} (kr : Int → zH → Option ρ) (a0 a1 a2 a3 : Int) (h : zH) : Th_release_30_45 kr a0 a1 a2 a3 h = zseg zPP true (zcal (ρ := ρ) []) (zget (999, 0, 0, 0) zc_Th_release_30) (zcut zu_Th_release_30) (zorc (ρ := ρ) [(48, [some (130, none), some (0, none), some (0, none), some (0, none), some (0, none)], [], zap5 (Th_release_30_48 kr))]) kr (fun _ _ => none) 400 45 [some (130, a0), some (0, a1), some (0, a2), some (0, a3), none] [] h := qg_Th_release_30_45 kr (Th_release_30_48 kr) a0 a1 a2 a3 h
set_option maxRecDepth 100000 in
theorem qg_Th_release_30_3b {ρ : Type} (kr : Int → zH → Option ρ) (r3 : Int → Int → Int → Int → Int → zH → Option ρ) (F_Th_isWaiting : Int → zH → (Int → zH → Option ρ) → Option ρ) (c39 : Int → Int → Int → Int → Int → zH → Option ρ) (c45 : Int → Int → Int → Int → zH → Option ρ) (a0 a1 a2 a3 a4 : Int) (h : zH) : (if a4 < a1 then (zob h 30 a0 fun p1 =>
if a4 < (zhL h 30 p1 : Int) then (zob h 30 a0 fun p2 =>
zix (zhL h 30 p2) a4 fun j3 =>
zob h 6 (zhD h 30 p2 j3) fun _ =>
F_Th_isWaiting (zhD h 30 p2 j3) h  fun v4 h5 =>
if v4 = 0 then c39 a0 a1 a2 a3 a4 h5
else zob h5 30 a0 fun p6 =>
zix (zhL h5 30 p6) a4 fun j7 =>
zob h5 6 (zhD h5 30 p6 j7) fun p8 =>
if (zhD h5 6 p8 3) = a2 then c39 a0 a1 a2 a3 a4 h5
else kr 0 h5)
else c45 a0 a1 a2 a3 h)
else c45 a0 a1 a2 a3 h) = zseg zPP true (zcal (ρ := ρ) [(256, [none], zca1 F_Th_isWaiting)]) (zget (999, 0, 0, 0) zc_Th_release_30) (zcut zu_Th_release_30) (zorc (ρ := ρ) [(39, [some (130, none), some (0, none), some (0, none), some (0, none), some (0, none)], [], zap5 c39), (45, [some (130, none), some (0, none), some (0, none), some (0, none), none], [], zap4 c45)]) kr (fun _ _ => none) 400 3 [some (130, a0), some (0, a1), some (0, a2), some (0, a3), some (0, a4)] [] h := by rfl
set_option maxRecDepth 100000 in
theorem qe_Th_release_30_3b {ρ : Type} (kr : Int → zH → Option ρ) (r3 : Int → Int → Int → Int → Int → zH → Option ρ) (a0 a1 a2 a3 a4 : Int) (h : zH) : Th_release_30_3b kr r3 a0 a1 a2 a3 a4 h = zseg zPP true (zcal (ρ := ρ) [(256, [none], zca1 Th_isWaiting)]) (zget (999, 0, 0, 0) zc_Th_release_30) (zcut zu_Th_release_30) (zorc (ρ := ρ) [(39, [some (130, none), some (0, none), some (0, none), some (0, none), some (0, none)], [], zap5 (Th_release_30_39 kr r3)), (45, [some (130, none), some (0, none), some (0, none), some (0, none), none], [], zap4 (Th_release_30_45 kr))]) kr (fun _ _ => none) 400 3 [some (130, a0), some (0, a1), some (0, a2), some (0, a3), some (0, a4)] [] h := qg_Th_release_30_3b kr r3 Th_isWaiting (Th_release_30_39 kr r3) (Th_release_30_45 kr) a0 a1 a2 a3 a4 h
set_option maxRecDepth 100000 in
theorem qg_Th_release_30 {ρ : Type} (kr : Int → zH → Option ρ) (c3 : Int → Int → Int → Int → Int → zH → Option ρ) (a0 a1 a2 a3 : Int) (h : zH) : (c3 a0 a1 a2 a3 0 h) = zseg zPP true (zcal (ρ := ρ) []) (zget (999, 0, 0, 0) zc_Th_release_30) (zcut zu_Th_release_30) (zorc (ρ := ρ) [(3, [some (130, none), some (0, none), some (0, none), some (0, none), some (0, none)], [], zap5 c3)]) kr (fun _ _ => none) 400 0 [some (130, a0), some (0, a1), some (0, a2), some (0, a3), none] [] h := by rfl
set_option maxRecDepth 100000 in
theorem qe_Th_release_30 {ρ : Type} (kr : Int → zH → Option ρ) (a0 a1 a2 a3 : Int) (h : zH) : Th_release_30 a0 a1 a2 a3 h kr = zseg zPP true (zcal (ρ := ρ) []) (zget (999, 0, 0, 0) zc_Th_release_30) (zcut zu_Th_release_30) (zorc (ρ := ρ) [(3, [some (130, none), some (0, none), some (0, none), some (0, none), some (0, none)], [], zap5 (Th_release_30_3 kr))]) kr (fun _ _ => none) 400 0 [some (130, a0), some (0, a1), some (0, a2), some (0, a3), none] [] h := qg_Th_release_30 kr (Th_release_30_3 kr) a0 a1 a2 a3 h
def zc_X_exchange_28 : List zI := [(14, 0, 0, 128), (10, 0, 1, 0), (90, 0, 0, 28), (17, 0, 4, 0), (999, 0, 0, 0), (14, 0, 2, 106), (14, 0, 3, 108), (80, 8, 305, 3), (999, 0, 0, 0), (999, 0, 0, 0), (110, 0, 217, 258), (999, 0, 0, 0), (999, 0, 0, 0), (17, 0, 5, 0), (999, 0, 0, 0), (14, 0, 0, 128), (10, 0, 1, 0), (14, 0, 3, 108), (80, 8, 308, 0), (999, 0, 0, 0), (999, 0, 0, 0), (1, 97, 0, 0), (999, 0, 0, 0), (67, 11, 34, 0), (999, 0, 0, 0), (999, 0, 0, 0), (11, 0, 4, 0), (999, 0, 0, 0), (11, 0, 5, 0), (999, 0, 0, 0), (30, 0, 0, 0), (72, 5, 36, 0), (999, 0, 0, 0), (999, 0, 0, 0), (11, 0, 5, 0), (999, 0, 0, 0), (95, 0, 0, 28), (14, 0, 2, 106), (14, 0, 3, 108), (80, 8, 311, 1), (999, 0, 0, 0), (999, 0, 0, 0), (11, 0, 4, 0), (999, 0, 0, 0), (110, 0, 314, 259), (999, 0, 0, 0), (999, 0, 0, 0), (133, 0, 0, 0)]
def zu_X_exchange_28 : List (Nat × List Bool) := [(36, [false, false, true, true, true, false])]
set_option maxRecDepth 100000 in
theorem qg_X_exchange_28_36 {ρ : Type} (kr : Int → zH → Option ρ) (F_Th_set : Int → Int → Int → zH → (Int → zH → Option ρ) → Option ρ) (a2 a3 a4 t0 t1 t2 : Int) (h : zH) : (zob h 28 t2 fun p1 =>
zix (zhL h 28 p1) t1 fun j2 =>
zlet (zset h 28 p1 j2 t0) fun h3 =>
zob h3 8 a3 fun p4 =>
zob h3 6 a2 fun _ =>
F_Th_set a2 (zhD h3 8 p4 1) a4 h3  fun _ h6 =>
kr 0 h6) = zseg zPP true (zcal (ρ := ρ) [(259, [none, none, none], zca3 F_Th_set)]) (zget (999, 0, 0, 0) zc_X_exchange_28) (zcut zu_X_exchange_28) (zorc (ρ := ρ) []) kr (fun _ _ => none) 400 36 [none, none, some (106, a2), some (108, a3), some (0, a4), none] [(0, t0), (0, t1), (128, t2)] h := by rfl
set_option maxRecDepth 100000 in
theorem qe_X_exchange_28_36 {ρ : Type} (kr : Int → zH → Option ρ) (a2 a3 a4 t0 t1 t2 : Int) (h : zH) : X_exchange_28_36 kr a2 a3 a4 t0 t1 t2 h = zseg zPP true (zcal (ρ := ρ) [(259, [none, none, none], zca3 Th_set)]) (zget (999, 0, 0, 0) zc_X_exchange_28) (zcut zu_X_exchange_28) (zorc (ρ := ρ) []) kr (fun _ _ => none) 400 36 [none, none, some (106, a2), some (108, a3), some (0, a4), none] [(0, t0), (0, t1), (128, t2)] h := qg_X_exchange_28_36 kr Th_set a2 a3 a4 t0 t1 t2 h
set_option maxRecDepth 100000 in
theorem qg_X_exchange_28 {ρ : Type} (kr : Int → zH → Option ρ) (F_Th_at : Int → Int → zH → (Int → zH → Option ρ) → Option ρ) (c36 : Int → Int → Int → Int → Int → Int → zH → Option ρ) (a0 a1 a2 a3 : Int) (h : zH) : (zob h 28 a0 fun p1 =>
zix (zhL h 28 p1) a1 fun j2 =>
zob h 8 a3 fun p3 =>
zob h 6 a2 fun _ =>
F_Th_at a2 (zhD h 8 p3 3) h  fun v4 h5 =>
zob h5 8 a3 fun p6 =>
if (zhD h5 8 p6 0) = 97 then c36 a2 a3 (zhD h 28 p1 j2) (wr ((zhD h 28 p1 j2) + v4)) a1 a0 h5
else c36 a2 a3 (zhD h 28 p1 j2) v4 a1 a0 h5) = zseg zPP true (zcal (ρ := ρ) [(258, [none, none], zca2 F_Th_at)]) (zget (999, 0, 0, 0) zc_X_exchange_28) (zcut zu_X_exchange_28) (zorc (ρ := ρ) [(36, [none, none, some (106, none), some (108, none), some (0, none), none], [(0, none), (0, none), (128, none)], zap6 c36)]) kr (fun _ _ => none) 400 0 [some (128, a0), some (0, a1), some (106, a2), some (108, a3), none, none] [] h := by rfl
set_option maxRecDepth 100000 in
theorem qe_X_exchange_28 {ρ : Type} (kr : Int → zH → Option ρ) (a0 a1 a2 a3 : Int) (h : zH) : X_exchange_28 a0 a1 a2 a3 h kr = zseg zPP true (zcal (ρ := ρ) [(258, [none, none], zca2 Th_at)]) (zget (999, 0, 0, 0) zc_X_exchange_28) (zcut zu_X_exchange_28) (zorc (ρ := ρ) [(36, [none, none, some (106, none), some (108, none), some (0, none), none], [(0, none), (0, none), (128, none)], zap6 (X_exchange_28_36 kr))]) kr (fun _ _ => none) 400 0 [some (128, a0), some (0, a1), some (106, a2), some (108, a3), none, none] [] h := qg_X_exchange_28 kr Th_at (X_exchange_28_36 kr) a0 a1 a2 a3 h
def zc_Re_carryGlobal : List zI := [(10, 0, 3, 0), (114, 0, 129, 55), (999, 0, 0, 0), (999, 0, 0, 0), (61, 5, 9, 0), (999, 0, 0, 0), (999, 0, 0, 0), (0, 0, 0, 0), (130, 0, 1, 0), (14, 0, 2, 108), (80, 8, 132, 0), (999, 0, 0, 0), (999, 0, 0, 0), (1, 114, 0, 0), (999, 0, 0, 0), (67, 20, 35, 0), (999, 0, 0, 0), (999, 0, 0, 0), (14, 0, 1, 106), (14, 0, 2, 108), (80, 8, 136, 1), (999, 0, 0, 0), (999, 0, 0, 0), (14, 0, 0, 105), (80, 5, 9, 0), (999, 0, 0, 0), (999, 0, 0, 0), (10, 0, 3, 0), (90, 0, 0, 28), (110, 0, 139, 259), (999, 0, 0, 0), (999, 0, 0, 0), (72, 39, 71, 0), (999, 0, 0, 0), (999, 0, 0, 0), (14, 0, 2, 108), (80, 8, 132, 0), (999, 0, 0, 0), (999, 0, 0, 0), (1, 119, 0, 0), (999, 0, 0, 0), (67, 20, 61, 0), (999, 0, 0, 0), (999, 0, 0, 0), (14, 0, 0, 105), (80, 5, 9, 0), (999, 0, 0, 0), (999, 0, 0, 0), (10, 0, 3, 0), (14, 0, 1, 106), (14, 0, 2, 108), (80, 8, 142, 2), (999, 0, 0, 0), (999, 0, 0, 0), (110, 0, 106, 258), (999, 0, 0, 0), (999, 0, 0, 0), (95, 0, 0, 28), (72, 13, 71, 0), (999, 0, 0, 0), (999, 0, 0, 0), (14, 0, 0, 105), (80, 5, 9, 0), (999, 0, 0, 0), (999, 0, 0, 0), (10, 0, 3, 0), (14, 0, 1, 106), (14, 0, 2, 108), (114, 0, 145, 61), (999, 0, 0, 0), (999, 0, 0, 0), (0, 1, 0, 0), (130, 0, 1, 0)]
def zu_Re_carryGlobal : List (Nat × List Bool) := [(71, [false, false, false, false])]
set_option maxRecDepth 100000 in
theorem qg_Re_carryGlobal_71 {ρ : Type} (kr : Int → zH → Option ρ) (h : zH) : (kr 1 h) = zseg zPP true (zcal (ρ := ρ) []) (zget (999, 0, 0, 0) zc_Re_carryGlobal) (zcut zu_Re_carryGlobal) (zorc (ρ := ρ) []) kr (fun _ _ => none) 400 71 [none, none, none, none] [] h := by rfl
set_option maxRecDepth 100000 in
theorem qe_Re_carryGlobal_71 {ρ : Type} (kr : Int → zH → Option ρ) (h : zH) : Re_carryGlobal_71 kr h = zseg zPP true (zcal (ρ := ρ) []) (zget (999, 0, 0, 0) zc_Re_carryGlobal) (zcut zu_Re_carryGlobal) (zorc (ρ := ρ) []) kr (fun _ _ => none) 400 71 [none, none, none, none] [] h := qg_Re_carryGlobal_71 kr h
set_option maxRecDepth 100000 in
theorem qg_Re_carryGlobal {ρ : Type} (kr : Int → zH → Option ρ) (F_X_isCell : Int → zH → (Int → zH → Option ρ) → Option ρ) (F_X_exchange_28 : Int → Int → Int → Int → zH → (Int → zH → Option ρ) → Option ρ) (F_Th_at : Int → Int → zH → (Int → zH → Option ρ) → Option ρ) (F_Th_set : Int → Int → Int → zH → (Int → zH → Option ρ) → Option ρ) (c71 : zH → Option ρ) (a0 a1 a2 a3 : Int) (h : zH) : (F_X_isCell a3 h  fun v1 h2 =>
if v1 = 0 then kr 0 h2
else zob h2 8 a2 fun p3 =>
if (zhD h2 8 p3 0) = 114 then (zob h2 8 a2 fun p15 =>
zob h2 5 a0 fun p16 =>
zob h2 28 (zhD h2 5 p16 0) fun p17 =>
zix (zhL h2 28 p17) a3 fun j18 =>
zob h2 6 a1 fun _ =>
F_Th_set a1 (zhD h2 8 p15 1) (zhD h2 28 p17 j18) h2  fun _ h20 =>
c71 h20)
else zob h2 8 a2 fun p4 =>
if (zhD h2 8 p4 0) = 119 then (zob h2 5 a0 fun p8 =>
zob h2 8 a2 fun p9 =>
zob h2 6 a1 fun _ =>
F_Th_at a1 (zhD h2 8 p9 2) h2  fun v10 h11 =>
zob h11 28 (zhD h2 5 p8 0) fun p12 =>
zix (zhL h11 28 p12) a3 fun j13 =>
zlet (zset h11 28 p12 j13 v10) fun h14 =>
c71 h14)
else zob h2 5 a0 fun p5 =>
F_X_exchange_28 (zhD h2 5 p5 0) a3 a1 a2 h2  fun _ h7 =>
c71 h7) = zseg zPP true (zcal (ρ := ρ) [(55, [none], zca1 F_X_isCell), (61, [none, none, none, none], zca4 F_X_exchange_28), (258, [none, none], zca2 F_Th_at), (259, [none, none, none], zca3 F_Th_set)]) (zget (999, 0, 0, 0) zc_Re_carryGlobal) (zcut zu_Re_carryGlobal) (zorc (ρ := ρ) [(71, [none, none, none, none], [], zap0 c71)]) kr (fun _ _ => none) 400 0 [some (105, a0), some (106, a1), some (108, a2), some (0, a3)] [] h := by rfl
set_option maxRecDepth 100000 in
theorem qe_Re_carryGlobal {ρ : Type} (kr : Int → zH → Option ρ) (a0 a1 a2 a3 : Int) (h : zH) : Re_carryGlobal a0 a1 a2 a3 h kr = zseg zPP true (zcal (ρ := ρ) [(55, [none], zca1 X_isCell), (61, [none, none, none, none], zca4 X_exchange_28), (258, [none, none], zca2 Th_at), (259, [none, none, none], zca3 Th_set)]) (zget (999, 0, 0, 0) zc_Re_carryGlobal) (zcut zu_Re_carryGlobal) (zorc (ρ := ρ) [(71, [none, none, none, none], [], zap0 (Re_carryGlobal_71 kr))]) kr (fun _ _ => none) 400 0 [some (105, a0), some (106, a1), some (108, a2), some (0, a3)] [] h := qg_Re_carryGlobal kr X_isCell X_exchange_28 Th_at Th_set (Re_carryGlobal_71 kr) a0 a1 a2 a3 h
def zc_Re_carryShared : List zI := [(10, 0, 3, 0), (0, 0, 0, 0), (14, 0, 0, 105), (80, 5, 30, 4), (999, 0, 0, 0), (999, 0, 0, 0), (80, 7, 149, 1), (999, 0, 0, 0), (999, 0, 0, 0), (0, 1, 0, 0), (31, 0, 0, 0), (114, 0, 151, 54), (999, 0, 0, 0), (999, 0, 0, 0), (61, 5, 19, 0), (999, 0, 0, 0), (999, 0, 0, 0), (0, 0, 0, 0), (130, 0, 1, 0), (14, 0, 2, 108), (80, 8, 132, 0), (999, 0, 0, 0), (999, 0, 0, 0), (1, 82, 0, 0), (999, 0, 0, 0), (67, 20, 45, 0), (999, 0, 0, 0), (999, 0, 0, 0), (14, 0, 1, 106), (14, 0, 2, 108), (80, 8, 136, 1), (999, 0, 0, 0), (999, 0, 0, 0), (14, 0, 0, 105), (80, 5, 15, 1), (999, 0, 0, 0), (999, 0, 0, 0), (10, 0, 3, 0), (90, 0, 0, 29), (110, 0, 139, 259), (999, 0, 0, 0), (999, 0, 0, 0), (72, 17, 59, 0), (999, 0, 0, 0), (999, 0, 0, 0), (14, 0, 0, 105), (80, 5, 15, 1), (999, 0, 0, 0), (999, 0, 0, 0), (10, 0, 3, 0), (14, 0, 1, 106), (14, 0, 2, 108), (80, 8, 142, 2), (999, 0, 0, 0), (999, 0, 0, 0), (110, 0, 106, 258), (999, 0, 0, 0), (999, 0, 0, 0), (95, 0, 0, 29), (0, 1, 0, 0), (130, 0, 1, 0)]
def zu_Re_carryShared : List (Nat × List Bool) := [(59, [false, false, false, false])]
set_option maxRecDepth 100000 in
theorem qg_Re_carryShared_59 {ρ : Type} (kr : Int → zH → Option ρ) (h : zH) : (kr 1 h) = zseg zPP true (zcal (ρ := ρ) []) (zget (999, 0, 0, 0) zc_Re_carryShared) (zcut zu_Re_carryShared) (zorc (ρ := ρ) []) kr (fun _ _ => none) 400 59 [none, none, none, none] [] h := by rfl
set_option maxRecDepth 100000 in
theorem qe_Re_carryShared_59 {ρ : Type} (kr : Int → zH → Option ρ) (h : zH) : Re_carryShared_59 kr h = zseg zPP true (zcal (ρ := ρ) []) (zget (999, 0, 0, 0) zc_Re_carryShared) (zcut zu_Re_carryShared) (zorc (ρ := ρ) []) kr (fun _ _ => none) 400 59 [none, none, none, none] [] h := qg_Re_carryShared_59 kr h
set_option maxRecDepth 100000 in
theorem qg_Re_carryShared {ρ : Type} (kr : Int → zH → Option ρ) (F_X_isWithin : Int → Int → Int → zH → (Int → zH → Option ρ) → Option ρ) (F_Th_at : Int → Int → zH → (Int → zH → Option ρ) → Option ρ) (F_Th_set : Int → Int → Int → zH → (Int → zH → Option ρ) → Option ρ) (c59 : zH → Option ρ) (a0 a1 a2 a3 : Int) (h : zH) : (zob h 5 a0 fun p1 =>
zob h 7 (zhD h 5 p1 4) fun p2 =>
F_X_isWithin a3 0 (wr ((zhD h 7 p2 1) - 1)) h  fun v3 h4 =>
if v3 = 0 then kr 0 h4
else zob h4 8 a2 fun p5 =>
if (zhD h4 8 p5 0) = 82 then (zob h4 8 a2 fun p13 =>
zob h4 5 a0 fun p14 =>
zob h4 29 (zhD h4 5 p14 1) fun p15 =>
zix (zhL h4 29 p15) a3 fun j16 =>
zob h4 6 a1 fun _ =>
F_Th_set a1 (zhD h4 8 p13 1) (zhD h4 29 p15 j16) h4  fun _ h18 =>
c59 h18)
else zob h4 5 a0 fun p6 =>
zob h4 8 a2 fun p7 =>
zob h4 6 a1 fun _ =>
F_Th_at a1 (zhD h4 8 p7 2) h4  fun v8 h9 =>
zob h9 29 (zhD h4 5 p6 1) fun p10 =>
zix (zhL h9 29 p10) a3 fun j11 =>
zlet (zset h9 29 p10 j11 v8) fun h12 =>
c59 h12) = zseg zPP true (zcal (ρ := ρ) [(54, [none, none, none], zca3 F_X_isWithin), (258, [none, none], zca2 F_Th_at), (259, [none, none, none], zca3 F_Th_set)]) (zget (999, 0, 0, 0) zc_Re_carryShared) (zcut zu_Re_carryShared) (zorc (ρ := ρ) [(59, [none, none, none, none], [], zap0 c59)]) kr (fun _ _ => none) 400 0 [some (105, a0), some (106, a1), some (108, a2), some (0, a3)] [] h := by rfl
set_option maxRecDepth 100000 in
theorem qe_Re_carryShared {ρ : Type} (kr : Int → zH → Option ρ) (a0 a1 a2 a3 : Int) (h : zH) : Re_carryShared a0 a1 a2 a3 h kr = zseg zPP true (zcal (ρ := ρ) [(54, [none, none, none], zca3 X_isWithin), (258, [none, none], zca2 Th_at), (259, [none, none, none], zca3 Th_set)]) (zget (999, 0, 0, 0) zc_Re_carryShared) (zcut zu_Re_carryShared) (zorc (ρ := ρ) [(59, [none, none, none, none], [], zap0 (Re_carryShared_59 kr))]) kr (fun _ _ => none) 400 0 [some (105, a0), some (106, a1), some (108, a2), some (0, a3)] [] h := qg_Re_carryShared kr X_isWithin Th_at Th_set (Re_carryShared_59 kr) a0 a1 a2 a3 h
def zc_Re_carry : List zI := [(14, 0, 1, 106), (14, 0, 2, 108), (110, 0, 100, 221), (999, 0, 0, 0), (999, 0, 0, 0), (110, 0, 106, 258), (999, 0, 0, 0), (999, 0, 0, 0), (16, 0, 3, 0), (14, 0, 2, 108), (8, 2, 110, 0), (999, 0, 0, 0), (110, 0, 112, 219), (999, 0, 0, 0), (999, 0, 0, 0), (60, 11, 26, 0), (999, 0, 0, 0), (999, 0, 0, 0), (14, 0, 0, 105), (14, 0, 1, 106), (14, 0, 2, 108), (10, 0, 3, 0), (110, 0, 116, 274), (999, 0, 0, 0), (999, 0, 0, 0), (130, 0, 1, 0), (14, 0, 2, 108), (8, 3, 120, 0), (999, 0, 0, 0), (110, 0, 112, 219), (999, 0, 0, 0), (999, 0, 0, 0), (60, 11, 43, 0), (999, 0, 0, 0), (999, 0, 0, 0), (14, 0, 0, 105), (14, 0, 1, 106), (14, 0, 2, 108), (10, 0, 3, 0), (110, 0, 122, 275), (999, 0, 0, 0), (999, 0, 0, 0), (130, 0, 1, 0), (14, 0, 1, 106), (14, 0, 2, 108), (110, 0, 125, 260), (999, 0, 0, 0), (999, 0, 0, 0), (0, 1, 0, 0), (130, 0, 1, 0)]
def zu_Re_carry : List (Nat × List Bool) := []
set_option maxRecDepth 100000 in
theorem qg_Re_carry {ρ : Type} (kr : Int → zH → Option ρ) (F_In_isOneOf : Int → Int → zH → (Int → zH → Option ρ) → Option ρ) (F_In_cellRegister : Int → zH → (Int → zH → Option ρ) → Option ρ) (F_Th_at : Int → Int → zH → (Int → zH → Option ρ) → Option ρ) (F_Th_reckon : Int → Int → zH → (Int → zH → Option ρ) → Option ρ) (F_Re_carryGlobal : Int → Int → Int → Int → zH → (Int → zH → Option ρ) → Option ρ) (F_Re_carryShared : Int → Int → Int → Int → zH → (Int → zH → Option ρ) → Option ρ) (a0 a1 a2 : Int) (h : zH) : (zob h 8 a2 fun _ =>
F_In_cellRegister a2 h  fun v1 h2 =>
zob h2 6 a1 fun _ =>
F_Th_at a1 v1 h2  fun v3 h4 =>
zob h4 8 a2 fun _ =>
F_In_isOneOf a2 2 h4  fun v5 h6 =>
if v5 = 0 then (zob h6 8 a2 fun _ =>
F_In_isOneOf a2 3 h6  fun v7 h8 =>
if v7 = 0 then (zob h8 6 a1 fun _ =>
F_Th_reckon a1 a2 h8  fun _ h10 =>
kr 1 h10)
else zob h8 5 a0 fun _ =>
F_Re_carryShared a0 a1 a2 v3 h8  fun v11 h12 =>
znar 1 v11 fun x13 => kr x13 h12)
else zob h6 5 a0 fun _ =>
F_Re_carryGlobal a0 a1 a2 v3 h6  fun v14 h15 =>
znar 1 v14 fun x16 => kr x16 h15) = zseg zPP true (zcal (ρ := ρ) [(219, [none, none], zca2 F_In_isOneOf), (221, [none], zca1 F_In_cellRegister), (258, [none, none], zca2 F_Th_at), (260, [none, none], zca2 F_Th_reckon), (274, [none, none, none, none], zca4 F_Re_carryGlobal), (275, [none, none, none, none], zca4 F_Re_carryShared)]) (zget (999, 0, 0, 0) zc_Re_carry) (zcut zu_Re_carry) (zorc (ρ := ρ) []) kr (fun _ _ => none) 400 0 [some (105, a0), some (106, a1), some (108, a2), none] [] h := by rfl
set_option maxRecDepth 100000 in
theorem qe_Re_carry {ρ : Type} (kr : Int → zH → Option ρ) (a0 a1 a2 : Int) (h : zH) : Re_carry a0 a1 a2 h kr = zseg zPP true (zcal (ρ := ρ) [(219, [none, none], zca2 In_isOneOf), (221, [none], zca1 In_cellRegister), (258, [none, none], zca2 Th_at), (260, [none, none], zca2 Th_reckon), (274, [none, none, none, none], zca4 Re_carryGlobal), (275, [none, none, none, none], zca4 Re_carryShared)]) (zget (999, 0, 0, 0) zc_Re_carry) (zcut zu_Re_carry) (zorc (ρ := ρ) []) kr (fun _ _ => none) 400 0 [some (105, a0), some (106, a1), some (108, a2), none] [] h := qg_Re_carry kr In_isOneOf In_cellRegister Th_at Th_reckon Re_carryGlobal Re_carryShared a0 a1 a2 h
def zc_Re_runThread : List zI := [(0, 0, 0, 0), (16, 0, 2, 0), (10, 0, 2, 0), (2, 200, 0, 0), (999, 0, 0, 0), (999, 0, 0, 0), (70, 83, 89, 0), (999, 0, 0, 0), (999, 0, 0, 0), (14, 0, 1, 106), (110, 0, 81, 255), (999, 0, 0, 0), (999, 0, 0, 0), (60, 76, 89, 0), (999, 0, 0, 0), (999, 0, 0, 0), (14, 0, 0, 105), (80, 5, 30, 4), (999, 0, 0, 0), (999, 0, 0, 0), (14, 0, 1, 106), (80, 6, 74, 3), (999, 0, 0, 0), (999, 0, 0, 0), (110, 0, 85, 224), (999, 0, 0, 0), (999, 0, 0, 0), (20, 0, 3, 108), (14, 0, 3, 108), (73, 27, 56, 0), (999, 0, 0, 0), (999, 0, 0, 0), (14, 0, 0, 105), (80, 5, 24, 3), (999, 0, 0, 0), (999, 0, 0, 0), (14, 0, 1, 106), (80, 6, 89, 0), (999, 0, 0, 0), (999, 0, 0, 0), (90, 0, 0, 31), (2, 200, 0, 0), (999, 0, 0, 0), (999, 0, 0, 0), (69, 12, 56, 0), (999, 0, 0, 0), (999, 0, 0, 0), (14, 0, 0, 105), (14, 0, 1, 106), (14, 0, 3, 108), (110, 0, 92, 273), (999, 0, 0, 0), (999, 0, 0, 0), (61, 5, 58, 0), (999, 0, 0, 0), (999, 0, 0, 0), (0, 0, 0, 0), (130, 0, 1, 0), (14, 0, 0, 105), (80, 5, 24, 3), (999, 0, 0, 0), (999, 0, 0, 0), (14, 0, 1, 106), (80, 6, 89, 0), (999, 0, 0, 0), (999, 0, 0, 0), (51, 0, 0, 0), (90, 0, 0, 31), (0, 1, 0, 0), (30, 0, 0, 0), (95, 0, 0, 31), (14, 0, 1, 106), (14, 0, 3, 108), (14, 0, 0, 105), (80, 5, 30, 4), (999, 0, 0, 0), (999, 0, 0, 0), (80, 7, 58, 3), (999, 0, 0, 0), (999, 0, 0, 0), (110, 0, 96, 261), (999, 0, 0, 0), (999, 0, 0, 0), (22, 1, 2, 0), (999, 0, 0, 0), (999, 0, 0, 0), (72, (-84), 2, 0), (999, 0, 0, 0), (999, 0, 0, 0), (14, 0, 1, 106), (110, 0, 81, 255), (999, 0, 0, 0), (999, 0, 0, 0), (61, 7, 100, 0), (999, 0, 0, 0), (999, 0, 0, 0), (0, 1, 0, 0), (72, 4, 101, 0), (999, 0, 0, 0), (999, 0, 0, 0), (0, 0, 0, 0), (130, 0, 1, 0)]
def zu_Re_runThread : List (Nat × List Bool) := [(2, [true, true, true, false]), (56, [false, false, false, false]), (89, [false, true, false, false]), (101, [false, false, false, false])]
set_option maxRecDepth 100000 in
theorem qg_Re_runThread_56 {ρ : Type} (kr : Int → zH → Option ρ) (h : zH) : (kr 0 h) = zseg zPP true (zcal (ρ := ρ) []) (zget (999, 0, 0, 0) zc_Re_runThread) (zcut zu_Re_runThread) (zorc (ρ := ρ) []) kr (fun _ _ => none) 400 56 [none, none, none, none] [] h := by rfl
set_option maxRecDepth 100000 in
theorem qe_Re_runThread_56 {ρ : Type} (kr : Int → zH → Option ρ) (h : zH) : Re_runThread_56 kr h = zseg zPP true (zcal (ρ := ρ) []) (zget (999, 0, 0, 0) zc_Re_runThread) (zcut zu_Re_runThread) (zorc (ρ := ρ) []) kr (fun _ _ => none) 400 56 [none, none, none, none] [] h := qg_Re_runThread_56 kr h
set_option maxRecDepth 100000 in
theorem qg_Re_runThread_101 {ρ : Type} (kr : Int → zH → Option ρ) (t0 : Int) (h : zH) : (znar 1 t0 fun x1 => kr x1 h) = zseg zPP true (zcal (ρ := ρ) []) (zget (999, 0, 0, 0) zc_Re_runThread) (zcut zu_Re_runThread) (zorc (ρ := ρ) []) kr (fun _ _ => none) 400 101 [none, none, none, none] [(0, t0)] h := by rfl
set_option maxRecDepth 100000 in
theorem qe_Re_runThread_101 {ρ : Type} (kr : Int → zH → Option ρ) (t0 : Int) (h : zH) : Re_runThread_101 kr t0 h = zseg zPP true (zcal (ρ := ρ) []) (zget (999, 0, 0, 0) zc_Re_runThread) (zcut zu_Re_runThread) (zorc (ρ := ρ) []) kr (fun _ _ => none) 400 101 [none, none, none, none] [(0, t0)] h := qg_Re_runThread_101 kr t0 h
set_option maxRecDepth 100000 in
theorem qg_Re_runThread_89 {ρ : Type} (kr : Int → zH → Option ρ) (F_Th_isRunning : Int → zH → (Int → zH → Option ρ) → Option ρ) (c101 : Int → zH → Option ρ) (a1 : Int) (h : zH) : (zob h 6 a1 fun _ =>
F_Th_isRunning a1 h  fun v1 h2 =>
if v1 = 0 then c101 1 h2
else c101 0 h2) = zseg zPP true (zcal (ρ := ρ) [(255, [none], zca1 F_Th_isRunning)]) (zget (999, 0, 0, 0) zc_Re_runThread) (zcut zu_Re_runThread) (zorc (ρ := ρ) [(101, [none, none, none, none], [(0, none)], zap1 c101)]) kr (fun _ _ => none) 400 89 [none, some (106, a1), none, none] [] h := by rfl
set_option maxRecDepth 100000 in
theorem qe_Re_runThread_89 {ρ : Type} (kr : Int → zH → Option ρ) (a1 : Int) (h : zH) : Re_runThread_89 kr a1 h = zseg zPP true (zcal (ρ := ρ) [(255, [none], zca1 Th_isRunning)]) (zget (999, 0, 0, 0) zc_Re_runThread) (zcut zu_Re_runThread) (zorc (ρ := ρ) [(101, [none, none, none, none], [(0, none)], zap1 (Re_runThread_101 kr))]) kr (fun _ _ => none) 400 89 [none, some (106, a1), none, none] [] h := qg_Re_runThread_89 kr Th_isRunning (Re_runThread_101 kr) a1 h
set_option maxRecDepth 100000 in
theorem qg_Re_runThread_2b {ρ : Type} (kr : Int → zH → Option ρ) (r2 : Int → Int → Int → zH → Option ρ) (F_Ke_instructionAt : Int → Int → zH → (Int → zH → Option ρ) → Option ρ) (F_Th_isRunning : Int → zH → (Int → zH → Option ρ) → Option ρ) (F_Th_goOn : Int → Int → Int → zH → (Int → zH → Option ρ) → Option ρ) (F_Re_carry : Int → Int → Int → zH → (Int → zH → Option ρ) → Option ρ) (c56 : zH → Option ρ) (c89 : Int → zH → Option ρ) (a0 a1 a2 : Int) (h : zH) : (if 200 < a2 then c89 a1 h
else zob h 6 a1 fun _ =>
F_Th_isRunning a1 h  fun v1 h2 =>
if v1 = 0 then c89 a1 h2
else zob h2 5 a0 fun p3 =>
zob h2 6 a1 fun p4 =>
zob h2 7 (zhD h2 5 p3 4) fun _ =>
F_Ke_instructionAt (zhD h2 5 p3 4) (zhD h2 6 p4 3) h2  fun v5 h6 =>
if v5 < 0 then c56 h6
else zob h6 5 a0 fun p7 =>
zob h6 6 a1 fun p8 =>
zob h6 31 (zhD h6 5 p7 3) fun p9 =>
zix (zhL h6 31 p9) (zhD h6 6 p8 0) fun j10 =>
if (zhD h6 31 p9 j10) < 200 then (zob h6 5 a0 fun _ =>
F_Re_carry a0 a1 v5 h6  fun v11 h12 =>
if v11 = 0 then c56 h12
else zob h12 5 a0 fun p13 =>
zob h12 6 a1 fun p14 =>
zob h12 31 (zhD h12 5 p13 3) fun p15 =>
zix (zhL h12 31 p15) (zhD h12 6 p14 0) fun j16 =>
zob h12 31 (zhD h12 5 p13 3) fun p17 =>
zix (zhL h12 31 p17) (zhD h12 6 p14 0) fun j18 =>
zlet (zset h12 31 p17 j18 (wr ((zhD h12 31 p15 j16) + 1))) fun h19 =>
zob h19 5 a0 fun p20 =>
zob h19 7 (zhD h19 5 p20 4) fun p21 =>
zob h19 6 a1 fun _ =>
F_Th_goOn a1 v5 (zhD h19 7 p21 3) h19  fun _ h23 =>
r2 a0 a1 (wr (a2 + 1)) h23)
else c56 h6) = zseg zPP true (zcal (ρ := ρ) [(224, [none, none], zca2 F_Ke_instructionAt), (255, [none], zca1 F_Th_isRunning), (261, [none, none, none], zca3 F_Th_goOn), (273, [none, none, none], zca3 F_Re_carry)]) (zget (999, 0, 0, 0) zc_Re_runThread) (zcut zu_Re_runThread) (zorc (ρ := ρ) [(2, [some (105, none), some (106, none), some (0, none), none], [], zap3 r2), (56, [none, none, none, none], [], zap0 c56), (89, [none, some (106, none), none, none], [], zap1 c89)]) kr (fun _ _ => none) 400 2 [some (105, a0), some (106, a1), some (0, a2), none] [] h := by rfl
set_option maxRecDepth 100000 in
theorem qe_Re_runThread_2b {ρ : Type} (kr : Int → zH → Option ρ) (r2 : Int → Int → Int → zH → Option ρ) (a0 a1 a2 : Int) (h : zH) : Re_runThread_2b kr r2 a0 a1 a2 h = zseg zPP true (zcal (ρ := ρ) [(224, [none, none], zca2 Ke_instructionAt), (255, [none], zca1 Th_isRunning), (261, [none, none, none], zca3 Th_goOn), (273, [none, none, none], zca3 Re_carry)]) (zget (999, 0, 0, 0) zc_Re_runThread) (zcut zu_Re_runThread) (zorc (ρ := ρ) [(2, [some (105, none), some (106, none), some (0, none), none], [], zap3 r2), (56, [none, none, none, none], [], zap0 (Re_runThread_56 kr)), (89, [none, some (106, none), none, none], [], zap1 (Re_runThread_89 kr))]) kr (fun _ _ => none) 400 2 [some (105, a0), some (106, a1), some (0, a2), none] [] h := qg_Re_runThread_2b kr r2 Ke_instructionAt Th_isRunning Th_goOn Re_carry (Re_runThread_56 kr) (Re_runThread_89 kr) a0 a1 a2 h
set_option maxRecDepth 100000 in
theorem qg_Re_runThread {ρ : Type} (kr : Int → zH → Option ρ) (c2 : Int → Int → Int → zH → Option ρ) (a0 a1 : Int) (h : zH) : (c2 a0 a1 0 h) = zseg zPP true (zcal (ρ := ρ) []) (zget (999, 0, 0, 0) zc_Re_runThread) (zcut zu_Re_runThread) (zorc (ρ := ρ) [(2, [some (105, none), some (106, none), some (0, none), none], [], zap3 c2)]) kr (fun _ _ => none) 400 0 [some (105, a0), some (106, a1), none, none] [] h := by rfl
set_option maxRecDepth 100000 in
theorem qe_Re_runThread {ρ : Type} (kr : Int → zH → Option ρ) (a0 a1 : Int) (h : zH) : Re_runThread a0 a1 h kr = zseg zPP true (zcal (ρ := ρ) []) (zget (999, 0, 0, 0) zc_Re_runThread) (zcut zu_Re_runThread) (zorc (ρ := ρ) [(2, [some (105, none), some (106, none), some (0, none), none], [], zap3 (Re_runThread_2 kr))]) kr (fun _ _ => none) 400 0 [some (105, a0), some (106, a1), none, none] [] h := qg_Re_runThread kr (Re_runThread_2 kr) a0 a1 h
def zc_Re_runBlock : List zI := [(14, 0, 0, 105), (80, 5, 15, 1), (999, 0, 0, 0), (999, 0, 0, 0), (0, 0, 0, 0), (113, 0, 52, 4), (999, 0, 0, 0), (999, 0, 0, 0), (14, 0, 0, 105), (80, 5, 24, 3), (999, 0, 0, 0), (999, 0, 0, 0), (0, 0, 0, 0), (113, 0, 52, 5), (999, 0, 0, 0), (999, 0, 0, 0), (0, 0, 0, 0), (16, 0, 2, 0), (10, 0, 2, 0), (14, 0, 0, 105), (80, 5, 40, 5), (999, 0, 0, 0), (999, 0, 0, 0), (69, 26, 49, 0), (999, 0, 0, 0), (999, 0, 0, 0), (14, 0, 0, 105), (80, 5, 20, 2), (999, 0, 0, 0), (999, 0, 0, 0), (10, 0, 2, 0), (94, 0, 0, 30), (10, 0, 1, 0), (14, 0, 0, 105), (80, 5, 30, 4), (999, 0, 0, 0), (999, 0, 0, 0), (80, 7, 58, 3), (999, 0, 0, 0), (999, 0, 0, 0), (110, 0, 63, 254), (999, 0, 0, 0), (999, 0, 0, 0), (22, 1, 2, 0), (999, 0, 0, 0), (999, 0, 0, 0), (72, (-28), 18, 0), (999, 0, 0, 0), (999, 0, 0, 0), (0, 0, 0, 0), (16, 0, 2, 0), (10, 0, 2, 0), (2, 200, 0, 0), (999, 0, 0, 0), (999, 0, 0, 0), (70, 103, 158, 0), (999, 0, 0, 0), (999, 0, 0, 0), (0, 0, 0, 0), (16, 0, 3, 0), (10, 0, 3, 0), (14, 0, 0, 105), (80, 5, 40, 5), (999, 0, 0, 0), (999, 0, 0, 0), (69, 42, 107, 0), (999, 0, 0, 0), (999, 0, 0, 0), (14, 0, 0, 105), (14, 0, 0, 105), (80, 5, 20, 2), (999, 0, 0, 0), (999, 0, 0, 0), (14, 0, 0, 105), (80, 5, 44, 6), (999, 0, 0, 0), (999, 0, 0, 0), (60, 14, 91, 0), (999, 0, 0, 0), (999, 0, 0, 0), (14, 0, 0, 105), (80, 5, 40, 5), (999, 0, 0, 0), (999, 0, 0, 0), (0, 1, 0, 0), (31, 0, 0, 0), (10, 0, 3, 0), (31, 0, 0, 0), (72, 4, 92, 0), (999, 0, 0, 0), (999, 0, 0, 0), (10, 0, 3, 0), (94, 0, 0, 30), (110, 0, 66, 272), (999, 0, 0, 0), (999, 0, 0, 0), (61, 5, 101, 0), (999, 0, 0, 0), (999, 0, 0, 0), (0, 0, 0, 0), (130, 0, 1, 0), (22, 1, 3, 0), (999, 0, 0, 0), (999, 0, 0, 0), (72, (-44), 60, 0), (999, 0, 0, 0), (999, 0, 0, 0), (14, 0, 0, 105), (80, 5, 20, 2), (999, 0, 0, 0), (999, 0, 0, 0), (14, 0, 0, 105), (80, 5, 40, 5), (999, 0, 0, 0), (999, 0, 0, 0), (113, 0, 70, 264), (999, 0, 0, 0), (999, 0, 0, 0), (20, 0, 3, 106), (14, 0, 3, 106), (74, 5, 125, 0), (999, 0, 0, 0), (999, 0, 0, 0), (0, 1, 0, 0), (130, 0, 1, 0), (14, 0, 0, 105), (80, 5, 20, 2), (999, 0, 0, 0), (999, 0, 0, 0), (14, 0, 0, 105), (80, 5, 40, 5), (999, 0, 0, 0), (999, 0, 0, 0), (14, 0, 3, 106), (80, 6, 74, 3), (999, 0, 0, 0), (999, 0, 0, 0), (14, 0, 0, 105), (80, 5, 30, 4), (999, 0, 0, 0), (999, 0, 0, 0), (80, 7, 58, 3), (999, 0, 0, 0), (999, 0, 0, 0), (113, 0, 77, 266), (999, 0, 0, 0), (999, 0, 0, 0), (61, 5, 152, 0), (999, 0, 0, 0), (999, 0, 0, 0), (0, 0, 0, 0), (130, 0, 1, 0), (22, 1, 2, 0), (999, 0, 0, 0), (999, 0, 0, 0), (72, (-104), 51, 0), (999, 0, 0, 0), (999, 0, 0, 0), (0, 0, 0, 0), (130, 0, 1, 0)]
def zu_Re_runBlock : List (Nat × List Bool) := [(18, [true, true, true, false]), (51, [true, false, true, false]), (60, [true, false, true, true]), (92, [true, false, true, true])]
set_option maxRecDepth 100000 in
theorem qg_Re_runBlock_92 {ρ : Type} (kr : Int → zH → Option ρ) (r51 : Int → Int → zH → Option ρ) (r60 : Int → Int → Int → zH → Option ρ) (F_Re_runThread : Int → Int → zH → (Int → zH → Option ρ) → Option ρ) (a0 a2 a3 t0 t1 t2 : Int) (h : zH) : (zob h 30 t1 fun p1 =>
zix (zhL h 30 p1) t0 fun j2 =>
zob h 5 t2 fun _ =>
F_Re_runThread t2 (zhD h 30 p1 j2) h  fun v3 h4 =>
if v3 = 0 then kr 0 h4
else r60 a0 a2 (wr (a3 + 1)) h4) = zseg zPP true (zcal (ρ := ρ) [(272, [none, none], zca2 F_Re_runThread)]) (zget (999, 0, 0, 0) zc_Re_runBlock) (zcut zu_Re_runBlock) (zorc (ρ := ρ) [(60, [some (105, none), none, some (0, none), some (0, none)], [], zap3 r60)]) kr (fun _ _ => none) 400 92 [some (105, a0), none, some (0, a2), some (0, a3)] [(0, t0), (130, t1), (105, t2)] h := by rfl
set_option maxRecDepth 100000 in
theorem qe_Re_runBlock_92 {ρ : Type} (kr : Int → zH → Option ρ) (r51 : Int → Int → zH → Option ρ) (r60 : Int → Int → Int → zH → Option ρ) (a0 a2 a3 t0 t1 t2 : Int) (h : zH) : Re_runBlock_92 kr r51 r60 a0 a2 a3 t0 t1 t2 h = zseg zPP true (zcal (ρ := ρ) [(272, [none, none], zca2 Re_runThread)]) (zget (999, 0, 0, 0) zc_Re_runBlock) (zcut zu_Re_runBlock) (zorc (ρ := ρ) [(60, [some (105, none), none, some (0, none), some (0, none)], [], zap3 r60)]) kr (fun _ _ => none) 400 92 [some (105, a0), none, some (0, a2), some (0, a3)] [(0, t0), (130, t1), (105, t2)] h := qg_Re_runBlock_92 kr r51 r60 Re_runThread a0 a2 a3 t0 t1 t2 h
set_option maxRecDepth 100000 in
theorem qg_Re_runBlock_60b {ρ : Type} (kr : Int → zH → Option ρ) (r51 : Int → Int → zH → Option ρ) (r60 : Int → Int → Int → zH → Option ρ) (F_Th_lowestOfWaiting_30 : Int → Int → zH → (Int → zH → Option ρ) → Option ρ) (F_Th_release_30 : Int → Int → Int → Int → zH → (Int → zH → Option ρ) → Option ρ) (c92 : Int → Int → Int → Int → Int → Int → zH → Option ρ) (a0 a2 a3 : Int) (h : zH) : (zob h 5 a0 fun p1 =>
if a3 < (zhD h 5 p1 5) then (zob h 5 a0 fun p13 =>
zob h 5 a0 fun p14 =>
if (zhD h 5 p14 6) = 0 then c92 a0 a2 a3 a3 (zhD h 5 p13 2) a0 h
else zob h 5 a0 fun p15 =>
c92 a0 a2 a3 (wr ((wr ((zhD h 5 p15 5) - 1)) - a3)) (zhD h 5 p13 2) a0 h)
else zob h 5 a0 fun p2 =>
zob h 5 a0 fun p3 =>
F_Th_lowestOfWaiting_30 (zhD h 5 p2 2) (zhD h 5 p3 5) h  fun v4 h5 =>
if v4 < 0 then kr 1 h5
else zob h5 5 a0 fun p6 =>
zob h5 5 a0 fun p7 =>
zob h5 6 v4 fun p8 =>
zob h5 5 a0 fun p9 =>
zob h5 7 (zhD h5 5 p9 4) fun p10 =>
F_Th_release_30 (zhD h5 5 p6 2) (zhD h5 5 p7 5) (zhD h5 6 p8 3) (zhD h5 7 p10 3) h5  fun v11 h12 =>
if v11 = 0 then kr 0 h12
else r51 a0 (wr (a2 + 1)) h12) = zseg zPP true (zcal (ρ := ρ) [(264, [none, none], zca2 F_Th_lowestOfWaiting_30), (266, [none, none, none, none], zca4 F_Th_release_30)]) (zget (999, 0, 0, 0) zc_Re_runBlock) (zcut zu_Re_runBlock) (zorc (ρ := ρ) [(51, [some (105, none), none, some (0, none), none], [], zap2 r51), (92, [some (105, none), none, some (0, none), some (0, none)], [(0, none), (130, none), (105, none)], zap6 c92)]) kr (fun _ _ => none) 400 60 [some (105, a0), none, some (0, a2), some (0, a3)] [] h := by rfl
set_option maxRecDepth 100000 in
theorem qe_Re_runBlock_60b {ρ : Type} (kr : Int → zH → Option ρ) (r51 : Int → Int → zH → Option ρ) (r60 : Int → Int → Int → zH → Option ρ) (a0 a2 a3 : Int) (h : zH) : Re_runBlock_60b kr r51 r60 a0 a2 a3 h = zseg zPP true (zcal (ρ := ρ) [(264, [none, none], zca2 Th_lowestOfWaiting_30), (266, [none, none, none, none], zca4 Th_release_30)]) (zget (999, 0, 0, 0) zc_Re_runBlock) (zcut zu_Re_runBlock) (zorc (ρ := ρ) [(51, [some (105, none), none, some (0, none), none], [], zap2 r51), (92, [some (105, none), none, some (0, none), some (0, none)], [(0, none), (130, none), (105, none)], zap6 (Re_runBlock_92 kr r51 r60))]) kr (fun _ _ => none) 400 60 [some (105, a0), none, some (0, a2), some (0, a3)] [] h := qg_Re_runBlock_60b kr r51 r60 Th_lowestOfWaiting_30 Th_release_30 (Re_runBlock_92 kr r51 r60) a0 a2 a3 h
set_option maxRecDepth 100000 in
theorem qg_Re_runBlock_51b {ρ : Type} (kr : Int → zH → Option ρ) (r51 : Int → Int → zH → Option ρ) (c60 : Int → Int → Int → zH → Option ρ) (a0 a2 : Int) (h : zH) : (if 200 < a2 then kr 0 h
else c60 a0 a2 0 h) = zseg zPP true (zcal (ρ := ρ) []) (zget (999, 0, 0, 0) zc_Re_runBlock) (zcut zu_Re_runBlock) (zorc (ρ := ρ) [(60, [some (105, none), none, some (0, none), some (0, none)], [], zap3 c60)]) kr (fun _ _ => none) 400 51 [some (105, a0), none, some (0, a2), none] [] h := by rfl
set_option maxRecDepth 100000 in
theorem qe_Re_runBlock_51b {ρ : Type} (kr : Int → zH → Option ρ) (r51 : Int → Int → zH → Option ρ) (a0 a2 : Int) (h : zH) : Re_runBlock_51b kr r51 a0 a2 h = zseg zPP true (zcal (ρ := ρ) []) (zget (999, 0, 0, 0) zc_Re_runBlock) (zcut zu_Re_runBlock) (zorc (ρ := ρ) [(60, [some (105, none), none, some (0, none), some (0, none)], [], zap3 (Re_runBlock_60 kr r51))]) kr (fun _ _ => none) 400 51 [some (105, a0), none, some (0, a2), none] [] h := qg_Re_runBlock_51b kr r51 (Re_runBlock_60 kr r51) a0 a2 h
set_option maxRecDepth 100000 in
theorem qg_Re_runBlock_18b {ρ : Type} (kr : Int → zH → Option ρ) (r18 : Int → Int → Int → zH → Option ρ) (F_Th_begin : Int → Int → Int → zH → (Int → zH → Option ρ) → Option ρ) (c51 : Int → Int → zH → Option ρ) (a0 a1 a2 : Int) (h : zH) : (zob h 5 a0 fun p1 =>
if a2 < (zhD h 5 p1 5) then (zob h 5 a0 fun p2 =>
zob h 30 (zhD h 5 p2 2) fun p3 =>
zix (zhL h 30 p3) a2 fun j4 =>
zob h 5 a0 fun p5 =>
zob h 7 (zhD h 5 p5 4) fun p6 =>
zob h 6 (zhD h 30 p3 j4) fun _ =>
F_Th_begin (zhD h 30 p3 j4) a1 (zhD h 7 p6 3) h  fun _ h8 =>
r18 a0 a1 (wr (a2 + 1)) h8)
else c51 a0 0 h) = zseg zPP true (zcal (ρ := ρ) [(254, [none, none, none], zca3 F_Th_begin)]) (zget (999, 0, 0, 0) zc_Re_runBlock) (zcut zu_Re_runBlock) (zorc (ρ := ρ) [(18, [some (105, none), some (0, none), some (0, none), none], [], zap3 r18), (51, [some (105, none), none, some (0, none), none], [], zap2 c51)]) kr (fun _ _ => none) 400 18 [some (105, a0), some (0, a1), some (0, a2), none] [] h := by rfl
set_option maxRecDepth 100000 in
theorem qe_Re_runBlock_18b {ρ : Type} (kr : Int → zH → Option ρ) (r18 : Int → Int → Int → zH → Option ρ) (a0 a1 a2 : Int) (h : zH) : Re_runBlock_18b kr r18 a0 a1 a2 h = zseg zPP true (zcal (ρ := ρ) [(254, [none, none, none], zca3 Th_begin)]) (zget (999, 0, 0, 0) zc_Re_runBlock) (zcut zu_Re_runBlock) (zorc (ρ := ρ) [(18, [some (105, none), some (0, none), some (0, none), none], [], zap3 r18), (51, [some (105, none), none, some (0, none), none], [], zap2 (Re_runBlock_51 kr))]) kr (fun _ _ => none) 400 18 [some (105, a0), some (0, a1), some (0, a2), none] [] h := qg_Re_runBlock_18b kr r18 Th_begin (Re_runBlock_51 kr) a0 a1 a2 h
set_option maxRecDepth 100000 in
theorem qg_Re_runBlock {ρ : Type} (kr : Int → zH → Option ρ) (F_Ar_fill_29 : Int → Int → zH → (Int → zH → Option ρ) → Option ρ) (F_Ar_fill_31 : Int → Int → zH → (Int → zH → Option ρ) → Option ρ) (c18 : Int → Int → Int → zH → Option ρ) (a0 a1 : Int) (h : zH) : (zob h 5 a0 fun p1 =>
F_Ar_fill_29 (zhD h 5 p1 1) 0 h  fun _ h3 =>
zob h3 5 a0 fun p4 =>
F_Ar_fill_31 (zhD h3 5 p4 3) 0 h3  fun _ h6 =>
c18 a0 a1 0 h6) = zseg zPP true (zcal (ρ := ρ) [(4, [none, none], zca2 F_Ar_fill_29), (5, [none, none], zca2 F_Ar_fill_31)]) (zget (999, 0, 0, 0) zc_Re_runBlock) (zcut zu_Re_runBlock) (zorc (ρ := ρ) [(18, [some (105, none), some (0, none), some (0, none), none], [], zap3 c18)]) kr (fun _ _ => none) 400 0 [some (105, a0), some (0, a1), none, none] [] h := by rfl
set_option maxRecDepth 100000 in
theorem qe_Re_runBlock {ρ : Type} (kr : Int → zH → Option ρ) (a0 a1 : Int) (h : zH) : Re_runBlock a0 a1 h kr = zseg zPP true (zcal (ρ := ρ) [(4, [none, none], zca2 Ar_fill_29), (5, [none, none], zca2 Ar_fill_31)]) (zget (999, 0, 0, 0) zc_Re_runBlock) (zcut zu_Re_runBlock) (zorc (ρ := ρ) [(18, [some (105, none), some (0, none), some (0, none), none], [], zap3 (Re_runBlock_18 kr))]) kr (fun _ _ => none) 400 0 [some (105, a0), some (0, a1), none, none] [] h := qg_Re_runBlock kr Ar_fill_29 Ar_fill_31 (Re_runBlock_18 kr) a0 a1 h
def zc_Re_runBlocks : List zI := [(0, 0, 0, 0), (16, 0, 2, 0), (10, 0, 2, 0), (10, 0, 1, 0), (69, 34, 38, 0), (999, 0, 0, 0), (999, 0, 0, 0), (14, 0, 0, 105), (14, 0, 0, 105), (80, 5, 44, 6), (999, 0, 0, 0), (999, 0, 0, 0), (60, 11, 23, 0), (999, 0, 0, 0), (999, 0, 0, 0), (10, 0, 1, 0), (0, 1, 0, 0), (31, 0, 0, 0), (10, 0, 2, 0), (31, 0, 0, 0), (72, 4, 24, 0), (999, 0, 0, 0), (999, 0, 0, 0), (10, 0, 2, 0), (110, 0, 48, 271), (999, 0, 0, 0), (999, 0, 0, 0), (61, 5, 32, 0), (999, 0, 0, 0), (999, 0, 0, 0), (0, 0, 0, 0), (130, 0, 1, 0), (22, 1, 2, 0), (999, 0, 0, 0), (999, 0, 0, 0), (72, (-33), 2, 0), (999, 0, 0, 0), (999, 0, 0, 0), (0, 1, 0, 0), (130, 0, 1, 0)]
def zu_Re_runBlocks : List (Nat × List Bool) := [(2, [true, true, true]), (24, [true, true, true])]
set_option maxRecDepth 100000 in
theorem qg_Re_runBlocks_24 {ρ : Type} (kr : Int → zH → Option ρ) (r2 : Int → Int → Int → zH → Option ρ) (F_Re_runBlock : Int → Int → zH → (Int → zH → Option ρ) → Option ρ) (a0 a1 a2 t0 t1 : Int) (h : zH) : (zob h 5 t1 fun _ =>
F_Re_runBlock t1 t0 h  fun v1 h2 =>
if v1 = 0 then kr 0 h2
else r2 a0 a1 (wr (a2 + 1)) h2) = zseg zPP true (zcal (ρ := ρ) [(271, [none, none], zca2 F_Re_runBlock)]) (zget (999, 0, 0, 0) zc_Re_runBlocks) (zcut zu_Re_runBlocks) (zorc (ρ := ρ) [(2, [some (105, none), some (0, none), some (0, none)], [], zap3 r2)]) kr (fun _ _ => none) 400 24 [some (105, a0), some (0, a1), some (0, a2)] [(0, t0), (105, t1)] h := by rfl
set_option maxRecDepth 100000 in
theorem qe_Re_runBlocks_24 {ρ : Type} (kr : Int → zH → Option ρ) (r2 : Int → Int → Int → zH → Option ρ) (a0 a1 a2 t0 t1 : Int) (h : zH) : Re_runBlocks_24 kr r2 a0 a1 a2 t0 t1 h = zseg zPP true (zcal (ρ := ρ) [(271, [none, none], zca2 Re_runBlock)]) (zget (999, 0, 0, 0) zc_Re_runBlocks) (zcut zu_Re_runBlocks) (zorc (ρ := ρ) [(2, [some (105, none), some (0, none), some (0, none)], [], zap3 r2)]) kr (fun _ _ => none) 400 24 [some (105, a0), some (0, a1), some (0, a2)] [(0, t0), (105, t1)] h := qg_Re_runBlocks_24 kr r2 Re_runBlock a0 a1 a2 t0 t1 h
set_option maxRecDepth 100000 in
theorem qg_Re_runBlocks_2b {ρ : Type} (kr : Int → zH → Option ρ) (r2 : Int → Int → Int → zH → Option ρ) (c24 : Int → Int → Int → Int → Int → zH → Option ρ) (a0 a1 a2 : Int) (h : zH) : (if a2 < a1 then (zob h 5 a0 fun p1 =>
if (zhD h 5 p1 6) = 0 then c24 a0 a1 a2 a2 a0 h
else c24 a0 a1 a2 (wr ((wr (a1 - 1)) - a2)) a0 h)
else kr 1 h) = zseg zPP true (zcal (ρ := ρ) []) (zget (999, 0, 0, 0) zc_Re_runBlocks) (zcut zu_Re_runBlocks) (zorc (ρ := ρ) [(24, [some (105, none), some (0, none), some (0, none)], [(0, none), (105, none)], zap5 c24)]) kr (fun _ _ => none) 400 2 [some (105, a0), some (0, a1), some (0, a2)] [] h := by rfl
set_option maxRecDepth 100000 in
theorem qe_Re_runBlocks_2b {ρ : Type} (kr : Int → zH → Option ρ) (r2 : Int → Int → Int → zH → Option ρ) (a0 a1 a2 : Int) (h : zH) : Re_runBlocks_2b kr r2 a0 a1 a2 h = zseg zPP true (zcal (ρ := ρ) []) (zget (999, 0, 0, 0) zc_Re_runBlocks) (zcut zu_Re_runBlocks) (zorc (ρ := ρ) [(24, [some (105, none), some (0, none), some (0, none)], [(0, none), (105, none)], zap5 (Re_runBlocks_24 kr r2))]) kr (fun _ _ => none) 400 2 [some (105, a0), some (0, a1), some (0, a2)] [] h := qg_Re_runBlocks_2b kr r2 (Re_runBlocks_24 kr r2) a0 a1 a2 h
set_option maxRecDepth 100000 in
theorem qg_Re_runBlocks {ρ : Type} (kr : Int → zH → Option ρ) (c2 : Int → Int → Int → zH → Option ρ) (a0 a1 : Int) (h : zH) : (c2 a0 a1 0 h) = zseg zPP true (zcal (ρ := ρ) []) (zget (999, 0, 0, 0) zc_Re_runBlocks) (zcut zu_Re_runBlocks) (zorc (ρ := ρ) [(2, [some (105, none), some (0, none), some (0, none)], [], zap3 c2)]) kr (fun _ _ => none) 400 0 [some (105, a0), some (0, a1), none] [] h := by rfl
set_option maxRecDepth 100000 in
theorem qe_Re_runBlocks {ρ : Type} (kr : Int → zH → Option ρ) (a0 a1 : Int) (h : zH) : Re_runBlocks a0 a1 h kr = zseg zPP true (zcal (ρ := ρ) []) (zget (999, 0, 0, 0) zc_Re_runBlocks) (zcut zu_Re_runBlocks) (zorc (ρ := ρ) [(2, [some (105, none), some (0, none), some (0, none)], [], zap3 (Re_runBlocks_2 kr))]) kr (fun _ _ => none) 400 0 [some (105, a0), some (0, a1), none] [] h := qg_Re_runBlocks kr (Re_runBlocks_2 kr) a0 a1 h
def zc_X_serial : List zI := [(14, 0, 0, 100), (10, 0, 1, 0), (110, 0, 55, 47), (999, 0, 0, 0), (999, 0, 0, 0), (21, 0, 6, 107), (999, 0, 0, 0), (11, 0, 5, 0), (999, 0, 0, 0), (113, 0, 83, 55), (999, 0, 0, 0), (999, 0, 0, 0), (61, 11, 23, 0), (999, 0, 0, 0), (999, 0, 0, 0), (134, 89, 87, 3), (999, 0, 0, 0), (999, 0, 0, 0), (999, 0, 0, 0), (999, 0, 0, 0), (999, 0, 0, 0), (999, 0, 0, 0), (999, 0, 0, 0), (10, 0, 2, 0), (0, 1, 0, 0), (1, 6, 0, 0), (999, 0, 0, 0), (113, 0, 32, 54), (999, 0, 0, 0), (999, 0, 0, 0), (60, 13, 43, 0), (999, 0, 0, 0), (999, 0, 0, 0), (10, 0, 3, 0), (0, 1, 0, 0), (1, 16, 0, 0), (999, 0, 0, 0), (113, 0, 32, 54), (999, 0, 0, 0), (999, 0, 0, 0), (61, 11, 51, 0), (999, 0, 0, 0), (999, 0, 0, 0), (134, 38, 36, 1), (999, 0, 0, 0), (999, 0, 0, 0), (999, 0, 0, 0), (999, 0, 0, 0), (999, 0, 0, 0), (999, 0, 0, 0), (999, 0, 0, 0), (15, 0, 6, 107), (999, 0, 0, 0), (8, 0, 247, 0), (999, 0, 0, 0), (110, 0, 249, 226), (999, 0, 0, 0), (999, 0, 0, 0), (60, 11, 69, 0), (999, 0, 0, 0), (999, 0, 0, 0), (134, 99, 97, 4), (999, 0, 0, 0), (999, 0, 0, 0), (999, 0, 0, 0), (999, 0, 0, 0), (999, 0, 0, 0), (999, 0, 0, 0), (999, 0, 0, 0), (14, 0, 0, 100), (80, 0, 28, 2), (999, 0, 0, 0), (999, 0, 0, 0), (15, 0, 6, 107), (999, 0, 0, 0), (10, 0, 3, 0), (11, 0, 4, 0), (999, 0, 0, 0), (14, 0, 0, 100), (80, 0, 21, 1), (999, 0, 0, 0), (999, 0, 0, 0), (80, 2, 90, 1), (999, 0, 0, 0), (999, 0, 0, 0), (110, 0, 253, 269), (999, 0, 0, 0), (999, 0, 0, 0), (14, 0, 0, 100), (80, 0, 28, 2), (999, 0, 0, 0), (999, 0, 0, 0), (10, 0, 2, 0), (110, 0, 257, 270), (999, 0, 0, 0), (999, 0, 0, 0), (61, 11, 107, 0), (999, 0, 0, 0), (999, 0, 0, 0), (134, 45, 43, 2), (999, 0, 0, 0), (999, 0, 0, 0), (999, 0, 0, 0), (999, 0, 0, 0), (999, 0, 0, 0), (999, 0, 0, 0), (999, 0, 0, 0), (14, 0, 0, 100), (80, 0, 28, 2), (999, 0, 0, 0), (999, 0, 0, 0), (80, 5, 260, 0), (999, 0, 0, 0), (999, 0, 0, 0), (11, 0, 5, 0), (999, 0, 0, 0), (90, 0, 0, 28), (130, 0, 0, 0)]
def zu_X_serial : List (Nat × List Bool) := [(43, [false, false, false, false, false, false, false])]
set_option maxRecDepth 100000 in
theorem qg_X_serial_43 {ρ : Type} (kr : Int → zH → Option ρ) (kt : Nat → zH → Option ρ) (h : zH) : (zlet (zthrown h) fun h1 => kt 1 h1) = zseg zPP true (zcal (ρ := ρ) []) (zget (999, 0, 0, 0) zc_X_serial) (zcut zu_X_serial) (zorc (ρ := ρ) []) kr kt 400 43 [none, none, none, none, none, none, none] [] h := by rfl
set_option maxRecDepth 100000 in
theorem qe_X_serial_43 {ρ : Type} (kr : Int → zH → Option ρ) (kt : Nat → zH → Option ρ) (h : zH) : X_serial_43 kr kt h = zseg zPP true (zcal (ρ := ρ) []) (zget (999, 0, 0, 0) zc_X_serial) (zcut zu_X_serial) (zorc (ρ := ρ) []) kr kt 400 43 [none, none, none, none, none, none, none] [] h := qg_X_serial_43 kr kt h
set_option maxRecDepth 100000 in
theorem qg_X_serial {ρ : Type} (kr : Int → zH → Option ρ) (kt : Nat → zH → Option ρ) (F_X_kernelAt : Int → Int → zH → (Nat → zH → Option ρ) → (Int → zH → Option ρ) → Option ρ) (F_X_isWithin : Int → Int → Int → zH → (Int → zH → Option ρ) → Option ρ) (F_X_isCell : Int → zH → (Int → zH → Option ρ) → Option ρ) (F_Ke_hasLetterOf : Int → Int → zH → (Int → zH → Option ρ) → Option ρ) (F_Re_begin : Int → Int → Int → Int → Int → zH → (Int → zH → Option ρ) → Option ρ) (F_Re_runBlocks : Int → Int → zH → (Int → zH → Option ρ) → Option ρ) (c43 : zH → Option ρ) (a0 a1 a2 a3 a4 a5 : Int) (h : zH) : (zob h 0 a0 fun _ =>
F_X_kernelAt a0 a1 h kt fun v1 h2 =>
F_X_isCell a5 h2  fun v3 h4 =>
if v3 = 0 then zlet (zthrown h4) fun h25 => kt 3 h25
else F_X_isWithin a2 1 6 h4  fun v5 h6 =>
if v5 = 0 then c43 h6
else F_X_isWithin a3 1 16 h6  fun v7 h8 =>
if v7 = 0 then c43 h8
else zob h8 7 v1 fun _ =>
F_Ke_hasLetterOf v1 0 h8  fun v9 h10 =>
if v9 = 0 then (zob h10 0 a0 fun p11 =>
zob h10 0 a0 fun p12 =>
zob h10 2 (zhD h10 0 p12 1) fun p13 =>
zob h10 5 (zhD h10 0 p11 2) fun _ =>
F_Re_begin (zhD h10 0 p11 2) v1 a3 a4 (zhD h10 2 p13 1) h10  fun _ h15 =>
zob h15 0 a0 fun p16 =>
zob h15 5 (zhD h15 0 p16 2) fun _ =>
F_Re_runBlocks (zhD h15 0 p16 2) a2 h15  fun v17 h18 =>
if v17 = 0 then zlet (zthrown h18) fun h23 => kt 2 h23
else zob h18 0 a0 fun p19 =>
zob h18 5 (zhD h18 0 p19 2) fun p20 =>
zob h18 28 (zhD h18 5 p20 0) fun p21 =>
zix (zhL h18 28 p21) a5 fun j22 =>
kr (zhD h18 28 p21 j22) h18)
else zlet (zthrown h10) fun h24 => kt 4 h24) = zseg zPP true (zcal (ρ := ρ) [(47, [none, none], zcx2 F_X_kernelAt), (54, [none, none, none], zca3 F_X_isWithin), (55, [none], zca1 F_X_isCell), (226, [none, none], zca2 F_Ke_hasLetterOf), (269, [none, none, none, none, none], zca5 F_Re_begin), (270, [none, none], zca2 F_Re_runBlocks)]) (zget (999, 0, 0, 0) zc_X_serial) (zcut zu_X_serial) (zorc (ρ := ρ) [(43, [none, none, none, none, none, none, none], [], zap0 c43)]) kr kt 400 0 [some (100, a0), some (0, a1), some (0, a2), some (0, a3), some (0, a4), some (0, a5), none] [] h := by rfl
set_option maxRecDepth 100000 in
theorem qe_X_serial {ρ : Type} (kr : Int → zH → Option ρ) (kt : Nat → zH → Option ρ) (a0 a1 a2 a3 a4 a5 : Int) (h : zH) : X_serial a0 a1 a2 a3 a4 a5 h kt kr = zseg zPP true (zcal (ρ := ρ) [(47, [none, none], zcx2 X_kernelAt), (54, [none, none, none], zca3 X_isWithin), (55, [none], zca1 X_isCell), (226, [none, none], zca2 Ke_hasLetterOf), (269, [none, none, none, none, none], zca5 Re_begin), (270, [none, none], zca2 Re_runBlocks)]) (zget (999, 0, 0, 0) zc_X_serial) (zcut zu_X_serial) (zorc (ρ := ρ) [(43, [none, none, none, none, none, none, none], [], zap0 (X_serial_43 kr kt))]) kr kt 400 0 [some (100, a0), some (0, a1), some (0, a2), some (0, a3), some (0, a4), some (0, a5), none] [] h := qg_X_serial kr kt X_kernelAt X_isWithin X_isCell Ke_hasLetterOf Re_begin Re_runBlocks (X_serial_43 kr kt) a0 a1 a2 a3 a4 a5 h
def zc_X_lanes : List zI := [(14, 0, 0, 100), (80, 0, 21, 1), (999, 0, 0, 0), (999, 0, 0, 0), (80, 2, 141, 3), (999, 0, 0, 0), (999, 0, 0, 0), (80, 4, 261, 1), (999, 0, 0, 0), (999, 0, 0, 0), (131, 0, 0, 0)]
def zu_X_lanes : List (Nat × List Bool) := []
set_option maxRecDepth 100000 in
theorem qg_X_lanes {ρ : Type} (kr : Int → zH → Option ρ) (a0 : Int) (h : zH) : (zob h 0 a0 fun p1 =>
zob h 2 (zhD h 0 p1 1) fun p2 =>
zob h 4 (zhD h 2 p2 3) fun p3 =>
kr (zhD h 4 p3 1) h) = zseg zPP true (zcal (ρ := ρ) []) (zget (999, 0, 0, 0) zc_X_lanes) (zcut zu_X_lanes) (zorc (ρ := ρ) []) kr (fun _ _ => none) 400 0 [some (100, a0)] [] h := by rfl
set_option maxRecDepth 100000 in
theorem qe_X_lanes {ρ : Type} (kr : Int → zH → Option ρ) (a0 : Int) (h : zH) : X_lanes a0 h kr = zseg zPP true (zcal (ρ := ρ) []) (zget (999, 0, 0, 0) zc_X_lanes) (zcut zu_X_lanes) (zorc (ρ := ρ) []) kr (fun _ _ => none) 400 0 [some (100, a0)] [] h := qg_X_lanes kr a0 h
def zc_X_misses : List zI := [(14, 0, 0, 100), (80, 0, 21, 1), (999, 0, 0, 0), (999, 0, 0, 0), (80, 2, 141, 3), (999, 0, 0, 0), (999, 0, 0, 0), (80, 4, 264, 4), (999, 0, 0, 0), (999, 0, 0, 0), (130, 0, 0, 0)]
def zu_X_misses : List (Nat × List Bool) := []
set_option maxRecDepth 100000 in
theorem qg_X_misses {ρ : Type} (kr : Int → zH → Option ρ) (a0 : Int) (h : zH) : (zob h 0 a0 fun p1 =>
zob h 2 (zhD h 0 p1 1) fun p2 =>
zob h 4 (zhD h 2 p2 3) fun p3 =>
kr (zhD h 4 p3 4) h) = zseg zPP true (zcal (ρ := ρ) []) (zget (999, 0, 0, 0) zc_X_misses) (zcut zu_X_misses) (zorc (ρ := ρ) []) kr (fun _ _ => none) 400 0 [some (100, a0)] [] h := by rfl
set_option maxRecDepth 100000 in
theorem qe_X_misses {ρ : Type} (kr : Int → zH → Option ρ) (a0 : Int) (h : zH) : X_misses a0 h kr = zseg zPP true (zcal (ρ := ρ) []) (zget (999, 0, 0, 0) zc_X_misses) (zcut zu_X_misses) (zorc (ρ := ρ) []) kr (fun _ _ => none) 400 0 [some (100, a0)] [] h := qg_X_misses kr a0 h
def zc_X_lost : List zI := [(14, 0, 0, 100), (80, 0, 21, 1), (999, 0, 0, 0), (999, 0, 0, 0), (80, 2, 141, 3), (999, 0, 0, 0), (999, 0, 0, 0), (80, 4, 267, 5), (999, 0, 0, 0), (999, 0, 0, 0), (130, 0, 0, 0)]
def zu_X_lost : List (Nat × List Bool) := []
set_option maxRecDepth 100000 in
theorem qg_X_lost {ρ : Type} (kr : Int → zH → Option ρ) (a0 : Int) (h : zH) : (zob h 0 a0 fun p1 =>
zob h 2 (zhD h 0 p1 1) fun p2 =>
zob h 4 (zhD h 2 p2 3) fun p3 =>
kr (zhD h 4 p3 5) h) = zseg zPP true (zcal (ρ := ρ) []) (zget (999, 0, 0, 0) zc_X_lost) (zcut zu_X_lost) (zorc (ρ := ρ) []) kr (fun _ _ => none) 400 0 [some (100, a0)] [] h := by rfl
set_option maxRecDepth 100000 in
theorem qe_X_lost {ρ : Type} (kr : Int → zH → Option ρ) (a0 : Int) (h : zH) : X_lost a0 h kr = zseg zPP true (zcal (ρ := ρ) []) (zget (999, 0, 0, 0) zc_X_lost) (zcut zu_X_lost) (zorc (ρ := ρ) []) kr (fun _ _ => none) 400 0 [some (100, a0)] [] h := qg_X_lost kr a0 h
def zc_X_barriers : List zI := [(14, 0, 0, 100), (80, 0, 21, 1), (999, 0, 0, 0), (999, 0, 0, 0), (80, 2, 141, 3), (999, 0, 0, 0), (999, 0, 0, 0), (80, 4, 270, 6), (999, 0, 0, 0), (999, 0, 0, 0), (130, 0, 0, 0)]
def zu_X_barriers : List (Nat × List Bool) := []
set_option maxRecDepth 100000 in
theorem qg_X_barriers {ρ : Type} (kr : Int → zH → Option ρ) (a0 : Int) (h : zH) : (zob h 0 a0 fun p1 =>
zob h 2 (zhD h 0 p1 1) fun p2 =>
zob h 4 (zhD h 2 p2 3) fun p3 =>
kr (zhD h 4 p3 6) h) = zseg zPP true (zcal (ρ := ρ) []) (zget (999, 0, 0, 0) zc_X_barriers) (zcut zu_X_barriers) (zorc (ρ := ρ) []) kr (fun _ _ => none) 400 0 [some (100, a0)] [] h := by rfl
set_option maxRecDepth 100000 in
theorem qe_X_barriers {ρ : Type} (kr : Int → zH → Option ρ) (a0 : Int) (h : zH) : X_barriers a0 h kr = zseg zPP true (zcal (ρ := ρ) []) (zget (999, 0, 0, 0) zc_X_barriers) (zcut zu_X_barriers) (zorc (ρ := ρ) []) kr (fun _ _ => none) 400 0 [some (100, a0)] [] h := qg_X_barriers kr a0 h
def zc_X_refused : List zI := [(14, 0, 0, 100), (80, 0, 21, 1), (999, 0, 0, 0), (999, 0, 0, 0), (80, 2, 141, 3), (999, 0, 0, 0), (999, 0, 0, 0), (80, 4, 273, 7), (999, 0, 0, 0), (999, 0, 0, 0), (130, 0, 0, 0)]
def zu_X_refused : List (Nat × List Bool) := []
set_option maxRecDepth 100000 in
theorem qg_X_refused {ρ : Type} (kr : Int → zH → Option ρ) (a0 : Int) (h : zH) : (zob h 0 a0 fun p1 =>
zob h 2 (zhD h 0 p1 1) fun p2 =>
zob h 4 (zhD h 2 p2 3) fun p3 =>
kr (zhD h 4 p3 7) h) = zseg zPP true (zcal (ρ := ρ) []) (zget (999, 0, 0, 0) zc_X_refused) (zcut zu_X_refused) (zorc (ρ := ρ) []) kr (fun _ _ => none) 400 0 [some (100, a0)] [] h := by rfl
set_option maxRecDepth 100000 in
theorem qe_X_refused {ρ : Type} (kr : Int → zH → Option ρ) (a0 : Int) (h : zH) : X_refused a0 h kr = zseg zPP true (zcal (ρ := ρ) []) (zget (999, 0, 0, 0) zc_X_refused) (zcut zu_X_refused) (zorc (ρ := ρ) []) kr (fun _ _ => none) 400 0 [some (100, a0)] [] h := qg_X_refused kr a0 h
def zc_X_usedShare : List zI := [(6, 4, 276, 0), (999, 0, 0, 0), (999, 0, 0, 0), (14, 0, 0, 100), (80, 0, 21, 1), (999, 0, 0, 0), (999, 0, 0, 0), (80, 2, 141, 3), (999, 0, 0, 0), (999, 0, 0, 0), (80, 4, 145, 0), (999, 0, 0, 0), (999, 0, 0, 0), (47, 0, 0, 0), (18, 0, 1, 0), (12, 0, 1, 0), (5, 0, 0, 0), (48, 0, 0, 0), (61, 11, 29, 0), (999, 0, 0, 0), (999, 0, 0, 0), (134, 280, 278, 6), (999, 0, 0, 0), (999, 0, 0, 0), (999, 0, 0, 0), (999, 0, 0, 0), (999, 0, 0, 0), (999, 0, 0, 0), (999, 0, 0, 0), (14, 0, 0, 100), (80, 0, 21, 1), (999, 0, 0, 0), (999, 0, 0, 0), (80, 2, 141, 3), (999, 0, 0, 0), (999, 0, 0, 0), (80, 4, 261, 1), (999, 0, 0, 0), (999, 0, 0, 0), (142, 0, 0, 0), (12, 0, 1, 0), (142, 0, 0, 0), (144, 0, 0, 0), (160, 0, 0, 0)]
def zu_X_usedShare : List (Nat × List Bool) := []
set_option maxRecDepth 100000 in
theorem qg_X_usedShare {ρ : Type} (kr : Int → zH → Option ρ) (kt : Nat → zH → Option ρ) (a0 : Int) (h : zH) : (zob h 0 a0 fun p1 =>
zob h 2 (zhD h 0 p1 1) fun p2 =>
zob h 4 (zhD h 2 p2 3) fun p3 =>
if (zlcmp (wrl (4 * (zhD h 4 p3 0))) 0) = 0 then zlet (zthrown h) fun h8 => kt 6 h8
else zob h 0 a0 fun p4 =>
zob h 2 (zhD h 0 p4 1) fun p5 =>
zob h 4 (zhD h 2 p5 3) fun p6 =>
zn32 (FP.fdiv (zf32 (zl2f (zhD h 4 p6 1))) (zf32 (zl2f (wrl (4 * (zhD h 4 p3 0)))))) fun x7 =>
kr x7 h) = zseg zPP true (zcal (ρ := ρ) []) (zget (999, 0, 0, 0) zc_X_usedShare) (zcut zu_X_usedShare) (zorc (ρ := ρ) []) kr kt 400 0 [some (100, a0), none, none] [] h := by rfl
set_option maxRecDepth 100000 in
theorem qe_X_usedShare {ρ : Type} (kr : Int → zH → Option ρ) (kt : Nat → zH → Option ρ) (a0 : Int) (h : zH) : X_usedShare a0 h kt kr = zseg zPP true (zcal (ρ := ρ) []) (zget (999, 0, 0, 0) zc_X_usedShare) (zcut zu_X_usedShare) (zorc (ρ := ρ) []) kr kt 400 0 [some (100, a0), none, none] [] h := qg_X_usedShare kr kt a0 h
def zc_X_meanDelay : List zI := [(14, 0, 0, 100), (80, 0, 21, 1), (999, 0, 0, 0), (999, 0, 0, 0), (80, 2, 141, 3), (999, 0, 0, 0), (999, 0, 0, 0), (80, 4, 281, 3), (999, 0, 0, 0), (999, 0, 0, 0), (18, 0, 1, 0), (12, 0, 1, 0), (5, 0, 0, 0), (48, 0, 0, 0), (61, 11, 25, 0), (999, 0, 0, 0), (999, 0, 0, 0), (134, 280, 278, 6), (999, 0, 0, 0), (999, 0, 0, 0), (999, 0, 0, 0), (999, 0, 0, 0), (999, 0, 0, 0), (999, 0, 0, 0), (999, 0, 0, 0), (14, 0, 0, 100), (80, 0, 21, 1), (999, 0, 0, 0), (999, 0, 0, 0), (80, 2, 141, 3), (999, 0, 0, 0), (999, 0, 0, 0), (80, 4, 284, 2), (999, 0, 0, 0), (999, 0, 0, 0), (145, 0, 0, 0), (12, 0, 1, 0), (145, 0, 0, 0), (147, 0, 0, 0), (161, 0, 0, 0)]
def zu_X_meanDelay : List (Nat × List Bool) := []
set_option maxRecDepth 100000 in
theorem qg_X_meanDelay {ρ : Type} (kr : Int → zH → Option ρ) (kt : Nat → zH → Option ρ) (a0 : Int) (h : zH) : (zob h 0 a0 fun p1 =>
zob h 2 (zhD h 0 p1 1) fun p2 =>
zob h 4 (zhD h 2 p2 3) fun p3 =>
if (zlcmp (zhD h 4 p3 3) 0) = 0 then zlet (zthrown h) fun h8 => kt 6 h8
else zob h 0 a0 fun p4 =>
zob h 2 (zhD h 0 p4 1) fun p5 =>
zob h 4 (zhD h 2 p5 3) fun p6 =>
zn64 (FP.ddiv (zf64 (zl2d (zhD h 4 p6 2))) (zf64 (zl2d (zhD h 4 p3 3)))) fun x7 =>
kr x7 h) = zseg zPP true (zcal (ρ := ρ) []) (zget (999, 0, 0, 0) zc_X_meanDelay) (zcut zu_X_meanDelay) (zorc (ρ := ρ) []) kr kt 400 0 [some (100, a0), none, none] [] h := by rfl
set_option maxRecDepth 100000 in
theorem qe_X_meanDelay {ρ : Type} (kr : Int → zH → Option ρ) (kt : Nat → zH → Option ρ) (a0 : Int) (h : zH) : X_meanDelay a0 h kt kr = zseg zPP true (zcal (ρ := ρ) []) (zget (999, 0, 0, 0) zc_X_meanDelay) (zcut zu_X_meanDelay) (zorc (ρ := ρ) []) kr kt 400 0 [some (100, a0), none, none] [] h := qg_X_meanDelay kr kt a0 h
def zc_Gr_isBufferWithinRoom : List zI := [(14, 0, 0, 111), (80, 11, 67, 5), (999, 0, 0, 0), (999, 0, 0, 0), (0, 4, 0, 0), (70, 7, 12, 0), (999, 0, 0, 0), (999, 0, 0, 0), (0, 1, 0, 0), (72, 4, 13, 0), (999, 0, 0, 0), (999, 0, 0, 0), (0, 0, 0, 0), (130, 0, 1, 0)]
def zu_Gr_isBufferWithinRoom : List (Nat × List Bool) := [(13, [false])]
set_option maxRecDepth 100000 in
theorem qg_Gr_isBufferWithinRoom_13 {ρ : Type} (kr : Int → zH → Option ρ) (t0 : Int) (h : zH) : (znar 1 t0 fun x1 => kr x1 h) = zseg zPP true (zcal (ρ := ρ) []) (zget (999, 0, 0, 0) zc_Gr_isBufferWithinRoom) (zcut zu_Gr_isBufferWithinRoom) (zorc (ρ := ρ) []) kr (fun _ _ => none) 400 13 [none] [(0, t0)] h := by rfl
set_option maxRecDepth 100000 in
theorem qe_Gr_isBufferWithinRoom_13 {ρ : Type} (kr : Int → zH → Option ρ) (t0 : Int) (h : zH) : Gr_isBufferWithinRoom_13 kr t0 h = zseg zPP true (zcal (ρ := ρ) []) (zget (999, 0, 0, 0) zc_Gr_isBufferWithinRoom) (zcut zu_Gr_isBufferWithinRoom) (zorc (ρ := ρ) []) kr (fun _ _ => none) 400 13 [none] [(0, t0)] h := qg_Gr_isBufferWithinRoom_13 kr t0 h
set_option maxRecDepth 100000 in
theorem qg_Gr_isBufferWithinRoom {ρ : Type} (kr : Int → zH → Option ρ) (c13 : Int → zH → Option ρ) (a0 : Int) (h : zH) : (zob h 11 a0 fun p1 =>
if 4 < (zhD h 11 p1 5) then c13 0 h
else c13 1 h) = zseg zPP true (zcal (ρ := ρ) []) (zget (999, 0, 0, 0) zc_Gr_isBufferWithinRoom) (zcut zu_Gr_isBufferWithinRoom) (zorc (ρ := ρ) [(13, [none], [(0, none)], zap1 c13)]) kr (fun _ _ => none) 400 0 [some (111, a0)] [] h := by rfl
set_option maxRecDepth 100000 in
theorem qe_Gr_isBufferWithinRoom {ρ : Type} (kr : Int → zH → Option ρ) (a0 : Int) (h : zH) : Gr_isBufferWithinRoom a0 h kr = zseg zPP true (zcal (ρ := ρ) []) (zget (999, 0, 0, 0) zc_Gr_isBufferWithinRoom) (zcut zu_Gr_isBufferWithinRoom) (zorc (ρ := ρ) [(13, [none], [(0, none)], zap1 (Gr_isBufferWithinRoom_13 kr))]) kr (fun _ _ => none) 400 0 [some (111, a0)] [] h := qg_Gr_isBufferWithinRoom kr (Gr_isBufferWithinRoom_13 kr) a0 h
def zc_Un_isInOrder : List zI := [(0, 0, 0, 0), (16, 0, 1, 0), (10, 0, 1, 0), (14, 0, 0, 103), (80, 3, 21, 2), (999, 0, 0, 0), (999, 0, 0, 0), (69, 41, 48, 0), (999, 0, 0, 0), (999, 0, 0, 0), (14, 0, 0, 103), (80, 3, 11, 0), (999, 0, 0, 0), (999, 0, 0, 0), (10, 0, 1, 0), (94, 0, 0, 26), (110, 0, 95, 213), (999, 0, 0, 0), (999, 0, 0, 0), (60, 21, 40, 0), (999, 0, 0, 0), (999, 0, 0, 0), (14, 0, 0, 103), (80, 3, 11, 0), (999, 0, 0, 0), (999, 0, 0, 0), (10, 0, 1, 0), (94, 0, 0, 26), (80, 11, 48, 0), (999, 0, 0, 0), (999, 0, 0, 0), (80, 10, 61, 0), (999, 0, 0, 0), (999, 0, 0, 0), (110, 0, 99, 231), (999, 0, 0, 0), (999, 0, 0, 0), (60, 5, 42, 0), (999, 0, 0, 0), (999, 0, 0, 0), (0, 0, 0, 0), (130, 0, 1, 0), (22, 1, 1, 0), (999, 0, 0, 0), (999, 0, 0, 0), (72, (-43), 2, 0), (999, 0, 0, 0), (999, 0, 0, 0), (14, 0, 0, 103), (80, 3, 21, 2), (999, 0, 0, 0), (999, 0, 0, 0), (0, 4, 0, 0), (70, 25, 78, 0), (999, 0, 0, 0), (999, 0, 0, 0), (14, 0, 0, 103), (110, 0, 33, 279), (999, 0, 0, 0), (999, 0, 0, 0), (1, 64, 0, 0), (999, 0, 0, 0), (70, 16, 78, 0), (999, 0, 0, 0), (999, 0, 0, 0), (14, 0, 0, 103), (110, 0, 42, 280), (999, 0, 0, 0), (999, 0, 0, 0), (1, 32, 0, 0), (999, 0, 0, 0), (70, 7, 78, 0), (999, 0, 0, 0), (999, 0, 0, 0), (0, 1, 0, 0), (72, 4, 79, 0), (999, 0, 0, 0), (999, 0, 0, 0), (0, 0, 0, 0), (130, 0, 1, 0)]
def zu_Un_isInOrder : List (Nat × List Bool) := [(2, [true, true]), (40, [false, false]), (78, [false, false]), (79, [false, false])]
set_option maxRecDepth 100000 in
theorem qg_Un_isInOrder_40 {ρ : Type} (kr : Int → zH → Option ρ) (h : zH) : (kr 0 h) = zseg zPP true (zcal (ρ := ρ) []) (zget (999, 0, 0, 0) zc_Un_isInOrder) (zcut zu_Un_isInOrder) (zorc (ρ := ρ) []) kr (fun _ _ => none) 400 40 [none, none] [] h := by rfl
set_option maxRecDepth 100000 in
theorem qe_Un_isInOrder_40 {ρ : Type} (kr : Int → zH → Option ρ) (h : zH) : Un_isInOrder_40 kr h = zseg zPP true (zcal (ρ := ρ) []) (zget (999, 0, 0, 0) zc_Un_isInOrder) (zcut zu_Un_isInOrder) (zorc (ρ := ρ) []) kr (fun _ _ => none) 400 40 [none, none] [] h := qg_Un_isInOrder_40 kr h
set_option maxRecDepth 100000 in
theorem qg_Un_isInOrder_79 {ρ : Type} (kr : Int → zH → Option ρ) (t0 : Int) (h : zH) : (znar 1 t0 fun x1 => kr x1 h) = zseg zPP true (zcal (ρ := ρ) []) (zget (999, 0, 0, 0) zc_Un_isInOrder) (zcut zu_Un_isInOrder) (zorc (ρ := ρ) []) kr (fun _ _ => none) 400 79 [none, none] [(0, t0)] h := by rfl
set_option maxRecDepth 100000 in
theorem qe_Un_isInOrder_79 {ρ : Type} (kr : Int → zH → Option ρ) (t0 : Int) (h : zH) : Un_isInOrder_79 kr t0 h = zseg zPP true (zcal (ρ := ρ) []) (zget (999, 0, 0, 0) zc_Un_isInOrder) (zcut zu_Un_isInOrder) (zorc (ρ := ρ) []) kr (fun _ _ => none) 400 79 [none, none] [(0, t0)] h := qg_Un_isInOrder_79 kr t0 h
set_option maxRecDepth 100000 in
theorem qg_Un_isInOrder_78 {ρ : Type} (kr : Int → zH → Option ρ) (c79 : Int → zH → Option ρ) (h : zH) : (c79 0 h) = zseg zPP true (zcal (ρ := ρ) []) (zget (999, 0, 0, 0) zc_Un_isInOrder) (zcut zu_Un_isInOrder) (zorc (ρ := ρ) [(79, [none, none], [(0, none)], zap1 c79)]) kr (fun _ _ => none) 400 78 [none, none] [] h := by rfl
set_option maxRecDepth 100000 in
theorem qe_Un_isInOrder_78 {ρ : Type} (kr : Int → zH → Option ρ) (h : zH) : Un_isInOrder_78 kr h = zseg zPP true (zcal (ρ := ρ) []) (zget (999, 0, 0, 0) zc_Un_isInOrder) (zcut zu_Un_isInOrder) (zorc (ρ := ρ) [(79, [none, none], [(0, none)], zap1 (Un_isInOrder_79 kr))]) kr (fun _ _ => none) 400 78 [none, none] [] h := qg_Un_isInOrder_78 kr (Un_isInOrder_79 kr) h
set_option maxRecDepth 100000 in
theorem qg_Un_isInOrder_2b {ρ : Type} (kr : Int → zH → Option ρ) (r2 : Int → Int → zH → Option ρ) (F_Gr_isBufferWithinRoom : Int → zH → (Int → zH → Option ρ) → Option ρ) (F_La_isOver : Int → zH → (Int → zH → Option ρ) → Option ρ) (F_Un_usedRegisters : Int → zH → (Int → zH → Option ρ) → Option ρ) (F_Un_usedShared : Int → zH → (Int → zH → Option ρ) → Option ρ) (c40 : zH → Option ρ) (c78 : zH → Option ρ) (c79 : Int → zH → Option ρ) (a0 a1 : Int) (h : zH) : (zob h 3 a0 fun p1 =>
if a1 < (zhD h 3 p1 2) then (zob h 3 a0 fun p7 =>
zob h 26 (zhD h 3 p7 0) fun p8 =>
zix (zhL h 26 p8) a1 fun j9 =>
zob h 11 (zhD h 26 p8 j9) fun _ =>
F_Gr_isBufferWithinRoom (zhD h 26 p8 j9) h  fun v10 h11 =>
if v10 = 0 then c40 h11
else zob h11 3 a0 fun p12 =>
zob h11 26 (zhD h11 3 p12 0) fun p13 =>
zix (zhL h11 26 p13) a1 fun j14 =>
zob h11 11 (zhD h11 26 p13 j14) fun p15 =>
zob h11 10 (zhD h11 11 p15 0) fun p16 =>
zob h11 9 (zhD h11 10 p16 0) fun _ =>
F_La_isOver (zhD h11 10 p16 0) h11  fun v17 h18 =>
if v17 = 0 then r2 a0 (wr (a1 + 1)) h18
else c40 h18)
else zob h 3 a0 fun p2 =>
if 4 < (zhD h 3 p2 2) then c78 h
else zob h 3 a0 fun _ =>
F_Un_usedRegisters a0 h  fun v3 h4 =>
if 64 < v3 then c78 h4
else zob h4 3 a0 fun _ =>
F_Un_usedShared a0 h4  fun v5 h6 =>
if 32 < v5 then c78 h6
else c79 1 h6) = zseg zPP true (zcal (ρ := ρ) [(213, [none], zca1 F_Gr_isBufferWithinRoom), (231, [none], zca1 F_La_isOver), (279, [none], zca1 F_Un_usedRegisters), (280, [none], zca1 F_Un_usedShared)]) (zget (999, 0, 0, 0) zc_Un_isInOrder) (zcut zu_Un_isInOrder) (zorc (ρ := ρ) [(2, [some (103, none), some (0, none)], [], zap2 r2), (40, [none, none], [], zap0 c40), (78, [none, none], [], zap0 c78), (79, [none, none], [(0, none)], zap1 c79)]) kr (fun _ _ => none) 400 2 [some (103, a0), some (0, a1)] [] h := by rfl
set_option maxRecDepth 100000 in
theorem qe_Un_isInOrder_2b {ρ : Type} (kr : Int → zH → Option ρ) (r2 : Int → Int → zH → Option ρ) (a0 a1 : Int) (h : zH) : Un_isInOrder_2b kr r2 a0 a1 h = zseg zPP true (zcal (ρ := ρ) [(213, [none], zca1 Gr_isBufferWithinRoom), (231, [none], zca1 La_isOver), (279, [none], zca1 Un_usedRegisters), (280, [none], zca1 Un_usedShared)]) (zget (999, 0, 0, 0) zc_Un_isInOrder) (zcut zu_Un_isInOrder) (zorc (ρ := ρ) [(2, [some (103, none), some (0, none)], [], zap2 r2), (40, [none, none], [], zap0 (Un_isInOrder_40 kr)), (78, [none, none], [], zap0 (Un_isInOrder_78 kr)), (79, [none, none], [(0, none)], zap1 (Un_isInOrder_79 kr))]) kr (fun _ _ => none) 400 2 [some (103, a0), some (0, a1)] [] h := qg_Un_isInOrder_2b kr r2 Gr_isBufferWithinRoom La_isOver Un_usedRegisters Un_usedShared (Un_isInOrder_40 kr) (Un_isInOrder_78 kr) (Un_isInOrder_79 kr) a0 a1 h
set_option maxRecDepth 100000 in
theorem qg_Un_isInOrder {ρ : Type} (kr : Int → zH → Option ρ) (c2 : Int → Int → zH → Option ρ) (a0 : Int) (h : zH) : (c2 a0 0 h) = zseg zPP true (zcal (ρ := ρ) []) (zget (999, 0, 0, 0) zc_Un_isInOrder) (zcut zu_Un_isInOrder) (zorc (ρ := ρ) [(2, [some (103, none), some (0, none)], [], zap2 c2)]) kr (fun _ _ => none) 400 0 [some (103, a0), none] [] h := by rfl
set_option maxRecDepth 100000 in
theorem qe_Un_isInOrder {ρ : Type} (kr : Int → zH → Option ρ) (a0 : Int) (h : zH) : Un_isInOrder a0 h kr = zseg zPP true (zcal (ρ := ρ) []) (zget (999, 0, 0, 0) zc_Un_isInOrder) (zcut zu_Un_isInOrder) (zorc (ρ := ρ) [(2, [some (103, none), some (0, none)], [], zap2 (Un_isInOrder_2 kr))]) kr (fun _ _ => none) 400 0 [some (103, a0), none] [] h := qg_Un_isInOrder kr (Un_isInOrder_2 kr) a0 h
def zc_X_isSound : List zI := [(0, 0, 0, 0), (16, 0, 1, 0), (10, 0, 1, 0), (0, 2, 0, 0), (69, 26, 30, 0), (999, 0, 0, 0), (999, 0, 0, 0), (14, 0, 0, 100), (80, 0, 21, 1), (999, 0, 0, 0), (999, 0, 0, 0), (80, 2, 287, 2), (999, 0, 0, 0), (999, 0, 0, 0), (10, 0, 1, 0), (94, 0, 0, 23), (110, 0, 291, 288), (999, 0, 0, 0), (999, 0, 0, 0), (61, 5, 24, 0), (999, 0, 0, 0), (999, 0, 0, 0), (0, 0, 0, 0), (130, 0, 1, 0), (22, 1, 1, 0), (999, 0, 0, 0), (999, 0, 0, 0), (72, (-25), 2, 0), (999, 0, 0, 0), (999, 0, 0, 0), (0, 1, 0, 0), (130, 0, 1, 0)]
def zu_X_isSound : List (Nat × List Bool) := [(2, [true, true])]
set_option maxRecDepth 100000 in
theorem qg_X_isSound_2b {ρ : Type} (kr : Int → zH → Option ρ) (r2 : Int → Int → zH → Option ρ) (F_Un_isInOrder : Int → zH → (Int → zH → Option ρ) → Option ρ) (a0 a1 : Int) (h : zH) : (if a1 < 2 then (zob h 0 a0 fun p1 =>
zob h 2 (zhD h 0 p1 1) fun p2 =>
zob h 23 (zhD h 2 p2 2) fun p3 =>
zix (zhL h 23 p3) a1 fun j4 =>
zob h 3 (zhD h 23 p3 j4) fun _ =>
F_Un_isInOrder (zhD h 23 p3 j4) h  fun v5 h6 =>
if v5 = 0 then kr 0 h6
else r2 a0 (wr (a1 + 1)) h6)
else kr 1 h) = zseg zPP true (zcal (ρ := ρ) [(288, [none], zca1 F_Un_isInOrder)]) (zget (999, 0, 0, 0) zc_X_isSound) (zcut zu_X_isSound) (zorc (ρ := ρ) [(2, [some (100, none), some (0, none)], [], zap2 r2)]) kr (fun _ _ => none) 400 2 [some (100, a0), some (0, a1)] [] h := by rfl
set_option maxRecDepth 100000 in
theorem qe_X_isSound_2b {ρ : Type} (kr : Int → zH → Option ρ) (r2 : Int → Int → zH → Option ρ) (a0 a1 : Int) (h : zH) : X_isSound_2b kr r2 a0 a1 h = zseg zPP true (zcal (ρ := ρ) [(288, [none], zca1 Un_isInOrder)]) (zget (999, 0, 0, 0) zc_X_isSound) (zcut zu_X_isSound) (zorc (ρ := ρ) [(2, [some (100, none), some (0, none)], [], zap2 r2)]) kr (fun _ _ => none) 400 2 [some (100, a0), some (0, a1)] [] h := qg_X_isSound_2b kr r2 Un_isInOrder a0 a1 h
set_option maxRecDepth 100000 in
theorem qg_X_isSound {ρ : Type} (kr : Int → zH → Option ρ) (c2 : Int → Int → zH → Option ρ) (a0 : Int) (h : zH) : (c2 a0 0 h) = zseg zPP true (zcal (ρ := ρ) []) (zget (999, 0, 0, 0) zc_X_isSound) (zcut zu_X_isSound) (zorc (ρ := ρ) [(2, [some (100, none), some (0, none)], [], zap2 c2)]) kr (fun _ _ => none) 400 0 [some (100, a0), none] [] h := by rfl
set_option maxRecDepth 100000 in
theorem qe_X_isSound {ρ : Type} (kr : Int → zH → Option ρ) (a0 : Int) (h : zH) : X_isSound a0 h kr = zseg zPP true (zcal (ρ := ρ) []) (zget (999, 0, 0, 0) zc_X_isSound) (zcut zu_X_isSound) (zorc (ρ := ρ) [(2, [some (100, none), some (0, none)], [], zap2 (X_isSound_2 kr))]) kr (fun _ _ => none) 400 0 [some (100, a0), none] [] h := qg_X_isSound kr (X_isSound_2 kr) a0 h
def zc_M_init : List zI := [(14, 0, 0, 112), (117, 0, 1, 0), (999, 0, 0, 0), (999, 0, 0, 0), (14, 0, 0, 112), (1, 111, 0, 0), (999, 0, 0, 0), (82, 12, 7, 2), (999, 0, 0, 0), (999, 0, 0, 0), (14, 0, 0, 112), (1, 64, 0, 0), (999, 0, 0, 0), (101, 0, 0, 60), (999, 0, 0, 0), (84, 12, 13, 3), (999, 0, 0, 0), (999, 0, 0, 0), (14, 0, 0, 112), (0, 4, 0, 0), (101, 0, 0, 61), (999, 0, 0, 0), (84, 12, 17, 5), (999, 0, 0, 0), (999, 0, 0, 0), (14, 0, 0, 112), (0, 4, 0, 0), (101, 0, 0, 62), (999, 0, 0, 0), (84, 12, 20, 6), (999, 0, 0, 0), (999, 0, 0, 0), (14, 0, 0, 112), (0, 4, 0, 0), (101, 0, 0, 63), (999, 0, 0, 0), (84, 12, 23, 7), (999, 0, 0, 0), (999, 0, 0, 0), (14, 0, 0, 112), (0, 4, 0, 0), (101, 0, 0, 64), (999, 0, 0, 0), (84, 12, 26, 8), (999, 0, 0, 0), (999, 0, 0, 0), (14, 0, 0, 112), (2, 160, 0, 0), (999, 0, 0, 0), (999, 0, 0, 0), (101, 0, 0, 65), (999, 0, 0, 0), (84, 12, 30, 9), (999, 0, 0, 0), (999, 0, 0, 0), (14, 0, 0, 112), (2, 160, 0, 0), (999, 0, 0, 0), (999, 0, 0, 0), (101, 0, 0, 66), (999, 0, 0, 0), (84, 12, 34, 10), (999, 0, 0, 0), (999, 0, 0, 0), (14, 0, 0, 112), (2, 160, 0, 0), (999, 0, 0, 0), (999, 0, 0, 0), (101, 0, 0, 67), (999, 0, 0, 0), (84, 12, 37, 11), (999, 0, 0, 0), (999, 0, 0, 0), (14, 0, 0, 112), (2, 160, 0, 0), (999, 0, 0, 0), (999, 0, 0, 0), (101, 0, 0, 68), (999, 0, 0, 0), (84, 12, 40, 12), (999, 0, 0, 0), (999, 0, 0, 0), (14, 0, 0, 112), (1, 12, 0, 0), (999, 0, 0, 0), (101, 0, 0, 69), (999, 0, 0, 0), (84, 12, 43, 14), (999, 0, 0, 0), (999, 0, 0, 0), (14, 0, 0, 112), (1, 12, 0, 0), (999, 0, 0, 0), (101, 0, 0, 70), (999, 0, 0, 0), (84, 12, 46, 15), (999, 0, 0, 0), (999, 0, 0, 0), (14, 0, 0, 112), (1, 12, 0, 0), (999, 0, 0, 0), (101, 0, 0, 71), (999, 0, 0, 0), (84, 12, 49, 16), (999, 0, 0, 0), (999, 0, 0, 0), (14, 0, 0, 112), (1, 12, 0, 0), (999, 0, 0, 0), (101, 0, 0, 72), (999, 0, 0, 0), (84, 12, 52, 17), (999, 0, 0, 0), (999, 0, 0, 0), (14, 0, 0, 112), (1, 12, 0, 0), (999, 0, 0, 0), (101, 0, 0, 73), (999, 0, 0, 0), (84, 12, 55, 18), (999, 0, 0, 0), (999, 0, 0, 0), (14, 0, 0, 112), (1, 12, 0, 0), (999, 0, 0, 0), (101, 0, 0, 74), (999, 0, 0, 0), (84, 12, 58, 19), (999, 0, 0, 0), (999, 0, 0, 0), (14, 0, 0, 112), (1, 12, 0, 0), (999, 0, 0, 0), (101, 0, 0, 75), (999, 0, 0, 0), (84, 12, 61, 20), (999, 0, 0, 0), (999, 0, 0, 0), (14, 0, 0, 112), (1, 12, 0, 0), (999, 0, 0, 0), (101, 0, 0, 76), (999, 0, 0, 0), (84, 12, 64, 21), (999, 0, 0, 0), (999, 0, 0, 0), (14, 0, 0, 112), (1, 12, 0, 0), (999, 0, 0, 0), (101, 0, 0, 77), (999, 0, 0, 0), (84, 12, 67, 22), (999, 0, 0, 0), (999, 0, 0, 0), (14, 0, 0, 112), (1, 12, 0, 0), (999, 0, 0, 0), (101, 0, 0, 78), (999, 0, 0, 0), (84, 12, 70, 23), (999, 0, 0, 0), (999, 0, 0, 0), (14, 0, 0, 112), (1, 12, 0, 0), (999, 0, 0, 0), (101, 0, 0, 79), (999, 0, 0, 0), (84, 12, 73, 24), (999, 0, 0, 0), (999, 0, 0, 0), (14, 0, 0, 112), (1, 12, 0, 0), (999, 0, 0, 0), (101, 0, 0, 80), (999, 0, 0, 0), (84, 12, 76, 25), (999, 0, 0, 0), (999, 0, 0, 0), (14, 0, 0, 112), (1, 12, 0, 0), (999, 0, 0, 0), (101, 0, 0, 81), (999, 0, 0, 0), (84, 12, 79, 26), (999, 0, 0, 0), (999, 0, 0, 0), (14, 0, 0, 112), (1, 12, 0, 0), (999, 0, 0, 0), (101, 0, 0, 82), (999, 0, 0, 0), (84, 12, 82, 27), (999, 0, 0, 0), (999, 0, 0, 0), (14, 0, 0, 112), (1, 12, 0, 0), (999, 0, 0, 0), (101, 0, 0, 83), (999, 0, 0, 0), (84, 12, 85, 28), (999, 0, 0, 0), (999, 0, 0, 0), (14, 0, 0, 112), (1, 12, 0, 0), (999, 0, 0, 0), (101, 0, 0, 84), (999, 0, 0, 0), (84, 12, 88, 29), (999, 0, 0, 0), (999, 0, 0, 0), (14, 0, 0, 112), (1, 12, 0, 0), (999, 0, 0, 0), (101, 0, 0, 85), (999, 0, 0, 0), (84, 12, 91, 30), (999, 0, 0, 0), (999, 0, 0, 0), (14, 0, 0, 112), (1, 72, 0, 0), (999, 0, 0, 0), (101, 0, 0, 86), (999, 0, 0, 0), (84, 12, 94, 31), (999, 0, 0, 0), (999, 0, 0, 0), (14, 0, 0, 112), (1, 72, 0, 0), (999, 0, 0, 0), (101, 0, 0, 87), (999, 0, 0, 0), (84, 12, 97, 32), (999, 0, 0, 0), (999, 0, 0, 0), (14, 0, 0, 112), (1, 72, 0, 0), (999, 0, 0, 0), (101, 0, 0, 88), (999, 0, 0, 0), (84, 12, 100, 33), (999, 0, 0, 0), (999, 0, 0, 0), (14, 0, 0, 112), (2, 1152, 0, 0), (999, 0, 0, 0), (999, 0, 0, 0), (101, 0, 0, 89), (999, 0, 0, 0), (84, 12, 103, 34), (999, 0, 0, 0), (999, 0, 0, 0), (14, 0, 0, 112), (2, 1152, 0, 0), (999, 0, 0, 0), (999, 0, 0, 0), (101, 0, 0, 90), (999, 0, 0, 0), (84, 12, 106, 35), (999, 0, 0, 0), (999, 0, 0, 0), (14, 0, 0, 112), (2, 9216, 0, 0), (999, 0, 0, 0), (999, 0, 0, 0), (101, 0, 0, 91), (999, 0, 0, 0), (84, 12, 109, 36), (999, 0, 0, 0), (999, 0, 0, 0), (14, 0, 0, 112), (2, 1152, 0, 0), (999, 0, 0, 0), (999, 0, 0, 0), (101, 0, 0, 92), (999, 0, 0, 0), (84, 12, 112, 37), (999, 0, 0, 0), (999, 0, 0, 0), (14, 0, 0, 112), (0, 2, 0, 0), (101, 0, 0, 93), (999, 0, 0, 0), (84, 12, 115, 38), (999, 0, 0, 0), (999, 0, 0, 0), (14, 0, 0, 112), (1, 8, 0, 0), (999, 0, 0, 0), (101, 0, 0, 94), (999, 0, 0, 0), (84, 12, 118, 39), (999, 0, 0, 0), (999, 0, 0, 0), (14, 0, 0, 112), (1, 8, 0, 0), (999, 0, 0, 0), (101, 0, 0, 95), (999, 0, 0, 0), (84, 12, 121, 40), (999, 0, 0, 0), (999, 0, 0, 0), (14, 0, 0, 112), (1, 8, 0, 0), (999, 0, 0, 0), (101, 0, 0, 96), (999, 0, 0, 0), (84, 12, 124, 41), (999, 0, 0, 0), (999, 0, 0, 0), (14, 0, 0, 112), (1, 8, 0, 0), (999, 0, 0, 0), (101, 0, 0, 97), (999, 0, 0, 0), (84, 12, 127, 42), (999, 0, 0, 0), (999, 0, 0, 0), (14, 0, 0, 112), (1, 32, 0, 0), (999, 0, 0, 0), (101, 0, 0, 98), (999, 0, 0, 0), (84, 12, 130, 43), (999, 0, 0, 0), (999, 0, 0, 0), (14, 0, 0, 112), (1, 32, 0, 0), (999, 0, 0, 0), (101, 0, 0, 99), (999, 0, 0, 0), (84, 12, 133, 44), (999, 0, 0, 0), (999, 0, 0, 0), (14, 0, 0, 112), (0, 2, 0, 0), (101, 0, 0, 100), (999, 0, 0, 0), (50, 0, 0, 0), (0, 0, 0, 0), (0, (-1), 0, 0), (95, 0, 0, 100), (50, 0, 0, 0), (0, 1, 0, 0), (0, (-1), 0, 0), (95, 0, 0, 100), (84, 12, 136, 45), (999, 0, 0, 0), (999, 0, 0, 0), (14, 0, 0, 112), (0, 2, 0, 0), (101, 0, 0, 101), (999, 0, 0, 0), (50, 0, 0, 0), (0, 0, 0, 0), (0, (-1), 0, 0), (95, 0, 0, 101), (50, 0, 0, 0), (0, 1, 0, 0), (0, (-1), 0, 0), (95, 0, 0, 101), (84, 12, 139, 46), (999, 0, 0, 0), (999, 0, 0, 0), (14, 0, 0, 112), (0, 4, 0, 0), (101, 0, 0, 102), (999, 0, 0, 0), (50, 0, 0, 0), (0, 0, 0, 0), (0, (-1), 0, 0), (95, 0, 0, 102), (50, 0, 0, 0), (0, 1, 0, 0), (0, (-1), 0, 0), (95, 0, 0, 102), (50, 0, 0, 0), (0, 2, 0, 0), (0, (-1), 0, 0), (95, 0, 0, 102), (50, 0, 0, 0), (0, 3, 0, 0), (0, (-1), 0, 0), (95, 0, 0, 102), (84, 12, 142, 47), (999, 0, 0, 0), (999, 0, 0, 0), (14, 0, 0, 112), (3, 73728, 145, 0), (999, 0, 0, 0), (101, 0, 0, 103), (999, 0, 0, 0), (84, 12, 146, 48), (999, 0, 0, 0), (999, 0, 0, 0), (14, 0, 0, 112), (3, 73728, 145, 0), (999, 0, 0, 0), (101, 0, 0, 104), (999, 0, 0, 0), (84, 12, 149, 49), (999, 0, 0, 0), (999, 0, 0, 0), (14, 0, 0, 112), (2, 768, 0, 0), (999, 0, 0, 0), (999, 0, 0, 0), (101, 0, 0, 105), (999, 0, 0, 0), (84, 12, 152, 50), (999, 0, 0, 0), (999, 0, 0, 0), (14, 0, 0, 112), (2, 18432, 0, 0), (999, 0, 0, 0), (999, 0, 0, 0), (101, 0, 0, 106), (999, 0, 0, 0), (84, 12, 155, 51), (999, 0, 0, 0), (999, 0, 0, 0), (14, 0, 0, 112), (2, 18432, 0, 0), (999, 0, 0, 0), (999, 0, 0, 0), (101, 0, 0, 107), (999, 0, 0, 0), (84, 12, 158, 52), (999, 0, 0, 0), (999, 0, 0, 0), (14, 0, 0, 112), (2, 1152, 0, 0), (999, 0, 0, 0), (999, 0, 0, 0), (101, 0, 0, 108), (999, 0, 0, 0), (84, 12, 161, 53), (999, 0, 0, 0), (999, 0, 0, 0), (14, 0, 0, 112), (1, 32, 0, 0), (999, 0, 0, 0), (101, 0, 0, 109), (999, 0, 0, 0), (84, 12, 164, 62), (999, 0, 0, 0), (999, 0, 0, 0), (14, 0, 0, 112), (1, 64, 0, 0), (999, 0, 0, 0), (101, 0, 0, 110), (999, 0, 0, 0), (84, 12, 167, 68), (999, 0, 0, 0), (999, 0, 0, 0), (14, 0, 0, 112), (1, 16, 0, 0), (999, 0, 0, 0), (101, 0, 0, 111), (999, 0, 0, 0), (84, 12, 170, 69), (999, 0, 0, 0), (999, 0, 0, 0), (14, 0, 0, 112), (2, 128, 0, 0), (999, 0, 0, 0), (999, 0, 0, 0), (101, 0, 0, 112), (999, 0, 0, 0), (84, 12, 173, 70), (999, 0, 0, 0), (999, 0, 0, 0), (14, 0, 0, 112), (1, 16, 0, 0), (999, 0, 0, 0), (101, 0, 0, 113), (999, 0, 0, 0), (84, 12, 176, 71), (999, 0, 0, 0), (999, 0, 0, 0), (14, 0, 0, 112), (1, 16, 0, 0), (999, 0, 0, 0), (101, 0, 0, 114), (999, 0, 0, 0), (84, 12, 179, 72), (999, 0, 0, 0), (999, 0, 0, 0), (14, 0, 0, 112), (1, 16, 0, 0), (999, 0, 0, 0), (101, 0, 0, 115), (999, 0, 0, 0), (84, 12, 182, 73), (999, 0, 0, 0), (999, 0, 0, 0), (133, 0, 0, 0)]
def zu_M_init : List (Nat × List Bool) := [(90, [true]), (186, [true]), (285, [true]), (363, [true]), (446, [true])]
set_option maxRecDepth 100000 in
theorem qg_M_init_446 {ρ : Type} (kr : Int → zH → Option ρ) (a0 : Int) (h : zH) : (zix 100000 64 fun n1 =>
zlet (znew h 110 n1 n1 (fun _ => 0)) fun h2 =>
zob h2 12 a0 fun p3 =>
zlet (zset h2 12 p3 68 (zhN h 110 : Int)) fun h4 =>
zix 100000 16 fun n5 =>
zlet (znew h4 111 n5 n5 (fun _ => 0)) fun h6 =>
zob h6 12 a0 fun p7 =>
zlet (zset h6 12 p7 69 (zhN h4 111 : Int)) fun h8 =>
zix 100000 128 fun n9 =>
zlet (znew h8 112 n9 n9 (fun _ => 0)) fun h10 =>
zob h10 12 a0 fun p11 =>
zlet (zset h10 12 p11 70 (zhN h8 112 : Int)) fun h12 =>
zix 100000 16 fun n13 =>
zlet (znew h12 113 n13 n13 (fun _ => 0)) fun h14 =>
zob h14 12 a0 fun p15 =>
zlet (zset h14 12 p15 71 (zhN h12 113 : Int)) fun h16 =>
zix 100000 16 fun n17 =>
zlet (znew h16 114 n17 n17 (fun _ => 0)) fun h18 =>
zob h18 12 a0 fun p19 =>
zlet (zset h18 12 p19 72 (zhN h16 114 : Int)) fun h20 =>
zix 100000 16 fun n21 =>
zlet (znew h20 115 n21 n21 (fun _ => 0)) fun h22 =>
zob h22 12 a0 fun p23 =>
zlet (zset h22 12 p23 73 (zhN h20 115 : Int)) fun h24 =>
kr 0 h24) = zseg zPP true (zcal (ρ := ρ) []) (zget (999, 0, 0, 0) zc_M_init) (zcut zu_M_init) (zorc (ρ := ρ) []) kr (fun _ _ => none) 400 446 [some (112, a0)] [] h := by rfl
set_option maxRecDepth 100000 in
theorem qe_M_init_446 {ρ : Type} (kr : Int → zH → Option ρ) (a0 : Int) (h : zH) : M_init_446 kr a0 h = zseg zPP true (zcal (ρ := ρ) []) (zget (999, 0, 0, 0) zc_M_init) (zcut zu_M_init) (zorc (ρ := ρ) []) kr (fun _ _ => none) 400 446 [some (112, a0)] [] h := qg_M_init_446 kr a0 h
set_option maxRecDepth 100000 in
theorem qg_M_init_363 {ρ : Type} (kr : Int → zH → Option ρ) (c446 : Int → zH → Option ρ) (a0 : Int) (h : zH) : (zix 100000 4 fun n1 =>
zlet (znew h 102 n1 n1 (fun _ => 0)) fun h2 =>
zob h2 102 (zhN h 102 : Int) fun p3 =>
zix (zhL h2 102 p3) 0 fun j4 =>
zlet (zset h2 102 p3 j4 (-1)) fun h5 =>
zob h5 102 (zhN h 102 : Int) fun p6 =>
zix (zhL h5 102 p6) 1 fun j7 =>
zlet (zset h5 102 p6 j7 (-1)) fun h8 =>
zob h8 102 (zhN h 102 : Int) fun p9 =>
zix (zhL h8 102 p9) 2 fun j10 =>
zlet (zset h8 102 p9 j10 (-1)) fun h11 =>
zob h11 102 (zhN h 102 : Int) fun p12 =>
zix (zhL h11 102 p12) 3 fun j13 =>
zlet (zset h11 102 p12 j13 (-1)) fun h14 =>
zob h14 12 a0 fun p15 =>
zlet (zset h14 12 p15 47 (zhN h 102 : Int)) fun h16 =>
zix 100000 73728 fun n17 =>
zlet (znew h16 103 n17 n17 (fun _ => 0)) fun h18 =>
zob h18 12 a0 fun p19 =>
zlet (zset h18 12 p19 48 (zhN h16 103 : Int)) fun h20 =>
zix 100000 73728 fun n21 =>
zlet (znew h20 104 n21 n21 (fun _ => 0)) fun h22 =>
zob h22 12 a0 fun p23 =>
zlet (zset h22 12 p23 49 (zhN h20 104 : Int)) fun h24 =>
zix 100000 768 fun n25 =>
zlet (znew h24 105 n25 n25 (fun _ => 0)) fun h26 =>
zob h26 12 a0 fun p27 =>
zlet (zset h26 12 p27 50 (zhN h24 105 : Int)) fun h28 =>
zix 100000 18432 fun n29 =>
zlet (znew h28 106 n29 n29 (fun _ => 0)) fun h30 =>
zob h30 12 a0 fun p31 =>
zlet (zset h30 12 p31 51 (zhN h28 106 : Int)) fun h32 =>
zix 100000 18432 fun n33 =>
zlet (znew h32 107 n33 n33 (fun _ => 0)) fun h34 =>
zob h34 12 a0 fun p35 =>
zlet (zset h34 12 p35 52 (zhN h32 107 : Int)) fun h36 =>
zix 100000 1152 fun n37 =>
zlet (znew h36 108 n37 n37 (fun _ => 0)) fun h38 =>
zob h38 12 a0 fun p39 =>
zlet (zset h38 12 p39 53 (zhN h36 108 : Int)) fun h40 =>
zix 100000 32 fun n41 =>
zlet (znew h40 109 n41 n41 (fun _ => 0)) fun h42 =>
zob h42 12 a0 fun p43 =>
zlet (zset h42 12 p43 62 (zhN h40 109 : Int)) fun h44 =>
c446 a0 h44) = zseg zPP true (zcal (ρ := ρ) []) (zget (999, 0, 0, 0) zc_M_init) (zcut zu_M_init) (zorc (ρ := ρ) [(446, [some (112, none)], [], zap1 c446)]) kr (fun _ _ => none) 400 363 [some (112, a0)] [] h := by rfl
set_option maxRecDepth 100000 in
theorem qe_M_init_363 {ρ : Type} (kr : Int → zH → Option ρ) (a0 : Int) (h : zH) : M_init_363 kr a0 h = zseg zPP true (zcal (ρ := ρ) []) (zget (999, 0, 0, 0) zc_M_init) (zcut zu_M_init) (zorc (ρ := ρ) [(446, [some (112, none)], [], zap1 (M_init_446 kr))]) kr (fun _ _ => none) 400 363 [some (112, a0)] [] h := qg_M_init_363 kr (M_init_446 kr) a0 h
set_option maxRecDepth 100000 in
theorem qg_M_init_285 {ρ : Type} (kr : Int → zH → Option ρ) (c363 : Int → zH → Option ρ) (a0 : Int) (h : zH) : (zix 100000 8 fun n1 =>
zlet (znew h 94 n1 n1 (fun _ => 0)) fun h2 =>
zob h2 12 a0 fun p3 =>
zlet (zset h2 12 p3 39 (zhN h 94 : Int)) fun h4 =>
zix 100000 8 fun n5 =>
zlet (znew h4 95 n5 n5 (fun _ => 0)) fun h6 =>
zob h6 12 a0 fun p7 =>
zlet (zset h6 12 p7 40 (zhN h4 95 : Int)) fun h8 =>
zix 100000 8 fun n9 =>
zlet (znew h8 96 n9 n9 (fun _ => 0)) fun h10 =>
zob h10 12 a0 fun p11 =>
zlet (zset h10 12 p11 41 (zhN h8 96 : Int)) fun h12 =>
zix 100000 8 fun n13 =>
zlet (znew h12 97 n13 n13 (fun _ => 0)) fun h14 =>
zob h14 12 a0 fun p15 =>
zlet (zset h14 12 p15 42 (zhN h12 97 : Int)) fun h16 =>
zix 100000 32 fun n17 =>
zlet (znew h16 98 n17 n17 (fun _ => 0)) fun h18 =>
zob h18 12 a0 fun p19 =>
zlet (zset h18 12 p19 43 (zhN h16 98 : Int)) fun h20 =>
zix 100000 32 fun n21 =>
zlet (znew h20 99 n21 n21 (fun _ => 0)) fun h22 =>
zob h22 12 a0 fun p23 =>
zlet (zset h22 12 p23 44 (zhN h20 99 : Int)) fun h24 =>
zix 100000 2 fun n25 =>
zlet (znew h24 100 n25 n25 (fun _ => 0)) fun h26 =>
zob h26 100 (zhN h24 100 : Int) fun p27 =>
zix (zhL h26 100 p27) 0 fun j28 =>
zlet (zset h26 100 p27 j28 (-1)) fun h29 =>
zob h29 100 (zhN h24 100 : Int) fun p30 =>
zix (zhL h29 100 p30) 1 fun j31 =>
zlet (zset h29 100 p30 j31 (-1)) fun h32 =>
zob h32 12 a0 fun p33 =>
zlet (zset h32 12 p33 45 (zhN h24 100 : Int)) fun h34 =>
zix 100000 2 fun n35 =>
zlet (znew h34 101 n35 n35 (fun _ => 0)) fun h36 =>
zob h36 101 (zhN h34 101 : Int) fun p37 =>
zix (zhL h36 101 p37) 0 fun j38 =>
zlet (zset h36 101 p37 j38 (-1)) fun h39 =>
zob h39 101 (zhN h34 101 : Int) fun p40 =>
zix (zhL h39 101 p40) 1 fun j41 =>
zlet (zset h39 101 p40 j41 (-1)) fun h42 =>
zob h42 12 a0 fun p43 =>
zlet (zset h42 12 p43 46 (zhN h34 101 : Int)) fun h44 =>
c363 a0 h44) = zseg zPP true (zcal (ρ := ρ) []) (zget (999, 0, 0, 0) zc_M_init) (zcut zu_M_init) (zorc (ρ := ρ) [(363, [some (112, none)], [], zap1 c363)]) kr (fun _ _ => none) 400 285 [some (112, a0)] [] h := by rfl
set_option maxRecDepth 100000 in
theorem qe_M_init_285 {ρ : Type} (kr : Int → zH → Option ρ) (a0 : Int) (h : zH) : M_init_285 kr a0 h = zseg zPP true (zcal (ρ := ρ) []) (zget (999, 0, 0, 0) zc_M_init) (zcut zu_M_init) (zorc (ρ := ρ) [(363, [some (112, none)], [], zap1 (M_init_363 kr))]) kr (fun _ _ => none) 400 285 [some (112, a0)] [] h := qg_M_init_285 kr (M_init_363 kr) a0 h
set_option maxRecDepth 100000 in
theorem qg_M_init_186 {ρ : Type} (kr : Int → zH → Option ρ) (c285 : Int → zH → Option ρ) (a0 : Int) (h : zH) : (zix 100000 12 fun n1 =>
zlet (znew h 82 n1 n1 (fun _ => 0)) fun h2 =>
zob h2 12 a0 fun p3 =>
zlet (zset h2 12 p3 27 (zhN h 82 : Int)) fun h4 =>
zix 100000 12 fun n5 =>
zlet (znew h4 83 n5 n5 (fun _ => 0)) fun h6 =>
zob h6 12 a0 fun p7 =>
zlet (zset h6 12 p7 28 (zhN h4 83 : Int)) fun h8 =>
zix 100000 12 fun n9 =>
zlet (znew h8 84 n9 n9 (fun _ => 0)) fun h10 =>
zob h10 12 a0 fun p11 =>
zlet (zset h10 12 p11 29 (zhN h8 84 : Int)) fun h12 =>
zix 100000 12 fun n13 =>
zlet (znew h12 85 n13 n13 (fun _ => 0)) fun h14 =>
zob h14 12 a0 fun p15 =>
zlet (zset h14 12 p15 30 (zhN h12 85 : Int)) fun h16 =>
zix 100000 72 fun n17 =>
zlet (znew h16 86 n17 n17 (fun _ => 0)) fun h18 =>
zob h18 12 a0 fun p19 =>
zlet (zset h18 12 p19 31 (zhN h16 86 : Int)) fun h20 =>
zix 100000 72 fun n21 =>
zlet (znew h20 87 n21 n21 (fun _ => 0)) fun h22 =>
zob h22 12 a0 fun p23 =>
zlet (zset h22 12 p23 32 (zhN h20 87 : Int)) fun h24 =>
zix 100000 72 fun n25 =>
zlet (znew h24 88 n25 n25 (fun _ => 0)) fun h26 =>
zob h26 12 a0 fun p27 =>
zlet (zset h26 12 p27 33 (zhN h24 88 : Int)) fun h28 =>
zix 100000 1152 fun n29 =>
zlet (znew h28 89 n29 n29 (fun _ => 0)) fun h30 =>
zob h30 12 a0 fun p31 =>
zlet (zset h30 12 p31 34 (zhN h28 89 : Int)) fun h32 =>
zix 100000 1152 fun n33 =>
zlet (znew h32 90 n33 n33 (fun _ => 0)) fun h34 =>
zob h34 12 a0 fun p35 =>
zlet (zset h34 12 p35 35 (zhN h32 90 : Int)) fun h36 =>
zix 100000 9216 fun n37 =>
zlet (znew h36 91 n37 n37 (fun _ => 0)) fun h38 =>
zob h38 12 a0 fun p39 =>
zlet (zset h38 12 p39 36 (zhN h36 91 : Int)) fun h40 =>
zix 100000 1152 fun n41 =>
zlet (znew h40 92 n41 n41 (fun _ => 0)) fun h42 =>
zob h42 12 a0 fun p43 =>
zlet (zset h42 12 p43 37 (zhN h40 92 : Int)) fun h44 =>
zix 100000 2 fun n45 =>
zlet (znew h44 93 n45 n45 (fun _ => 0)) fun h46 =>
zob h46 12 a0 fun p47 =>
zlet (zset h46 12 p47 38 (zhN h44 93 : Int)) fun h48 =>
c285 a0 h48) = zseg zPP true (zcal (ρ := ρ) []) (zget (999, 0, 0, 0) zc_M_init) (zcut zu_M_init) (zorc (ρ := ρ) [(285, [some (112, none)], [], zap1 c285)]) kr (fun _ _ => none) 400 186 [some (112, a0)] [] h := by rfl
set_option maxRecDepth 100000 in
theorem qe_M_init_186 {ρ : Type} (kr : Int → zH → Option ρ) (a0 : Int) (h : zH) : M_init_186 kr a0 h = zseg zPP true (zcal (ρ := ρ) []) (zget (999, 0, 0, 0) zc_M_init) (zcut zu_M_init) (zorc (ρ := ρ) [(285, [some (112, none)], [], zap1 (M_init_285 kr))]) kr (fun _ _ => none) 400 186 [some (112, a0)] [] h := qg_M_init_186 kr (M_init_285 kr) a0 h
set_option maxRecDepth 100000 in
theorem qg_M_init_90 {ρ : Type} (kr : Int → zH → Option ρ) (c186 : Int → zH → Option ρ) (a0 : Int) (h : zH) : (zix 100000 12 fun n1 =>
zlet (znew h 70 n1 n1 (fun _ => 0)) fun h2 =>
zob h2 12 a0 fun p3 =>
zlet (zset h2 12 p3 15 (zhN h 70 : Int)) fun h4 =>
zix 100000 12 fun n5 =>
zlet (znew h4 71 n5 n5 (fun _ => 0)) fun h6 =>
zob h6 12 a0 fun p7 =>
zlet (zset h6 12 p7 16 (zhN h4 71 : Int)) fun h8 =>
zix 100000 12 fun n9 =>
zlet (znew h8 72 n9 n9 (fun _ => 0)) fun h10 =>
zob h10 12 a0 fun p11 =>
zlet (zset h10 12 p11 17 (zhN h8 72 : Int)) fun h12 =>
zix 100000 12 fun n13 =>
zlet (znew h12 73 n13 n13 (fun _ => 0)) fun h14 =>
zob h14 12 a0 fun p15 =>
zlet (zset h14 12 p15 18 (zhN h12 73 : Int)) fun h16 =>
zix 100000 12 fun n17 =>
zlet (znew h16 74 n17 n17 (fun _ => 0)) fun h18 =>
zob h18 12 a0 fun p19 =>
zlet (zset h18 12 p19 19 (zhN h16 74 : Int)) fun h20 =>
zix 100000 12 fun n21 =>
zlet (znew h20 75 n21 n21 (fun _ => 0)) fun h22 =>
zob h22 12 a0 fun p23 =>
zlet (zset h22 12 p23 20 (zhN h20 75 : Int)) fun h24 =>
zix 100000 12 fun n25 =>
zlet (znew h24 76 n25 n25 (fun _ => 0)) fun h26 =>
zob h26 12 a0 fun p27 =>
zlet (zset h26 12 p27 21 (zhN h24 76 : Int)) fun h28 =>
zix 100000 12 fun n29 =>
zlet (znew h28 77 n29 n29 (fun _ => 0)) fun h30 =>
zob h30 12 a0 fun p31 =>
zlet (zset h30 12 p31 22 (zhN h28 77 : Int)) fun h32 =>
zix 100000 12 fun n33 =>
zlet (znew h32 78 n33 n33 (fun _ => 0)) fun h34 =>
zob h34 12 a0 fun p35 =>
zlet (zset h34 12 p35 23 (zhN h32 78 : Int)) fun h36 =>
zix 100000 12 fun n37 =>
zlet (znew h36 79 n37 n37 (fun _ => 0)) fun h38 =>
zob h38 12 a0 fun p39 =>
zlet (zset h38 12 p39 24 (zhN h36 79 : Int)) fun h40 =>
zix 100000 12 fun n41 =>
zlet (znew h40 80 n41 n41 (fun _ => 0)) fun h42 =>
zob h42 12 a0 fun p43 =>
zlet (zset h42 12 p43 25 (zhN h40 80 : Int)) fun h44 =>
zix 100000 12 fun n45 =>
zlet (znew h44 81 n45 n45 (fun _ => 0)) fun h46 =>
zob h46 12 a0 fun p47 =>
zlet (zset h46 12 p47 26 (zhN h44 81 : Int)) fun h48 =>
c186 a0 h48) = zseg zPP true (zcal (ρ := ρ) []) (zget (999, 0, 0, 0) zc_M_init) (zcut zu_M_init) (zorc (ρ := ρ) [(186, [some (112, none)], [], zap1 c186)]) kr (fun _ _ => none) 400 90 [some (112, a0)] [] h := by rfl
set_option maxRecDepth 100000 in
theorem qe_M_init_90 {ρ : Type} (kr : Int → zH → Option ρ) (a0 : Int) (h : zH) : M_init_90 kr a0 h = zseg zPP true (zcal (ρ := ρ) []) (zget (999, 0, 0, 0) zc_M_init) (zcut zu_M_init) (zorc (ρ := ρ) [(186, [some (112, none)], [], zap1 (M_init_186 kr))]) kr (fun _ _ => none) 400 90 [some (112, a0)] [] h := qg_M_init_90 kr (M_init_186 kr) a0 h
set_option maxRecDepth 100000 in
theorem qg_M_init {ρ : Type} (kr : Int → zH → Option ρ) (c90 : Int → zH → Option ρ) (a0 : Int) (h : zH) : (zob h 12 a0 fun _ =>
zob h 12 a0 fun p2 =>
zlet (zset h 12 p2 2 111) fun h3 =>
zix 100000 64 fun n4 =>
zlet (znew h3 60 n4 n4 (fun _ => 0)) fun h5 =>
zob h5 12 a0 fun p6 =>
zlet (zset h5 12 p6 3 (zhN h3 60 : Int)) fun h7 =>
zix 100000 4 fun n8 =>
zlet (znew h7 61 n8 n8 (fun _ => 0)) fun h9 =>
zob h9 12 a0 fun p10 =>
zlet (zset h9 12 p10 5 (zhN h7 61 : Int)) fun h11 =>
zix 100000 4 fun n12 =>
zlet (znew h11 62 n12 n12 (fun _ => 0)) fun h13 =>
zob h13 12 a0 fun p14 =>
zlet (zset h13 12 p14 6 (zhN h11 62 : Int)) fun h15 =>
zix 100000 4 fun n16 =>
zlet (znew h15 63 n16 n16 (fun _ => 0)) fun h17 =>
zob h17 12 a0 fun p18 =>
zlet (zset h17 12 p18 7 (zhN h15 63 : Int)) fun h19 =>
zix 100000 4 fun n20 =>
zlet (znew h19 64 n20 n20 (fun _ => 0)) fun h21 =>
zob h21 12 a0 fun p22 =>
zlet (zset h21 12 p22 8 (zhN h19 64 : Int)) fun h23 =>
zix 100000 160 fun n24 =>
zlet (znew h23 65 n24 n24 (fun _ => 0)) fun h25 =>
zob h25 12 a0 fun p26 =>
zlet (zset h25 12 p26 9 (zhN h23 65 : Int)) fun h27 =>
zix 100000 160 fun n28 =>
zlet (znew h27 66 n28 n28 (fun _ => 0)) fun h29 =>
zob h29 12 a0 fun p30 =>
zlet (zset h29 12 p30 10 (zhN h27 66 : Int)) fun h31 =>
zix 100000 160 fun n32 =>
zlet (znew h31 67 n32 n32 (fun _ => 0)) fun h33 =>
zob h33 12 a0 fun p34 =>
zlet (zset h33 12 p34 11 (zhN h31 67 : Int)) fun h35 =>
zix 100000 160 fun n36 =>
zlet (znew h35 68 n36 n36 (fun _ => 0)) fun h37 =>
zob h37 12 a0 fun p38 =>
zlet (zset h37 12 p38 12 (zhN h35 68 : Int)) fun h39 =>
zix 100000 12 fun n40 =>
zlet (znew h39 69 n40 n40 (fun _ => 0)) fun h41 =>
zob h41 12 a0 fun p42 =>
zlet (zset h41 12 p42 14 (zhN h39 69 : Int)) fun h43 =>
c90 a0 h43) = zseg zPP true (zcal (ρ := ρ) []) (zget (999, 0, 0, 0) zc_M_init) (zcut zu_M_init) (zorc (ρ := ρ) [(90, [some (112, none)], [], zap1 c90)]) kr (fun _ _ => none) 400 0 [some (112, a0)] [] h := by rfl
set_option maxRecDepth 100000 in
theorem qe_M_init {ρ : Type} (kr : Int → zH → Option ρ) (a0 : Int) (h : zH) : M_init a0 h kr = zseg zPP true (zcal (ρ := ρ) []) (zget (999, 0, 0, 0) zc_M_init) (zcut zu_M_init) (zorc (ρ := ρ) [(90, [some (112, none)], [], zap1 (M_init_90 kr))]) kr (fun _ _ => none) 400 0 [some (112, a0)] [] h := qg_M_init kr (M_init_90 kr) a0 h
