def zc_X_register : List zI := [(14, 0, 0, 100), (10, 0, 1, 0), (10, 0, 2, 0), (110, 0, 173, 51), (999, 0, 0, 0), (999, 0, 0, 0), (21, 0, 5, 111), (999, 0, 0, 0), (15, 0, 5, 111), (999, 0, 0, 0), (10, 0, 3, 0), (110, 0, 206, 203), (999, 0, 0, 0), (999, 0, 0, 0), (21, 0, 6, 106), (999, 0, 0, 0), (15, 0, 6, 106), (999, 0, 0, 0), (73, 22, 40, 0), (999, 0, 0, 0), (999, 0, 0, 0), (15, 0, 5, 111), (999, 0, 0, 0), (80, 11, 177, 0), (999, 0, 0, 0), (999, 0, 0, 0), (80, 10, 183, 0), (999, 0, 0, 0), (999, 0, 0, 0), (80, 9, 210, 5), (999, 0, 0, 0), (999, 0, 0, 0), (11, 0, 4, 0), (999, 0, 0, 0), (110, 0, 214, 225), (999, 0, 0, 0), (999, 0, 0, 0), (61, 11, 48, 0), (999, 0, 0, 0), (999, 0, 0, 0), (134, 89, 87, 3), (999, 0, 0, 0), (999, 0, 0, 0), (999, 0, 0, 0), (999, 0, 0, 0), (999, 0, 0, 0), (999, 0, 0, 0), (999, 0, 0, 0), (15, 0, 6, 106), (999, 0, 0, 0), (11, 0, 4, 0), (999, 0, 0, 0), (110, 0, 217, 258), (999, 0, 0, 0), (999, 0, 0, 0), (130, 0, 0, 0)]
def zu_X_register : List (Nat × List Bool) := [(40, [false, false, false, false, false, false, false])]
set_option maxRecDepth 100000 in
theorem qe_X_register_40 {ρ : Type} (kr : Int → zH → Option ρ) (kt : Nat → zH → Option ρ) (h : zH) : X_register_40 kr kt h = zseg zPP true (zcal []) (zget (999, 0, 0, 0) zc_X_register) (zcut zu_X_register) (zorc []) kr kt 400 40 [none, none, none, none, none, none, none] [] h := by rfl
set_option maxRecDepth 100000 in
theorem qe_X_register {ρ : Type} (kr : Int → zH → Option ρ) (kt : Nat → zH → Option ρ) (a0 a1 a2 a3 a4 : Int) (h : zH) : X_register a0 a1 a2 a3 a4 h kr kt = zseg zPP true (zcal [(51, [none, none, none], fun xs h kr kt => match xs with
  | [x0, x1, x2] => X_groupAt x0 x1 x2 h kr kt
  | _ => none), (203, [none, none], fun xs h kr kt => match xs with
  | [x0, x1] => Gr_threadIn x0 x1 h kr
  | _ => none), (225, [none, none], fun xs h kr kt => match xs with
  | [x0, x1] => Ke_hasRegister x0 x1 h kr
  | _ => none), (258, [none, none], fun xs h kr kt => match xs with
  | [x0, x1] => Th_at x0 x1 h kr
  | _ => none)]) (zget (999, 0, 0, 0) zc_X_register) (zcut zu_X_register) (zorc [(40, [none, none, none, none, none, none, none], [], fun xs h => match xs with
  | [] => X_register_40 kr kt h
  | _ => none)]) kr kt 400 0 [some (100, a0), some (0, a1), some (0, a2), some (0, a3), some (0, a4), none, none] [] h := by rfl
def zc_X_shared : List zI := [(14, 0, 0, 100), (10, 0, 1, 0), (10, 0, 2, 0), (110, 0, 173, 51), (999, 0, 0, 0), (999, 0, 0, 0), (80, 11, 177, 0), (999, 0, 0, 0), (999, 0, 0, 0), (21, 0, 4, 110), (999, 0, 0, 0), (15, 0, 4, 110), (999, 0, 0, 0), (10, 0, 3, 0), (110, 0, 222, 171), (999, 0, 0, 0), (999, 0, 0, 0), (61, 11, 28, 0), (999, 0, 0, 0), (999, 0, 0, 0), (134, 89, 87, 3), (999, 0, 0, 0), (999, 0, 0, 0), (999, 0, 0, 0), (999, 0, 0, 0), (999, 0, 0, 0), (999, 0, 0, 0), (999, 0, 0, 0), (15, 0, 4, 110), (999, 0, 0, 0), (80, 10, 225, 4), (999, 0, 0, 0), (999, 0, 0, 0), (10, 0, 3, 0), (90, 0, 0, 38), (130, 0, 0, 0)]
def zu_X_shared : List (Nat × List Bool) := []
set_option maxRecDepth 100000 in
theorem qe_X_shared {ρ : Type} (kr : Int → zH → Option ρ) (kt : Nat → zH → Option ρ) (a0 a1 a2 a3 : Int) (h : zH) : X_shared a0 a1 a2 a3 h kr kt = zseg zPP true (zcal [(51, [none, none, none], fun xs h kr kt => match xs with
  | [x0, x1, x2] => X_groupAt x0 x1 x2 h kr kt
  | _ => none), (171, [none, none], fun xs h kr kt => match xs with
  | [x0, x1] => Bl_hasShared x0 x1 h kr
  | _ => none)]) (zget (999, 0, 0, 0) zc_X_shared) (zcut zu_X_shared) (zorc []) kr kt 400 0 [some (100, a0), some (0, a1), some (0, a2), some (0, a3), none] [] h := by rfl
def zc_X_buffered : List zI := [(14, 0, 0, 100), (10, 0, 1, 0), (10, 0, 2, 0), (110, 0, 173, 51), (999, 0, 0, 0), (999, 0, 0, 0), (80, 11, 228, 5), (999, 0, 0, 0), (999, 0, 0, 0), (130, 0, 0, 0)]
def zu_X_buffered : List (Nat × List Bool) := []
set_option maxRecDepth 100000 in
theorem qe_X_buffered {ρ : Type} (kr : Int → zH → Option ρ) (kt : Nat → zH → Option ρ) (a0 a1 a2 : Int) (h : zH) : X_buffered a0 a1 a2 h kr kt = zseg zPP true (zcal [(51, [none, none, none], fun xs h kr kt => match xs with
  | [x0, x1, x2] => X_groupAt x0 x1 x2 h kr kt
  | _ => none)]) (zget (999, 0, 0, 0) zc_X_buffered) (zcut zu_X_buffered) (zorc []) kr kt 400 0 [some (100, a0), some (0, a1), some (0, a2)] [] h := by rfl
def zc_X_failedAt : List zI := [(14, 0, 0, 100), (10, 0, 1, 0), (110, 0, 123, 48), (999, 0, 0, 0), (999, 0, 0, 0), (20, 0, 2, 109), (14, 0, 2, 109), (80, 9, 127, 10), (999, 0, 0, 0), (999, 0, 0, 0), (1, 102, 0, 0), (999, 0, 0, 0), (66, 11, 23, 0), (999, 0, 0, 0), (999, 0, 0, 0), (134, 137, 135, 5), (999, 0, 0, 0), (999, 0, 0, 0), (999, 0, 0, 0), (999, 0, 0, 0), (999, 0, 0, 0), (999, 0, 0, 0), (999, 0, 0, 0), (14, 0, 2, 109), (132, 0, 0, 109)]
def zu_X_failedAt : List (Nat × List Bool) := []
set_option maxRecDepth 100000 in
theorem qe_X_failedAt {ρ : Type} (kr : Int → zH → Option ρ) (kt : Nat → zH → Option ρ) (a0 a1 : Int) (h : zH) : X_failedAt a0 a1 h kr kt = zseg zPP true (zcal [(48, [none, none], fun xs h kr kt => match xs with
  | [x0, x1] => X_launchAt x0 x1 h kr kt
  | _ => none)]) (zget (999, 0, 0, 0) zc_X_failedAt) (zcut zu_X_failedAt) (zorc []) kr kt 400 0 [some (100, a0), some (0, a1), none] [] h := by rfl
def zc_X_fault : List zI := [(14, 0, 0, 100), (10, 0, 1, 0), (110, 0, 231, 49), (999, 0, 0, 0), (999, 0, 0, 0), (80, 9, 234, 11), (999, 0, 0, 0), (999, 0, 0, 0), (130, 0, 2, 0)]
def zu_X_fault : List (Nat × List Bool) := []
set_option maxRecDepth 100000 in
theorem qe_X_fault {ρ : Type} (kr : Int → zH → Option ρ) (kt : Nat → zH → Option ρ) (a0 a1 : Int) (h : zH) : X_fault a0 a1 h kr kt = zseg zPP true (zcal [(49, [none, none], fun xs h kr kt => match xs with
  | [x0, x1] => X_failedAt x0 x1 h kr kt
  | _ => none)]) (zget (999, 0, 0, 0) zc_X_fault) (zcut zu_X_fault) (zorc []) kr kt 400 0 [some (100, a0), some (0, a1)] [] h := by rfl
def zc_X_faultAt : List zI := [(14, 0, 0, 100), (10, 0, 1, 0), (110, 0, 231, 49), (999, 0, 0, 0), (999, 0, 0, 0), (80, 9, 237, 12), (999, 0, 0, 0), (999, 0, 0, 0), (130, 0, 0, 0)]
def zu_X_faultAt : List (Nat × List Bool) := []
set_option maxRecDepth 100000 in
theorem qe_X_faultAt {ρ : Type} (kr : Int → zH → Option ρ) (kt : Nat → zH → Option ρ) (a0 a1 : Int) (h : zH) : X_faultAt a0 a1 h kr kt = zseg zPP true (zcal [(49, [none, none], fun xs h kr kt => match xs with
  | [x0, x1] => X_failedAt x0 x1 h kr kt
  | _ => none)]) (zget (999, 0, 0, 0) zc_X_faultAt) (zcut zu_X_faultAt) (zorc []) kr kt 400 0 [some (100, a0), some (0, a1)] [] h := by rfl
def zc_X_isRacing : List zI := [(14, 0, 0, 100), (10, 0, 1, 0), (110, 0, 123, 48), (999, 0, 0, 0), (999, 0, 0, 0), (20, 0, 3, 109), (10, 0, 2, 0), (113, 0, 83, 55), (999, 0, 0, 0), (999, 0, 0, 0), (61, 11, 21, 0), (999, 0, 0, 0), (999, 0, 0, 0), (134, 89, 87, 3), (999, 0, 0, 0), (999, 0, 0, 0), (999, 0, 0, 0), (999, 0, 0, 0), (999, 0, 0, 0), (999, 0, 0, 0), (999, 0, 0, 0), (14, 0, 3, 109), (80, 9, 240, 17), (999, 0, 0, 0), (999, 0, 0, 0), (10, 0, 2, 0), (91, 0, 0, 35), (130, 0, 1, 0)]
def zu_X_isRacing : List (Nat × List Bool) := []
set_option maxRecDepth 100000 in
theorem qe_X_isRacing {ρ : Type} (kr : Int → zH → Option ρ) (kt : Nat → zH → Option ρ) (a0 a1 a2 : Int) (h : zH) : X_isRacing a0 a1 a2 h kr kt = zseg zPP true (zcal [(48, [none, none], fun xs h kr kt => match xs with
  | [x0, x1] => X_launchAt x0 x1 h kr kt
  | _ => none), (55, [none], fun xs h kr kt => match xs with
  | [x0] => X_isCell x0 h kr
  | _ => none)]) (zget (999, 0, 0, 0) zc_X_isRacing) (zcut zu_X_isRacing) (zorc []) kr kt 400 0 [some (100, a0), some (0, a1), some (0, a2), none] [] h := by rfl
def zc_X_races : List zI := [(14, 0, 0, 100), (10, 0, 1, 0), (110, 0, 123, 48), (999, 0, 0, 0), (999, 0, 0, 0), (80, 9, 244, 18), (999, 0, 0, 0), (999, 0, 0, 0), (130, 0, 0, 0)]
def zu_X_races : List (Nat × List Bool) := []
set_option maxRecDepth 100000 in
theorem qe_X_races {ρ : Type} (kr : Int → zH → Option ρ) (kt : Nat → zH → Option ρ) (a0 a1 : Int) (h : zH) : X_races a0 a1 h kr kt = zseg zPP true (zcal [(48, [none, none], fun xs h kr kt => match xs with
  | [x0, x1] => X_launchAt x0 x1 h kr kt
  | _ => none)]) (zget (999, 0, 0, 0) zc_X_races) (zcut zu_X_races) (zorc []) kr kt 400 0 [some (100, a0), some (0, a1)] [] h := by rfl
def zc_Ke_hasLetterOf : List zI := [(0, 0, 0, 0), (16, 0, 2, 0), (10, 0, 2, 0), (14, 0, 0, 107), (80, 7, 24, 3), (999, 0, 0, 0), (999, 0, 0, 0), (69, 24, 31, 0), (999, 0, 0, 0), (999, 0, 0, 0), (14, 0, 0, 107), (80, 7, 11, 2), (999, 0, 0, 0), (999, 0, 0, 0), (10, 0, 2, 0), (94, 0, 0, 33), (14, 0, 1, 3), (110, 0, 31, 219), (999, 0, 0, 0), (999, 0, 0, 0), (60, 5, 25, 0), (999, 0, 0, 0), (999, 0, 0, 0), (0, 1, 0, 0), (130, 0, 1, 0), (22, 1, 2, 0), (999, 0, 0, 0), (999, 0, 0, 0), (72, (-26), 2, 0), (999, 0, 0, 0), (999, 0, 0, 0), (0, 0, 0, 0), (130, 0, 1, 0)]
def zu_Ke_hasLetterOf : List (Nat × List Bool) := [(2, [true, true, true])]
set_option maxRecDepth 100000 in
theorem qe_Ke_hasLetterOf_2b {ρ : Type} (kr : Int → zH → Option ρ) (r2 : Int → Int → Int → zH → Option ρ) (a0 a1 a2 : Int) (h : zH) : Ke_hasLetterOf_2b kr r2 a0 a1 a2 h = zseg zPP true (zcal [(219, [none, none], fun xs h kr kt => match xs with
  | [x0, x1] => In_isOneOf x0 x1 h kr
  | _ => none)]) (zget (999, 0, 0, 0) zc_Ke_hasLetterOf) (zcut zu_Ke_hasLetterOf) (zorc [(2, [some (107, none), some (3, none), some (0, none)], [], fun xs h => match xs with
  | [a0, a1, a2] => r2 a0 a1 a2 h
  | _ => none)]) kr (fun _ _ => none) 400 2 [some (107, a0), some (3, a1), some (0, a2)] [] h := by rfl
set_option maxRecDepth 100000 in
theorem qe_Ke_hasLetterOf {ρ : Type} (kr : Int → zH → Option ρ) (a0 a1 : Int) (h : zH) : Ke_hasLetterOf a0 a1 h kr = zseg zPP true (zcal []) (zget (999, 0, 0, 0) zc_Ke_hasLetterOf) (zcut zu_Ke_hasLetterOf) (zorc [(2, [some (107, none), some (3, none), some (0, none)], [], fun xs h => match xs with
  | [a0, a1, a2] => Ke_hasLetterOf_2 kr a0 a1 a2 h
  | _ => none)]) kr (fun _ _ => none) 400 0 [some (107, a0), some (3, a1), none] [] h := by rfl
def zc_Re_begin : List zI := [(14, 0, 0, 105), (14, 0, 1, 107), (82, 5, 30, 4), (999, 0, 0, 0), (999, 0, 0, 0), (14, 0, 0, 105), (10, 0, 2, 0), (1, 16, 0, 0), (999, 0, 0, 0), (113, 0, 34, 3), (999, 0, 0, 0), (999, 0, 0, 0), (82, 5, 40, 5), (999, 0, 0, 0), (999, 0, 0, 0), (14, 0, 0, 105), (10, 0, 3, 0), (82, 5, 44, 6), (999, 0, 0, 0), (999, 0, 0, 0), (0, 0, 0, 0), (17, 0, 5, 0), (999, 0, 0, 0), (11, 0, 5, 0), (999, 0, 0, 0), (1, 64, 0, 0), (999, 0, 0, 0), (69, 29, 56, 0), (999, 0, 0, 0), (999, 0, 0, 0), (11, 0, 5, 0), (999, 0, 0, 0), (15, 0, 4, 122), (999, 0, 0, 0), (100, 0, 0, 22), (69, 21, 56, 0), (999, 0, 0, 0), (999, 0, 0, 0), (14, 0, 0, 105), (80, 5, 9, 0), (999, 0, 0, 0), (999, 0, 0, 0), (11, 0, 5, 0), (999, 0, 0, 0), (15, 0, 4, 122), (999, 0, 0, 0), (11, 0, 5, 0), (999, 0, 0, 0), (90, 0, 0, 22), (95, 0, 0, 28), (22, 1, 5, 0), (999, 0, 0, 0), (999, 0, 0, 0), (72, (-30), 23, 0), (999, 0, 0, 0), (999, 0, 0, 0), (133, 0, 0, 0)]
def zu_Re_begin : List (Nat × List Bool) := [(23, [true, false, false, false, true, true]), (56, [false, false, false, false, false, false])]
set_option maxRecDepth 100000 in
theorem qe_Re_begin_56 {ρ : Type} (kr : Int → zH → Option ρ) (h : zH) : Re_begin_56 kr h = zseg zPP true (zcal []) (zget (999, 0, 0, 0) zc_Re_begin) (zcut zu_Re_begin) (zorc []) kr (fun _ _ => none) 400 56 [none, none, none, none, none, none] [] h := by rfl
set_option maxRecDepth 100000 in
theorem qe_Re_begin_23b {ρ : Type} (kr : Int → zH → Option ρ) (r23 : Int → Int → Int → zH → Option ρ) (a0 a4 a5 : Int) (h : zH) : Re_begin_23b kr r23 a0 a4 a5 h = zseg zPP true (zcal []) (zget (999, 0, 0, 0) zc_Re_begin) (zcut zu_Re_begin) (zorc [(23, [some (105, none), none, none, none, some (122, none), some (0, none)], [], fun xs h => match xs with
  | [a0, a4, a5] => r23 a0 a4 a5 h
  | _ => none), (56, [none, none, none, none, none, none], [], fun xs h => match xs with
  | [] => Re_begin_56 kr h
  | _ => none)]) kr (fun _ _ => none) 400 23 [some (105, a0), none, none, none, some (122, a4), some (0, a5)] [] h := by rfl
set_option maxRecDepth 100000 in
theorem qe_Re_begin {ρ : Type} (kr : Int → zH → Option ρ) (a0 a1 a2 a3 a4 : Int) (h : zH) : Re_begin a0 a1 a2 a3 a4 h kr = zseg zPP true (zcal [(3, [none, none], fun xs h kr kt => match xs with
  | [x0, x1] => Ma_min x0 x1 h kr
  | _ => none)]) (zget (999, 0, 0, 0) zc_Re_begin) (zcut zu_Re_begin) (zorc [(23, [some (105, none), none, none, none, some (122, none), some (0, none)], [], fun xs h => match xs with
  | [a0, a4, a5] => Re_begin_23 kr a0 a4 a5 h
  | _ => none)]) kr (fun _ _ => none) 400 0 [some (105, a0), some (107, a1), some (0, a2), some (0, a3), some (122, a4), none] [] h := by rfl
def zc_Th_lowestOfWaiting_30 : List zI := [(0, 0, 0, 0), (16, 0, 2, 0), (10, 0, 2, 0), (10, 0, 1, 0), (69, 28, 32, 0), (999, 0, 0, 0), (999, 0, 0, 0), (10, 0, 2, 0), (14, 0, 0, 130), (100, 0, 0, 30), (69, 22, 32, 0), (999, 0, 0, 0), (999, 0, 0, 0), (14, 0, 0, 130), (10, 0, 2, 0), (94, 0, 0, 30), (110, 0, 70, 256), (999, 0, 0, 0), (999, 0, 0, 0), (60, 7, 26, 0), (999, 0, 0, 0), (999, 0, 0, 0), (14, 0, 0, 130), (10, 0, 2, 0), (94, 0, 0, 30), (132, 0, 0, 106), (22, 1, 2, 0), (999, 0, 0, 0), (999, 0, 0, 0), (72, (-27), 2, 0), (999, 0, 0, 0), (999, 0, 0, 0), (7, 0, 0, 106), (132, 0, 0, 106)]
def zu_Th_lowestOfWaiting_30 : List (Nat × List Bool) := [(2, [true, true, true]), (32, [false, false, false])]
set_option maxRecDepth 100000 in
theorem qe_Th_lowestOfWaiting_30_32 {ρ : Type} (kr : Int → zH → Option ρ) (h : zH) : Th_lowestOfWaiting_30_32 kr h = zseg zPP true (zcal []) (zget (999, 0, 0, 0) zc_Th_lowestOfWaiting_30) (zcut zu_Th_lowestOfWaiting_30) (zorc []) kr (fun _ _ => none) 400 32 [none, none, none] [] h := by rfl
set_option maxRecDepth 100000 in
theorem qe_Th_lowestOfWaiting_30_2b {ρ : Type} (kr : Int → zH → Option ρ) (r2 : Int → Int → Int → zH → Option ρ) (a0 a1 a2 : Int) (h : zH) : Th_lowestOfWaiting_30_2b kr r2 a0 a1 a2 h = zseg zPP true (zcal [(256, [none], fun xs h kr kt => match xs with
  | [x0] => Th_isWaiting x0 h kr
  | _ => none)]) (zget (999, 0, 0, 0) zc_Th_lowestOfWaiting_30) (zcut zu_Th_lowestOfWaiting_30) (zorc [(2, [some (130, none), some (0, none), some (0, none)], [], fun xs h => match xs with
  | [a0, a1, a2] => r2 a0 a1 a2 h
  | _ => none), (32, [none, none, none], [], fun xs h => match xs with
  | [] => Th_lowestOfWaiting_30_32 kr h
  | _ => none)]) kr (fun _ _ => none) 400 2 [some (130, a0), some (0, a1), some (0, a2)] [] h := by rfl
set_option maxRecDepth 100000 in
theorem qe_Th_lowestOfWaiting_30 {ρ : Type} (kr : Int → zH → Option ρ) (a0 a1 : Int) (h : zH) : Th_lowestOfWaiting_30 a0 a1 h kr = zseg zPP true (zcal []) (zget (999, 0, 0, 0) zc_Th_lowestOfWaiting_30) (zcut zu_Th_lowestOfWaiting_30) (zorc [(2, [some (130, none), some (0, none), some (0, none)], [], fun xs h => match xs with
  | [a0, a1, a2] => Th_lowestOfWaiting_30_2 kr a0 a1 a2 h
  | _ => none)]) kr (fun _ _ => none) 400 0 [some (130, a0), some (0, a1), none] [] h := by rfl
def zc_Th_release_30 : List zI := [(0, 0, 0, 0), (17, 0, 4, 0), (999, 0, 0, 0), (11, 0, 4, 0), (999, 0, 0, 0), (10, 0, 1, 0), (69, 39, 45, 0), (999, 0, 0, 0), (999, 0, 0, 0), (11, 0, 4, 0), (999, 0, 0, 0), (14, 0, 0, 130), (100, 0, 0, 30), (69, 32, 45, 0), (999, 0, 0, 0), (999, 0, 0, 0), (14, 0, 0, 130), (11, 0, 4, 0), (999, 0, 0, 0), (94, 0, 0, 30), (110, 0, 70, 256), (999, 0, 0, 0), (999, 0, 0, 0), (60, 16, 39, 0), (999, 0, 0, 0), (999, 0, 0, 0), (14, 0, 0, 130), (11, 0, 4, 0), (999, 0, 0, 0), (94, 0, 0, 30), (80, 6, 63, 3), (999, 0, 0, 0), (999, 0, 0, 0), (10, 0, 2, 0), (66, 5, 39, 0), (999, 0, 0, 0), (999, 0, 0, 0), (0, 0, 0, 0), (130, 0, 1, 0), (22, 1, 4, 0), (999, 0, 0, 0), (999, 0, 0, 0), (72, (-39), 3, 0), (999, 0, 0, 0), (999, 0, 0, 0), (0, 0, 0, 0), (17, 0, 4, 0), (999, 0, 0, 0), (11, 0, 4, 0), (999, 0, 0, 0), (10, 0, 1, 0), (69, 46, 97, 0), (999, 0, 0, 0), (999, 0, 0, 0), (11, 0, 4, 0), (999, 0, 0, 0), (14, 0, 0, 130), (100, 0, 0, 30), (69, 39, 97, 0), (999, 0, 0, 0), (999, 0, 0, 0), (14, 0, 0, 130), (11, 0, 4, 0), (999, 0, 0, 0), (94, 0, 0, 30), (110, 0, 70, 256), (999, 0, 0, 0), (999, 0, 0, 0), (60, 23, 91, 0), (999, 0, 0, 0), (999, 0, 0, 0), (14, 0, 0, 130), (11, 0, 4, 0), (999, 0, 0, 0), (94, 0, 0, 30), (1, 114, 0, 0), (999, 0, 0, 0), (82, 6, 34, 4), (999, 0, 0, 0), (999, 0, 0, 0), (14, 0, 0, 130), (11, 0, 4, 0), (999, 0, 0, 0), (94, 0, 0, 30), (10, 0, 2, 0), (0, 1, 0, 0), (30, 0, 0, 0), (10, 0, 3, 0), (110, 0, 38, 262), (999, 0, 0, 0), (999, 0, 0, 0), (22, 1, 4, 0), (999, 0, 0, 0), (999, 0, 0, 0), (72, (-46), 48, 0), (999, 0, 0, 0), (999, 0, 0, 0), (0, 1, 0, 0), (130, 0, 1, 0)]
def zu_Th_release_30 : List (Nat × List Bool) := [(3, [true, true, true, true, true]), (39, [true, true, true, true, true]), (45, [true, true, true, true, false]), (48, [true, true, true, true, true]), (91, [true, true, true, true, true]), (97, [false, false, false, false, false])]
set_option maxRecDepth 100000 in
theorem qe_Th_release_30_39 {ρ : Type} (kr : Int → zH → Option ρ) (r3 : Int → Int → Int → Int → Int → zH → Option ρ) (a0 a1 a2 a3 a4 : Int) (h : zH) : Th_release_30_39 kr r3 a0 a1 a2 a3 a4 h = zseg zPP true (zcal []) (zget (999, 0, 0, 0) zc_Th_release_30) (zcut zu_Th_release_30) (zorc [(3, [some (130, none), some (0, none), some (0, none), some (0, none), some (0, none)], [], fun xs h => match xs with
  | [a0, a1, a2, a3, a4] => r3 a0 a1 a2 a3 a4 h
  | _ => none)]) kr (fun _ _ => none) 400 39 [some (130, a0), some (0, a1), some (0, a2), some (0, a3), some (0, a4)] [] h := by rfl
set_option maxRecDepth 100000 in
theorem qe_Th_release_30_91 {ρ : Type} (kr : Int → zH → Option ρ) (r48 : Int → Int → Int → Int → Int → zH → Option ρ) (a0 a1 a2 a3 a4 : Int) (h : zH) : Th_release_30_91 kr r48 a0 a1 a2 a3 a4 h = zseg zPP true (zcal []) (zget (999, 0, 0, 0) zc_Th_release_30) (zcut zu_Th_release_30) (zorc [(48, [some (130, none), some (0, none), some (0, none), some (0, none), some (0, none)], [], fun xs h => match xs with
  | [a0, a1, a2, a3, a4] => r48 a0 a1 a2 a3 a4 h
  | _ => none)]) kr (fun _ _ => none) 400 91 [some (130, a0), some (0, a1), some (0, a2), some (0, a3), some (0, a4)] [] h := by rfl
set_option maxRecDepth 100000 in
theorem qe_Th_release_30_97 {ρ : Type} (kr : Int → zH → Option ρ) (h : zH) : Th_release_30_97 kr h = zseg zPP true (zcal []) (zget (999, 0, 0, 0) zc_Th_release_30) (zcut zu_Th_release_30) (zorc []) kr (fun _ _ => none) 400 97 [none, none, none, none, none] [] h := by rfl
set_option maxRecDepth 100000 in
theorem qe_Th_release_30_48b {ρ : Type} (kr : Int → zH → Option ρ) (r48 : Int → Int → Int → Int → Int → zH → Option ρ) (a0 a1 a2 a3 a4 : Int) (h : zH) : Th_release_30_48b kr r48 a0 a1 a2 a3 a4 h = zseg zPP true (zcal [(256, [none], fun xs h kr kt => match xs with
  | [x0] => Th_isWaiting x0 h kr
  | _ => none), (262, [none, none, none], fun xs h kr kt => match xs with
  | [x0, x1, x2] => Th_goTo x0 x1 x2 h kr
  | _ => none)]) (zget (999, 0, 0, 0) zc_Th_release_30) (zcut zu_Th_release_30) (zorc [(91, [some (130, none), some (0, none), some (0, none), some (0, none), some (0, none)], [], fun xs h => match xs with
  | [a0, a1, a2, a3, a4] => Th_release_30_91 kr r48 a0 a1 a2 a3 a4 h
  | _ => none), (97, [none, none, none, none, none], [], fun xs h => match xs with
  | [] => Th_release_30_97 kr h
  | _ => none)]) kr (fun _ _ => none) 400 48 [some (130, a0), some (0, a1), some (0, a2), some (0, a3), some (0, a4)] [] h := by rfl
set_option maxRecDepth 100000 in
theorem qe_Th_release_30_45 {ρ : Type} (kr : Int → zH → Option ρ) (a0 a1 a2 a3 : Int) (h : zH) : Th_release_30_45 kr a0 a1 a2 a3 h = zseg zPP true (zcal []) (zget (999, 0, 0, 0) zc_Th_release_30) (zcut zu_Th_release_30) (zorc [(48, [some (130, none), some (0, none), some (0, none), some (0, none), some (0, none)], [], fun xs h => match xs with
  | [a0, a1, a2, a3, a4] => Th_release_30_48 kr a0 a1 a2 a3 a4 h
  | _ => none)]) kr (fun _ _ => none) 400 45 [some (130, a0), some (0, a1), some (0, a2), some (0, a3), none] [] h := by rfl
set_option maxRecDepth 100000 in
theorem qe_Th_release_30_3b {ρ : Type} (kr : Int → zH → Option ρ) (r3 : Int → Int → Int → Int → Int → zH → Option ρ) (a0 a1 a2 a3 a4 : Int) (h : zH) : Th_release_30_3b kr r3 a0 a1 a2 a3 a4 h = zseg zPP true (zcal [(256, [none], fun xs h kr kt => match xs with
  | [x0] => Th_isWaiting x0 h kr
  | _ => none)]) (zget (999, 0, 0, 0) zc_Th_release_30) (zcut zu_Th_release_30) (zorc [(39, [some (130, none), some (0, none), some (0, none), some (0, none), some (0, none)], [], fun xs h => match xs with
  | [a0, a1, a2, a3, a4] => Th_release_30_39 kr r3 a0 a1 a2 a3 a4 h
  | _ => none), (45, [some (130, none), some (0, none), some (0, none), some (0, none), none], [], fun xs h => match xs with
  | [a0, a1, a2, a3] => Th_release_30_45 kr a0 a1 a2 a3 h
  | _ => none)]) kr (fun _ _ => none) 400 3 [some (130, a0), some (0, a1), some (0, a2), some (0, a3), some (0, a4)] [] h := by rfl
set_option maxRecDepth 100000 in
theorem qe_Th_release_30 {ρ : Type} (kr : Int → zH → Option ρ) (a0 a1 a2 a3 : Int) (h : zH) : Th_release_30 a0 a1 a2 a3 h kr = zseg zPP true (zcal []) (zget (999, 0, 0, 0) zc_Th_release_30) (zcut zu_Th_release_30) (zorc [(3, [some (130, none), some (0, none), some (0, none), some (0, none), some (0, none)], [], fun xs h => match xs with
  | [a0, a1, a2, a3, a4] => Th_release_30_3 kr a0 a1 a2 a3 a4 h
  | _ => none)]) kr (fun _ _ => none) 400 0 [some (130, a0), some (0, a1), some (0, a2), some (0, a3), none] [] h := by rfl
def zc_X_exchange_28 : List zI := [(14, 0, 0, 128), (10, 0, 1, 0), (90, 0, 0, 28), (17, 0, 4, 0), (999, 0, 0, 0), (14, 0, 2, 106), (14, 0, 3, 108), (80, 8, 305, 3), (999, 0, 0, 0), (999, 0, 0, 0), (110, 0, 217, 258), (999, 0, 0, 0), (999, 0, 0, 0), (17, 0, 5, 0), (999, 0, 0, 0), (14, 0, 0, 128), (10, 0, 1, 0), (14, 0, 3, 108), (80, 8, 308, 0), (999, 0, 0, 0), (999, 0, 0, 0), (1, 97, 0, 0), (999, 0, 0, 0), (67, 11, 34, 0), (999, 0, 0, 0), (999, 0, 0, 0), (11, 0, 4, 0), (999, 0, 0, 0), (11, 0, 5, 0), (999, 0, 0, 0), (30, 0, 0, 0), (72, 5, 36, 0), (999, 0, 0, 0), (999, 0, 0, 0), (11, 0, 5, 0), (999, 0, 0, 0), (95, 0, 0, 28), (14, 0, 2, 106), (14, 0, 3, 108), (80, 8, 311, 1), (999, 0, 0, 0), (999, 0, 0, 0), (11, 0, 4, 0), (999, 0, 0, 0), (110, 0, 314, 259), (999, 0, 0, 0), (999, 0, 0, 0), (133, 0, 0, 0)]
def zu_X_exchange_28 : List (Nat × List Bool) := [(36, [false, false, true, true, true, false])]
set_option maxRecDepth 100000 in
theorem qe_X_exchange_28_36 {ρ : Type} (kr : Int → zH → Option ρ) (a2 a3 a4 t0 t1 t2 : Int) (h : zH) : X_exchange_28_36 kr a2 a3 a4 t0 t1 t2 h = zseg zPP true (zcal [(259, [none, none, none], fun xs h kr kt => match xs with
  | [x0, x1, x2] => Th_set x0 x1 x2 h kr
  | _ => none)]) (zget (999, 0, 0, 0) zc_X_exchange_28) (zcut zu_X_exchange_28) (zorc []) kr (fun _ _ => none) 400 36 [none, none, some (106, a2), some (108, a3), some (0, a4), none] [(0, t0), (0, t1), (128, t2)] h := by rfl
set_option maxRecDepth 100000 in
theorem qe_X_exchange_28 {ρ : Type} (kr : Int → zH → Option ρ) (a0 a1 a2 a3 : Int) (h : zH) : X_exchange_28 a0 a1 a2 a3 h kr = zseg zPP true (zcal [(258, [none, none], fun xs h kr kt => match xs with
  | [x0, x1] => Th_at x0 x1 h kr
  | _ => none)]) (zget (999, 0, 0, 0) zc_X_exchange_28) (zcut zu_X_exchange_28) (zorc [(36, [none, none, some (106, none), some (108, none), some (0, none), none], [(0, none), (0, none), (128, none)], fun xs h => match xs with
  | [a2, a3, a4, t0, t1, t2] => X_exchange_28_36 kr a2 a3 a4 t0 t1 t2 h
  | _ => none)]) kr (fun _ _ => none) 400 0 [some (128, a0), some (0, a1), some (106, a2), some (108, a3), none, none] [] h := by rfl
def zc_Re_carryGlobal : List zI := [(10, 0, 3, 0), (114, 0, 129, 55), (999, 0, 0, 0), (999, 0, 0, 0), (61, 5, 9, 0), (999, 0, 0, 0), (999, 0, 0, 0), (0, 0, 0, 0), (130, 0, 1, 0), (14, 0, 2, 108), (80, 8, 132, 0), (999, 0, 0, 0), (999, 0, 0, 0), (1, 114, 0, 0), (999, 0, 0, 0), (67, 20, 35, 0), (999, 0, 0, 0), (999, 0, 0, 0), (14, 0, 1, 106), (14, 0, 2, 108), (80, 8, 136, 1), (999, 0, 0, 0), (999, 0, 0, 0), (14, 0, 0, 105), (80, 5, 9, 0), (999, 0, 0, 0), (999, 0, 0, 0), (10, 0, 3, 0), (90, 0, 0, 28), (110, 0, 139, 259), (999, 0, 0, 0), (999, 0, 0, 0), (72, 39, 71, 0), (999, 0, 0, 0), (999, 0, 0, 0), (14, 0, 2, 108), (80, 8, 132, 0), (999, 0, 0, 0), (999, 0, 0, 0), (1, 119, 0, 0), (999, 0, 0, 0), (67, 20, 61, 0), (999, 0, 0, 0), (999, 0, 0, 0), (14, 0, 0, 105), (80, 5, 9, 0), (999, 0, 0, 0), (999, 0, 0, 0), (10, 0, 3, 0), (14, 0, 1, 106), (14, 0, 2, 108), (80, 8, 142, 2), (999, 0, 0, 0), (999, 0, 0, 0), (110, 0, 106, 258), (999, 0, 0, 0), (999, 0, 0, 0), (95, 0, 0, 28), (72, 13, 71, 0), (999, 0, 0, 0), (999, 0, 0, 0), (14, 0, 0, 105), (80, 5, 9, 0), (999, 0, 0, 0), (999, 0, 0, 0), (10, 0, 3, 0), (14, 0, 1, 106), (14, 0, 2, 108), (114, 0, 145, 61), (999, 0, 0, 0), (999, 0, 0, 0), (0, 1, 0, 0), (130, 0, 1, 0)]
def zu_Re_carryGlobal : List (Nat × List Bool) := [(71, [false, false, false, false])]
set_option maxRecDepth 100000 in
theorem qe_Re_carryGlobal_71 {ρ : Type} (kr : Int → zH → Option ρ) (h : zH) : Re_carryGlobal_71 kr h = zseg zPP true (zcal []) (zget (999, 0, 0, 0) zc_Re_carryGlobal) (zcut zu_Re_carryGlobal) (zorc []) kr (fun _ _ => none) 400 71 [none, none, none, none] [] h := by rfl
set_option maxRecDepth 100000 in
theorem qe_Re_carryGlobal {ρ : Type} (kr : Int → zH → Option ρ) (a0 a1 a2 a3 : Int) (h : zH) : Re_carryGlobal a0 a1 a2 a3 h kr = zseg zPP true (zcal [(55, [none], fun xs h kr kt => match xs with
  | [x0] => X_isCell x0 h kr
  | _ => none), (61, [none, none, none, none], fun xs h kr kt => match xs with
  | [x0, x1, x2, x3] => X_exchange_28 x0 x1 x2 x3 h kr
  | _ => none), (258, [none, none], fun xs h kr kt => match xs with
  | [x0, x1] => Th_at x0 x1 h kr
  | _ => none), (259, [none, none, none], fun xs h kr kt => match xs with
  | [x0, x1, x2] => Th_set x0 x1 x2 h kr
  | _ => none)]) (zget (999, 0, 0, 0) zc_Re_carryGlobal) (zcut zu_Re_carryGlobal) (zorc [(71, [none, none, none, none], [], fun xs h => match xs with
  | [] => Re_carryGlobal_71 kr h
  | _ => none)]) kr (fun _ _ => none) 400 0 [some (105, a0), some (106, a1), some (108, a2), some (0, a3)] [] h := by rfl
def zc_Re_carryShared : List zI := [(10, 0, 3, 0), (0, 0, 0, 0), (14, 0, 0, 105), (80, 5, 30, 4), (999, 0, 0, 0), (999, 0, 0, 0), (80, 7, 149, 1), (999, 0, 0, 0), (999, 0, 0, 0), (0, 1, 0, 0), (31, 0, 0, 0), (114, 0, 151, 54), (999, 0, 0, 0), (999, 0, 0, 0), (61, 5, 19, 0), (999, 0, 0, 0), (999, 0, 0, 0), (0, 0, 0, 0), (130, 0, 1, 0), (14, 0, 2, 108), (80, 8, 132, 0), (999, 0, 0, 0), (999, 0, 0, 0), (1, 82, 0, 0), (999, 0, 0, 0), (67, 20, 45, 0), (999, 0, 0, 0), (999, 0, 0, 0), (14, 0, 1, 106), (14, 0, 2, 108), (80, 8, 136, 1), (999, 0, 0, 0), (999, 0, 0, 0), (14, 0, 0, 105), (80, 5, 15, 1), (999, 0, 0, 0), (999, 0, 0, 0), (10, 0, 3, 0), (90, 0, 0, 29), (110, 0, 139, 259), (999, 0, 0, 0), (999, 0, 0, 0), (72, 17, 59, 0), (999, 0, 0, 0), (999, 0, 0, 0), (14, 0, 0, 105), (80, 5, 15, 1), (999, 0, 0, 0), (999, 0, 0, 0), (10, 0, 3, 0), (14, 0, 1, 106), (14, 0, 2, 108), (80, 8, 142, 2), (999, 0, 0, 0), (999, 0, 0, 0), (110, 0, 106, 258), (999, 0, 0, 0), (999, 0, 0, 0), (95, 0, 0, 29), (0, 1, 0, 0), (130, 0, 1, 0)]
def zu_Re_carryShared : List (Nat × List Bool) := [(59, [false, false, false, false])]
set_option maxRecDepth 100000 in
theorem qe_Re_carryShared_59 {ρ : Type} (kr : Int → zH → Option ρ) (h : zH) : Re_carryShared_59 kr h = zseg zPP true (zcal []) (zget (999, 0, 0, 0) zc_Re_carryShared) (zcut zu_Re_carryShared) (zorc []) kr (fun _ _ => none) 400 59 [none, none, none, none] [] h := by rfl
set_option maxRecDepth 100000 in
theorem qe_Re_carryShared {ρ : Type} (kr : Int → zH → Option ρ) (a0 a1 a2 a3 : Int) (h : zH) : Re_carryShared a0 a1 a2 a3 h kr = zseg zPP true (zcal [(54, [none, none, none], fun xs h kr kt => match xs with
  | [x0, x1, x2] => X_isWithin x0 x1 x2 h kr
  | _ => none), (258, [none, none], fun xs h kr kt => match xs with
  | [x0, x1] => Th_at x0 x1 h kr
  | _ => none), (259, [none, none, none], fun xs h kr kt => match xs with
  | [x0, x1, x2] => Th_set x0 x1 x2 h kr
  | _ => none)]) (zget (999, 0, 0, 0) zc_Re_carryShared) (zcut zu_Re_carryShared) (zorc [(59, [none, none, none, none], [], fun xs h => match xs with
  | [] => Re_carryShared_59 kr h
  | _ => none)]) kr (fun _ _ => none) 400 0 [some (105, a0), some (106, a1), some (108, a2), some (0, a3)] [] h := by rfl
def zc_Re_carry : List zI := [(14, 0, 1, 106), (14, 0, 2, 108), (110, 0, 100, 221), (999, 0, 0, 0), (999, 0, 0, 0), (110, 0, 106, 258), (999, 0, 0, 0), (999, 0, 0, 0), (16, 0, 3, 0), (14, 0, 2, 108), (8, 2, 110, 0), (999, 0, 0, 0), (110, 0, 112, 219), (999, 0, 0, 0), (999, 0, 0, 0), (60, 11, 26, 0), (999, 0, 0, 0), (999, 0, 0, 0), (14, 0, 0, 105), (14, 0, 1, 106), (14, 0, 2, 108), (10, 0, 3, 0), (110, 0, 116, 274), (999, 0, 0, 0), (999, 0, 0, 0), (130, 0, 1, 0), (14, 0, 2, 108), (8, 3, 120, 0), (999, 0, 0, 0), (110, 0, 112, 219), (999, 0, 0, 0), (999, 0, 0, 0), (60, 11, 43, 0), (999, 0, 0, 0), (999, 0, 0, 0), (14, 0, 0, 105), (14, 0, 1, 106), (14, 0, 2, 108), (10, 0, 3, 0), (110, 0, 122, 275), (999, 0, 0, 0), (999, 0, 0, 0), (130, 0, 1, 0), (14, 0, 1, 106), (14, 0, 2, 108), (110, 0, 125, 260), (999, 0, 0, 0), (999, 0, 0, 0), (0, 1, 0, 0), (130, 0, 1, 0)]
def zu_Re_carry : List (Nat × List Bool) := []
set_option maxRecDepth 100000 in
theorem qe_Re_carry {ρ : Type} (kr : Int → zH → Option ρ) (a0 a1 a2 : Int) (h : zH) : Re_carry a0 a1 a2 h kr = zseg zPP true (zcal [(219, [none, none], fun xs h kr kt => match xs with
  | [x0, x1] => In_isOneOf x0 x1 h kr
  | _ => none), (221, [none], fun xs h kr kt => match xs with
  | [x0] => In_cellRegister x0 h kr
  | _ => none), (258, [none, none], fun xs h kr kt => match xs with
  | [x0, x1] => Th_at x0 x1 h kr
  | _ => none), (260, [none, none], fun xs h kr kt => match xs with
  | [x0, x1] => Th_reckon x0 x1 h kr
  | _ => none), (274, [none, none, none, none], fun xs h kr kt => match xs with
  | [x0, x1, x2, x3] => Re_carryGlobal x0 x1 x2 x3 h kr
  | _ => none), (275, [none, none, none, none], fun xs h kr kt => match xs with
  | [x0, x1, x2, x3] => Re_carryShared x0 x1 x2 x3 h kr
  | _ => none)]) (zget (999, 0, 0, 0) zc_Re_carry) (zcut zu_Re_carry) (zorc []) kr (fun _ _ => none) 400 0 [some (105, a0), some (106, a1), some (108, a2), none] [] h := by rfl
def zc_Re_runThread : List zI := [(0, 0, 0, 0), (16, 0, 2, 0), (10, 0, 2, 0), (2, 200, 0, 0), (999, 0, 0, 0), (999, 0, 0, 0), (70, 83, 89, 0), (999, 0, 0, 0), (999, 0, 0, 0), (14, 0, 1, 106), (110, 0, 81, 255), (999, 0, 0, 0), (999, 0, 0, 0), (60, 76, 89, 0), (999, 0, 0, 0), (999, 0, 0, 0), (14, 0, 0, 105), (80, 5, 30, 4), (999, 0, 0, 0), (999, 0, 0, 0), (14, 0, 1, 106), (80, 6, 74, 3), (999, 0, 0, 0), (999, 0, 0, 0), (110, 0, 85, 224), (999, 0, 0, 0), (999, 0, 0, 0), (20, 0, 3, 108), (14, 0, 3, 108), (73, 27, 56, 0), (999, 0, 0, 0), (999, 0, 0, 0), (14, 0, 0, 105), (80, 5, 24, 3), (999, 0, 0, 0), (999, 0, 0, 0), (14, 0, 1, 106), (80, 6, 89, 0), (999, 0, 0, 0), (999, 0, 0, 0), (90, 0, 0, 31), (2, 200, 0, 0), (999, 0, 0, 0), (999, 0, 0, 0), (69, 12, 56, 0), (999, 0, 0, 0), (999, 0, 0, 0), (14, 0, 0, 105), (14, 0, 1, 106), (14, 0, 3, 108), (110, 0, 92, 273), (999, 0, 0, 0), (999, 0, 0, 0), (61, 5, 58, 0), (999, 0, 0, 0), (999, 0, 0, 0), (0, 0, 0, 0), (130, 0, 1, 0), (14, 0, 0, 105), (80, 5, 24, 3), (999, 0, 0, 0), (999, 0, 0, 0), (14, 0, 1, 106), (80, 6, 89, 0), (999, 0, 0, 0), (999, 0, 0, 0), (51, 0, 0, 0), (90, 0, 0, 31), (0, 1, 0, 0), (30, 0, 0, 0), (95, 0, 0, 31), (14, 0, 1, 106), (14, 0, 3, 108), (14, 0, 0, 105), (80, 5, 30, 4), (999, 0, 0, 0), (999, 0, 0, 0), (80, 7, 58, 3), (999, 0, 0, 0), (999, 0, 0, 0), (110, 0, 96, 261), (999, 0, 0, 0), (999, 0, 0, 0), (22, 1, 2, 0), (999, 0, 0, 0), (999, 0, 0, 0), (72, (-84), 2, 0), (999, 0, 0, 0), (999, 0, 0, 0), (14, 0, 1, 106), (110, 0, 81, 255), (999, 0, 0, 0), (999, 0, 0, 0), (61, 7, 100, 0), (999, 0, 0, 0), (999, 0, 0, 0), (0, 1, 0, 0), (72, 4, 101, 0), (999, 0, 0, 0), (999, 0, 0, 0), (0, 0, 0, 0), (130, 0, 1, 0)]
def zu_Re_runThread : List (Nat × List Bool) := [(2, [true, true, true, false]), (56, [false, false, false, false]), (89, [false, true, false, false]), (101, [false, false, false, false])]
set_option maxRecDepth 100000 in
theorem qe_Re_runThread_56 {ρ : Type} (kr : Int → zH → Option ρ) (h : zH) : Re_runThread_56 kr h = zseg zPP true (zcal []) (zget (999, 0, 0, 0) zc_Re_runThread) (zcut zu_Re_runThread) (zorc []) kr (fun _ _ => none) 400 56 [none, none, none, none] [] h := by rfl
set_option maxRecDepth 100000 in
theorem qe_Re_runThread_101 {ρ : Type} (kr : Int → zH → Option ρ) (t0 : Int) (h : zH) : Re_runThread_101 kr t0 h = zseg zPP true (zcal []) (zget (999, 0, 0, 0) zc_Re_runThread) (zcut zu_Re_runThread) (zorc []) kr (fun _ _ => none) 400 101 [none, none, none, none] [(0, t0)] h := by rfl
set_option maxRecDepth 100000 in
theorem qe_Re_runThread_89 {ρ : Type} (kr : Int → zH → Option ρ) (a1 : Int) (h : zH) : Re_runThread_89 kr a1 h = zseg zPP true (zcal [(255, [none], fun xs h kr kt => match xs with
  | [x0] => Th_isRunning x0 h kr
  | _ => none)]) (zget (999, 0, 0, 0) zc_Re_runThread) (zcut zu_Re_runThread) (zorc [(101, [none, none, none, none], [(0, none)], fun xs h => match xs with
  | [t0] => Re_runThread_101 kr t0 h
  | _ => none)]) kr (fun _ _ => none) 400 89 [none, some (106, a1), none, none] [] h := by rfl
set_option maxRecDepth 100000 in
theorem qe_Re_runThread_2b {ρ : Type} (kr : Int → zH → Option ρ) (r2 : Int → Int → Int → zH → Option ρ) (a0 a1 a2 : Int) (h : zH) : Re_runThread_2b kr r2 a0 a1 a2 h = zseg zPP true (zcal [(224, [none, none], fun xs h kr kt => match xs with
  | [x0, x1] => Ke_instructionAt x0 x1 h kr
  | _ => none), (255, [none], fun xs h kr kt => match xs with
  | [x0] => Th_isRunning x0 h kr
  | _ => none), (261, [none, none, none], fun xs h kr kt => match xs with
  | [x0, x1, x2] => Th_goOn x0 x1 x2 h kr
  | _ => none), (273, [none, none, none], fun xs h kr kt => match xs with
  | [x0, x1, x2] => Re_carry x0 x1 x2 h kr
  | _ => none)]) (zget (999, 0, 0, 0) zc_Re_runThread) (zcut zu_Re_runThread) (zorc [(2, [some (105, none), some (106, none), some (0, none), none], [], fun xs h => match xs with
  | [a0, a1, a2] => r2 a0 a1 a2 h
  | _ => none), (56, [none, none, none, none], [], fun xs h => match xs with
  | [] => Re_runThread_56 kr h
  | _ => none), (89, [none, some (106, none), none, none], [], fun xs h => match xs with
  | [a1] => Re_runThread_89 kr a1 h
  | _ => none)]) kr (fun _ _ => none) 400 2 [some (105, a0), some (106, a1), some (0, a2), none] [] h := by rfl
set_option maxRecDepth 100000 in
theorem qe_Re_runThread {ρ : Type} (kr : Int → zH → Option ρ) (a0 a1 : Int) (h : zH) : Re_runThread a0 a1 h kr = zseg zPP true (zcal []) (zget (999, 0, 0, 0) zc_Re_runThread) (zcut zu_Re_runThread) (zorc [(2, [some (105, none), some (106, none), some (0, none), none], [], fun xs h => match xs with
  | [a0, a1, a2] => Re_runThread_2 kr a0 a1 a2 h
  | _ => none)]) kr (fun _ _ => none) 400 0 [some (105, a0), some (106, a1), none, none] [] h := by rfl
def zc_Re_runBlock : List zI := [(14, 0, 0, 105), (80, 5, 15, 1), (999, 0, 0, 0), (999, 0, 0, 0), (0, 0, 0, 0), (113, 0, 52, 4), (999, 0, 0, 0), (999, 0, 0, 0), (14, 0, 0, 105), (80, 5, 24, 3), (999, 0, 0, 0), (999, 0, 0, 0), (0, 0, 0, 0), (113, 0, 52, 5), (999, 0, 0, 0), (999, 0, 0, 0), (0, 0, 0, 0), (16, 0, 2, 0), (10, 0, 2, 0), (14, 0, 0, 105), (80, 5, 40, 5), (999, 0, 0, 0), (999, 0, 0, 0), (69, 26, 49, 0), (999, 0, 0, 0), (999, 0, 0, 0), (14, 0, 0, 105), (80, 5, 20, 2), (999, 0, 0, 0), (999, 0, 0, 0), (10, 0, 2, 0), (94, 0, 0, 30), (10, 0, 1, 0), (14, 0, 0, 105), (80, 5, 30, 4), (999, 0, 0, 0), (999, 0, 0, 0), (80, 7, 58, 3), (999, 0, 0, 0), (999, 0, 0, 0), (110, 0, 63, 254), (999, 0, 0, 0), (999, 0, 0, 0), (22, 1, 2, 0), (999, 0, 0, 0), (999, 0, 0, 0), (72, (-28), 18, 0), (999, 0, 0, 0), (999, 0, 0, 0), (0, 0, 0, 0), (16, 0, 2, 0), (10, 0, 2, 0), (2, 200, 0, 0), (999, 0, 0, 0), (999, 0, 0, 0), (70, 103, 158, 0), (999, 0, 0, 0), (999, 0, 0, 0), (0, 0, 0, 0), (16, 0, 3, 0), (10, 0, 3, 0), (14, 0, 0, 105), (80, 5, 40, 5), (999, 0, 0, 0), (999, 0, 0, 0), (69, 42, 107, 0), (999, 0, 0, 0), (999, 0, 0, 0), (14, 0, 0, 105), (14, 0, 0, 105), (80, 5, 20, 2), (999, 0, 0, 0), (999, 0, 0, 0), (14, 0, 0, 105), (80, 5, 44, 6), (999, 0, 0, 0), (999, 0, 0, 0), (60, 14, 91, 0), (999, 0, 0, 0), (999, 0, 0, 0), (14, 0, 0, 105), (80, 5, 40, 5), (999, 0, 0, 0), (999, 0, 0, 0), (0, 1, 0, 0), (31, 0, 0, 0), (10, 0, 3, 0), (31, 0, 0, 0), (72, 4, 92, 0), (999, 0, 0, 0), (999, 0, 0, 0), (10, 0, 3, 0), (94, 0, 0, 30), (110, 0, 66, 272), (999, 0, 0, 0), (999, 0, 0, 0), (61, 5, 101, 0), (999, 0, 0, 0), (999, 0, 0, 0), (0, 0, 0, 0), (130, 0, 1, 0), (22, 1, 3, 0), (999, 0, 0, 0), (999, 0, 0, 0), (72, (-44), 60, 0), (999, 0, 0, 0), (999, 0, 0, 0), (14, 0, 0, 105), (80, 5, 20, 2), (999, 0, 0, 0), (999, 0, 0, 0), (14, 0, 0, 105), (80, 5, 40, 5), (999, 0, 0, 0), (999, 0, 0, 0), (113, 0, 70, 264), (999, 0, 0, 0), (999, 0, 0, 0), (20, 0, 3, 106), (14, 0, 3, 106), (74, 5, 125, 0), (999, 0, 0, 0), (999, 0, 0, 0), (0, 1, 0, 0), (130, 0, 1, 0), (14, 0, 0, 105), (80, 5, 20, 2), (999, 0, 0, 0), (999, 0, 0, 0), (14, 0, 0, 105), (80, 5, 40, 5), (999, 0, 0, 0), (999, 0, 0, 0), (14, 0, 3, 106), (80, 6, 74, 3), (999, 0, 0, 0), (999, 0, 0, 0), (14, 0, 0, 105), (80, 5, 30, 4), (999, 0, 0, 0), (999, 0, 0, 0), (80, 7, 58, 3), (999, 0, 0, 0), (999, 0, 0, 0), (113, 0, 77, 266), (999, 0, 0, 0), (999, 0, 0, 0), (61, 5, 152, 0), (999, 0, 0, 0), (999, 0, 0, 0), (0, 0, 0, 0), (130, 0, 1, 0), (22, 1, 2, 0), (999, 0, 0, 0), (999, 0, 0, 0), (72, (-104), 51, 0), (999, 0, 0, 0), (999, 0, 0, 0), (0, 0, 0, 0), (130, 0, 1, 0)]
def zu_Re_runBlock : List (Nat × List Bool) := [(18, [true, true, true, false]), (51, [true, false, true, false]), (60, [true, false, true, true]), (92, [true, false, true, true])]
set_option maxRecDepth 100000 in
theorem qe_Re_runBlock_92 {ρ : Type} (kr : Int → zH → Option ρ) (r51 : Int → Int → zH → Option ρ) (r60 : Int → Int → Int → zH → Option ρ) (a0 a2 a3 t0 t1 t2 : Int) (h : zH) : Re_runBlock_92 kr r51 r60 a0 a2 a3 t0 t1 t2 h = zseg zPP true (zcal [(272, [none, none], fun xs h kr kt => match xs with
  | [x0, x1] => Re_runThread x0 x1 h kr
  | _ => none)]) (zget (999, 0, 0, 0) zc_Re_runBlock) (zcut zu_Re_runBlock) (zorc [(60, [some (105, none), none, some (0, none), some (0, none)], [], fun xs h => match xs with
  | [a0, a2, a3] => r60 a0 a2 a3 h
  | _ => none)]) kr (fun _ _ => none) 400 92 [some (105, a0), none, some (0, a2), some (0, a3)] [(0, t0), (130, t1), (105, t2)] h := by rfl
set_option maxRecDepth 100000 in
theorem qe_Re_runBlock_60b {ρ : Type} (kr : Int → zH → Option ρ) (r51 : Int → Int → zH → Option ρ) (r60 : Int → Int → Int → zH → Option ρ) (a0 a2 a3 : Int) (h : zH) : Re_runBlock_60b kr r51 r60 a0 a2 a3 h = zseg zPP true (zcal [(264, [none, none], fun xs h kr kt => match xs with
  | [x0, x1] => Th_lowestOfWaiting_30 x0 x1 h kr
  | _ => none), (266, [none, none, none, none], fun xs h kr kt => match xs with
  | [x0, x1, x2, x3] => Th_release_30 x0 x1 x2 x3 h kr
  | _ => none)]) (zget (999, 0, 0, 0) zc_Re_runBlock) (zcut zu_Re_runBlock) (zorc [(51, [some (105, none), none, some (0, none), none], [], fun xs h => match xs with
  | [a0, a2] => r51 a0 a2 h
  | _ => none), (92, [some (105, none), none, some (0, none), some (0, none)], [(0, none), (130, none), (105, none)], fun xs h => match xs with
  | [a0, a2, a3, t0, t1, t2] => Re_runBlock_92 kr r51 r60 a0 a2 a3 t0 t1 t2 h
  | _ => none)]) kr (fun _ _ => none) 400 60 [some (105, a0), none, some (0, a2), some (0, a3)] [] h := by rfl
set_option maxRecDepth 100000 in
theorem qe_Re_runBlock_51b {ρ : Type} (kr : Int → zH → Option ρ) (r51 : Int → Int → zH → Option ρ) (a0 a2 : Int) (h : zH) : Re_runBlock_51b kr r51 a0 a2 h = zseg zPP true (zcal []) (zget (999, 0, 0, 0) zc_Re_runBlock) (zcut zu_Re_runBlock) (zorc [(60, [some (105, none), none, some (0, none), some (0, none)], [], fun xs h => match xs with
  | [a0, a2, a3] => Re_runBlock_60 kr r51 a0 a2 a3 h
  | _ => none)]) kr (fun _ _ => none) 400 51 [some (105, a0), none, some (0, a2), none] [] h := by rfl
set_option maxRecDepth 100000 in
theorem qe_Re_runBlock_18b {ρ : Type} (kr : Int → zH → Option ρ) (r18 : Int → Int → Int → zH → Option ρ) (a0 a1 a2 : Int) (h : zH) : Re_runBlock_18b kr r18 a0 a1 a2 h = zseg zPP true (zcal [(254, [none, none, none], fun xs h kr kt => match xs with
  | [x0, x1, x2] => Th_begin x0 x1 x2 h kr
  | _ => none)]) (zget (999, 0, 0, 0) zc_Re_runBlock) (zcut zu_Re_runBlock) (zorc [(18, [some (105, none), some (0, none), some (0, none), none], [], fun xs h => match xs with
  | [a0, a1, a2] => r18 a0 a1 a2 h
  | _ => none), (51, [some (105, none), none, some (0, none), none], [], fun xs h => match xs with
  | [a0, a2] => Re_runBlock_51 kr a0 a2 h
  | _ => none)]) kr (fun _ _ => none) 400 18 [some (105, a0), some (0, a1), some (0, a2), none] [] h := by rfl
set_option maxRecDepth 100000 in
theorem qe_Re_runBlock {ρ : Type} (kr : Int → zH → Option ρ) (a0 a1 : Int) (h : zH) : Re_runBlock a0 a1 h kr = zseg zPP true (zcal [(4, [none, none], fun xs h kr kt => match xs with
  | [x0, x1] => Ar_fill_29 x0 x1 h kr
  | _ => none), (5, [none, none], fun xs h kr kt => match xs with
  | [x0, x1] => Ar_fill_31 x0 x1 h kr
  | _ => none)]) (zget (999, 0, 0, 0) zc_Re_runBlock) (zcut zu_Re_runBlock) (zorc [(18, [some (105, none), some (0, none), some (0, none), none], [], fun xs h => match xs with
  | [a0, a1, a2] => Re_runBlock_18 kr a0 a1 a2 h
  | _ => none)]) kr (fun _ _ => none) 400 0 [some (105, a0), some (0, a1), none, none] [] h := by rfl
def zc_Re_runBlocks : List zI := [(0, 0, 0, 0), (16, 0, 2, 0), (10, 0, 2, 0), (10, 0, 1, 0), (69, 34, 38, 0), (999, 0, 0, 0), (999, 0, 0, 0), (14, 0, 0, 105), (14, 0, 0, 105), (80, 5, 44, 6), (999, 0, 0, 0), (999, 0, 0, 0), (60, 11, 23, 0), (999, 0, 0, 0), (999, 0, 0, 0), (10, 0, 1, 0), (0, 1, 0, 0), (31, 0, 0, 0), (10, 0, 2, 0), (31, 0, 0, 0), (72, 4, 24, 0), (999, 0, 0, 0), (999, 0, 0, 0), (10, 0, 2, 0), (110, 0, 48, 271), (999, 0, 0, 0), (999, 0, 0, 0), (61, 5, 32, 0), (999, 0, 0, 0), (999, 0, 0, 0), (0, 0, 0, 0), (130, 0, 1, 0), (22, 1, 2, 0), (999, 0, 0, 0), (999, 0, 0, 0), (72, (-33), 2, 0), (999, 0, 0, 0), (999, 0, 0, 0), (0, 1, 0, 0), (130, 0, 1, 0)]
def zu_Re_runBlocks : List (Nat × List Bool) := [(2, [true, true, true]), (24, [true, true, true])]
set_option maxRecDepth 100000 in
theorem qe_Re_runBlocks_24 {ρ : Type} (kr : Int → zH → Option ρ) (r2 : Int → Int → Int → zH → Option ρ) (a0 a1 a2 t0 t1 : Int) (h : zH) : Re_runBlocks_24 kr r2 a0 a1 a2 t0 t1 h = zseg zPP true (zcal [(271, [none, none], fun xs h kr kt => match xs with
  | [x0, x1] => Re_runBlock x0 x1 h kr
  | _ => none)]) (zget (999, 0, 0, 0) zc_Re_runBlocks) (zcut zu_Re_runBlocks) (zorc [(2, [some (105, none), some (0, none), some (0, none)], [], fun xs h => match xs with
  | [a0, a1, a2] => r2 a0 a1 a2 h
  | _ => none)]) kr (fun _ _ => none) 400 24 [some (105, a0), some (0, a1), some (0, a2)] [(0, t0), (105, t1)] h := by rfl
set_option maxRecDepth 100000 in
theorem qe_Re_runBlocks_2b {ρ : Type} (kr : Int → zH → Option ρ) (r2 : Int → Int → Int → zH → Option ρ) (a0 a1 a2 : Int) (h : zH) : Re_runBlocks_2b kr r2 a0 a1 a2 h = zseg zPP true (zcal []) (zget (999, 0, 0, 0) zc_Re_runBlocks) (zcut zu_Re_runBlocks) (zorc [(24, [some (105, none), some (0, none), some (0, none)], [(0, none), (105, none)], fun xs h => match xs with
  | [a0, a1, a2, t0, t1] => Re_runBlocks_24 kr r2 a0 a1 a2 t0 t1 h
  | _ => none)]) kr (fun _ _ => none) 400 2 [some (105, a0), some (0, a1), some (0, a2)] [] h := by rfl
set_option maxRecDepth 100000 in
theorem qe_Re_runBlocks {ρ : Type} (kr : Int → zH → Option ρ) (a0 a1 : Int) (h : zH) : Re_runBlocks a0 a1 h kr = zseg zPP true (zcal []) (zget (999, 0, 0, 0) zc_Re_runBlocks) (zcut zu_Re_runBlocks) (zorc [(2, [some (105, none), some (0, none), some (0, none)], [], fun xs h => match xs with
  | [a0, a1, a2] => Re_runBlocks_2 kr a0 a1 a2 h
  | _ => none)]) kr (fun _ _ => none) 400 0 [some (105, a0), some (0, a1), none] [] h := by rfl
def zc_X_serial : List zI := [(14, 0, 0, 100), (10, 0, 1, 0), (110, 0, 55, 47), (999, 0, 0, 0), (999, 0, 0, 0), (21, 0, 6, 107), (999, 0, 0, 0), (11, 0, 5, 0), (999, 0, 0, 0), (113, 0, 83, 55), (999, 0, 0, 0), (999, 0, 0, 0), (61, 11, 23, 0), (999, 0, 0, 0), (999, 0, 0, 0), (134, 89, 87, 3), (999, 0, 0, 0), (999, 0, 0, 0), (999, 0, 0, 0), (999, 0, 0, 0), (999, 0, 0, 0), (999, 0, 0, 0), (999, 0, 0, 0), (10, 0, 2, 0), (0, 1, 0, 0), (1, 6, 0, 0), (999, 0, 0, 0), (113, 0, 32, 54), (999, 0, 0, 0), (999, 0, 0, 0), (60, 13, 43, 0), (999, 0, 0, 0), (999, 0, 0, 0), (10, 0, 3, 0), (0, 1, 0, 0), (1, 16, 0, 0), (999, 0, 0, 0), (113, 0, 32, 54), (999, 0, 0, 0), (999, 0, 0, 0), (61, 11, 51, 0), (999, 0, 0, 0), (999, 0, 0, 0), (134, 38, 36, 1), (999, 0, 0, 0), (999, 0, 0, 0), (999, 0, 0, 0), (999, 0, 0, 0), (999, 0, 0, 0), (999, 0, 0, 0), (999, 0, 0, 0), (15, 0, 6, 107), (999, 0, 0, 0), (8, 0, 247, 0), (999, 0, 0, 0), (110, 0, 249, 226), (999, 0, 0, 0), (999, 0, 0, 0), (60, 11, 69, 0), (999, 0, 0, 0), (999, 0, 0, 0), (134, 99, 97, 4), (999, 0, 0, 0), (999, 0, 0, 0), (999, 0, 0, 0), (999, 0, 0, 0), (999, 0, 0, 0), (999, 0, 0, 0), (999, 0, 0, 0), (14, 0, 0, 100), (80, 0, 28, 2), (999, 0, 0, 0), (999, 0, 0, 0), (15, 0, 6, 107), (999, 0, 0, 0), (10, 0, 3, 0), (11, 0, 4, 0), (999, 0, 0, 0), (14, 0, 0, 100), (80, 0, 21, 1), (999, 0, 0, 0), (999, 0, 0, 0), (80, 2, 90, 1), (999, 0, 0, 0), (999, 0, 0, 0), (110, 0, 253, 269), (999, 0, 0, 0), (999, 0, 0, 0), (14, 0, 0, 100), (80, 0, 28, 2), (999, 0, 0, 0), (999, 0, 0, 0), (10, 0, 2, 0), (110, 0, 257, 270), (999, 0, 0, 0), (999, 0, 0, 0), (61, 11, 107, 0), (999, 0, 0, 0), (999, 0, 0, 0), (134, 45, 43, 2), (999, 0, 0, 0), (999, 0, 0, 0), (999, 0, 0, 0), (999, 0, 0, 0), (999, 0, 0, 0), (999, 0, 0, 0), (999, 0, 0, 0), (14, 0, 0, 100), (80, 0, 28, 2), (999, 0, 0, 0), (999, 0, 0, 0), (80, 5, 260, 0), (999, 0, 0, 0), (999, 0, 0, 0), (11, 0, 5, 0), (999, 0, 0, 0), (90, 0, 0, 28), (130, 0, 0, 0)]
def zu_X_serial : List (Nat × List Bool) := [(43, [false, false, false, false, false, false, false])]
set_option maxRecDepth 100000 in
theorem qe_X_serial_43 {ρ : Type} (kr : Int → zH → Option ρ) (kt : Nat → zH → Option ρ) (h : zH) : X_serial_43 kr kt h = zseg zPP true (zcal []) (zget (999, 0, 0, 0) zc_X_serial) (zcut zu_X_serial) (zorc []) kr kt 400 43 [none, none, none, none, none, none, none] [] h := by rfl
set_option maxRecDepth 100000 in
theorem qe_X_serial {ρ : Type} (kr : Int → zH → Option ρ) (kt : Nat → zH → Option ρ) (a0 a1 a2 a3 a4 a5 : Int) (h : zH) : X_serial a0 a1 a2 a3 a4 a5 h kr kt = zseg zPP true (zcal [(47, [none, none], fun xs h kr kt => match xs with
  | [x0, x1] => X_kernelAt x0 x1 h kr kt
  | _ => none), (54, [none, none, none], fun xs h kr kt => match xs with
  | [x0, x1, x2] => X_isWithin x0 x1 x2 h kr
  | _ => none), (55, [none], fun xs h kr kt => match xs with
  | [x0] => X_isCell x0 h kr
  | _ => none), (226, [none, none], fun xs h kr kt => match xs with
  | [x0, x1] => Ke_hasLetterOf x0 x1 h kr
  | _ => none), (269, [none, none, none, none, none], fun xs h kr kt => match xs with
  | [x0, x1, x2, x3, x4] => Re_begin x0 x1 x2 x3 x4 h kr
  | _ => none), (270, [none, none], fun xs h kr kt => match xs with
  | [x0, x1] => Re_runBlocks x0 x1 h kr
  | _ => none)]) (zget (999, 0, 0, 0) zc_X_serial) (zcut zu_X_serial) (zorc [(43, [none, none, none, none, none, none, none], [], fun xs h => match xs with
  | [] => X_serial_43 kr kt h
  | _ => none)]) kr kt 400 0 [some (100, a0), some (0, a1), some (0, a2), some (0, a3), some (0, a4), some (0, a5), none] [] h := by rfl
def zc_X_lanes : List zI := [(14, 0, 0, 100), (80, 0, 21, 1), (999, 0, 0, 0), (999, 0, 0, 0), (80, 2, 141, 3), (999, 0, 0, 0), (999, 0, 0, 0), (80, 4, 261, 1), (999, 0, 0, 0), (999, 0, 0, 0), (131, 0, 0, 0)]
def zu_X_lanes : List (Nat × List Bool) := []
set_option maxRecDepth 100000 in
theorem qe_X_lanes {ρ : Type} (kr : Int → zH → Option ρ) (a0 : Int) (h : zH) : X_lanes a0 h kr = zseg zPP true (zcal []) (zget (999, 0, 0, 0) zc_X_lanes) (zcut zu_X_lanes) (zorc []) kr (fun _ _ => none) 400 0 [some (100, a0)] [] h := by rfl
def zc_X_misses : List zI := [(14, 0, 0, 100), (80, 0, 21, 1), (999, 0, 0, 0), (999, 0, 0, 0), (80, 2, 141, 3), (999, 0, 0, 0), (999, 0, 0, 0), (80, 4, 264, 4), (999, 0, 0, 0), (999, 0, 0, 0), (130, 0, 0, 0)]
def zu_X_misses : List (Nat × List Bool) := []
set_option maxRecDepth 100000 in
theorem qe_X_misses {ρ : Type} (kr : Int → zH → Option ρ) (a0 : Int) (h : zH) : X_misses a0 h kr = zseg zPP true (zcal []) (zget (999, 0, 0, 0) zc_X_misses) (zcut zu_X_misses) (zorc []) kr (fun _ _ => none) 400 0 [some (100, a0)] [] h := by rfl
def zc_X_lost : List zI := [(14, 0, 0, 100), (80, 0, 21, 1), (999, 0, 0, 0), (999, 0, 0, 0), (80, 2, 141, 3), (999, 0, 0, 0), (999, 0, 0, 0), (80, 4, 267, 5), (999, 0, 0, 0), (999, 0, 0, 0), (130, 0, 0, 0)]
def zu_X_lost : List (Nat × List Bool) := []
set_option maxRecDepth 100000 in
theorem qe_X_lost {ρ : Type} (kr : Int → zH → Option ρ) (a0 : Int) (h : zH) : X_lost a0 h kr = zseg zPP true (zcal []) (zget (999, 0, 0, 0) zc_X_lost) (zcut zu_X_lost) (zorc []) kr (fun _ _ => none) 400 0 [some (100, a0)] [] h := by rfl
def zc_X_barriers : List zI := [(14, 0, 0, 100), (80, 0, 21, 1), (999, 0, 0, 0), (999, 0, 0, 0), (80, 2, 141, 3), (999, 0, 0, 0), (999, 0, 0, 0), (80, 4, 270, 6), (999, 0, 0, 0), (999, 0, 0, 0), (130, 0, 0, 0)]
def zu_X_barriers : List (Nat × List Bool) := []
set_option maxRecDepth 100000 in
theorem qe_X_barriers {ρ : Type} (kr : Int → zH → Option ρ) (a0 : Int) (h : zH) : X_barriers a0 h kr = zseg zPP true (zcal []) (zget (999, 0, 0, 0) zc_X_barriers) (zcut zu_X_barriers) (zorc []) kr (fun _ _ => none) 400 0 [some (100, a0)] [] h := by rfl
def zc_X_refused : List zI := [(14, 0, 0, 100), (80, 0, 21, 1), (999, 0, 0, 0), (999, 0, 0, 0), (80, 2, 141, 3), (999, 0, 0, 0), (999, 0, 0, 0), (80, 4, 273, 7), (999, 0, 0, 0), (999, 0, 0, 0), (130, 0, 0, 0)]
def zu_X_refused : List (Nat × List Bool) := []
set_option maxRecDepth 100000 in
theorem qe_X_refused {ρ : Type} (kr : Int → zH → Option ρ) (a0 : Int) (h : zH) : X_refused a0 h kr = zseg zPP true (zcal []) (zget (999, 0, 0, 0) zc_X_refused) (zcut zu_X_refused) (zorc []) kr (fun _ _ => none) 400 0 [some (100, a0)] [] h := by rfl
def zc_X_usedShare : List zI := [(6, 4, 276, 0), (999, 0, 0, 0), (999, 0, 0, 0), (14, 0, 0, 100), (80, 0, 21, 1), (999, 0, 0, 0), (999, 0, 0, 0), (80, 2, 141, 3), (999, 0, 0, 0), (999, 0, 0, 0), (80, 4, 145, 0), (999, 0, 0, 0), (999, 0, 0, 0), (47, 0, 0, 0), (18, 0, 1, 0), (12, 0, 1, 0), (5, 0, 0, 0), (48, 0, 0, 0), (61, 11, 29, 0), (999, 0, 0, 0), (999, 0, 0, 0), (134, 280, 278, 6), (999, 0, 0, 0), (999, 0, 0, 0), (999, 0, 0, 0), (999, 0, 0, 0), (999, 0, 0, 0), (999, 0, 0, 0), (999, 0, 0, 0), (14, 0, 0, 100), (80, 0, 21, 1), (999, 0, 0, 0), (999, 0, 0, 0), (80, 2, 141, 3), (999, 0, 0, 0), (999, 0, 0, 0), (80, 4, 261, 1), (999, 0, 0, 0), (999, 0, 0, 0), (142, 0, 0, 0), (12, 0, 1, 0), (142, 0, 0, 0), (144, 0, 0, 0), (160, 0, 0, 0)]
def zu_X_usedShare : List (Nat × List Bool) := []
set_option maxRecDepth 100000 in
theorem qe_X_usedShare {ρ : Type} (kr : Int → zH → Option ρ) (kt : Nat → zH → Option ρ) (a0 : Int) (h : zH) : X_usedShare a0 h kr kt = zseg zPP true (zcal []) (zget (999, 0, 0, 0) zc_X_usedShare) (zcut zu_X_usedShare) (zorc []) kr kt 400 0 [some (100, a0), none, none] [] h := by rfl
def zc_X_meanDelay : List zI := [(14, 0, 0, 100), (80, 0, 21, 1), (999, 0, 0, 0), (999, 0, 0, 0), (80, 2, 141, 3), (999, 0, 0, 0), (999, 0, 0, 0), (80, 4, 281, 3), (999, 0, 0, 0), (999, 0, 0, 0), (18, 0, 1, 0), (12, 0, 1, 0), (5, 0, 0, 0), (48, 0, 0, 0), (61, 11, 25, 0), (999, 0, 0, 0), (999, 0, 0, 0), (134, 280, 278, 6), (999, 0, 0, 0), (999, 0, 0, 0), (999, 0, 0, 0), (999, 0, 0, 0), (999, 0, 0, 0), (999, 0, 0, 0), (999, 0, 0, 0), (14, 0, 0, 100), (80, 0, 21, 1), (999, 0, 0, 0), (999, 0, 0, 0), (80, 2, 141, 3), (999, 0, 0, 0), (999, 0, 0, 0), (80, 4, 284, 2), (999, 0, 0, 0), (999, 0, 0, 0), (145, 0, 0, 0), (12, 0, 1, 0), (145, 0, 0, 0), (147, 0, 0, 0), (161, 0, 0, 0)]
def zu_X_meanDelay : List (Nat × List Bool) := []
set_option maxRecDepth 100000 in
theorem qe_X_meanDelay {ρ : Type} (kr : Int → zH → Option ρ) (kt : Nat → zH → Option ρ) (a0 : Int) (h : zH) : X_meanDelay a0 h kr kt = zseg zPP true (zcal []) (zget (999, 0, 0, 0) zc_X_meanDelay) (zcut zu_X_meanDelay) (zorc []) kr kt 400 0 [some (100, a0), none, none] [] h := by rfl
def zc_Gr_isBufferWithinRoom : List zI := [(14, 0, 0, 111), (80, 11, 67, 5), (999, 0, 0, 0), (999, 0, 0, 0), (0, 4, 0, 0), (70, 7, 12, 0), (999, 0, 0, 0), (999, 0, 0, 0), (0, 1, 0, 0), (72, 4, 13, 0), (999, 0, 0, 0), (999, 0, 0, 0), (0, 0, 0, 0), (130, 0, 1, 0)]
def zu_Gr_isBufferWithinRoom : List (Nat × List Bool) := [(13, [false])]
set_option maxRecDepth 100000 in
theorem qe_Gr_isBufferWithinRoom_13 {ρ : Type} (kr : Int → zH → Option ρ) (t0 : Int) (h : zH) : Gr_isBufferWithinRoom_13 kr t0 h = zseg zPP true (zcal []) (zget (999, 0, 0, 0) zc_Gr_isBufferWithinRoom) (zcut zu_Gr_isBufferWithinRoom) (zorc []) kr (fun _ _ => none) 400 13 [none] [(0, t0)] h := by rfl
set_option maxRecDepth 100000 in
theorem qe_Gr_isBufferWithinRoom {ρ : Type} (kr : Int → zH → Option ρ) (a0 : Int) (h : zH) : Gr_isBufferWithinRoom a0 h kr = zseg zPP true (zcal []) (zget (999, 0, 0, 0) zc_Gr_isBufferWithinRoom) (zcut zu_Gr_isBufferWithinRoom) (zorc [(13, [none], [(0, none)], fun xs h => match xs with
  | [t0] => Gr_isBufferWithinRoom_13 kr t0 h
  | _ => none)]) kr (fun _ _ => none) 400 0 [some (111, a0)] [] h := by rfl
def zc_Un_isInOrder : List zI := [(0, 0, 0, 0), (16, 0, 1, 0), (10, 0, 1, 0), (14, 0, 0, 103), (80, 3, 21, 2), (999, 0, 0, 0), (999, 0, 0, 0), (69, 41, 48, 0), (999, 0, 0, 0), (999, 0, 0, 0), (14, 0, 0, 103), (80, 3, 11, 0), (999, 0, 0, 0), (999, 0, 0, 0), (10, 0, 1, 0), (94, 0, 0, 26), (110, 0, 95, 213), (999, 0, 0, 0), (999, 0, 0, 0), (60, 21, 40, 0), (999, 0, 0, 0), (999, 0, 0, 0), (14, 0, 0, 103), (80, 3, 11, 0), (999, 0, 0, 0), (999, 0, 0, 0), (10, 0, 1, 0), (94, 0, 0, 26), (80, 11, 48, 0), (999, 0, 0, 0), (999, 0, 0, 0), (80, 10, 61, 0), (999, 0, 0, 0), (999, 0, 0, 0), (110, 0, 99, 231), (999, 0, 0, 0), (999, 0, 0, 0), (60, 5, 42, 0), (999, 0, 0, 0), (999, 0, 0, 0), (0, 0, 0, 0), (130, 0, 1, 0), (22, 1, 1, 0), (999, 0, 0, 0), (999, 0, 0, 0), (72, (-43), 2, 0), (999, 0, 0, 0), (999, 0, 0, 0), (14, 0, 0, 103), (80, 3, 21, 2), (999, 0, 0, 0), (999, 0, 0, 0), (0, 4, 0, 0), (70, 25, 78, 0), (999, 0, 0, 0), (999, 0, 0, 0), (14, 0, 0, 103), (110, 0, 33, 279), (999, 0, 0, 0), (999, 0, 0, 0), (1, 64, 0, 0), (999, 0, 0, 0), (70, 16, 78, 0), (999, 0, 0, 0), (999, 0, 0, 0), (14, 0, 0, 103), (110, 0, 42, 280), (999, 0, 0, 0), (999, 0, 0, 0), (1, 32, 0, 0), (999, 0, 0, 0), (70, 7, 78, 0), (999, 0, 0, 0), (999, 0, 0, 0), (0, 1, 0, 0), (72, 4, 79, 0), (999, 0, 0, 0), (999, 0, 0, 0), (0, 0, 0, 0), (130, 0, 1, 0)]
def zu_Un_isInOrder : List (Nat × List Bool) := [(2, [true, true]), (40, [false, false]), (78, [false, false]), (79, [false, false])]
set_option maxRecDepth 100000 in
theorem qe_Un_isInOrder_40 {ρ : Type} (kr : Int → zH → Option ρ) (h : zH) : Un_isInOrder_40 kr h = zseg zPP true (zcal []) (zget (999, 0, 0, 0) zc_Un_isInOrder) (zcut zu_Un_isInOrder) (zorc []) kr (fun _ _ => none) 400 40 [none, none] [] h := by rfl
set_option maxRecDepth 100000 in
theorem qe_Un_isInOrder_79 {ρ : Type} (kr : Int → zH → Option ρ) (t0 : Int) (h : zH) : Un_isInOrder_79 kr t0 h = zseg zPP true (zcal []) (zget (999, 0, 0, 0) zc_Un_isInOrder) (zcut zu_Un_isInOrder) (zorc []) kr (fun _ _ => none) 400 79 [none, none] [(0, t0)] h := by rfl
set_option maxRecDepth 100000 in
theorem qe_Un_isInOrder_78 {ρ : Type} (kr : Int → zH → Option ρ) (h : zH) : Un_isInOrder_78 kr h = zseg zPP true (zcal []) (zget (999, 0, 0, 0) zc_Un_isInOrder) (zcut zu_Un_isInOrder) (zorc [(79, [none, none], [(0, none)], fun xs h => match xs with
  | [t0] => Un_isInOrder_79 kr t0 h
  | _ => none)]) kr (fun _ _ => none) 400 78 [none, none] [] h := by rfl
set_option maxRecDepth 100000 in
theorem qe_Un_isInOrder_2b {ρ : Type} (kr : Int → zH → Option ρ) (r2 : Int → Int → zH → Option ρ) (a0 a1 : Int) (h : zH) : Un_isInOrder_2b kr r2 a0 a1 h = zseg zPP true (zcal [(213, [none], fun xs h kr kt => match xs with
  | [x0] => Gr_isBufferWithinRoom x0 h kr
  | _ => none), (231, [none], fun xs h kr kt => match xs with
  | [x0] => La_isOver x0 h kr
  | _ => none), (279, [none], fun xs h kr kt => match xs with
  | [x0] => Un_usedRegisters x0 h kr
  | _ => none), (280, [none], fun xs h kr kt => match xs with
  | [x0] => Un_usedShared x0 h kr
  | _ => none)]) (zget (999, 0, 0, 0) zc_Un_isInOrder) (zcut zu_Un_isInOrder) (zorc [(2, [some (103, none), some (0, none)], [], fun xs h => match xs with
  | [a0, a1] => r2 a0 a1 h
  | _ => none), (40, [none, none], [], fun xs h => match xs with
  | [] => Un_isInOrder_40 kr h
  | _ => none), (78, [none, none], [], fun xs h => match xs with
  | [] => Un_isInOrder_78 kr h
  | _ => none), (79, [none, none], [(0, none)], fun xs h => match xs with
  | [t0] => Un_isInOrder_79 kr t0 h
  | _ => none)]) kr (fun _ _ => none) 400 2 [some (103, a0), some (0, a1)] [] h := by rfl
set_option maxRecDepth 100000 in
theorem qe_Un_isInOrder {ρ : Type} (kr : Int → zH → Option ρ) (a0 : Int) (h : zH) : Un_isInOrder a0 h kr = zseg zPP true (zcal []) (zget (999, 0, 0, 0) zc_Un_isInOrder) (zcut zu_Un_isInOrder) (zorc [(2, [some (103, none), some (0, none)], [], fun xs h => match xs with
  | [a0, a1] => Un_isInOrder_2 kr a0 a1 h
  | _ => none)]) kr (fun _ _ => none) 400 0 [some (103, a0), none] [] h := by rfl
def zc_X_isSound : List zI := [(0, 0, 0, 0), (16, 0, 1, 0), (10, 0, 1, 0), (0, 2, 0, 0), (69, 26, 30, 0), (999, 0, 0, 0), (999, 0, 0, 0), (14, 0, 0, 100), (80, 0, 21, 1), (999, 0, 0, 0), (999, 0, 0, 0), (80, 2, 287, 2), (999, 0, 0, 0), (999, 0, 0, 0), (10, 0, 1, 0), (94, 0, 0, 23), (110, 0, 291, 288), (999, 0, 0, 0), (999, 0, 0, 0), (61, 5, 24, 0), (999, 0, 0, 0), (999, 0, 0, 0), (0, 0, 0, 0), (130, 0, 1, 0), (22, 1, 1, 0), (999, 0, 0, 0), (999, 0, 0, 0), (72, (-25), 2, 0), (999, 0, 0, 0), (999, 0, 0, 0), (0, 1, 0, 0), (130, 0, 1, 0)]
def zu_X_isSound : List (Nat × List Bool) := [(2, [true, true])]
set_option maxRecDepth 100000 in
theorem qe_X_isSound_2b {ρ : Type} (kr : Int → zH → Option ρ) (r2 : Int → Int → zH → Option ρ) (a0 a1 : Int) (h : zH) : X_isSound_2b kr r2 a0 a1 h = zseg zPP true (zcal [(288, [none], fun xs h kr kt => match xs with
  | [x0] => Un_isInOrder x0 h kr
  | _ => none)]) (zget (999, 0, 0, 0) zc_X_isSound) (zcut zu_X_isSound) (zorc [(2, [some (100, none), some (0, none)], [], fun xs h => match xs with
  | [a0, a1] => r2 a0 a1 h
  | _ => none)]) kr (fun _ _ => none) 400 2 [some (100, a0), some (0, a1)] [] h := by rfl
set_option maxRecDepth 100000 in
theorem qe_X_isSound {ρ : Type} (kr : Int → zH → Option ρ) (a0 : Int) (h : zH) : X_isSound a0 h kr = zseg zPP true (zcal []) (zget (999, 0, 0, 0) zc_X_isSound) (zcut zu_X_isSound) (zorc [(2, [some (100, none), some (0, none)], [], fun xs h => match xs with
  | [a0, a1] => X_isSound_2 kr a0 a1 h
  | _ => none)]) kr (fun _ _ => none) 400 0 [some (100, a0), none] [] h := by rfl
def zc_M_init : List zI := [(14, 0, 0, 112), (117, 0, 1, 0), (999, 0, 0, 0), (999, 0, 0, 0), (14, 0, 0, 112), (1, 111, 0, 0), (999, 0, 0, 0), (82, 12, 7, 2), (999, 0, 0, 0), (999, 0, 0, 0), (14, 0, 0, 112), (1, 64, 0, 0), (999, 0, 0, 0), (101, 0, 0, 60), (999, 0, 0, 0), (84, 12, 13, 3), (999, 0, 0, 0), (999, 0, 0, 0), (14, 0, 0, 112), (0, 4, 0, 0), (101, 0, 0, 61), (999, 0, 0, 0), (84, 12, 17, 5), (999, 0, 0, 0), (999, 0, 0, 0), (14, 0, 0, 112), (0, 4, 0, 0), (101, 0, 0, 62), (999, 0, 0, 0), (84, 12, 20, 6), (999, 0, 0, 0), (999, 0, 0, 0), (14, 0, 0, 112), (0, 4, 0, 0), (101, 0, 0, 63), (999, 0, 0, 0), (84, 12, 23, 7), (999, 0, 0, 0), (999, 0, 0, 0), (14, 0, 0, 112), (0, 4, 0, 0), (101, 0, 0, 64), (999, 0, 0, 0), (84, 12, 26, 8), (999, 0, 0, 0), (999, 0, 0, 0), (14, 0, 0, 112), (2, 160, 0, 0), (999, 0, 0, 0), (999, 0, 0, 0), (101, 0, 0, 65), (999, 0, 0, 0), (84, 12, 30, 9), (999, 0, 0, 0), (999, 0, 0, 0), (14, 0, 0, 112), (2, 160, 0, 0), (999, 0, 0, 0), (999, 0, 0, 0), (101, 0, 0, 66), (999, 0, 0, 0), (84, 12, 34, 10), (999, 0, 0, 0), (999, 0, 0, 0), (14, 0, 0, 112), (2, 160, 0, 0), (999, 0, 0, 0), (999, 0, 0, 0), (101, 0, 0, 67), (999, 0, 0, 0), (84, 12, 37, 11), (999, 0, 0, 0), (999, 0, 0, 0), (14, 0, 0, 112), (2, 160, 0, 0), (999, 0, 0, 0), (999, 0, 0, 0), (101, 0, 0, 68), (999, 0, 0, 0), (84, 12, 40, 12), (999, 0, 0, 0), (999, 0, 0, 0), (14, 0, 0, 112), (1, 12, 0, 0), (999, 0, 0, 0), (101, 0, 0, 69), (999, 0, 0, 0), (84, 12, 43, 14), (999, 0, 0, 0), (999, 0, 0, 0), (14, 0, 0, 112), (1, 12, 0, 0), (999, 0, 0, 0), (101, 0, 0, 70), (999, 0, 0, 0), (84, 12, 46, 15), (999, 0, 0, 0), (999, 0, 0, 0), (14, 0, 0, 112), (1, 12, 0, 0), (999, 0, 0, 0), (101, 0, 0, 71), (999, 0, 0, 0), (84, 12, 49, 16), (999, 0, 0, 0), (999, 0, 0, 0), (14, 0, 0, 112), (1, 12, 0, 0), (999, 0, 0, 0), (101, 0, 0, 72), (999, 0, 0, 0), (84, 12, 52, 17), (999, 0, 0, 0), (999, 0, 0, 0), (14, 0, 0, 112), (1, 12, 0, 0), (999, 0, 0, 0), (101, 0, 0, 73), (999, 0, 0, 0), (84, 12, 55, 18), (999, 0, 0, 0), (999, 0, 0, 0), (14, 0, 0, 112), (1, 12, 0, 0), (999, 0, 0, 0), (101, 0, 0, 74), (999, 0, 0, 0), (84, 12, 58, 19), (999, 0, 0, 0), (999, 0, 0, 0), (14, 0, 0, 112), (1, 12, 0, 0), (999, 0, 0, 0), (101, 0, 0, 75), (999, 0, 0, 0), (84, 12, 61, 20), (999, 0, 0, 0), (999, 0, 0, 0), (14, 0, 0, 112), (1, 12, 0, 0), (999, 0, 0, 0), (101, 0, 0, 76), (999, 0, 0, 0), (84, 12, 64, 21), (999, 0, 0, 0), (999, 0, 0, 0), (14, 0, 0, 112), (1, 12, 0, 0), (999, 0, 0, 0), (101, 0, 0, 77), (999, 0, 0, 0), (84, 12, 67, 22), (999, 0, 0, 0), (999, 0, 0, 0), (14, 0, 0, 112), (1, 12, 0, 0), (999, 0, 0, 0), (101, 0, 0, 78), (999, 0, 0, 0), (84, 12, 70, 23), (999, 0, 0, 0), (999, 0, 0, 0), (14, 0, 0, 112), (1, 12, 0, 0), (999, 0, 0, 0), (101, 0, 0, 79), (999, 0, 0, 0), (84, 12, 73, 24), (999, 0, 0, 0), (999, 0, 0, 0), (14, 0, 0, 112), (1, 12, 0, 0), (999, 0, 0, 0), (101, 0, 0, 80), (999, 0, 0, 0), (84, 12, 76, 25), (999, 0, 0, 0), (999, 0, 0, 0), (14, 0, 0, 112), (1, 12, 0, 0), (999, 0, 0, 0), (101, 0, 0, 81), (999, 0, 0, 0), (84, 12, 79, 26), (999, 0, 0, 0), (999, 0, 0, 0), (14, 0, 0, 112), (1, 12, 0, 0), (999, 0, 0, 0), (101, 0, 0, 82), (999, 0, 0, 0), (84, 12, 82, 27), (999, 0, 0, 0), (999, 0, 0, 0), (14, 0, 0, 112), (1, 12, 0, 0), (999, 0, 0, 0), (101, 0, 0, 83), (999, 0, 0, 0), (84, 12, 85, 28), (999, 0, 0, 0), (999, 0, 0, 0), (14, 0, 0, 112), (1, 12, 0, 0), (999, 0, 0, 0), (101, 0, 0, 84), (999, 0, 0, 0), (84, 12, 88, 29), (999, 0, 0, 0), (999, 0, 0, 0), (14, 0, 0, 112), (1, 12, 0, 0), (999, 0, 0, 0), (101, 0, 0, 85), (999, 0, 0, 0), (84, 12, 91, 30), (999, 0, 0, 0), (999, 0, 0, 0), (14, 0, 0, 112), (1, 72, 0, 0), (999, 0, 0, 0), (101, 0, 0, 86), (999, 0, 0, 0), (84, 12, 94, 31), (999, 0, 0, 0), (999, 0, 0, 0), (14, 0, 0, 112), (1, 72, 0, 0), (999, 0, 0, 0), (101, 0, 0, 87), (999, 0, 0, 0), (84, 12, 97, 32), (999, 0, 0, 0), (999, 0, 0, 0), (14, 0, 0, 112), (1, 72, 0, 0), (999, 0, 0, 0), (101, 0, 0, 88), (999, 0, 0, 0), (84, 12, 100, 33), (999, 0, 0, 0), (999, 0, 0, 0), (14, 0, 0, 112), (2, 1152, 0, 0), (999, 0, 0, 0), (999, 0, 0, 0), (101, 0, 0, 89), (999, 0, 0, 0), (84, 12, 103, 34), (999, 0, 0, 0), (999, 0, 0, 0), (14, 0, 0, 112), (2, 1152, 0, 0), (999, 0, 0, 0), (999, 0, 0, 0), (101, 0, 0, 90), (999, 0, 0, 0), (84, 12, 106, 35), (999, 0, 0, 0), (999, 0, 0, 0), (14, 0, 0, 112), (2, 9216, 0, 0), (999, 0, 0, 0), (999, 0, 0, 0), (101, 0, 0, 91), (999, 0, 0, 0), (84, 12, 109, 36), (999, 0, 0, 0), (999, 0, 0, 0), (14, 0, 0, 112), (2, 1152, 0, 0), (999, 0, 0, 0), (999, 0, 0, 0), (101, 0, 0, 92), (999, 0, 0, 0), (84, 12, 112, 37), (999, 0, 0, 0), (999, 0, 0, 0), (14, 0, 0, 112), (0, 2, 0, 0), (101, 0, 0, 93), (999, 0, 0, 0), (84, 12, 115, 38), (999, 0, 0, 0), (999, 0, 0, 0), (14, 0, 0, 112), (1, 8, 0, 0), (999, 0, 0, 0), (101, 0, 0, 94), (999, 0, 0, 0), (84, 12, 118, 39), (999, 0, 0, 0), (999, 0, 0, 0), (14, 0, 0, 112), (1, 8, 0, 0), (999, 0, 0, 0), (101, 0, 0, 95), (999, 0, 0, 0), (84, 12, 121, 40), (999, 0, 0, 0), (999, 0, 0, 0), (14, 0, 0, 112), (1, 8, 0, 0), (999, 0, 0, 0), (101, 0, 0, 96), (999, 0, 0, 0), (84, 12, 124, 41), (999, 0, 0, 0), (999, 0, 0, 0), (14, 0, 0, 112), (1, 8, 0, 0), (999, 0, 0, 0), (101, 0, 0, 97), (999, 0, 0, 0), (84, 12, 127, 42), (999, 0, 0, 0), (999, 0, 0, 0), (14, 0, 0, 112), (1, 32, 0, 0), (999, 0, 0, 0), (101, 0, 0, 98), (999, 0, 0, 0), (84, 12, 130, 43), (999, 0, 0, 0), (999, 0, 0, 0), (14, 0, 0, 112), (1, 32, 0, 0), (999, 0, 0, 0), (101, 0, 0, 99), (999, 0, 0, 0), (84, 12, 133, 44), (999, 0, 0, 0), (999, 0, 0, 0), (14, 0, 0, 112), (0, 2, 0, 0), (101, 0, 0, 100), (999, 0, 0, 0), (50, 0, 0, 0), (0, 0, 0, 0), (0, (-1), 0, 0), (95, 0, 0, 100), (50, 0, 0, 0), (0, 1, 0, 0), (0, (-1), 0, 0), (95, 0, 0, 100), (84, 12, 136, 45), (999, 0, 0, 0), (999, 0, 0, 0), (14, 0, 0, 112), (0, 2, 0, 0), (101, 0, 0, 101), (999, 0, 0, 0), (50, 0, 0, 0), (0, 0, 0, 0), (0, (-1), 0, 0), (95, 0, 0, 101), (50, 0, 0, 0), (0, 1, 0, 0), (0, (-1), 0, 0), (95, 0, 0, 101), (84, 12, 139, 46), (999, 0, 0, 0), (999, 0, 0, 0), (14, 0, 0, 112), (0, 4, 0, 0), (101, 0, 0, 102), (999, 0, 0, 0), (50, 0, 0, 0), (0, 0, 0, 0), (0, (-1), 0, 0), (95, 0, 0, 102), (50, 0, 0, 0), (0, 1, 0, 0), (0, (-1), 0, 0), (95, 0, 0, 102), (50, 0, 0, 0), (0, 2, 0, 0), (0, (-1), 0, 0), (95, 0, 0, 102), (50, 0, 0, 0), (0, 3, 0, 0), (0, (-1), 0, 0), (95, 0, 0, 102), (84, 12, 142, 47), (999, 0, 0, 0), (999, 0, 0, 0), (14, 0, 0, 112), (3, 73728, 145, 0), (999, 0, 0, 0), (101, 0, 0, 103), (999, 0, 0, 0), (84, 12, 146, 48), (999, 0, 0, 0), (999, 0, 0, 0), (14, 0, 0, 112), (3, 73728, 145, 0), (999, 0, 0, 0), (101, 0, 0, 104), (999, 0, 0, 0), (84, 12, 149, 49), (999, 0, 0, 0), (999, 0, 0, 0), (14, 0, 0, 112), (2, 768, 0, 0), (999, 0, 0, 0), (999, 0, 0, 0), (101, 0, 0, 105), (999, 0, 0, 0), (84, 12, 152, 50), (999, 0, 0, 0), (999, 0, 0, 0), (14, 0, 0, 112), (2, 18432, 0, 0), (999, 0, 0, 0), (999, 0, 0, 0), (101, 0, 0, 106), (999, 0, 0, 0), (84, 12, 155, 51), (999, 0, 0, 0), (999, 0, 0, 0), (14, 0, 0, 112), (2, 18432, 0, 0), (999, 0, 0, 0), (999, 0, 0, 0), (101, 0, 0, 107), (999, 0, 0, 0), (84, 12, 158, 52), (999, 0, 0, 0), (999, 0, 0, 0), (14, 0, 0, 112), (2, 1152, 0, 0), (999, 0, 0, 0), (999, 0, 0, 0), (101, 0, 0, 108), (999, 0, 0, 0), (84, 12, 161, 53), (999, 0, 0, 0), (999, 0, 0, 0), (14, 0, 0, 112), (1, 32, 0, 0), (999, 0, 0, 0), (101, 0, 0, 109), (999, 0, 0, 0), (84, 12, 164, 62), (999, 0, 0, 0), (999, 0, 0, 0), (14, 0, 0, 112), (1, 64, 0, 0), (999, 0, 0, 0), (101, 0, 0, 110), (999, 0, 0, 0), (84, 12, 167, 68), (999, 0, 0, 0), (999, 0, 0, 0), (14, 0, 0, 112), (1, 16, 0, 0), (999, 0, 0, 0), (101, 0, 0, 111), (999, 0, 0, 0), (84, 12, 170, 69), (999, 0, 0, 0), (999, 0, 0, 0), (14, 0, 0, 112), (2, 128, 0, 0), (999, 0, 0, 0), (999, 0, 0, 0), (101, 0, 0, 112), (999, 0, 0, 0), (84, 12, 173, 70), (999, 0, 0, 0), (999, 0, 0, 0), (14, 0, 0, 112), (1, 16, 0, 0), (999, 0, 0, 0), (101, 0, 0, 113), (999, 0, 0, 0), (84, 12, 176, 71), (999, 0, 0, 0), (999, 0, 0, 0), (14, 0, 0, 112), (1, 16, 0, 0), (999, 0, 0, 0), (101, 0, 0, 114), (999, 0, 0, 0), (84, 12, 179, 72), (999, 0, 0, 0), (999, 0, 0, 0), (14, 0, 0, 112), (1, 16, 0, 0), (999, 0, 0, 0), (101, 0, 0, 115), (999, 0, 0, 0), (84, 12, 182, 73), (999, 0, 0, 0), (999, 0, 0, 0), (133, 0, 0, 0)]
def zu_M_init : List (Nat × List Bool) := [(90, [true]), (186, [true]), (285, [true]), (363, [true]), (446, [true])]
set_option maxRecDepth 100000 in
theorem qe_M_init_446 {ρ : Type} (kr : Int → zH → Option ρ) (a0 : Int) (h : zH) : M_init_446 kr a0 h = zseg zPP true (zcal []) (zget (999, 0, 0, 0) zc_M_init) (zcut zu_M_init) (zorc []) kr (fun _ _ => none) 400 446 [some (112, a0)] [] h := by rfl
set_option maxRecDepth 100000 in
theorem qe_M_init_363 {ρ : Type} (kr : Int → zH → Option ρ) (a0 : Int) (h : zH) : M_init_363 kr a0 h = zseg zPP true (zcal []) (zget (999, 0, 0, 0) zc_M_init) (zcut zu_M_init) (zorc [(446, [some (112, none)], [], fun xs h => match xs with
  | [a0] => M_init_446 kr a0 h
  | _ => none)]) kr (fun _ _ => none) 400 363 [some (112, a0)] [] h := by rfl
set_option maxRecDepth 100000 in
theorem qe_M_init_285 {ρ : Type} (kr : Int → zH → Option ρ) (a0 : Int) (h : zH) : M_init_285 kr a0 h = zseg zPP true (zcal []) (zget (999, 0, 0, 0) zc_M_init) (zcut zu_M_init) (zorc [(363, [some (112, none)], [], fun xs h => match xs with
  | [a0] => M_init_363 kr a0 h
  | _ => none)]) kr (fun _ _ => none) 400 285 [some (112, a0)] [] h := by rfl
set_option maxRecDepth 100000 in
theorem qe_M_init_186 {ρ : Type} (kr : Int → zH → Option ρ) (a0 : Int) (h : zH) : M_init_186 kr a0 h = zseg zPP true (zcal []) (zget (999, 0, 0, 0) zc_M_init) (zcut zu_M_init) (zorc [(285, [some (112, none)], [], fun xs h => match xs with
  | [a0] => M_init_285 kr a0 h
  | _ => none)]) kr (fun _ _ => none) 400 186 [some (112, a0)] [] h := by rfl
set_option maxRecDepth 100000 in
theorem qe_M_init_90 {ρ : Type} (kr : Int → zH → Option ρ) (a0 : Int) (h : zH) : M_init_90 kr a0 h = zseg zPP true (zcal []) (zget (999, 0, 0, 0) zc_M_init) (zcut zu_M_init) (zorc [(186, [some (112, none)], [], fun xs h => match xs with
  | [a0] => M_init_186 kr a0 h
  | _ => none)]) kr (fun _ _ => none) 400 90 [some (112, a0)] [] h := by rfl
set_option maxRecDepth 100000 in
theorem qe_M_init {ρ : Type} (kr : Int → zH → Option ρ) (a0 : Int) (h : zH) : M_init a0 h kr = zseg zPP true (zcal []) (zget (999, 0, 0, 0) zc_M_init) (zcut zu_M_init) (zorc [(90, [some (112, none)], [], fun xs h => match xs with
  | [a0] => M_init_90 kr a0 h
  | _ => none)]) kr (fun _ _ => none) 400 0 [some (112, a0)] [] h := by rfl
