def zc_M_delayOf : List zI := [(14, 0, 0, 112), (80, 12, 284, 63), (999, 0, 0, 0), (999, 0, 0, 0), (0, 1, 0, 0), (36, 0, 0, 0), (14, 0, 0, 112), (80, 12, 284, 63), (999, 0, 0, 0), (999, 0, 0, 0), (0, 1, 0, 0), (40, 0, 0, 0), (0, 1, 0, 0), (36, 0, 0, 0), (30, 0, 0, 0), (14, 0, 0, 112), (80, 12, 284, 63), (999, 0, 0, 0), (999, 0, 0, 0), (0, 2, 0, 0), (40, 0, 0, 0), (0, 1, 0, 0), (36, 0, 0, 0), (30, 0, 0, 0), (14, 0, 0, 112), (80, 12, 284, 63), (999, 0, 0, 0), (999, 0, 0, 0), (0, 3, 0, 0), (40, 0, 0, 0), (0, 1, 0, 0), (36, 0, 0, 0), (30, 0, 0, 0), (17, 0, 4, 0), (999, 0, 0, 0), (10, 0, 2, 0), (1, 42, 0, 0), (999, 0, 0, 0), (67, 5, 43, 0), (999, 0, 0, 0), (999, 0, 0, 0), (0, 2, 0, 0), (130, 0, 0, 0), (10, 0, 2, 0), (1, 97, 0, 0), (999, 0, 0, 0), (66, 9, 55, 0), (999, 0, 0, 0), (999, 0, 0, 0), (10, 0, 2, 0), (1, 120, 0, 0), (999, 0, 0, 0), (67, 8, 60, 0), (999, 0, 0, 0), (999, 0, 0, 0), (0, 2, 0, 0), (11, 0, 4, 0), (999, 0, 0, 0), (32, 0, 0, 0), (130, 0, 0, 0), (10, 0, 2, 0), (1, 99, 0, 0), (999, 0, 0, 0), (67, 8, 71, 0), (999, 0, 0, 0), (999, 0, 0, 0), (0, 4, 0, 0), (11, 0, 4, 0), (999, 0, 0, 0), (32, 0, 0, 0), (130, 0, 0, 0), (10, 0, 2, 0), (113, 0, 297, 114), (999, 0, 0, 0), (999, 0, 0, 0), (60, 10, 85, 0), (999, 0, 0, 0), (999, 0, 0, 0), (14, 0, 0, 112), (10, 0, 2, 0), (10, 0, 3, 0), (110, 0, 330, 120), (999, 0, 0, 0), (999, 0, 0, 0), (130, 0, 0, 0), (10, 0, 2, 0), (1, 114, 0, 0), (999, 0, 0, 0), (67, 12, 100, 0), (999, 0, 0, 0), (999, 0, 0, 0), (14, 0, 0, 112), (10, 0, 1, 0), (10, 0, 3, 0), (110, 0, 334, 121), (999, 0, 0, 0), (999, 0, 0, 0), (72, 9, 106, 0), (999, 0, 0, 0), (999, 0, 0, 0), (0, 1, 0, 0), (14, 0, 0, 112), (80, 12, 315, 65), (999, 0, 0, 0), (999, 0, 0, 0), (30, 0, 0, 0), (130, 0, 0, 0)]
def zu_M_delayOf : List (Nat × List Bool) := [(55, [false, false, false, false, true]), (106, [false, false, false, false, false])]
set_option maxRecDepth 100000 in
theorem qg_M_delayOf_55 {ρ : Type} (kr : Int → zH → Option ρ) (a4 : Int) (h : zH) : (kr (wr (2 * a4)) h) = zseg zPP false (zcal []) (zget (999, 0, 0, 0) zc_M_delayOf) (zcut zu_M_delayOf) (zorc []) kr (fun _ _ => none) 400 55 [none, none, none, none, some (0, a4)] [] h := by rfl
set_option maxRecDepth 100000 in
theorem qe_M_delayOf_55 {ρ : Type} (kr : Int → zH → Option ρ) (a4 : Int) (h : zH) : M_delayOf_55 kr a4 h = zseg zPP false (zcal []) (zget (999, 0, 0, 0) zc_M_delayOf) (zcut zu_M_delayOf) (zorc []) kr (fun _ _ => none) 400 55 [none, none, none, none, some (0, a4)] [] h := qg_M_delayOf_55 kr a4 h
set_option maxRecDepth 100000 in
theorem qg_M_delayOf_106 {ρ : Type} (kr : Int → zH → Option ρ) (t0 : Int) (h : zH) : (kr t0 h) = zseg zPP false (zcal []) (zget (999, 0, 0, 0) zc_M_delayOf) (zcut zu_M_delayOf) (zorc []) kr (fun _ _ => none) 400 106 [none, none, none, none, none] [(0, t0)] h := by rfl
set_option maxRecDepth 100000 in
theorem qe_M_delayOf_106 {ρ : Type} (kr : Int → zH → Option ρ) (t0 : Int) (h : zH) : M_delayOf_106 kr t0 h = zseg zPP false (zcal []) (zget (999, 0, 0, 0) zc_M_delayOf) (zcut zu_M_delayOf) (zorc []) kr (fun _ _ => none) 400 106 [none, none, none, none, none] [(0, t0)] h := qg_M_delayOf_106 kr t0 h
set_option maxRecDepth 100000 in
theorem qg_M_delayOf {ρ : Type} (kr : Int → zH → Option ρ) (F_M_isShared : Int → zH → (Int → zH → Option ρ) → Option ρ) (F_M_banks : Int → Int → zH → (Int → zH → Option ρ) → Option ρ) (F_M_lines : Int → Int → zH → (Int → zH → Option ρ) → Option ρ) (c55 : Int → zH → Option ρ) (c106 : Int → zH → Option ρ) (a1 a2 a3 : Int) (h : zH) : (if a2 = 42 then kr 2 h
else if a2 = 97 then c55 (wr ((wr ((wr ((zand (zhD h 12 0 63) 1) + (zand (zshr (zhD h 12 0 63) 1) 1))) + (zand (zshr (zhD h 12 0 63) 2) 1))) + (zand (zshr (zhD h 12 0 63) 3) 1))) h
else if a2 = 120 then c55 (wr ((wr ((wr ((zand (zhD h 12 0 63) 1) + (zand (zshr (zhD h 12 0 63) 1) 1))) + (zand (zshr (zhD h 12 0 63) 2) 1))) + (zand (zshr (zhD h 12 0 63) 3) 1))) h
else if a2 = 99 then kr (wr (4 * (wr ((wr ((wr ((zand (zhD h 12 0 63) 1) + (zand (zshr (zhD h 12 0 63) 1) 1))) + (zand (zshr (zhD h 12 0 63) 2) 1))) + (zand (zshr (zhD h 12 0 63) 3) 1))))) h
else F_M_isShared a2 h  fun v1 h2 =>
if v1 = 0 then (if a2 = 114 then (F_M_lines a1 a3 h2  fun v3 h4 =>
c106 v3 h4)
else c106 (wr (1 + (zhD h2 12 0 65))) h2)
else F_M_banks a2 a3 h2  fun v5 h6 =>
kr v5 h6) = zseg zPP false (zcal [(114, [none], fun xs h kr kt => match xs with
  | [x0] => F_M_isShared x0 h kr
  | _ => none), (120, [some 0, none, none], fun xs h kr kt => match xs with
  | [x1, x2] => F_M_banks x1 x2 h kr
  | _ => none), (121, [some 0, none, none], fun xs h kr kt => match xs with
  | [x1, x2] => F_M_lines x1 x2 h kr
  | _ => none)]) (zget (999, 0, 0, 0) zc_M_delayOf) (zcut zu_M_delayOf) (zorc [(55, [none, none, none, none, some (0, none)], [], fun xs h => match xs with
  | [a4] => c55 a4 h
  | _ => none), (106, [none, none, none, none, none], [(0, none)], fun xs h => match xs with
  | [t0] => c106 t0 h
  | _ => none)]) kr (fun _ _ => none) 400 0 [some (112, 0), some (0, a1), some (0, a2), some (0, a3), none] [] h := by rfl
set_option maxRecDepth 100000 in
theorem qe_M_delayOf {ρ : Type} (kr : Int → zH → Option ρ) (a1 a2 a3 : Int) (h : zH) : M_delayOf a1 a2 a3 h kr = zseg zPP false (zcal [(114, [none], fun xs h kr kt => match xs with
  | [x0] => M_isShared x0 h kr
  | _ => none), (120, [some 0, none, none], fun xs h kr kt => match xs with
  | [x1, x2] => M_banks x1 x2 h kr
  | _ => none), (121, [some 0, none, none], fun xs h kr kt => match xs with
  | [x1, x2] => M_lines x1 x2 h kr
  | _ => none)]) (zget (999, 0, 0, 0) zc_M_delayOf) (zcut zu_M_delayOf) (zorc [(55, [none, none, none, none, some (0, none)], [], fun xs h => match xs with
  | [a4] => M_delayOf_55 kr a4 h
  | _ => none), (106, [none, none, none, none, none], [(0, none)], fun xs h => match xs with
  | [t0] => M_delayOf_106 kr t0 h
  | _ => none)]) kr (fun _ _ => none) 400 0 [some (112, 0), some (0, a1), some (0, a2), some (0, a3), none] [] h := qg_M_delayOf kr M_isShared M_banks M_lines (M_delayOf_55 kr) (M_delayOf_106 kr) a1 a2 a3 h
def zc_M_doLanes : List zI := [(14, 0, 0, 112), (80, 12, 46, 15), (999, 0, 0, 0), (999, 0, 0, 0), (14, 0, 0, 112), (80, 12, 118, 39), (999, 0, 0, 0), (999, 0, 0, 0), (10, 0, 1, 0), (90, 0, 0, 94), (1, 6, 0, 0), (999, 0, 0, 0), (33, 0, 0, 0), (90, 0, 0, 70), (17, 0, 4, 0), (999, 0, 0, 0), (0, 0, 0, 0), (17, 0, 5, 0), (999, 0, 0, 0), (11, 0, 5, 0), (999, 0, 0, 0), (0, 4, 0, 0), (69, 160, 182, 0), (999, 0, 0, 0), (999, 0, 0, 0), (14, 0, 0, 112), (80, 12, 344, 66), (999, 0, 0, 0), (999, 0, 0, 0), (1, 45, 0, 0), (999, 0, 0, 0), (67, 151, 182, 0), (999, 0, 0, 0), (999, 0, 0, 0), (14, 0, 0, 112), (11, 0, 5, 0), (999, 0, 0, 0), (110, 0, 287, 108), (999, 0, 0, 0), (999, 0, 0, 0), (60, 136, 176, 0), (999, 0, 0, 0), (999, 0, 0, 0), (10, 0, 2, 0), (113, 0, 347, 113), (999, 0, 0, 0), (999, 0, 0, 0), (60, 17, 64, 0), (999, 0, 0, 0), (999, 0, 0, 0), (14, 0, 0, 112), (10, 0, 2, 0), (10, 0, 3, 0), (11, 0, 5, 0), (999, 0, 0, 0), (110, 0, 293, 112), (999, 0, 0, 0), (999, 0, 0, 0), (113, 0, 222, 68), (999, 0, 0, 0), (999, 0, 0, 0), (61, 34, 95, 0), (999, 0, 0, 0), (999, 0, 0, 0), (10, 0, 2, 0), (113, 0, 297, 114), (999, 0, 0, 0), (999, 0, 0, 0), (60, 31, 99, 0), (999, 0, 0, 0), (999, 0, 0, 0), (14, 0, 0, 112), (10, 0, 2, 0), (10, 0, 3, 0), (11, 0, 5, 0), (999, 0, 0, 0), (110, 0, 293, 112), (999, 0, 0, 0), (999, 0, 0, 0), (0, 0, 0, 0), (14, 0, 0, 112), (80, 12, 20, 6), (999, 0, 0, 0), (999, 0, 0, 0), (11, 0, 4, 0), (999, 0, 0, 0), (90, 0, 0, 62), (0, 1, 0, 0), (31, 0, 0, 0), (113, 0, 192, 64), (999, 0, 0, 0), (999, 0, 0, 0), (61, 7, 99, 0), (999, 0, 0, 0), (999, 0, 0, 0), (0, 1, 0, 0), (72, 4, 100, 0), (999, 0, 0, 0), (999, 0, 0, 0), (0, 0, 0, 0), (17, 0, 6, 0), (999, 0, 0, 0), (11, 0, 6, 0), (999, 0, 0, 0), (60, 30, 134, 0), (999, 0, 0, 0), (999, 0, 0, 0), (14, 0, 0, 112), (10, 0, 2, 0), (113, 0, 347, 113), (999, 0, 0, 0), (999, 0, 0, 0), (60, 8, 120, 0), (999, 0, 0, 0), (999, 0, 0, 0), (1, 103, 0, 0), (999, 0, 0, 0), (72, 5, 122, 0), (999, 0, 0, 0), (999, 0, 0, 0), (1, 115, 0, 0), (999, 0, 0, 0), (82, 12, 344, 66), (999, 0, 0, 0), (999, 0, 0, 0), (14, 0, 0, 112), (11, 0, 5, 0), (999, 0, 0, 0), (82, 12, 350, 67), (999, 0, 0, 0), (999, 0, 0, 0), (72, 45, 176, 0), (999, 0, 0, 0), (999, 0, 0, 0), (10, 0, 2, 0), (113, 0, 347, 113), (999, 0, 0, 0), (999, 0, 0, 0), (61, 10, 148, 0), (999, 0, 0, 0), (999, 0, 0, 0), (10, 0, 2, 0), (113, 0, 297, 114), (999, 0, 0, 0), (999, 0, 0, 0), (60, 12, 157, 0), (999, 0, 0, 0), (999, 0, 0, 0), (14, 0, 0, 112), (10, 0, 1, 0), (11, 0, 5, 0), (999, 0, 0, 0), (10, 0, 2, 0), (10, 0, 3, 0), (110, 0, 353, 116), (999, 0, 0, 0), (999, 0, 0, 0), (14, 0, 0, 112), (10, 0, 1, 0), (11, 0, 5, 0), (999, 0, 0, 0), (10, 0, 2, 0), (10, 0, 3, 0), (110, 0, 357, 117), (999, 0, 0, 0), (999, 0, 0, 0), (14, 0, 0, 112), (50, 0, 0, 0), (80, 12, 360, 64), (999, 0, 0, 0), (999, 0, 0, 0), (0, 1, 0, 0), (30, 0, 0, 0), (82, 12, 360, 64), (999, 0, 0, 0), (999, 0, 0, 0), (22, 1, 5, 0), (999, 0, 0, 0), (999, 0, 0, 0), (72, (-160), 19, 0), (999, 0, 0, 0), (999, 0, 0, 0), (133, 0, 0, 0)]
def zu_M_doLanes : List (Nat × List Bool) := [(19, [true, true, true, true, true, true, false]), (64, [true, true, true, true, true, true, false]), (95, [true, true, true, true, true, true, false]), (99, [true, true, true, true, true, true, false]), (100, [true, true, true, true, true, true, false]), (122, [true, true, true, true, true, true, false]), (148, [true, true, true, true, true, true, false]), (157, [true, true, true, true, true, true, false]), (176, [true, true, true, true, true, true, false]), (182, [false, false, false, false, false, false, false])]
set_option maxRecDepth 100000 in
theorem qg_M_doLanes_176 {ρ : Type} (kr : Int → zH → Option ρ) (r19 : Int → Int → Int → Int → Int → zH → Option ρ) (a1 a2 a3 a4 a5 : Int) (h : zH) : (r19 a1 a2 a3 a4 (wr (a5 + 1)) h) = zseg zPP false (zcal []) (zget (999, 0, 0, 0) zc_M_doLanes) (zcut zu_M_doLanes) (zorc [(19, [some (112, some 0), some (0, none), some (0, none), some (0, none), some (0, none), some (0, none), none], [], fun xs h => match xs with
  | [a1, a2, a3, a4, a5] => r19 a1 a2 a3 a4 a5 h
  | _ => none)]) kr (fun _ _ => none) 400 176 [some (112, 0), some (0, a1), some (0, a2), some (0, a3), some (0, a4), some (0, a5), none] [] h := by rfl
set_option maxRecDepth 100000 in
theorem qe_M_doLanes_176 {ρ : Type} (kr : Int → zH → Option ρ) (r19 : Int → Int → Int → Int → Int → zH → Option ρ) (a1 a2 a3 a4 a5 : Int) (h : zH) : M_doLanes_176 kr r19 a1 a2 a3 a4 a5 h = zseg zPP false (zcal []) (zget (999, 0, 0, 0) zc_M_doLanes) (zcut zu_M_doLanes) (zorc [(19, [some (112, some 0), some (0, none), some (0, none), some (0, none), some (0, none), some (0, none), none], [], fun xs h => match xs with
  | [a1, a2, a3, a4, a5] => r19 a1 a2 a3 a4 a5 h
  | _ => none)]) kr (fun _ _ => none) 400 176 [some (112, 0), some (0, a1), some (0, a2), some (0, a3), some (0, a4), some (0, a5), none] [] h := qg_M_doLanes_176 kr r19 a1 a2 a3 a4 a5 h
set_option maxRecDepth 100000 in
theorem qg_M_doLanes_122 {ρ : Type} (kr : Int → zH → Option ρ) (r19 : Int → Int → Int → Int → Int → zH → Option ρ) (c176 : Int → Int → Int → Int → Int → zH → Option ρ) (a1 a2 a3 a4 a5 t0 : Int) (h : zH) : (znar 2 t0 fun x1 =>
zlet (zset h 12 0 66 x1) fun h2 =>
zlet (zset h2 12 0 67 a5) fun h3 =>
c176 a1 a2 a3 a4 a5 h3) = zseg zPP false (zcal []) (zget (999, 0, 0, 0) zc_M_doLanes) (zcut zu_M_doLanes) (zorc [(176, [some (112, some 0), some (0, none), some (0, none), some (0, none), some (0, none), some (0, none), none], [], fun xs h => match xs with
  | [a1, a2, a3, a4, a5] => c176 a1 a2 a3 a4 a5 h
  | _ => none)]) kr (fun _ _ => none) 400 122 [some (112, 0), some (0, a1), some (0, a2), some (0, a3), some (0, a4), some (0, a5), none] [(0, t0), (112, 0)] h := by rfl
set_option maxRecDepth 100000 in
theorem qe_M_doLanes_122 {ρ : Type} (kr : Int → zH → Option ρ) (r19 : Int → Int → Int → Int → Int → zH → Option ρ) (a1 a2 a3 a4 a5 t0 : Int) (h : zH) : M_doLanes_122 kr r19 a1 a2 a3 a4 a5 t0 h = zseg zPP false (zcal []) (zget (999, 0, 0, 0) zc_M_doLanes) (zcut zu_M_doLanes) (zorc [(176, [some (112, some 0), some (0, none), some (0, none), some (0, none), some (0, none), some (0, none), none], [], fun xs h => match xs with
  | [a1, a2, a3, a4, a5] => M_doLanes_176 kr r19 a1 a2 a3 a4 a5 h
  | _ => none)]) kr (fun _ _ => none) 400 122 [some (112, 0), some (0, a1), some (0, a2), some (0, a3), some (0, a4), some (0, a5), none] [(0, t0), (112, 0)] h := qg_M_doLanes_122 kr r19 (M_doLanes_176 kr r19) a1 a2 a3 a4 a5 t0 h
set_option maxRecDepth 100000 in
theorem qg_M_doLanes_157 {ρ : Type} (kr : Int → zH → Option ρ) (r19 : Int → Int → Int → Int → Int → zH → Option ρ) (F_M_doLane : Int → Int → Int → Int → zH → (Int → zH → Option ρ) → Option ρ) (c176 : Int → Int → Int → Int → Int → zH → Option ρ) (a1 a2 a3 a4 a5 : Int) (h : zH) : (F_M_doLane a1 a5 a2 a3 h  fun _ h2 =>
zlet (zset h2 12 0 64 (wr ((zhD h2 12 0 64) + 1))) fun h3 =>
c176 a1 a2 a3 a4 a5 h3) = zseg zPP false (zcal [(117, [some 0, none, none, none, none], fun xs h kr kt => match xs with
  | [x1, x2, x3, x4] => F_M_doLane x1 x2 x3 x4 h kr
  | _ => none)]) (zget (999, 0, 0, 0) zc_M_doLanes) (zcut zu_M_doLanes) (zorc [(176, [some (112, some 0), some (0, none), some (0, none), some (0, none), some (0, none), some (0, none), none], [], fun xs h => match xs with
  | [a1, a2, a3, a4, a5] => c176 a1 a2 a3 a4 a5 h
  | _ => none)]) kr (fun _ _ => none) 400 157 [some (112, 0), some (0, a1), some (0, a2), some (0, a3), some (0, a4), some (0, a5), none] [] h := by rfl
set_option maxRecDepth 100000 in
theorem qe_M_doLanes_157 {ρ : Type} (kr : Int → zH → Option ρ) (r19 : Int → Int → Int → Int → Int → zH → Option ρ) (a1 a2 a3 a4 a5 : Int) (h : zH) : M_doLanes_157 kr r19 a1 a2 a3 a4 a5 h = zseg zPP false (zcal [(117, [some 0, none, none, none, none], fun xs h kr kt => match xs with
  | [x1, x2, x3, x4] => M_doLane x1 x2 x3 x4 h kr
  | _ => none)]) (zget (999, 0, 0, 0) zc_M_doLanes) (zcut zu_M_doLanes) (zorc [(176, [some (112, some 0), some (0, none), some (0, none), some (0, none), some (0, none), some (0, none), none], [], fun xs h => match xs with
  | [a1, a2, a3, a4, a5] => M_doLanes_176 kr r19 a1 a2 a3 a4 a5 h
  | _ => none)]) kr (fun _ _ => none) 400 157 [some (112, 0), some (0, a1), some (0, a2), some (0, a3), some (0, a4), some (0, a5), none] [] h := qg_M_doLanes_157 kr r19 M_doLane (M_doLanes_176 kr r19) a1 a2 a3 a4 a5 h
set_option maxRecDepth 100000 in
theorem qg_M_doLanes_148 {ρ : Type} (kr : Int → zH → Option ρ) (r19 : Int → Int → Int → Int → Int → zH → Option ρ) (F_M_doCell : Int → Int → Int → Int → zH → (Int → zH → Option ρ) → Option ρ) (c157 : Int → Int → Int → Int → Int → zH → Option ρ) (a1 a2 a3 a4 a5 : Int) (h : zH) : (F_M_doCell a1 a5 a2 a3 h  fun _ h2 =>
c157 a1 a2 a3 a4 a5 h2) = zseg zPP false (zcal [(116, [some 0, none, none, none, none], fun xs h kr kt => match xs with
  | [x1, x2, x3, x4] => F_M_doCell x1 x2 x3 x4 h kr
  | _ => none)]) (zget (999, 0, 0, 0) zc_M_doLanes) (zcut zu_M_doLanes) (zorc [(157, [some (112, some 0), some (0, none), some (0, none), some (0, none), some (0, none), some (0, none), none], [], fun xs h => match xs with
  | [a1, a2, a3, a4, a5] => c157 a1 a2 a3 a4 a5 h
  | _ => none)]) kr (fun _ _ => none) 400 148 [some (112, 0), some (0, a1), some (0, a2), some (0, a3), some (0, a4), some (0, a5), none] [] h := by rfl
set_option maxRecDepth 100000 in
theorem qe_M_doLanes_148 {ρ : Type} (kr : Int → zH → Option ρ) (r19 : Int → Int → Int → Int → Int → zH → Option ρ) (a1 a2 a3 a4 a5 : Int) (h : zH) : M_doLanes_148 kr r19 a1 a2 a3 a4 a5 h = zseg zPP false (zcal [(116, [some 0, none, none, none, none], fun xs h kr kt => match xs with
  | [x1, x2, x3, x4] => M_doCell x1 x2 x3 x4 h kr
  | _ => none)]) (zget (999, 0, 0, 0) zc_M_doLanes) (zcut zu_M_doLanes) (zorc [(157, [some (112, some 0), some (0, none), some (0, none), some (0, none), some (0, none), some (0, none), none], [], fun xs h => match xs with
  | [a1, a2, a3, a4, a5] => M_doLanes_157 kr r19 a1 a2 a3 a4 a5 h
  | _ => none)]) kr (fun _ _ => none) 400 148 [some (112, 0), some (0, a1), some (0, a2), some (0, a3), some (0, a4), some (0, a5), none] [] h := qg_M_doLanes_148 kr r19 M_doCell (M_doLanes_157 kr r19) a1 a2 a3 a4 a5 h
set_option maxRecDepth 100000 in
theorem qg_M_doLanes_100 {ρ : Type} (kr : Int → zH → Option ρ) (r19 : Int → Int → Int → Int → Int → zH → Option ρ) (F_M_isGlobal : Int → zH → (Int → zH → Option ρ) → Option ρ) (F_M_isShared : Int → zH → (Int → zH → Option ρ) → Option ρ) (c122 : Int → Int → Int → Int → Int → Int → zH → Option ρ) (c148 : Int → Int → Int → Int → Int → zH → Option ρ) (c157 : Int → Int → Int → Int → Int → zH → Option ρ) (a1 a2 a3 a4 a5 t0 : Int) (h : zH) : (if t0 = 0 then (F_M_isGlobal a2 h  fun v1 h2 =>
if v1 = 0 then (F_M_isShared a2 h2  fun v3 h4 =>
if v3 = 0 then c157 a1 a2 a3 a4 a5 h4
else c148 a1 a2 a3 a4 a5 h4)
else c148 a1 a2 a3 a4 a5 h2)
else F_M_isGlobal a2 h  fun v5 h6 =>
if v5 = 0 then c122 a1 a2 a3 a4 a5 115 h6
else c122 a1 a2 a3 a4 a5 103 h6) = zseg zPP false (zcal [(113, [none], fun xs h kr kt => match xs with
  | [x0] => F_M_isGlobal x0 h kr
  | _ => none), (114, [none], fun xs h kr kt => match xs with
  | [x0] => F_M_isShared x0 h kr
  | _ => none)]) (zget (999, 0, 0, 0) zc_M_doLanes) (zcut zu_M_doLanes) (zorc [(122, [some (112, some 0), some (0, none), some (0, none), some (0, none), some (0, none), some (0, none), none], [(0, none), (112, some 0)], fun xs h => match xs with
  | [a1, a2, a3, a4, a5, t0] => c122 a1 a2 a3 a4 a5 t0 h
  | _ => none), (148, [some (112, some 0), some (0, none), some (0, none), some (0, none), some (0, none), some (0, none), none], [], fun xs h => match xs with
  | [a1, a2, a3, a4, a5] => c148 a1 a2 a3 a4 a5 h
  | _ => none), (157, [some (112, some 0), some (0, none), some (0, none), some (0, none), some (0, none), some (0, none), none], [], fun xs h => match xs with
  | [a1, a2, a3, a4, a5] => c157 a1 a2 a3 a4 a5 h
  | _ => none)]) kr (fun _ _ => none) 400 100 [some (112, 0), some (0, a1), some (0, a2), some (0, a3), some (0, a4), some (0, a5), none] [(0, t0)] h := by rfl
set_option maxRecDepth 100000 in
theorem qe_M_doLanes_100 {ρ : Type} (kr : Int → zH → Option ρ) (r19 : Int → Int → Int → Int → Int → zH → Option ρ) (a1 a2 a3 a4 a5 t0 : Int) (h : zH) : M_doLanes_100 kr r19 a1 a2 a3 a4 a5 t0 h = zseg zPP false (zcal [(113, [none], fun xs h kr kt => match xs with
  | [x0] => M_isGlobal x0 h kr
  | _ => none), (114, [none], fun xs h kr kt => match xs with
  | [x0] => M_isShared x0 h kr
  | _ => none)]) (zget (999, 0, 0, 0) zc_M_doLanes) (zcut zu_M_doLanes) (zorc [(122, [some (112, some 0), some (0, none), some (0, none), some (0, none), some (0, none), some (0, none), none], [(0, none), (112, some 0)], fun xs h => match xs with
  | [a1, a2, a3, a4, a5, t0] => M_doLanes_122 kr r19 a1 a2 a3 a4 a5 t0 h
  | _ => none), (148, [some (112, some 0), some (0, none), some (0, none), some (0, none), some (0, none), some (0, none), none], [], fun xs h => match xs with
  | [a1, a2, a3, a4, a5] => M_doLanes_148 kr r19 a1 a2 a3 a4 a5 h
  | _ => none), (157, [some (112, some 0), some (0, none), some (0, none), some (0, none), some (0, none), some (0, none), none], [], fun xs h => match xs with
  | [a1, a2, a3, a4, a5] => M_doLanes_157 kr r19 a1 a2 a3 a4 a5 h
  | _ => none)]) kr (fun _ _ => none) 400 100 [some (112, 0), some (0, a1), some (0, a2), some (0, a3), some (0, a4), some (0, a5), none] [(0, t0)] h := qg_M_doLanes_100 kr r19 M_isGlobal M_isShared (M_doLanes_122 kr r19) (M_doLanes_148 kr r19) (M_doLanes_157 kr r19) a1 a2 a3 a4 a5 t0 h
set_option maxRecDepth 100000 in
theorem qg_M_doLanes_95 {ρ : Type} (kr : Int → zH → Option ρ) (r19 : Int → Int → Int → Int → Int → zH → Option ρ) (c100 : Int → Int → Int → Int → Int → Int → zH → Option ρ) (a1 a2 a3 a4 a5 : Int) (h : zH) : (c100 a1 a2 a3 a4 a5 1 h) = zseg zPP false (zcal []) (zget (999, 0, 0, 0) zc_M_doLanes) (zcut zu_M_doLanes) (zorc [(100, [some (112, some 0), some (0, none), some (0, none), some (0, none), some (0, none), some (0, none), none], [(0, none)], fun xs h => match xs with
  | [a1, a2, a3, a4, a5, t0] => c100 a1 a2 a3 a4 a5 t0 h
  | _ => none)]) kr (fun _ _ => none) 400 95 [some (112, 0), some (0, a1), some (0, a2), some (0, a3), some (0, a4), some (0, a5), none] [] h := by rfl
set_option maxRecDepth 100000 in
theorem qe_M_doLanes_95 {ρ : Type} (kr : Int → zH → Option ρ) (r19 : Int → Int → Int → Int → Int → zH → Option ρ) (a1 a2 a3 a4 a5 : Int) (h : zH) : M_doLanes_95 kr r19 a1 a2 a3 a4 a5 h = zseg zPP false (zcal []) (zget (999, 0, 0, 0) zc_M_doLanes) (zcut zu_M_doLanes) (zorc [(100, [some (112, some 0), some (0, none), some (0, none), some (0, none), some (0, none), some (0, none), none], [(0, none)], fun xs h => match xs with
  | [a1, a2, a3, a4, a5, t0] => M_doLanes_100 kr r19 a1 a2 a3 a4 a5 t0 h
  | _ => none)]) kr (fun _ _ => none) 400 95 [some (112, 0), some (0, a1), some (0, a2), some (0, a3), some (0, a4), some (0, a5), none] [] h := qg_M_doLanes_95 kr r19 (M_doLanes_100 kr r19) a1 a2 a3 a4 a5 h
set_option maxRecDepth 100000 in
theorem qg_M_doLanes_99 {ρ : Type} (kr : Int → zH → Option ρ) (r19 : Int → Int → Int → Int → Int → zH → Option ρ) (c100 : Int → Int → Int → Int → Int → Int → zH → Option ρ) (a1 a2 a3 a4 a5 : Int) (h : zH) : (c100 a1 a2 a3 a4 a5 0 h) = zseg zPP false (zcal []) (zget (999, 0, 0, 0) zc_M_doLanes) (zcut zu_M_doLanes) (zorc [(100, [some (112, some 0), some (0, none), some (0, none), some (0, none), some (0, none), some (0, none), none], [(0, none)], fun xs h => match xs with
  | [a1, a2, a3, a4, a5, t0] => c100 a1 a2 a3 a4 a5 t0 h
  | _ => none)]) kr (fun _ _ => none) 400 99 [some (112, 0), some (0, a1), some (0, a2), some (0, a3), some (0, a4), some (0, a5), none] [] h := by rfl
set_option maxRecDepth 100000 in
theorem qe_M_doLanes_99 {ρ : Type} (kr : Int → zH → Option ρ) (r19 : Int → Int → Int → Int → Int → zH → Option ρ) (a1 a2 a3 a4 a5 : Int) (h : zH) : M_doLanes_99 kr r19 a1 a2 a3 a4 a5 h = zseg zPP false (zcal []) (zget (999, 0, 0, 0) zc_M_doLanes) (zcut zu_M_doLanes) (zorc [(100, [some (112, some 0), some (0, none), some (0, none), some (0, none), some (0, none), some (0, none), none], [(0, none)], fun xs h => match xs with
  | [a1, a2, a3, a4, a5, t0] => M_doLanes_100 kr r19 a1 a2 a3 a4 a5 t0 h
  | _ => none)]) kr (fun _ _ => none) 400 99 [some (112, 0), some (0, a1), some (0, a2), some (0, a3), some (0, a4), some (0, a5), none] [] h := qg_M_doLanes_99 kr r19 (M_doLanes_100 kr r19) a1 a2 a3 a4 a5 h
set_option maxRecDepth 100000 in
theorem qg_M_doLanes_64 {ρ : Type} (kr : Int → zH → Option ρ) (r19 : Int → Int → Int → Int → Int → zH → Option ρ) (F_M_in : Int → Int → Int → zH → (Int → zH → Option ρ) → Option ρ) (F_M_cellOf : Int → Int → Int → zH → (Int → zH → Option ρ) → Option ρ) (F_M_isShared : Int → zH → (Int → zH → Option ρ) → Option ρ) (c95 : Int → Int → Int → Int → Int → zH → Option ρ) (c99 : Int → Int → Int → Int → Int → zH → Option ρ) (a1 a2 a3 a4 a5 : Int) (h : zH) : (F_M_isShared a2 h  fun v1 h2 =>
if v1 = 0 then c99 a1 a2 a3 a4 a5 h2
else F_M_cellOf a2 a3 a5 h2  fun v3 h4 =>
zix 4 a4 fun j5 =>
F_M_in v3 0 (wr ((zhD h4 62 0 j5) - 1)) h4  fun v6 h7 =>
if v6 = 0 then c95 a1 a2 a3 a4 a5 h7
else c99 a1 a2 a3 a4 a5 h7) = zseg zPP false (zcal [(64, [none, none, none], fun xs h kr kt => match xs with
  | [x0, x1, x2] => F_M_in x0 x1 x2 h kr
  | _ => none), (112, [some 0, none, none, none], fun xs h kr kt => match xs with
  | [x1, x2, x3] => F_M_cellOf x1 x2 x3 h kr
  | _ => none), (114, [none], fun xs h kr kt => match xs with
  | [x0] => F_M_isShared x0 h kr
  | _ => none)]) (zget (999, 0, 0, 0) zc_M_doLanes) (zcut zu_M_doLanes) (zorc [(95, [some (112, some 0), some (0, none), some (0, none), some (0, none), some (0, none), some (0, none), none], [], fun xs h => match xs with
  | [a1, a2, a3, a4, a5] => c95 a1 a2 a3 a4 a5 h
  | _ => none), (99, [some (112, some 0), some (0, none), some (0, none), some (0, none), some (0, none), some (0, none), none], [], fun xs h => match xs with
  | [a1, a2, a3, a4, a5] => c99 a1 a2 a3 a4 a5 h
  | _ => none)]) kr (fun _ _ => none) 400 64 [some (112, 0), some (0, a1), some (0, a2), some (0, a3), some (0, a4), some (0, a5), none] [] h := by rfl
set_option maxRecDepth 100000 in
theorem qe_M_doLanes_64 {ρ : Type} (kr : Int → zH → Option ρ) (r19 : Int → Int → Int → Int → Int → zH → Option ρ) (a1 a2 a3 a4 a5 : Int) (h : zH) : M_doLanes_64 kr r19 a1 a2 a3 a4 a5 h = zseg zPP false (zcal [(64, [none, none, none], fun xs h kr kt => match xs with
  | [x0, x1, x2] => M_in x0 x1 x2 h kr
  | _ => none), (112, [some 0, none, none, none], fun xs h kr kt => match xs with
  | [x1, x2, x3] => M_cellOf x1 x2 x3 h kr
  | _ => none), (114, [none], fun xs h kr kt => match xs with
  | [x0] => M_isShared x0 h kr
  | _ => none)]) (zget (999, 0, 0, 0) zc_M_doLanes) (zcut zu_M_doLanes) (zorc [(95, [some (112, some 0), some (0, none), some (0, none), some (0, none), some (0, none), some (0, none), none], [], fun xs h => match xs with
  | [a1, a2, a3, a4, a5] => M_doLanes_95 kr r19 a1 a2 a3 a4 a5 h
  | _ => none), (99, [some (112, some 0), some (0, none), some (0, none), some (0, none), some (0, none), some (0, none), none], [], fun xs h => match xs with
  | [a1, a2, a3, a4, a5] => M_doLanes_99 kr r19 a1 a2 a3 a4 a5 h
  | _ => none)]) kr (fun _ _ => none) 400 64 [some (112, 0), some (0, a1), some (0, a2), some (0, a3), some (0, a4), some (0, a5), none] [] h := qg_M_doLanes_64 kr r19 M_in M_cellOf M_isShared (M_doLanes_95 kr r19) (M_doLanes_99 kr r19) a1 a2 a3 a4 a5 h
set_option maxRecDepth 100000 in
theorem qg_M_doLanes_182 {ρ : Type} (kr : Int → zH → Option ρ) (h : zH) : (kr 0 h) = zseg zPP false (zcal []) (zget (999, 0, 0, 0) zc_M_doLanes) (zcut zu_M_doLanes) (zorc []) kr (fun _ _ => none) 400 182 [none, none, none, none, none, none, none] [] h := by rfl
set_option maxRecDepth 100000 in
theorem qe_M_doLanes_182 {ρ : Type} (kr : Int → zH → Option ρ) (h : zH) : M_doLanes_182 kr h = zseg zPP false (zcal []) (zget (999, 0, 0, 0) zc_M_doLanes) (zcut zu_M_doLanes) (zorc []) kr (fun _ _ => none) 400 182 [none, none, none, none, none, none, none] [] h := qg_M_doLanes_182 kr h
set_option maxRecDepth 100000 in
theorem qg_M_doLanes_19b {ρ : Type} (kr : Int → zH → Option ρ) (r19 : Int → Int → Int → Int → Int → zH → Option ρ) (F_M_noCell : Int → zH → (Int → zH → Option ρ) → Option ρ) (F_M_isUnder : Int → zH → (Int → zH → Option ρ) → Option ρ) (F_M_cellOf : Int → Int → Int → zH → (Int → zH → Option ρ) → Option ρ) (F_M_isGlobal : Int → zH → (Int → zH → Option ρ) → Option ρ) (c64 : Int → Int → Int → Int → Int → zH → Option ρ) (c95 : Int → Int → Int → Int → Int → zH → Option ρ) (c176 : Int → Int → Int → Int → Int → zH → Option ρ) (c182 : zH → Option ρ) (a1 a2 a3 a4 a5 : Int) (h : zH) : (if a5 < 4 then (if (zhD h 12 0 66) = 45 then (F_M_isUnder a5 h  fun v1 h2 =>
if v1 = 0 then c176 a1 a2 a3 a4 a5 h2
else F_M_isGlobal a2 h2  fun v3 h4 =>
if v3 = 0 then c64 a1 a2 a3 a4 a5 h4
else F_M_cellOf a2 a3 a5 h4  fun v5 h6 =>
F_M_noCell v5 h6  fun v7 h8 =>
if v7 = 0 then c64 a1 a2 a3 a4 a5 h8
else c95 a1 a2 a3 a4 a5 h8)
else c182 h)
else c182 h) = zseg zPP false (zcal [(68, [none], fun xs h kr kt => match xs with
  | [x0] => F_M_noCell x0 h kr
  | _ => none), (108, [some 0, none], fun xs h kr kt => match xs with
  | [x1] => F_M_isUnder x1 h kr
  | _ => none), (112, [some 0, none, none, none], fun xs h kr kt => match xs with
  | [x1, x2, x3] => F_M_cellOf x1 x2 x3 h kr
  | _ => none), (113, [none], fun xs h kr kt => match xs with
  | [x0] => F_M_isGlobal x0 h kr
  | _ => none)]) (zget (999, 0, 0, 0) zc_M_doLanes) (zcut zu_M_doLanes) (zorc [(64, [some (112, some 0), some (0, none), some (0, none), some (0, none), some (0, none), some (0, none), none], [], fun xs h => match xs with
  | [a1, a2, a3, a4, a5] => c64 a1 a2 a3 a4 a5 h
  | _ => none), (95, [some (112, some 0), some (0, none), some (0, none), some (0, none), some (0, none), some (0, none), none], [], fun xs h => match xs with
  | [a1, a2, a3, a4, a5] => c95 a1 a2 a3 a4 a5 h
  | _ => none), (176, [some (112, some 0), some (0, none), some (0, none), some (0, none), some (0, none), some (0, none), none], [], fun xs h => match xs with
  | [a1, a2, a3, a4, a5] => c176 a1 a2 a3 a4 a5 h
  | _ => none), (182, [none, none, none, none, none, none, none], [], fun xs h => match xs with
  | [] => c182 h
  | _ => none)]) kr (fun _ _ => none) 400 19 [some (112, 0), some (0, a1), some (0, a2), some (0, a3), some (0, a4), some (0, a5), none] [] h := by rfl
set_option maxRecDepth 100000 in
theorem qe_M_doLanes_19b {ρ : Type} (kr : Int → zH → Option ρ) (r19 : Int → Int → Int → Int → Int → zH → Option ρ) (a1 a2 a3 a4 a5 : Int) (h : zH) : M_doLanes_19b kr r19 a1 a2 a3 a4 a5 h = zseg zPP false (zcal [(68, [none], fun xs h kr kt => match xs with
  | [x0] => M_noCell x0 h kr
  | _ => none), (108, [some 0, none], fun xs h kr kt => match xs with
  | [x1] => M_isUnder x1 h kr
  | _ => none), (112, [some 0, none, none, none], fun xs h kr kt => match xs with
  | [x1, x2, x3] => M_cellOf x1 x2 x3 h kr
  | _ => none), (113, [none], fun xs h kr kt => match xs with
  | [x0] => M_isGlobal x0 h kr
  | _ => none)]) (zget (999, 0, 0, 0) zc_M_doLanes) (zcut zu_M_doLanes) (zorc [(64, [some (112, some 0), some (0, none), some (0, none), some (0, none), some (0, none), some (0, none), none], [], fun xs h => match xs with
  | [a1, a2, a3, a4, a5] => M_doLanes_64 kr r19 a1 a2 a3 a4 a5 h
  | _ => none), (95, [some (112, some 0), some (0, none), some (0, none), some (0, none), some (0, none), some (0, none), none], [], fun xs h => match xs with
  | [a1, a2, a3, a4, a5] => M_doLanes_95 kr r19 a1 a2 a3 a4 a5 h
  | _ => none), (176, [some (112, some 0), some (0, none), some (0, none), some (0, none), some (0, none), some (0, none), none], [], fun xs h => match xs with
  | [a1, a2, a3, a4, a5] => M_doLanes_176 kr r19 a1 a2 a3 a4 a5 h
  | _ => none), (182, [none, none, none, none, none, none, none], [], fun xs h => match xs with
  | [] => M_doLanes_182 kr h
  | _ => none)]) kr (fun _ _ => none) 400 19 [some (112, 0), some (0, a1), some (0, a2), some (0, a3), some (0, a4), some (0, a5), none] [] h := qg_M_doLanes_19b kr r19 M_noCell M_isUnder M_cellOf M_isGlobal (M_doLanes_64 kr r19) (M_doLanes_95 kr r19) (M_doLanes_176 kr r19) (M_doLanes_182 kr) a1 a2 a3 a4 a5 h
set_option maxRecDepth 100000 in
theorem qg_M_doLanes {ρ : Type} (kr : Int → zH → Option ρ) (c19 : Int → Int → Int → Int → Int → zH → Option ρ) (a1 a2 a3 : Int) (h : zH) : (zix 8 a1 fun j1 =>
zix 12 (wr (Int.tdiv (zhD h 94 0 j1) 6)) fun j2 =>
c19 a1 a2 a3 (zhD h 70 0 j2) 0 h) = zseg zPP false (zcal []) (zget (999, 0, 0, 0) zc_M_doLanes) (zcut zu_M_doLanes) (zorc [(19, [some (112, some 0), some (0, none), some (0, none), some (0, none), some (0, none), some (0, none), none], [], fun xs h => match xs with
  | [a1, a2, a3, a4, a5] => c19 a1 a2 a3 a4 a5 h
  | _ => none)]) kr (fun _ _ => none) 400 0 [some (112, 0), some (0, a1), some (0, a2), some (0, a3), none, none, none] [] h := by rfl
set_option maxRecDepth 100000 in
theorem qe_M_doLanes {ρ : Type} (kr : Int → zH → Option ρ) (a1 a2 a3 : Int) (h : zH) : M_doLanes a1 a2 a3 h kr = zseg zPP false (zcal []) (zget (999, 0, 0, 0) zc_M_doLanes) (zcut zu_M_doLanes) (zorc [(19, [some (112, some 0), some (0, none), some (0, none), some (0, none), some (0, none), some (0, none), none], [], fun xs h => match xs with
  | [a1, a2, a3, a4, a5] => M_doLanes_19 kr a1 a2 a3 a4 a5 h
  | _ => none)]) kr (fun _ _ => none) 400 0 [some (112, 0), some (0, a1), some (0, a2), some (0, a3), none, none, none] [] h := qg_M_doLanes kr (M_doLanes_19 kr) a1 a2 a3 h
def zc_M_carryOut : List zI := [(0, 4, 0, 0), (10, 0, 1, 0), (32, 0, 0, 0), (10, 0, 2, 0), (30, 0, 0, 0), (16, 0, 3, 0), (14, 0, 0, 112), (80, 12, 118, 39), (999, 0, 0, 0), (999, 0, 0, 0), (10, 0, 3, 0), (90, 0, 0, 94), (17, 0, 4, 0), (999, 0, 0, 0), (11, 0, 4, 0), (999, 0, 0, 0), (1, 6, 0, 0), (999, 0, 0, 0), (33, 0, 0, 0), (17, 0, 5, 0), (999, 0, 0, 0), (14, 0, 0, 112), (10, 0, 3, 0), (110, 0, 278, 103), (999, 0, 0, 0), (999, 0, 0, 0), (17, 0, 6, 0), (999, 0, 0, 0), (1, 40, 0, 0), (999, 0, 0, 0), (14, 0, 0, 112), (80, 12, 46, 15), (999, 0, 0, 0), (999, 0, 0, 0), (11, 0, 5, 0), (999, 0, 0, 0), (90, 0, 0, 70), (32, 0, 0, 0), (11, 0, 6, 0), (999, 0, 0, 0), (30, 0, 0, 0), (17, 0, 7, 0), (999, 0, 0, 0), (14, 0, 0, 112), (80, 12, 30, 9), (999, 0, 0, 0), (999, 0, 0, 0), (11, 0, 7, 0), (999, 0, 0, 0), (92, 0, 0, 65), (17, 0, 8, 0), (999, 0, 0, 0), (14, 0, 0, 112), (14, 0, 0, 112), (10, 0, 3, 0), (110, 0, 363, 104), (999, 0, 0, 0), (999, 0, 0, 0), (82, 12, 284, 63), (999, 0, 0, 0), (999, 0, 0, 0), (0, 0, 0, 0), (17, 0, 9, 0), (999, 0, 0, 0), (11, 0, 9, 0), (999, 0, 0, 0), (0, 4, 0, 0), (69, 52, 119, 0), (999, 0, 0, 0), (999, 0, 0, 0), (0, 0, 0, 0), (17, 0, 10, 0), (999, 0, 0, 0), (11, 0, 10, 0), (999, 0, 0, 0), (1, 8, 0, 0), (999, 0, 0, 0), (69, 36, 113, 0), (999, 0, 0, 0), (999, 0, 0, 0), (14, 0, 0, 112), (80, 12, 164, 62), (999, 0, 0, 0), (999, 0, 0, 0), (1, 8, 0, 0), (999, 0, 0, 0), (11, 0, 9, 0), (999, 0, 0, 0), (32, 0, 0, 0), (11, 0, 10, 0), (999, 0, 0, 0), (30, 0, 0, 0), (14, 0, 0, 112), (80, 12, 109, 36), (999, 0, 0, 0), (999, 0, 0, 0), (14, 0, 0, 112), (10, 0, 3, 0), (11, 0, 9, 0), (999, 0, 0, 0), (11, 0, 10, 0), (999, 0, 0, 0), (110, 0, 281, 105), (999, 0, 0, 0), (999, 0, 0, 0), (90, 0, 0, 91), (95, 0, 0, 109), (22, 1, 10, 0), (999, 0, 0, 0), (999, 0, 0, 0), (72, (-37), 73, 0), (999, 0, 0, 0), (999, 0, 0, 0), (22, 1, 9, 0), (999, 0, 0, 0), (999, 0, 0, 0), (72, (-52), 64, 0), (999, 0, 0, 0), (999, 0, 0, 0), (14, 0, 0, 112), (0, 0, 0, 0), (82, 12, 360, 64), (999, 0, 0, 0), (999, 0, 0, 0), (14, 0, 0, 112), (0, 0, 0, 0), (82, 12, 315, 65), (999, 0, 0, 0), (999, 0, 0, 0), (14, 0, 0, 112), (1, 45, 0, 0), (999, 0, 0, 0), (82, 12, 344, 66), (999, 0, 0, 0), (999, 0, 0, 0), (11, 0, 8, 0), (999, 0, 0, 0), (1, 97, 0, 0), (999, 0, 0, 0), (66, 17, 156, 0), (999, 0, 0, 0), (999, 0, 0, 0), (11, 0, 8, 0), (999, 0, 0, 0), (1, 120, 0, 0), (999, 0, 0, 0), (66, 10, 156, 0), (999, 0, 0, 0), (999, 0, 0, 0), (11, 0, 8, 0), (999, 0, 0, 0), (1, 98, 0, 0), (999, 0, 0, 0), (67, 9, 162, 0), (999, 0, 0, 0), (999, 0, 0, 0), (14, 0, 0, 112), (10, 0, 3, 0), (110, 0, 269, 98), (999, 0, 0, 0), (999, 0, 0, 0), (52, 0, 0, 0), (11, 0, 8, 0), (999, 0, 0, 0), (1, 102, 0, 0), (999, 0, 0, 0), (67, 12, 178, 0), (999, 0, 0, 0), (999, 0, 0, 0), (14, 0, 0, 112), (14, 0, 0, 112), (10, 0, 3, 0), (110, 0, 269, 98), (999, 0, 0, 0), (999, 0, 0, 0), (82, 12, 315, 65), (999, 0, 0, 0), (999, 0, 0, 0), (14, 0, 0, 112), (10, 0, 3, 0), (11, 0, 8, 0), (999, 0, 0, 0), (11, 0, 7, 0), (999, 0, 0, 0), (110, 0, 366, 122), (999, 0, 0, 0), (999, 0, 0, 0), (14, 0, 0, 112), (50, 0, 0, 0), (80, 12, 370, 55), (999, 0, 0, 0), (999, 0, 0, 0), (0, 1, 0, 0), (30, 0, 0, 0), (82, 12, 370, 55), (999, 0, 0, 0), (999, 0, 0, 0), (14, 0, 0, 112), (50, 0, 0, 0), (80, 12, 373, 54), (999, 0, 0, 0), (999, 0, 0, 0), (14, 0, 0, 112), (80, 12, 360, 64), (999, 0, 0, 0), (999, 0, 0, 0), (42, 0, 0, 0), (45, 0, 0, 0), (82, 12, 373, 54), (999, 0, 0, 0), (999, 0, 0, 0), (14, 0, 0, 112), (80, 12, 136, 45), (999, 0, 0, 0), (999, 0, 0, 0), (10, 0, 1, 0), (11, 0, 4, 0), (999, 0, 0, 0), (95, 0, 0, 100), (14, 0, 0, 112), (80, 12, 139, 46), (999, 0, 0, 0), (999, 0, 0, 0), (10, 0, 1, 0), (14, 0, 0, 112), (80, 12, 121, 40), (999, 0, 0, 0), (999, 0, 0, 0), (10, 0, 3, 0), (90, 0, 0, 95), (95, 0, 0, 101), (14, 0, 0, 112), (80, 12, 344, 66), (999, 0, 0, 0), (999, 0, 0, 0), (1, 45, 0, 0), (999, 0, 0, 0), (66, 34, 271, 0), (999, 0, 0, 0), (999, 0, 0, 0), (14, 0, 0, 112), (11, 0, 5, 0), (999, 0, 0, 0), (14, 0, 0, 112), (80, 12, 344, 66), (999, 0, 0, 0), (999, 0, 0, 0), (11, 0, 4, 0), (999, 0, 0, 0), (1, 6, 0, 0), (999, 0, 0, 0), (34, 0, 0, 0), (0, 4, 0, 0), (14, 0, 0, 112), (80, 12, 121, 40), (999, 0, 0, 0), (999, 0, 0, 0), (10, 0, 3, 0), (90, 0, 0, 95), (32, 0, 0, 0), (14, 0, 0, 112), (80, 12, 350, 67), (999, 0, 0, 0), (999, 0, 0, 0), (30, 0, 0, 0), (11, 0, 6, 0), (999, 0, 0, 0), (110, 0, 256, 92), (999, 0, 0, 0), (999, 0, 0, 0), (133, 0, 0, 0), (14, 0, 0, 112), (10, 0, 1, 0), (11, 0, 8, 0), (999, 0, 0, 0), (11, 0, 7, 0), (999, 0, 0, 0), (110, 0, 377, 118), (999, 0, 0, 0), (999, 0, 0, 0), (17, 0, 9, 0), (999, 0, 0, 0), (14, 0, 0, 112), (50, 0, 0, 0), (80, 12, 381, 56), (999, 0, 0, 0), (999, 0, 0, 0), (0, 1, 0, 0), (30, 0, 0, 0), (82, 12, 381, 56), (999, 0, 0, 0), (999, 0, 0, 0), (14, 0, 0, 112), (50, 0, 0, 0), (80, 12, 384, 57), (999, 0, 0, 0), (999, 0, 0, 0), (11, 0, 9, 0), (999, 0, 0, 0), (30, 0, 0, 0), (82, 12, 384, 57), (999, 0, 0, 0), (999, 0, 0, 0), (14, 0, 0, 112), (50, 0, 0, 0), (80, 12, 387, 59), (999, 0, 0, 0), (999, 0, 0, 0), (11, 0, 8, 0), (999, 0, 0, 0), (113, 0, 297, 114), (999, 0, 0, 0), (999, 0, 0, 0), (60, 10, 323, 0), (999, 0, 0, 0), (999, 0, 0, 0), (11, 0, 9, 0), (999, 0, 0, 0), (0, 1, 0, 0), (31, 0, 0, 0), (72, 4, 324, 0), (999, 0, 0, 0), (999, 0, 0, 0), (0, 0, 0, 0), (30, 0, 0, 0), (82, 12, 387, 59), (999, 0, 0, 0), (999, 0, 0, 0), (14, 0, 0, 112), (80, 12, 124, 41), (999, 0, 0, 0), (999, 0, 0, 0), (10, 0, 3, 0), (14, 0, 0, 112), (80, 12, 390, 1), (999, 0, 0, 0), (999, 0, 0, 0), (11, 0, 9, 0), (999, 0, 0, 0), (30, 0, 0, 0), (95, 0, 0, 96), (14, 0, 0, 112), (11, 0, 4, 0), (999, 0, 0, 0), (110, 0, 393, 100), (999, 0, 0, 0), (999, 0, 0, 0), (133, 0, 0, 0)]
def zu_M_carryOut : List (Nat × List Bool) := [(64, [true, true, false, true, true, true, true, true, true, true, false]), (73, [true, true, false, true, true, true, true, true, true, true, true]), (156, [true, true, false, true, true, true, true, true, true, false, false]), (162, [true, true, false, true, true, true, true, true, true, false, false]), (178, [true, true, false, true, true, true, true, true, true, false, false]), (324, [true, false, false, true, true, false, false, false, false, true, false])]
set_option maxRecDepth 100000 in
theorem qg_M_carryOut_73b {ρ : Type} (kr : Int → zH → Option ρ) (r64 : Int → Int → Int → Int → Int → Int → Int → Int → zH → Option ρ) (r73 : Int → Int → Int → Int → Int → Int → Int → Int → Int → zH → Option ρ) (F_M_registerCell : Int → Int → Int → zH → (Int → zH → Option ρ) → Option ρ) (a1 a3 a4 a5 a6 a7 a8 a9 a10 : Int) (h : zH) : (if a10 < 8 then (F_M_registerCell a3 a9 a10 h  fun v1 h2 =>
zix 9216 v1 fun j3 =>
zix 32 (wr ((wr (8 * a9)) + a10)) fun j4 =>
zlet (zset h2 109 0 j4 (zhD h2 91 0 j3)) fun h5 =>
r73 a1 a3 a4 a5 a6 a7 a8 a9 (wr (a10 + 1)) h5)
else r64 a1 a3 a4 a5 a6 a7 a8 (wr (a9 + 1)) h) = zseg zPP false (zcal [(105, [some 0, none, none, none], fun xs h kr kt => match xs with
  | [x1, x2, x3] => F_M_registerCell x1 x2 x3 h kr
  | _ => none)]) (zget (999, 0, 0, 0) zc_M_carryOut) (zcut zu_M_carryOut) (zorc [(64, [some (112, some 0), some (0, none), none, some (0, none), some (0, none), some (0, none), some (0, none), some (0, none), some (0, none), some (0, none), none], [], fun xs h => match xs with
  | [a1, a3, a4, a5, a6, a7, a8, a9] => r64 a1 a3 a4 a5 a6 a7 a8 a9 h
  | _ => none), (73, [some (112, some 0), some (0, none), none, some (0, none), some (0, none), some (0, none), some (0, none), some (0, none), some (0, none), some (0, none), some (0, none)], [], fun xs h => match xs with
  | [a1, a3, a4, a5, a6, a7, a8, a9, a10] => r73 a1 a3 a4 a5 a6 a7 a8 a9 a10 h
  | _ => none)]) kr (fun _ _ => none) 400 73 [some (112, 0), some (0, a1), none, some (0, a3), some (0, a4), some (0, a5), some (0, a6), some (0, a7), some (0, a8), some (0, a9), some (0, a10)] [] h := by rfl
set_option maxRecDepth 100000 in
theorem qe_M_carryOut_73b {ρ : Type} (kr : Int → zH → Option ρ) (r64 : Int → Int → Int → Int → Int → Int → Int → Int → zH → Option ρ) (r73 : Int → Int → Int → Int → Int → Int → Int → Int → Int → zH → Option ρ) (a1 a3 a4 a5 a6 a7 a8 a9 a10 : Int) (h : zH) : M_carryOut_73b kr r64 r73 a1 a3 a4 a5 a6 a7 a8 a9 a10 h = zseg zPP false (zcal [(105, [some 0, none, none, none], fun xs h kr kt => match xs with
  | [x1, x2, x3] => M_registerCell x1 x2 x3 h kr
  | _ => none)]) (zget (999, 0, 0, 0) zc_M_carryOut) (zcut zu_M_carryOut) (zorc [(64, [some (112, some 0), some (0, none), none, some (0, none), some (0, none), some (0, none), some (0, none), some (0, none), some (0, none), some (0, none), none], [], fun xs h => match xs with
  | [a1, a3, a4, a5, a6, a7, a8, a9] => r64 a1 a3 a4 a5 a6 a7 a8 a9 h
  | _ => none), (73, [some (112, some 0), some (0, none), none, some (0, none), some (0, none), some (0, none), some (0, none), some (0, none), some (0, none), some (0, none), some (0, none)], [], fun xs h => match xs with
  | [a1, a3, a4, a5, a6, a7, a8, a9, a10] => r73 a1 a3 a4 a5 a6 a7 a8 a9 a10 h
  | _ => none)]) kr (fun _ _ => none) 400 73 [some (112, 0), some (0, a1), none, some (0, a3), some (0, a4), some (0, a5), some (0, a6), some (0, a7), some (0, a8), some (0, a9), some (0, a10)] [] h := qg_M_carryOut_73b kr r64 r73 M_registerCell a1 a3 a4 a5 a6 a7 a8 a9 a10 h
set_option maxRecDepth 100000 in
theorem qg_M_carryOut_324 {ρ : Type} (kr : Int → zH → Option ρ) (F_M_settle : Int → zH → (Int → zH → Option ρ) → Option ρ) (a3 a4 a9 t0 t1 : Int) (h : zH) : (zlet (zset h 12 0 59 (wr (t1 + t0))) fun h1 =>
zix 8 a3 fun j2 =>
zlet (zset h1 96 0 j2 (wr ((zhD h1 12 0 1) + a9))) fun h3 =>
F_M_settle a4 h3  fun _ h5 =>
kr 0 h5) = zseg zPP false (zcal [(100, [some 0, none], fun xs h kr kt => match xs with
  | [x1] => F_M_settle x1 h kr
  | _ => none)]) (zget (999, 0, 0, 0) zc_M_carryOut) (zcut zu_M_carryOut) (zorc []) kr (fun _ _ => none) 400 324 [some (112, 0), none, none, some (0, a3), some (0, a4), none, none, none, none, some (0, a9), none] [(0, t0), (0, t1), (112, 0)] h := by rfl
set_option maxRecDepth 100000 in
theorem qe_M_carryOut_324 {ρ : Type} (kr : Int → zH → Option ρ) (a3 a4 a9 t0 t1 : Int) (h : zH) : M_carryOut_324 kr a3 a4 a9 t0 t1 h = zseg zPP false (zcal [(100, [some 0, none], fun xs h kr kt => match xs with
  | [x1] => M_settle x1 h kr
  | _ => none)]) (zget (999, 0, 0, 0) zc_M_carryOut) (zcut zu_M_carryOut) (zorc []) kr (fun _ _ => none) 400 324 [some (112, 0), none, none, some (0, a3), some (0, a4), none, none, none, none, some (0, a9), none] [(0, t0), (0, t1), (112, 0)] h := qg_M_carryOut_324 kr M_settle a3 a4 a9 t0 t1 h
set_option maxRecDepth 100000 in
theorem qg_M_carryOut_178 {ρ : Type} (kr : Int → zH → Option ρ) (F_M_fail : Int → Int → Int → Int → Int → zH → (Int → zH → Option ρ) → Option ρ) (F_M_isShared : Int → zH → (Int → zH → Option ρ) → Option ρ) (F_M_delayOf : Int → Int → Int → zH → (Int → zH → Option ρ) → Option ρ) (F_M_doLanes : Int → Int → Int → zH → (Int → zH → Option ρ) → Option ρ) (c324 : Int → Int → Int → Int → Int → zH → Option ρ) (a1 a3 a4 a5 a6 a7 a8 : Int) (h : zH) : (F_M_doLanes a3 a8 a7 h  fun _ h2 =>
zlet (zset h2 12 0 55 (wr ((zhD h2 12 0 55) + 1))) fun h3 =>
zlet (zset h3 12 0 54 (wrl ((zhD h3 12 0 54) + (zhD h3 12 0 64)))) fun h4 =>
zix 2 a1 fun j5 =>
zlet (zset h4 100 0 j5 a4) fun h6 =>
zix 8 a3 fun j7 =>
zix 2 a1 fun j8 =>
zlet (zset h6 101 0 j8 (zhD h6 95 0 j7)) fun h9 =>
if (zhD h9 12 0 66) = 45 then (F_M_delayOf a1 a8 a7 h9  fun v10 h11 =>
zlet (zset h11 12 0 56 (wr ((zhD h11 12 0 56) + 1))) fun h12 =>
zlet (zset h12 12 0 57 (wr ((zhD h12 12 0 57) + v10))) fun h13 =>
F_M_isShared a8 h13  fun v14 h15 =>
if v14 = 0 then c324 a3 a4 v10 0 (zhD h13 12 0 59) h15
else c324 a3 a4 v10 (wr (v10 - 1)) (zhD h13 12 0 59) h15)
else zix 8 a3 fun j16 =>
F_M_fail a5 (zhD h9 12 0 66) (Int.tmod a4 6) (wr ((wr (4 * (zhD h9 95 0 j16))) + (zhD h9 12 0 67))) a6 h9  fun _ h18 =>
kr 0 h18) = zseg zPP false (zcal [(92, [some 0, none, none, none, none, none], fun xs h kr kt => match xs with
  | [x1, x2, x3, x4, x5] => F_M_fail x1 x2 x3 x4 x5 h kr
  | _ => none), (114, [none], fun xs h kr kt => match xs with
  | [x0] => F_M_isShared x0 h kr
  | _ => none), (118, [some 0, none, none, none], fun xs h kr kt => match xs with
  | [x1, x2, x3] => F_M_delayOf x1 x2 x3 h kr
  | _ => none), (122, [some 0, none, none, none], fun xs h kr kt => match xs with
  | [x1, x2, x3] => F_M_doLanes x1 x2 x3 h kr
  | _ => none)]) (zget (999, 0, 0, 0) zc_M_carryOut) (zcut zu_M_carryOut) (zorc [(324, [some (112, some 0), none, none, some (0, none), some (0, none), none, none, none, none, some (0, none), none], [(0, none), (0, none), (112, some 0)], fun xs h => match xs with
  | [a3, a4, a9, t0, t1] => c324 a3 a4 a9 t0 t1 h
  | _ => none)]) kr (fun _ _ => none) 400 178 [some (112, 0), some (0, a1), none, some (0, a3), some (0, a4), some (0, a5), some (0, a6), some (0, a7), some (0, a8), none, none] [] h := by rfl
set_option maxRecDepth 100000 in
theorem qe_M_carryOut_178 {ρ : Type} (kr : Int → zH → Option ρ) (a1 a3 a4 a5 a6 a7 a8 : Int) (h : zH) : M_carryOut_178 kr a1 a3 a4 a5 a6 a7 a8 h = zseg zPP false (zcal [(92, [some 0, none, none, none, none, none], fun xs h kr kt => match xs with
  | [x1, x2, x3, x4, x5] => M_fail x1 x2 x3 x4 x5 h kr
  | _ => none), (114, [none], fun xs h kr kt => match xs with
  | [x0] => M_isShared x0 h kr
  | _ => none), (118, [some 0, none, none, none], fun xs h kr kt => match xs with
  | [x1, x2, x3] => M_delayOf x1 x2 x3 h kr
  | _ => none), (122, [some 0, none, none, none], fun xs h kr kt => match xs with
  | [x1, x2, x3] => M_doLanes x1 x2 x3 h kr
  | _ => none)]) (zget (999, 0, 0, 0) zc_M_carryOut) (zcut zu_M_carryOut) (zorc [(324, [some (112, some 0), none, none, some (0, none), some (0, none), none, none, none, none, some (0, none), none], [(0, none), (0, none), (112, some 0)], fun xs h => match xs with
  | [a3, a4, a9, t0, t1] => M_carryOut_324 kr a3 a4 a9 t0 t1 h
  | _ => none)]) kr (fun _ _ => none) 400 178 [some (112, 0), some (0, a1), none, some (0, a3), some (0, a4), some (0, a5), some (0, a6), some (0, a7), some (0, a8), none, none] [] h := qg_M_carryOut_178 kr M_fail M_isShared M_delayOf M_doLanes (M_carryOut_324 kr) a1 a3 a4 a5 a6 a7 a8 h
set_option maxRecDepth 100000 in
theorem qg_M_carryOut_162 {ρ : Type} (kr : Int → zH → Option ρ) (F_M_writeAll : Int → zH → (Int → zH → Option ρ) → Option ρ) (c178 : Int → Int → Int → Int → Int → Int → Int → zH → Option ρ) (a1 a3 a4 a5 a6 a7 a8 : Int) (h : zH) : (if a8 = 102 then (F_M_writeAll a3 h  fun v1 h2 =>
zlet (zset h2 12 0 65 v1) fun h3 =>
c178 a1 a3 a4 a5 a6 a7 a8 h3)
else c178 a1 a3 a4 a5 a6 a7 a8 h) = zseg zPP false (zcal [(98, [some 0, none], fun xs h kr kt => match xs with
  | [x1] => F_M_writeAll x1 h kr
  | _ => none)]) (zget (999, 0, 0, 0) zc_M_carryOut) (zcut zu_M_carryOut) (zorc [(178, [some (112, some 0), some (0, none), none, some (0, none), some (0, none), some (0, none), some (0, none), some (0, none), some (0, none), none, none], [], fun xs h => match xs with
  | [a1, a3, a4, a5, a6, a7, a8] => c178 a1 a3 a4 a5 a6 a7 a8 h
  | _ => none)]) kr (fun _ _ => none) 400 162 [some (112, 0), some (0, a1), none, some (0, a3), some (0, a4), some (0, a5), some (0, a6), some (0, a7), some (0, a8), none, none] [] h := by rfl
set_option maxRecDepth 100000 in
theorem qe_M_carryOut_162 {ρ : Type} (kr : Int → zH → Option ρ) (a1 a3 a4 a5 a6 a7 a8 : Int) (h : zH) : M_carryOut_162 kr a1 a3 a4 a5 a6 a7 a8 h = zseg zPP false (zcal [(98, [some 0, none], fun xs h kr kt => match xs with
  | [x1] => M_writeAll x1 h kr
  | _ => none)]) (zget (999, 0, 0, 0) zc_M_carryOut) (zcut zu_M_carryOut) (zorc [(178, [some (112, some 0), some (0, none), none, some (0, none), some (0, none), some (0, none), some (0, none), some (0, none), some (0, none), none, none], [], fun xs h => match xs with
  | [a1, a3, a4, a5, a6, a7, a8] => M_carryOut_178 kr a1 a3 a4 a5 a6 a7 a8 h
  | _ => none)]) kr (fun _ _ => none) 400 162 [some (112, 0), some (0, a1), none, some (0, a3), some (0, a4), some (0, a5), some (0, a6), some (0, a7), some (0, a8), none, none] [] h := qg_M_carryOut_162 kr M_writeAll (M_carryOut_178 kr) a1 a3 a4 a5 a6 a7 a8 h
set_option maxRecDepth 100000 in
theorem qg_M_carryOut_156 {ρ : Type} (kr : Int → zH → Option ρ) (F_M_writeAll : Int → zH → (Int → zH → Option ρ) → Option ρ) (c162 : Int → Int → Int → Int → Int → Int → Int → zH → Option ρ) (a1 a3 a4 a5 a6 a7 a8 : Int) (h : zH) : (F_M_writeAll a3 h  fun v1 h2 =>
c162 a1 a3 a4 a5 a6 a7 a8 h2) = zseg zPP false (zcal [(98, [some 0, none], fun xs h kr kt => match xs with
  | [x1] => F_M_writeAll x1 h kr
  | _ => none)]) (zget (999, 0, 0, 0) zc_M_carryOut) (zcut zu_M_carryOut) (zorc [(162, [some (112, some 0), some (0, none), none, some (0, none), some (0, none), some (0, none), some (0, none), some (0, none), some (0, none), none, none], [], fun xs h => match xs with
  | [a1, a3, a4, a5, a6, a7, a8] => c162 a1 a3 a4 a5 a6 a7 a8 h
  | _ => none)]) kr (fun _ _ => none) 400 156 [some (112, 0), some (0, a1), none, some (0, a3), some (0, a4), some (0, a5), some (0, a6), some (0, a7), some (0, a8), none, none] [] h := by rfl
set_option maxRecDepth 100000 in
theorem qe_M_carryOut_156 {ρ : Type} (kr : Int → zH → Option ρ) (a1 a3 a4 a5 a6 a7 a8 : Int) (h : zH) : M_carryOut_156 kr a1 a3 a4 a5 a6 a7 a8 h = zseg zPP false (zcal [(98, [some 0, none], fun xs h kr kt => match xs with
  | [x1] => M_writeAll x1 h kr
  | _ => none)]) (zget (999, 0, 0, 0) zc_M_carryOut) (zcut zu_M_carryOut) (zorc [(162, [some (112, some 0), some (0, none), none, some (0, none), some (0, none), some (0, none), some (0, none), some (0, none), some (0, none), none, none], [], fun xs h => match xs with
  | [a1, a3, a4, a5, a6, a7, a8] => M_carryOut_162 kr a1 a3 a4 a5 a6 a7 a8 h
  | _ => none)]) kr (fun _ _ => none) 400 156 [some (112, 0), some (0, a1), none, some (0, a3), some (0, a4), some (0, a5), some (0, a6), some (0, a7), some (0, a8), none, none] [] h := qg_M_carryOut_156 kr M_writeAll (M_carryOut_162 kr) a1 a3 a4 a5 a6 a7 a8 h
set_option maxRecDepth 100000 in
theorem qg_M_carryOut_64b {ρ : Type} (kr : Int → zH → Option ρ) (r64 : Int → Int → Int → Int → Int → Int → Int → Int → zH → Option ρ) (c73 : Int → Int → Int → Int → Int → Int → Int → Int → Int → zH → Option ρ) (c156 : Int → Int → Int → Int → Int → Int → Int → zH → Option ρ) (c162 : Int → Int → Int → Int → Int → Int → Int → zH → Option ρ) (a1 a3 a4 a5 a6 a7 a8 a9 : Int) (h : zH) : (if a9 < 4 then c73 a1 a3 a4 a5 a6 a7 a8 a9 0 h
else zlet (zset h 12 0 64 0) fun h1 =>
zlet (zset h1 12 0 65 0) fun h2 =>
zlet (zset h2 12 0 66 45) fun h3 =>
if a8 = 97 then c156 a1 a3 a4 a5 a6 a7 a8 h3
else if a8 = 120 then c156 a1 a3 a4 a5 a6 a7 a8 h3
else if a8 = 98 then c156 a1 a3 a4 a5 a6 a7 a8 h3
else c162 a1 a3 a4 a5 a6 a7 a8 h3) = zseg zPP false (zcal []) (zget (999, 0, 0, 0) zc_M_carryOut) (zcut zu_M_carryOut) (zorc [(73, [some (112, some 0), some (0, none), none, some (0, none), some (0, none), some (0, none), some (0, none), some (0, none), some (0, none), some (0, none), some (0, none)], [], fun xs h => match xs with
  | [a1, a3, a4, a5, a6, a7, a8, a9, a10] => c73 a1 a3 a4 a5 a6 a7 a8 a9 a10 h
  | _ => none), (156, [some (112, some 0), some (0, none), none, some (0, none), some (0, none), some (0, none), some (0, none), some (0, none), some (0, none), none, none], [], fun xs h => match xs with
  | [a1, a3, a4, a5, a6, a7, a8] => c156 a1 a3 a4 a5 a6 a7 a8 h
  | _ => none), (162, [some (112, some 0), some (0, none), none, some (0, none), some (0, none), some (0, none), some (0, none), some (0, none), some (0, none), none, none], [], fun xs h => match xs with
  | [a1, a3, a4, a5, a6, a7, a8] => c162 a1 a3 a4 a5 a6 a7 a8 h
  | _ => none)]) kr (fun _ _ => none) 400 64 [some (112, 0), some (0, a1), none, some (0, a3), some (0, a4), some (0, a5), some (0, a6), some (0, a7), some (0, a8), some (0, a9), none] [] h := by rfl
set_option maxRecDepth 100000 in
theorem qe_M_carryOut_64b {ρ : Type} (kr : Int → zH → Option ρ) (r64 : Int → Int → Int → Int → Int → Int → Int → Int → zH → Option ρ) (a1 a3 a4 a5 a6 a7 a8 a9 : Int) (h : zH) : M_carryOut_64b kr r64 a1 a3 a4 a5 a6 a7 a8 a9 h = zseg zPP false (zcal []) (zget (999, 0, 0, 0) zc_M_carryOut) (zcut zu_M_carryOut) (zorc [(73, [some (112, some 0), some (0, none), none, some (0, none), some (0, none), some (0, none), some (0, none), some (0, none), some (0, none), some (0, none), some (0, none)], [], fun xs h => match xs with
  | [a1, a3, a4, a5, a6, a7, a8, a9, a10] => M_carryOut_73 kr r64 a1 a3 a4 a5 a6 a7 a8 a9 a10 h
  | _ => none), (156, [some (112, some 0), some (0, none), none, some (0, none), some (0, none), some (0, none), some (0, none), some (0, none), some (0, none), none, none], [], fun xs h => match xs with
  | [a1, a3, a4, a5, a6, a7, a8] => M_carryOut_156 kr a1 a3 a4 a5 a6 a7 a8 h
  | _ => none), (162, [some (112, some 0), some (0, none), none, some (0, none), some (0, none), some (0, none), some (0, none), some (0, none), some (0, none), none, none], [], fun xs h => match xs with
  | [a1, a3, a4, a5, a6, a7, a8] => M_carryOut_162 kr a1 a3 a4 a5 a6 a7 a8 h
  | _ => none)]) kr (fun _ _ => none) 400 64 [some (112, 0), some (0, a1), none, some (0, a3), some (0, a4), some (0, a5), some (0, a6), some (0, a7), some (0, a8), some (0, a9), none] [] h := qg_M_carryOut_64b kr r64 (M_carryOut_73 kr r64) (M_carryOut_156 kr) (M_carryOut_162 kr) a1 a3 a4 a5 a6 a7 a8 a9 h
set_option maxRecDepth 100000 in
theorem qg_M_carryOut {ρ : Type} (kr : Int → zH → Option ρ) (F_M_placeOf : Int → zH → (Int → zH → Option ρ) → Option ρ) (F_M_maskOf : Int → zH → (Int → zH → Option ρ) → Option ρ) (c64 : Int → Int → Int → Int → Int → Int → Int → Int → zH → Option ρ) (a1 a2 : Int) (h : zH) : (zix 8 (wr ((wr (4 * a1)) + a2)) fun j1 =>
F_M_placeOf (wr ((wr (4 * a1)) + a2)) h  fun v2 h3 =>
zix 12 (wr (Int.tdiv (zhD h 94 0 j1) 6)) fun j4 =>
zix 160 (wr ((wr (40 * (zhD h3 70 0 j4))) + v2)) fun j5 =>
F_M_maskOf (wr ((wr (4 * a1)) + a2)) h3  fun v6 h7 =>
zlet (zset h7 12 0 63 v6) fun h8 =>
c64 a1 (wr ((wr (4 * a1)) + a2)) (zhD h 94 0 j1) (wr (Int.tdiv (zhD h 94 0 j1) 6)) v2 (wr ((wr (40 * (zhD h3 70 0 j4))) + v2)) (zhD h3 65 0 j5) 0 h8) = zseg zPP false (zcal [(103, [some 0, none], fun xs h kr kt => match xs with
  | [x1] => F_M_placeOf x1 h kr
  | _ => none), (104, [some 0, none], fun xs h kr kt => match xs with
  | [x1] => F_M_maskOf x1 h kr
  | _ => none)]) (zget (999, 0, 0, 0) zc_M_carryOut) (zcut zu_M_carryOut) (zorc [(64, [some (112, some 0), some (0, none), none, some (0, none), some (0, none), some (0, none), some (0, none), some (0, none), some (0, none), some (0, none), none], [], fun xs h => match xs with
  | [a1, a3, a4, a5, a6, a7, a8, a9] => c64 a1 a3 a4 a5 a6 a7 a8 a9 h
  | _ => none)]) kr (fun _ _ => none) 400 0 [some (112, 0), some (0, a1), some (0, a2), none, none, none, none, none, none, none, none] [] h := by rfl
set_option maxRecDepth 100000 in
theorem qe_M_carryOut {ρ : Type} (kr : Int → zH → Option ρ) (a1 a2 : Int) (h : zH) : M_carryOut a1 a2 h kr = zseg zPP false (zcal [(103, [some 0, none], fun xs h kr kt => match xs with
  | [x1] => M_placeOf x1 h kr
  | _ => none), (104, [some 0, none], fun xs h kr kt => match xs with
  | [x1] => M_maskOf x1 h kr
  | _ => none)]) (zget (999, 0, 0, 0) zc_M_carryOut) (zcut zu_M_carryOut) (zorc [(64, [some (112, some 0), some (0, none), none, some (0, none), some (0, none), some (0, none), some (0, none), some (0, none), some (0, none), some (0, none), none], [], fun xs h => match xs with
  | [a1, a3, a4, a5, a6, a7, a8, a9] => M_carryOut_64 kr a1 a3 a4 a5 a6 a7 a8 a9 h
  | _ => none)]) kr (fun _ _ => none) 400 0 [some (112, 0), some (0, a1), some (0, a2), none, none, none, none, none, none, none, none] [] h := qg_M_carryOut kr M_placeOf M_maskOf (M_carryOut_64 kr) a1 a2 h
def zc_M_beginLaunch : List zI := [(14, 0, 0, 112), (80, 12, 43, 14), (999, 0, 0, 0), (999, 0, 0, 0), (10, 0, 1, 0), (1, 114, 0, 0), (999, 0, 0, 0), (97, 0, 0, 69), (133, 0, 0, 0)]
def zu_M_beginLaunch : List (Nat × List Bool) := []
set_option maxRecDepth 100000 in
theorem qg_M_beginLaunch {ρ : Type} (kr : Int → zH → Option ρ) (a1 : Int) (h : zH) : (zix 12 a1 fun j1 =>
zlet (zset h 69 0 j1 114) fun h2 =>
kr 0 h2) = zseg zPP false (zcal []) (zget (999, 0, 0, 0) zc_M_beginLaunch) (zcut zu_M_beginLaunch) (zorc []) kr (fun _ _ => none) 400 0 [some (112, 0), some (0, a1)] [] h := by rfl
set_option maxRecDepth 100000 in
theorem qe_M_beginLaunch {ρ : Type} (kr : Int → zH → Option ρ) (a1 : Int) (h : zH) : M_beginLaunch a1 h kr = zseg zPP false (zcal []) (zget (999, 0, 0, 0) zc_M_beginLaunch) (zcut zu_M_beginLaunch) (zorc []) kr (fun _ _ => none) 400 0 [some (112, 0), some (0, a1)] [] h := qg_M_beginLaunch kr a1 h
def zc_M_firstOf : List zI := [(0, 0, 0, 0), (16, 0, 2, 0), (10, 0, 2, 0), (14, 0, 0, 112), (80, 12, 196, 13), (999, 0, 0, 0), (999, 0, 0, 0), (69, 29, 36, 0), (999, 0, 0, 0), (999, 0, 0, 0), (14, 0, 0, 112), (80, 12, 49, 16), (999, 0, 0, 0), (999, 0, 0, 0), (10, 0, 2, 0), (90, 0, 0, 71), (10, 0, 1, 0), (67, 13, 30, 0), (999, 0, 0, 0), (999, 0, 0, 0), (14, 0, 0, 112), (10, 0, 2, 0), (110, 0, 225, 78), (999, 0, 0, 0), (999, 0, 0, 0), (61, 5, 30, 0), (999, 0, 0, 0), (999, 0, 0, 0), (10, 0, 2, 0), (130, 0, 0, 0), (22, 1, 2, 0), (999, 0, 0, 0), (999, 0, 0, 0), (72, (-31), 2, 0), (999, 0, 0, 0), (999, 0, 0, 0), (0, (-1), 0, 0), (130, 0, 0, 0)]
def zu_M_firstOf : List (Nat × List Bool) := [(2, [true, true, true]), (30, [true, true, true])]
set_option maxRecDepth 100000 in
theorem qg_M_firstOf_30 {ρ : Type} (kr : Int → zH → Option ρ) (r2 : Int → Int → zH → Option ρ) (a1 a2 : Int) (h : zH) : (r2 a1 (wr (a2 + 1)) h) = zseg zPP false (zcal []) (zget (999, 0, 0, 0) zc_M_firstOf) (zcut zu_M_firstOf) (zorc [(2, [some (112, some 0), some (0, none), some (0, none)], [], fun xs h => match xs with
  | [a1, a2] => r2 a1 a2 h
  | _ => none)]) kr (fun _ _ => none) 400 30 [some (112, 0), some (0, a1), some (0, a2)] [] h := by rfl
set_option maxRecDepth 100000 in
theorem qe_M_firstOf_30 {ρ : Type} (kr : Int → zH → Option ρ) (r2 : Int → Int → zH → Option ρ) (a1 a2 : Int) (h : zH) : M_firstOf_30 kr r2 a1 a2 h = zseg zPP false (zcal []) (zget (999, 0, 0, 0) zc_M_firstOf) (zcut zu_M_firstOf) (zorc [(2, [some (112, some 0), some (0, none), some (0, none)], [], fun xs h => match xs with
  | [a1, a2] => r2 a1 a2 h
  | _ => none)]) kr (fun _ _ => none) 400 30 [some (112, 0), some (0, a1), some (0, a2)] [] h := qg_M_firstOf_30 kr r2 a1 a2 h
set_option maxRecDepth 100000 in
theorem qg_M_firstOf_2b {ρ : Type} (kr : Int → zH → Option ρ) (r2 : Int → Int → zH → Option ρ) (F_M_isOver : Int → zH → (Int → zH → Option ρ) → Option ρ) (c30 : Int → Int → zH → Option ρ) (a1 a2 : Int) (h : zH) : (if a2 < (zhD h 12 0 13) then (zix 12 a2 fun j1 =>
if (zhD h 71 0 j1) = a1 then (F_M_isOver a2 h  fun v2 h3 =>
if v2 = 0 then kr a2 h3
else c30 a1 a2 h3)
else c30 a1 a2 h)
else kr (-1) h) = zseg zPP false (zcal [(78, [some 0, none], fun xs h kr kt => match xs with
  | [x1] => F_M_isOver x1 h kr
  | _ => none)]) (zget (999, 0, 0, 0) zc_M_firstOf) (zcut zu_M_firstOf) (zorc [(30, [some (112, some 0), some (0, none), some (0, none)], [], fun xs h => match xs with
  | [a1, a2] => c30 a1 a2 h
  | _ => none)]) kr (fun _ _ => none) 400 2 [some (112, 0), some (0, a1), some (0, a2)] [] h := by rfl
set_option maxRecDepth 100000 in
theorem qe_M_firstOf_2b {ρ : Type} (kr : Int → zH → Option ρ) (r2 : Int → Int → zH → Option ρ) (a1 a2 : Int) (h : zH) : M_firstOf_2b kr r2 a1 a2 h = zseg zPP false (zcal [(78, [some 0, none], fun xs h kr kt => match xs with
  | [x1] => M_isOver x1 h kr
  | _ => none)]) (zget (999, 0, 0, 0) zc_M_firstOf) (zcut zu_M_firstOf) (zorc [(30, [some (112, some 0), some (0, none), some (0, none)], [], fun xs h => match xs with
  | [a1, a2] => M_firstOf_30 kr r2 a1 a2 h
  | _ => none)]) kr (fun _ _ => none) 400 2 [some (112, 0), some (0, a1), some (0, a2)] [] h := qg_M_firstOf_2b kr r2 M_isOver (M_firstOf_30 kr r2) a1 a2 h
set_option maxRecDepth 100000 in
theorem qg_M_firstOf {ρ : Type} (kr : Int → zH → Option ρ) (c2 : Int → Int → zH → Option ρ) (a1 : Int) (h : zH) : (c2 a1 0 h) = zseg zPP false (zcal []) (zget (999, 0, 0, 0) zc_M_firstOf) (zcut zu_M_firstOf) (zorc [(2, [some (112, some 0), some (0, none), some (0, none)], [], fun xs h => match xs with
  | [a1, a2] => c2 a1 a2 h
  | _ => none)]) kr (fun _ _ => none) 400 0 [some (112, 0), some (0, a1), none] [] h := by rfl
set_option maxRecDepth 100000 in
theorem qe_M_firstOf {ρ : Type} (kr : Int → zH → Option ρ) (a1 : Int) (h : zH) : M_firstOf a1 h kr = zseg zPP false (zcal []) (zget (999, 0, 0, 0) zc_M_firstOf) (zcut zu_M_firstOf) (zorc [(2, [some (112, some 0), some (0, none), some (0, none)], [], fun xs h => match xs with
  | [a1, a2] => M_firstOf_2 kr a1 a2 h
  | _ => none)]) kr (fun _ _ => none) 400 0 [some (112, 0), some (0, a1), none] [] h := qg_M_firstOf kr (M_firstOf_2 kr) a1 h
def zc_M_isBroken : List zI := [(10, 0, 1, 0), (0, (-1), 0, 0), (66, 29, 31, 0), (999, 0, 0, 0), (999, 0, 0, 0), (14, 0, 0, 112), (80, 12, 43, 14), (999, 0, 0, 0), (999, 0, 0, 0), (10, 0, 1, 0), (92, 0, 0, 69), (1, 102, 0, 0), (999, 0, 0, 0), (66, 14, 27, 0), (999, 0, 0, 0), (999, 0, 0, 0), (14, 0, 0, 112), (80, 12, 43, 14), (999, 0, 0, 0), (999, 0, 0, 0), (10, 0, 1, 0), (92, 0, 0, 69), (1, 120, 0, 0), (999, 0, 0, 0), (67, 7, 31, 0), (999, 0, 0, 0), (999, 0, 0, 0), (0, 1, 0, 0), (72, 4, 32, 0), (999, 0, 0, 0), (999, 0, 0, 0), (0, 0, 0, 0), (130, 0, 1, 0)]
def zu_M_isBroken : List (Nat × List Bool) := [(27, [false, false]), (31, [false, false]), (32, [false, false])]
set_option maxRecDepth 100000 in
theorem qg_M_isBroken_32 {ρ : Type} (kr : Int → zH → Option ρ) (t0 : Int) (h : zH) : (znar 1 t0 fun x1 => kr x1 h) = zseg zPP false (zcal []) (zget (999, 0, 0, 0) zc_M_isBroken) (zcut zu_M_isBroken) (zorc []) kr (fun _ _ => none) 400 32 [none, none] [(0, t0)] h := by rfl
set_option maxRecDepth 100000 in
theorem qe_M_isBroken_32 {ρ : Type} (kr : Int → zH → Option ρ) (t0 : Int) (h : zH) : M_isBroken_32 kr t0 h = zseg zPP false (zcal []) (zget (999, 0, 0, 0) zc_M_isBroken) (zcut zu_M_isBroken) (zorc []) kr (fun _ _ => none) 400 32 [none, none] [(0, t0)] h := qg_M_isBroken_32 kr t0 h
set_option maxRecDepth 100000 in
theorem qg_M_isBroken_27 {ρ : Type} (kr : Int → zH → Option ρ) (c32 : Int → zH → Option ρ) (h : zH) : (c32 1 h) = zseg zPP false (zcal []) (zget (999, 0, 0, 0) zc_M_isBroken) (zcut zu_M_isBroken) (zorc [(32, [none, none], [(0, none)], fun xs h => match xs with
  | [t0] => c32 t0 h
  | _ => none)]) kr (fun _ _ => none) 400 27 [none, none] [] h := by rfl
set_option maxRecDepth 100000 in
theorem qe_M_isBroken_27 {ρ : Type} (kr : Int → zH → Option ρ) (h : zH) : M_isBroken_27 kr h = zseg zPP false (zcal []) (zget (999, 0, 0, 0) zc_M_isBroken) (zcut zu_M_isBroken) (zorc [(32, [none, none], [(0, none)], fun xs h => match xs with
  | [t0] => M_isBroken_32 kr t0 h
  | _ => none)]) kr (fun _ _ => none) 400 27 [none, none] [] h := qg_M_isBroken_27 kr (M_isBroken_32 kr) h
set_option maxRecDepth 100000 in
theorem qg_M_isBroken_31 {ρ : Type} (kr : Int → zH → Option ρ) (c32 : Int → zH → Option ρ) (h : zH) : (c32 0 h) = zseg zPP false (zcal []) (zget (999, 0, 0, 0) zc_M_isBroken) (zcut zu_M_isBroken) (zorc [(32, [none, none], [(0, none)], fun xs h => match xs with
  | [t0] => c32 t0 h
  | _ => none)]) kr (fun _ _ => none) 400 31 [none, none] [] h := by rfl
set_option maxRecDepth 100000 in
theorem qe_M_isBroken_31 {ρ : Type} (kr : Int → zH → Option ρ) (h : zH) : M_isBroken_31 kr h = zseg zPP false (zcal []) (zget (999, 0, 0, 0) zc_M_isBroken) (zcut zu_M_isBroken) (zorc [(32, [none, none], [(0, none)], fun xs h => match xs with
  | [t0] => M_isBroken_32 kr t0 h
  | _ => none)]) kr (fun _ _ => none) 400 31 [none, none] [] h := qg_M_isBroken_31 kr (M_isBroken_32 kr) h
set_option maxRecDepth 100000 in
theorem qg_M_isBroken {ρ : Type} (kr : Int → zH → Option ρ) (c27 : zH → Option ρ) (c31 : zH → Option ρ) (a1 : Int) (h : zH) : (if a1 = (-1) then c31 h
else zix 12 a1 fun j1 =>
if (zhD h 69 0 j1) = 102 then c27 h
else zix 12 a1 fun j2 =>
if (zhD h 69 0 j2) = 120 then c27 h
else c31 h) = zseg zPP false (zcal []) (zget (999, 0, 0, 0) zc_M_isBroken) (zcut zu_M_isBroken) (zorc [(27, [none, none], [], fun xs h => match xs with
  | [] => c27 h
  | _ => none), (31, [none, none], [], fun xs h => match xs with
  | [] => c31 h
  | _ => none)]) kr (fun _ _ => none) 400 0 [some (112, 0), some (0, a1)] [] h := by rfl
set_option maxRecDepth 100000 in
theorem qe_M_isBroken {ρ : Type} (kr : Int → zH → Option ρ) (a1 : Int) (h : zH) : M_isBroken a1 h kr = zseg zPP false (zcal []) (zget (999, 0, 0, 0) zc_M_isBroken) (zcut zu_M_isBroken) (zorc [(27, [none, none], [], fun xs h => match xs with
  | [] => M_isBroken_27 kr h
  | _ => none), (31, [none, none], [], fun xs h => match xs with
  | [] => M_isBroken_31 kr h
  | _ => none)]) kr (fun _ _ => none) 400 0 [some (112, 0), some (0, a1)] [] h := qg_M_isBroken kr (M_isBroken_27 kr) (M_isBroken_31 kr) a1 h
def zc_M_goThrough : List zI := [(0, 1, 0, 0), (16, 0, 2, 0), (10, 0, 2, 0), (60, 137, 140, 0), (999, 0, 0, 0), (999, 0, 0, 0), (14, 0, 0, 112), (10, 0, 1, 0), (110, 0, 396, 125), (999, 0, 0, 0), (999, 0, 0, 0), (16, 0, 3, 0), (10, 0, 3, 0), (0, (-1), 0, 0), (66, 18, 32, 0), (999, 0, 0, 0), (999, 0, 0, 0), (14, 0, 0, 112), (80, 12, 43, 14), (999, 0, 0, 0), (999, 0, 0, 0), (10, 0, 3, 0), (92, 0, 0, 69), (1, 113, 0, 0), (999, 0, 0, 0), (67, 7, 32, 0), (999, 0, 0, 0), (999, 0, 0, 0), (0, 1, 0, 0), (72, 4, 33, 0), (999, 0, 0, 0), (999, 0, 0, 0), (0, 0, 0, 0), (16, 0, 2, 0), (10, 0, 2, 0), (60, 102, 137, 0), (999, 0, 0, 0), (999, 0, 0, 0), (14, 0, 0, 112), (14, 0, 0, 112), (80, 12, 61, 20), (999, 0, 0, 0), (999, 0, 0, 0), (10, 0, 3, 0), (90, 0, 0, 75), (110, 0, 399, 126), (999, 0, 0, 0), (999, 0, 0, 0), (61, 16, 64, 0), (999, 0, 0, 0), (999, 0, 0, 0), (14, 0, 0, 112), (14, 0, 0, 112), (80, 12, 58, 19), (999, 0, 0, 0), (999, 0, 0, 0), (10, 0, 3, 0), (90, 0, 0, 74), (110, 0, 399, 126), (999, 0, 0, 0), (999, 0, 0, 0), (60, 7, 68, 0), (999, 0, 0, 0), (999, 0, 0, 0), (0, 1, 0, 0), (72, 4, 69, 0), (999, 0, 0, 0), (999, 0, 0, 0), (0, 0, 0, 0), (17, 0, 4, 0), (999, 0, 0, 0), (11, 0, 4, 0), (999, 0, 0, 0), (61, 30, 103, 0), (999, 0, 0, 0), (999, 0, 0, 0), (14, 0, 0, 112), (80, 12, 58, 19), (999, 0, 0, 0), (999, 0, 0, 0), (10, 0, 3, 0), (90, 0, 0, 74), (0, (-1), 0, 0), (66, 20, 103, 0), (999, 0, 0, 0), (999, 0, 0, 0), (14, 0, 0, 112), (14, 0, 0, 112), (80, 12, 58, 19), (999, 0, 0, 0), (999, 0, 0, 0), (10, 0, 3, 0), (90, 0, 0, 74), (110, 0, 225, 78), (999, 0, 0, 0), (999, 0, 0, 0), (61, 7, 103, 0), (999, 0, 0, 0), (999, 0, 0, 0), (0, 1, 0, 0), (72, 4, 104, 0), (999, 0, 0, 0), (999, 0, 0, 0), (0, 0, 0, 0), (17, 0, 5, 0), (999, 0, 0, 0), (11, 0, 4, 0), (999, 0, 0, 0), (60, 14, 122, 0), (999, 0, 0, 0), (999, 0, 0, 0), (14, 0, 0, 112), (80, 12, 43, 14), (999, 0, 0, 0), (999, 0, 0, 0), (10, 0, 3, 0), (1, 120, 0, 0), (999, 0, 0, 0), (97, 0, 0, 69), (72, 18, 137, 0), (999, 0, 0, 0), (999, 0, 0, 0), (11, 0, 5, 0), (999, 0, 0, 0), (60, 8, 132, 0), (999, 0, 0, 0), (999, 0, 0, 0), (0, 0, 0, 0), (16, 0, 2, 0), (72, 8, 137, 0), (999, 0, 0, 0), (999, 0, 0, 0), (14, 0, 0, 112), (10, 0, 3, 0), (110, 0, 402, 124), (999, 0, 0, 0), (999, 0, 0, 0), (72, (-135), 2, 0), (999, 0, 0, 0), (999, 0, 0, 0), (133, 0, 0, 0)]
def zu_M_goThrough : List (Nat × List Bool) := [(2, [true, true, true, false, false, false]), (32, [true, true, false, true, false, false]), (33, [true, true, false, true, false, false]), (64, [true, true, true, true, false, false]), (69, [true, true, true, true, false, false]), (103, [true, true, true, true, true, false]), (104, [true, true, true, true, true, false]), (137, [true, true, true, false, false, false])]
set_option maxRecDepth 100000 in
theorem qg_M_goThrough_137 {ρ : Type} (kr : Int → zH → Option ρ) (r2 : Int → Int → zH → Option ρ) (a1 a2 : Int) (h : zH) : (r2 a1 a2 h) = zseg zPP false (zcal []) (zget (999, 0, 0, 0) zc_M_goThrough) (zcut zu_M_goThrough) (zorc [(2, [some (112, some 0), some (0, none), some (0, none), none, none, none], [], fun xs h => match xs with
  | [a1, a2] => r2 a1 a2 h
  | _ => none)]) kr (fun _ _ => none) 400 137 [some (112, 0), some (0, a1), some (0, a2), none, none, none] [] h := by rfl
set_option maxRecDepth 100000 in
theorem qe_M_goThrough_137 {ρ : Type} (kr : Int → zH → Option ρ) (r2 : Int → Int → zH → Option ρ) (a1 a2 : Int) (h : zH) : M_goThrough_137 kr r2 a1 a2 h = zseg zPP false (zcal []) (zget (999, 0, 0, 0) zc_M_goThrough) (zcut zu_M_goThrough) (zorc [(2, [some (112, some 0), some (0, none), some (0, none), none, none, none], [], fun xs h => match xs with
  | [a1, a2] => r2 a1 a2 h
  | _ => none)]) kr (fun _ _ => none) 400 137 [some (112, 0), some (0, a1), some (0, a2), none, none, none] [] h := qg_M_goThrough_137 kr r2 a1 a2 h
set_option maxRecDepth 100000 in
theorem qg_M_goThrough_104 {ρ : Type} (kr : Int → zH → Option ρ) (r2 : Int → Int → zH → Option ρ) (F_M_beginLaunch : Int → zH → (Int → zH → Option ρ) → Option ρ) (c137 : Int → Int → zH → Option ρ) (a1 a2 a3 a4 t0 : Int) (h : zH) : (if a4 = 0 then (if t0 = 0 then (F_M_beginLaunch a3 h  fun _ h2 =>
c137 a1 a2 h2)
else c137 a1 0 h)
else zix 12 a3 fun j3 =>
zlet (zset h 69 0 j3 120) fun h4 =>
c137 a1 a2 h4) = zseg zPP false (zcal [(124, [some 0, none], fun xs h kr kt => match xs with
  | [x1] => F_M_beginLaunch x1 h kr
  | _ => none)]) (zget (999, 0, 0, 0) zc_M_goThrough) (zcut zu_M_goThrough) (zorc [(137, [some (112, some 0), some (0, none), some (0, none), none, none, none], [], fun xs h => match xs with
  | [a1, a2] => c137 a1 a2 h
  | _ => none)]) kr (fun _ _ => none) 400 104 [some (112, 0), some (0, a1), some (0, a2), some (0, a3), some (0, a4), none] [(0, t0)] h := by rfl
set_option maxRecDepth 100000 in
theorem qe_M_goThrough_104 {ρ : Type} (kr : Int → zH → Option ρ) (r2 : Int → Int → zH → Option ρ) (a1 a2 a3 a4 t0 : Int) (h : zH) : M_goThrough_104 kr r2 a1 a2 a3 a4 t0 h = zseg zPP false (zcal [(124, [some 0, none], fun xs h kr kt => match xs with
  | [x1] => M_beginLaunch x1 h kr
  | _ => none)]) (zget (999, 0, 0, 0) zc_M_goThrough) (zcut zu_M_goThrough) (zorc [(137, [some (112, some 0), some (0, none), some (0, none), none, none, none], [], fun xs h => match xs with
  | [a1, a2] => M_goThrough_137 kr r2 a1 a2 h
  | _ => none)]) kr (fun _ _ => none) 400 104 [some (112, 0), some (0, a1), some (0, a2), some (0, a3), some (0, a4), none] [(0, t0)] h := qg_M_goThrough_104 kr r2 M_beginLaunch (M_goThrough_137 kr r2) a1 a2 a3 a4 t0 h
set_option maxRecDepth 100000 in
theorem qg_M_goThrough_103 {ρ : Type} (kr : Int → zH → Option ρ) (r2 : Int → Int → zH → Option ρ) (c104 : Int → Int → Int → Int → Int → zH → Option ρ) (a1 a2 a3 a4 : Int) (h : zH) : (c104 a1 a2 a3 a4 0 h) = zseg zPP false (zcal []) (zget (999, 0, 0, 0) zc_M_goThrough) (zcut zu_M_goThrough) (zorc [(104, [some (112, some 0), some (0, none), some (0, none), some (0, none), some (0, none), none], [(0, none)], fun xs h => match xs with
  | [a1, a2, a3, a4, t0] => c104 a1 a2 a3 a4 t0 h
  | _ => none)]) kr (fun _ _ => none) 400 103 [some (112, 0), some (0, a1), some (0, a2), some (0, a3), some (0, a4), none] [] h := by rfl
set_option maxRecDepth 100000 in
theorem qe_M_goThrough_103 {ρ : Type} (kr : Int → zH → Option ρ) (r2 : Int → Int → zH → Option ρ) (a1 a2 a3 a4 : Int) (h : zH) : M_goThrough_103 kr r2 a1 a2 a3 a4 h = zseg zPP false (zcal []) (zget (999, 0, 0, 0) zc_M_goThrough) (zcut zu_M_goThrough) (zorc [(104, [some (112, some 0), some (0, none), some (0, none), some (0, none), some (0, none), none], [(0, none)], fun xs h => match xs with
  | [a1, a2, a3, a4, t0] => M_goThrough_104 kr r2 a1 a2 a3 a4 t0 h
  | _ => none)]) kr (fun _ _ => none) 400 103 [some (112, 0), some (0, a1), some (0, a2), some (0, a3), some (0, a4), none] [] h := qg_M_goThrough_103 kr r2 (M_goThrough_104 kr r2) a1 a2 a3 a4 h
set_option maxRecDepth 100000 in
theorem qg_M_goThrough_69 {ρ : Type} (kr : Int → zH → Option ρ) (r2 : Int → Int → zH → Option ρ) (F_M_isOver : Int → zH → (Int → zH → Option ρ) → Option ρ) (c103 : Int → Int → Int → Int → zH → Option ρ) (c104 : Int → Int → Int → Int → Int → zH → Option ρ) (a1 a2 a3 t0 : Int) (h : zH) : (if t0 = 0 then (zix 12 a3 fun j1 =>
if (zhD h 74 0 j1) = (-1) then c103 a1 a2 a3 t0 h
else zix 12 a3 fun j2 =>
F_M_isOver (zhD h 74 0 j2) h  fun v3 h4 =>
if v3 = 0 then c104 a1 a2 a3 t0 1 h4
else c103 a1 a2 a3 t0 h4)
else c103 a1 a2 a3 t0 h) = zseg zPP false (zcal [(78, [some 0, none], fun xs h kr kt => match xs with
  | [x1] => F_M_isOver x1 h kr
  | _ => none)]) (zget (999, 0, 0, 0) zc_M_goThrough) (zcut zu_M_goThrough) (zorc [(103, [some (112, some 0), some (0, none), some (0, none), some (0, none), some (0, none), none], [], fun xs h => match xs with
  | [a1, a2, a3, a4] => c103 a1 a2 a3 a4 h
  | _ => none), (104, [some (112, some 0), some (0, none), some (0, none), some (0, none), some (0, none), none], [(0, none)], fun xs h => match xs with
  | [a1, a2, a3, a4, t0] => c104 a1 a2 a3 a4 t0 h
  | _ => none)]) kr (fun _ _ => none) 400 69 [some (112, 0), some (0, a1), some (0, a2), some (0, a3), none, none] [(0, t0)] h := by rfl
set_option maxRecDepth 100000 in
theorem qe_M_goThrough_69 {ρ : Type} (kr : Int → zH → Option ρ) (r2 : Int → Int → zH → Option ρ) (a1 a2 a3 t0 : Int) (h : zH) : M_goThrough_69 kr r2 a1 a2 a3 t0 h = zseg zPP false (zcal [(78, [some 0, none], fun xs h kr kt => match xs with
  | [x1] => M_isOver x1 h kr
  | _ => none)]) (zget (999, 0, 0, 0) zc_M_goThrough) (zcut zu_M_goThrough) (zorc [(103, [some (112, some 0), some (0, none), some (0, none), some (0, none), some (0, none), none], [], fun xs h => match xs with
  | [a1, a2, a3, a4] => M_goThrough_103 kr r2 a1 a2 a3 a4 h
  | _ => none), (104, [some (112, some 0), some (0, none), some (0, none), some (0, none), some (0, none), none], [(0, none)], fun xs h => match xs with
  | [a1, a2, a3, a4, t0] => M_goThrough_104 kr r2 a1 a2 a3 a4 t0 h
  | _ => none)]) kr (fun _ _ => none) 400 69 [some (112, 0), some (0, a1), some (0, a2), some (0, a3), none, none] [(0, t0)] h := qg_M_goThrough_69 kr r2 M_isOver (M_goThrough_103 kr r2) (M_goThrough_104 kr r2) a1 a2 a3 t0 h
set_option maxRecDepth 100000 in
theorem qg_M_goThrough_64 {ρ : Type} (kr : Int → zH → Option ρ) (r2 : Int → Int → zH → Option ρ) (c69 : Int → Int → Int → Int → zH → Option ρ) (a1 a2 a3 : Int) (h : zH) : (c69 a1 a2 a3 1 h) = zseg zPP false (zcal []) (zget (999, 0, 0, 0) zc_M_goThrough) (zcut zu_M_goThrough) (zorc [(69, [some (112, some 0), some (0, none), some (0, none), some (0, none), none, none], [(0, none)], fun xs h => match xs with
  | [a1, a2, a3, t0] => c69 a1 a2 a3 t0 h
  | _ => none)]) kr (fun _ _ => none) 400 64 [some (112, 0), some (0, a1), some (0, a2), some (0, a3), none, none] [] h := by rfl
set_option maxRecDepth 100000 in
theorem qe_M_goThrough_64 {ρ : Type} (kr : Int → zH → Option ρ) (r2 : Int → Int → zH → Option ρ) (a1 a2 a3 : Int) (h : zH) : M_goThrough_64 kr r2 a1 a2 a3 h = zseg zPP false (zcal []) (zget (999, 0, 0, 0) zc_M_goThrough) (zcut zu_M_goThrough) (zorc [(69, [some (112, some 0), some (0, none), some (0, none), some (0, none), none, none], [(0, none)], fun xs h => match xs with
  | [a1, a2, a3, t0] => M_goThrough_69 kr r2 a1 a2 a3 t0 h
  | _ => none)]) kr (fun _ _ => none) 400 64 [some (112, 0), some (0, a1), some (0, a2), some (0, a3), none, none] [] h := qg_M_goThrough_64 kr r2 (M_goThrough_69 kr r2) a1 a2 a3 h
set_option maxRecDepth 100000 in
theorem qg_M_goThrough_33 {ρ : Type} (kr : Int → zH → Option ρ) (r2 : Int → Int → zH → Option ρ) (F_M_isBroken : Int → zH → (Int → zH → Option ρ) → Option ρ) (c64 : Int → Int → Int → zH → Option ρ) (c69 : Int → Int → Int → Int → zH → Option ρ) (c137 : Int → Int → zH → Option ρ) (a1 a3 t0 : Int) (h : zH) : (if t0 = 0 then c137 a1 t0 h
else zix 12 a3 fun j1 =>
F_M_isBroken (zhD h 75 0 j1) h  fun v2 h3 =>
if v2 = 0 then (zix 12 a3 fun j4 =>
F_M_isBroken (zhD h3 74 0 j4) h3  fun v5 h6 =>
if v5 = 0 then c69 a1 t0 a3 0 h6
else c64 a1 t0 a3 h6)
else c64 a1 t0 a3 h3) = zseg zPP false (zcal [(126, [some 0, none], fun xs h kr kt => match xs with
  | [x1] => F_M_isBroken x1 h kr
  | _ => none)]) (zget (999, 0, 0, 0) zc_M_goThrough) (zcut zu_M_goThrough) (zorc [(64, [some (112, some 0), some (0, none), some (0, none), some (0, none), none, none], [], fun xs h => match xs with
  | [a1, a2, a3] => c64 a1 a2 a3 h
  | _ => none), (69, [some (112, some 0), some (0, none), some (0, none), some (0, none), none, none], [(0, none)], fun xs h => match xs with
  | [a1, a2, a3, t0] => c69 a1 a2 a3 t0 h
  | _ => none), (137, [some (112, some 0), some (0, none), some (0, none), none, none, none], [], fun xs h => match xs with
  | [a1, a2] => c137 a1 a2 h
  | _ => none)]) kr (fun _ _ => none) 400 33 [some (112, 0), some (0, a1), none, some (0, a3), none, none] [(0, t0)] h := by rfl
set_option maxRecDepth 100000 in
theorem qe_M_goThrough_33 {ρ : Type} (kr : Int → zH → Option ρ) (r2 : Int → Int → zH → Option ρ) (a1 a3 t0 : Int) (h : zH) : M_goThrough_33 kr r2 a1 a3 t0 h = zseg zPP false (zcal [(126, [some 0, none], fun xs h kr kt => match xs with
  | [x1] => M_isBroken x1 h kr
  | _ => none)]) (zget (999, 0, 0, 0) zc_M_goThrough) (zcut zu_M_goThrough) (zorc [(64, [some (112, some 0), some (0, none), some (0, none), some (0, none), none, none], [], fun xs h => match xs with
  | [a1, a2, a3] => M_goThrough_64 kr r2 a1 a2 a3 h
  | _ => none), (69, [some (112, some 0), some (0, none), some (0, none), some (0, none), none, none], [(0, none)], fun xs h => match xs with
  | [a1, a2, a3, t0] => M_goThrough_69 kr r2 a1 a2 a3 t0 h
  | _ => none), (137, [some (112, some 0), some (0, none), some (0, none), none, none, none], [], fun xs h => match xs with
  | [a1, a2] => M_goThrough_137 kr r2 a1 a2 h
  | _ => none)]) kr (fun _ _ => none) 400 33 [some (112, 0), some (0, a1), none, some (0, a3), none, none] [(0, t0)] h := qg_M_goThrough_33 kr r2 M_isBroken (M_goThrough_64 kr r2) (M_goThrough_69 kr r2) (M_goThrough_137 kr r2) a1 a3 t0 h
set_option maxRecDepth 100000 in
theorem qg_M_goThrough_32 {ρ : Type} (kr : Int → zH → Option ρ) (r2 : Int → Int → zH → Option ρ) (c33 : Int → Int → Int → zH → Option ρ) (a1 a3 : Int) (h : zH) : (c33 a1 a3 0 h) = zseg zPP false (zcal []) (zget (999, 0, 0, 0) zc_M_goThrough) (zcut zu_M_goThrough) (zorc [(33, [some (112, some 0), some (0, none), none, some (0, none), none, none], [(0, none)], fun xs h => match xs with
  | [a1, a3, t0] => c33 a1 a3 t0 h
  | _ => none)]) kr (fun _ _ => none) 400 32 [some (112, 0), some (0, a1), none, some (0, a3), none, none] [] h := by rfl
set_option maxRecDepth 100000 in
theorem qe_M_goThrough_32 {ρ : Type} (kr : Int → zH → Option ρ) (r2 : Int → Int → zH → Option ρ) (a1 a3 : Int) (h : zH) : M_goThrough_32 kr r2 a1 a3 h = zseg zPP false (zcal []) (zget (999, 0, 0, 0) zc_M_goThrough) (zcut zu_M_goThrough) (zorc [(33, [some (112, some 0), some (0, none), none, some (0, none), none, none], [(0, none)], fun xs h => match xs with
  | [a1, a3, t0] => M_goThrough_33 kr r2 a1 a3 t0 h
  | _ => none)]) kr (fun _ _ => none) 400 32 [some (112, 0), some (0, a1), none, some (0, a3), none, none] [] h := qg_M_goThrough_32 kr r2 (M_goThrough_33 kr r2) a1 a3 h
set_option maxRecDepth 100000 in
theorem qg_M_goThrough_2b {ρ : Type} (kr : Int → zH → Option ρ) (r2 : Int → Int → zH → Option ρ) (F_M_firstOf : Int → zH → (Int → zH → Option ρ) → Option ρ) (c32 : Int → Int → zH → Option ρ) (c33 : Int → Int → Int → zH → Option ρ) (a1 a2 : Int) (h : zH) : (if a2 = 0 then kr 0 h
else F_M_firstOf a1 h  fun v1 h2 =>
if v1 = (-1) then c32 a1 v1 h2
else zix 12 v1 fun j3 =>
if (zhD h2 69 0 j3) = 113 then c33 a1 v1 1 h2
else c32 a1 v1 h2) = zseg zPP false (zcal [(125, [some 0, none], fun xs h kr kt => match xs with
  | [x1] => F_M_firstOf x1 h kr
  | _ => none)]) (zget (999, 0, 0, 0) zc_M_goThrough) (zcut zu_M_goThrough) (zorc [(32, [some (112, some 0), some (0, none), none, some (0, none), none, none], [], fun xs h => match xs with
  | [a1, a3] => c32 a1 a3 h
  | _ => none), (33, [some (112, some 0), some (0, none), none, some (0, none), none, none], [(0, none)], fun xs h => match xs with
  | [a1, a3, t0] => c33 a1 a3 t0 h
  | _ => none)]) kr (fun _ _ => none) 400 2 [some (112, 0), some (0, a1), some (0, a2), none, none, none] [] h := by rfl
set_option maxRecDepth 100000 in
theorem qe_M_goThrough_2b {ρ : Type} (kr : Int → zH → Option ρ) (r2 : Int → Int → zH → Option ρ) (a1 a2 : Int) (h : zH) : M_goThrough_2b kr r2 a1 a2 h = zseg zPP false (zcal [(125, [some 0, none], fun xs h kr kt => match xs with
  | [x1] => M_firstOf x1 h kr
  | _ => none)]) (zget (999, 0, 0, 0) zc_M_goThrough) (zcut zu_M_goThrough) (zorc [(32, [some (112, some 0), some (0, none), none, some (0, none), none, none], [], fun xs h => match xs with
  | [a1, a3] => M_goThrough_32 kr r2 a1 a3 h
  | _ => none), (33, [some (112, some 0), some (0, none), none, some (0, none), none, none], [(0, none)], fun xs h => match xs with
  | [a1, a3, t0] => M_goThrough_33 kr r2 a1 a3 t0 h
  | _ => none)]) kr (fun _ _ => none) 400 2 [some (112, 0), some (0, a1), some (0, a2), none, none, none] [] h := qg_M_goThrough_2b kr r2 M_firstOf (M_goThrough_32 kr r2) (M_goThrough_33 kr r2) a1 a2 h
set_option maxRecDepth 100000 in
theorem qg_M_goThrough {ρ : Type} (kr : Int → zH → Option ρ) (c2 : Int → Int → zH → Option ρ) (a1 : Int) (h : zH) : (c2 a1 1 h) = zseg zPP false (zcal []) (zget (999, 0, 0, 0) zc_M_goThrough) (zcut zu_M_goThrough) (zorc [(2, [some (112, some 0), some (0, none), some (0, none), none, none, none], [], fun xs h => match xs with
  | [a1, a2] => c2 a1 a2 h
  | _ => none)]) kr (fun _ _ => none) 400 0 [some (112, 0), some (0, a1), none, none, none, none] [] h := by rfl
set_option maxRecDepth 100000 in
theorem qe_M_goThrough {ρ : Type} (kr : Int → zH → Option ρ) (a1 : Int) (h : zH) : M_goThrough a1 h kr = zseg zPP false (zcal []) (zget (999, 0, 0, 0) zc_M_goThrough) (zcut zu_M_goThrough) (zorc [(2, [some (112, some 0), some (0, none), some (0, none), none, none, none], [], fun xs h => match xs with
  | [a1, a2] => M_goThrough_2 kr a1 a2 h
  | _ => none)]) kr (fun _ _ => none) 400 0 [some (112, 0), some (0, a1), none, none, none, none] [] h := qg_M_goThrough kr (M_goThrough_2 kr) a1 h
def zc_M_copyOne : List zI := [(14, 0, 0, 112), (80, 12, 13, 3), (999, 0, 0, 0), (999, 0, 0, 0), (14, 0, 0, 112), (80, 12, 79, 26), (999, 0, 0, 0), (999, 0, 0, 0), (10, 0, 1, 0), (90, 0, 0, 81), (14, 0, 0, 112), (80, 12, 85, 28), (999, 0, 0, 0), (999, 0, 0, 0), (10, 0, 1, 0), (90, 0, 0, 83), (30, 0, 0, 0), (14, 0, 0, 112), (80, 12, 13, 3), (999, 0, 0, 0), (999, 0, 0, 0), (14, 0, 0, 112), (80, 12, 76, 25), (999, 0, 0, 0), (999, 0, 0, 0), (10, 0, 1, 0), (90, 0, 0, 80), (14, 0, 0, 112), (80, 12, 85, 28), (999, 0, 0, 0), (999, 0, 0, 0), (10, 0, 1, 0), (90, 0, 0, 83), (30, 0, 0, 0), (90, 0, 0, 60), (95, 0, 0, 60), (14, 0, 0, 112), (80, 12, 85, 28), (999, 0, 0, 0), (999, 0, 0, 0), (10, 0, 1, 0), (51, 0, 0, 0), (90, 0, 0, 83), (0, 1, 0, 0), (30, 0, 0, 0), (95, 0, 0, 83), (14, 0, 0, 112), (80, 12, 43, 14), (999, 0, 0, 0), (999, 0, 0, 0), (10, 0, 1, 0), (14, 0, 0, 112), (80, 12, 85, 28), (999, 0, 0, 0), (999, 0, 0, 0), (10, 0, 1, 0), (90, 0, 0, 83), (14, 0, 0, 112), (80, 12, 82, 27), (999, 0, 0, 0), (999, 0, 0, 0), (10, 0, 1, 0), (90, 0, 0, 82), (67, 8, 71, 0), (999, 0, 0, 0), (999, 0, 0, 0), (1, 100, 0, 0), (999, 0, 0, 0), (72, 5, 73, 0), (999, 0, 0, 0), (999, 0, 0, 0), (1, 114, 0, 0), (999, 0, 0, 0), (97, 0, 0, 69), (133, 0, 0, 0)]
def zu_M_copyOne : List (Nat × List Bool) := [(73, [false, false])]
set_option maxRecDepth 100000 in
theorem qg_M_copyOne_73 {ρ : Type} (kr : Int → zH → Option ρ) (t0 t1 : Int) (h : zH) : (zix 12 t1 fun j1 =>
znar 2 t0 fun x2 =>
zlet (zset h 69 0 j1 x2) fun h3 =>
kr 0 h3) = zseg zPP false (zcal []) (zget (999, 0, 0, 0) zc_M_copyOne) (zcut zu_M_copyOne) (zorc []) kr (fun _ _ => none) 400 73 [none, none] [(0, t0), (0, t1), (169, 0)] h := by rfl
set_option maxRecDepth 100000 in
theorem qe_M_copyOne_73 {ρ : Type} (kr : Int → zH → Option ρ) (t0 t1 : Int) (h : zH) : M_copyOne_73 kr t0 t1 h = zseg zPP false (zcal []) (zget (999, 0, 0, 0) zc_M_copyOne) (zcut zu_M_copyOne) (zorc []) kr (fun _ _ => none) 400 73 [none, none] [(0, t0), (0, t1), (169, 0)] h := qg_M_copyOne_73 kr t0 t1 h
set_option maxRecDepth 100000 in
theorem qg_M_copyOne {ρ : Type} (kr : Int → zH → Option ρ) (c73 : Int → Int → zH → Option ρ) (a1 : Int) (h : zH) : (zix 12 a1 fun j1 =>
zix 12 a1 fun j2 =>
zix 12 a1 fun j3 =>
zix 12 a1 fun j4 =>
zix 64 (wr ((zhD h 80 0 j3) + (zhD h 83 0 j4))) fun j5 =>
zix 64 (wr ((zhD h 81 0 j1) + (zhD h 83 0 j2))) fun j6 =>
zlet (zset h 60 0 j6 (zhD h 60 0 j5)) fun h7 =>
zix 12 a1 fun j8 =>
zix 12 a1 fun j9 =>
zlet (zset h7 83 0 j9 (wr ((zhD h7 83 0 j8) + 1))) fun h10 =>
zix 12 a1 fun j11 =>
zix 12 a1 fun j12 =>
if (zhD h10 83 0 j11) = (zhD h10 82 0 j12) then c73 100 a1 h10
else c73 114 a1 h10) = zseg zPP false (zcal []) (zget (999, 0, 0, 0) zc_M_copyOne) (zcut zu_M_copyOne) (zorc [(73, [none, none], [(0, none), (0, none), (169, some 0)], fun xs h => match xs with
  | [t0, t1] => c73 t0 t1 h
  | _ => none)]) kr (fun _ _ => none) 400 0 [some (112, 0), some (0, a1)] [] h := by rfl
set_option maxRecDepth 100000 in
theorem qe_M_copyOne {ρ : Type} (kr : Int → zH → Option ρ) (a1 : Int) (h : zH) : M_copyOne a1 h kr = zseg zPP false (zcal []) (zget (999, 0, 0, 0) zc_M_copyOne) (zcut zu_M_copyOne) (zorc [(73, [none, none], [(0, none), (0, none), (169, some 0)], fun xs h => match xs with
  | [t0, t1] => M_copyOne_73 kr t0 t1 h
  | _ => none)]) kr (fun _ _ => none) 400 0 [some (112, 0), some (0, a1)] [] h := qg_M_copyOne kr (M_copyOne_73 kr) a1 h
def zc_M_usedRegisters : List zI := [(0, 0, 0, 0), (16, 0, 2, 0), (0, 0, 0, 0), (16, 0, 3, 0), (10, 0, 3, 0), (1, 72, 0, 0), (999, 0, 0, 0), (69, 59, 66, 0), (999, 0, 0, 0), (999, 0, 0, 0), (10, 0, 2, 0), (14, 0, 0, 112), (80, 12, 97, 32), (999, 0, 0, 0), (999, 0, 0, 0), (10, 0, 3, 0), (91, 0, 0, 87), (60, 40, 57, 0), (999, 0, 0, 0), (999, 0, 0, 0), (14, 0, 0, 112), (80, 12, 100, 33), (999, 0, 0, 0), (999, 0, 0, 0), (10, 0, 3, 0), (90, 0, 0, 88), (10, 0, 1, 0), (67, 30, 57, 0), (999, 0, 0, 0), (999, 0, 0, 0), (14, 0, 0, 112), (80, 12, 55, 18), (999, 0, 0, 0), (999, 0, 0, 0), (10, 0, 3, 0), (1, 6, 0, 0), (999, 0, 0, 0), (33, 0, 0, 0), (90, 0, 0, 73), (14, 0, 0, 112), (80, 12, 17, 5), (999, 0, 0, 0), (999, 0, 0, 0), (14, 0, 0, 112), (80, 12, 46, 15), (999, 0, 0, 0), (999, 0, 0, 0), (10, 0, 3, 0), (1, 6, 0, 0), (999, 0, 0, 0), (33, 0, 0, 0), (90, 0, 0, 70), (90, 0, 0, 61), (32, 0, 0, 0), (72, 4, 58, 0), (999, 0, 0, 0), (999, 0, 0, 0), (0, 0, 0, 0), (30, 0, 0, 0), (16, 0, 2, 0), (22, 1, 3, 0), (999, 0, 0, 0), (999, 0, 0, 0), (72, (-59), 4, 0), (999, 0, 0, 0), (999, 0, 0, 0), (10, 0, 2, 0), (130, 0, 0, 0)]
def zu_M_usedRegisters : List (Nat × List Bool) := [(4, [true, true, true, true]), (57, [true, true, false, true]), (58, [true, true, false, true])]
set_option maxRecDepth 100000 in
theorem qg_M_usedRegisters_58 {ρ : Type} (kr : Int → zH → Option ρ) (r4 : Int → Int → Int → zH → Option ρ) (a1 a3 t0 t1 : Int) (h : zH) : (r4 a1 (wr (t1 + t0)) (wr (a3 + 1)) h) = zseg zPP false (zcal []) (zget (999, 0, 0, 0) zc_M_usedRegisters) (zcut zu_M_usedRegisters) (zorc [(4, [some (112, some 0), some (0, none), some (0, none), some (0, none)], [], fun xs h => match xs with
  | [a1, a2, a3] => r4 a1 a2 a3 h
  | _ => none)]) kr (fun _ _ => none) 400 58 [some (112, 0), some (0, a1), none, some (0, a3)] [(0, t0), (0, t1)] h := by rfl
set_option maxRecDepth 100000 in
theorem qe_M_usedRegisters_58 {ρ : Type} (kr : Int → zH → Option ρ) (r4 : Int → Int → Int → zH → Option ρ) (a1 a3 t0 t1 : Int) (h : zH) : M_usedRegisters_58 kr r4 a1 a3 t0 t1 h = zseg zPP false (zcal []) (zget (999, 0, 0, 0) zc_M_usedRegisters) (zcut zu_M_usedRegisters) (zorc [(4, [some (112, some 0), some (0, none), some (0, none), some (0, none)], [], fun xs h => match xs with
  | [a1, a2, a3] => r4 a1 a2 a3 h
  | _ => none)]) kr (fun _ _ => none) 400 58 [some (112, 0), some (0, a1), none, some (0, a3)] [(0, t0), (0, t1)] h := qg_M_usedRegisters_58 kr r4 a1 a3 t0 t1 h
set_option maxRecDepth 100000 in
theorem qg_M_usedRegisters_57 {ρ : Type} (kr : Int → zH → Option ρ) (r4 : Int → Int → Int → zH → Option ρ) (c58 : Int → Int → Int → Int → zH → Option ρ) (a1 a3 t0 : Int) (h : zH) : (c58 a1 a3 0 t0 h) = zseg zPP false (zcal []) (zget (999, 0, 0, 0) zc_M_usedRegisters) (zcut zu_M_usedRegisters) (zorc [(58, [some (112, some 0), some (0, none), none, some (0, none)], [(0, none), (0, none)], fun xs h => match xs with
  | [a1, a3, t0, t1] => c58 a1 a3 t0 t1 h
  | _ => none)]) kr (fun _ _ => none) 400 57 [some (112, 0), some (0, a1), none, some (0, a3)] [(0, t0)] h := by rfl
set_option maxRecDepth 100000 in
theorem qe_M_usedRegisters_57 {ρ : Type} (kr : Int → zH → Option ρ) (r4 : Int → Int → Int → zH → Option ρ) (a1 a3 t0 : Int) (h : zH) : M_usedRegisters_57 kr r4 a1 a3 t0 h = zseg zPP false (zcal []) (zget (999, 0, 0, 0) zc_M_usedRegisters) (zcut zu_M_usedRegisters) (zorc [(58, [some (112, some 0), some (0, none), none, some (0, none)], [(0, none), (0, none)], fun xs h => match xs with
  | [a1, a3, t0, t1] => M_usedRegisters_58 kr r4 a1 a3 t0 t1 h
  | _ => none)]) kr (fun _ _ => none) 400 57 [some (112, 0), some (0, a1), none, some (0, a3)] [(0, t0)] h := qg_M_usedRegisters_57 kr r4 (M_usedRegisters_58 kr r4) a1 a3 t0 h
set_option maxRecDepth 100000 in
theorem qg_M_usedRegisters_4b {ρ : Type} (kr : Int → zH → Option ρ) (r4 : Int → Int → Int → zH → Option ρ) (c57 : Int → Int → Int → zH → Option ρ) (c58 : Int → Int → Int → Int → zH → Option ρ) (a1 a2 a3 : Int) (h : zH) : (if a3 < 72 then (zix 72 a3 fun j1 =>
if (zhD h 87 0 j1) = 0 then c57 a1 a3 a2 h
else zix 72 a3 fun j2 =>
if (zhD h 88 0 j2) = a1 then (zix 12 (wr (Int.tdiv a3 6)) fun j3 =>
zix 12 (wr (Int.tdiv a3 6)) fun j4 =>
zix 4 (zhD h 70 0 j4) fun j5 =>
c58 a1 a3 (wr ((zhD h 73 0 j3) * (zhD h 61 0 j5))) a2 h)
else c57 a1 a3 a2 h)
else kr a2 h) = zseg zPP false (zcal []) (zget (999, 0, 0, 0) zc_M_usedRegisters) (zcut zu_M_usedRegisters) (zorc [(57, [some (112, some 0), some (0, none), none, some (0, none)], [(0, none)], fun xs h => match xs with
  | [a1, a3, t0] => c57 a1 a3 t0 h
  | _ => none), (58, [some (112, some 0), some (0, none), none, some (0, none)], [(0, none), (0, none)], fun xs h => match xs with
  | [a1, a3, t0, t1] => c58 a1 a3 t0 t1 h
  | _ => none)]) kr (fun _ _ => none) 400 4 [some (112, 0), some (0, a1), some (0, a2), some (0, a3)] [] h := by rfl
set_option maxRecDepth 100000 in
theorem qe_M_usedRegisters_4b {ρ : Type} (kr : Int → zH → Option ρ) (r4 : Int → Int → Int → zH → Option ρ) (a1 a2 a3 : Int) (h : zH) : M_usedRegisters_4b kr r4 a1 a2 a3 h = zseg zPP false (zcal []) (zget (999, 0, 0, 0) zc_M_usedRegisters) (zcut zu_M_usedRegisters) (zorc [(57, [some (112, some 0), some (0, none), none, some (0, none)], [(0, none)], fun xs h => match xs with
  | [a1, a3, t0] => M_usedRegisters_57 kr r4 a1 a3 t0 h
  | _ => none), (58, [some (112, some 0), some (0, none), none, some (0, none)], [(0, none), (0, none)], fun xs h => match xs with
  | [a1, a3, t0, t1] => M_usedRegisters_58 kr r4 a1 a3 t0 t1 h
  | _ => none)]) kr (fun _ _ => none) 400 4 [some (112, 0), some (0, a1), some (0, a2), some (0, a3)] [] h := qg_M_usedRegisters_4b kr r4 (M_usedRegisters_57 kr r4) (M_usedRegisters_58 kr r4) a1 a2 a3 h
set_option maxRecDepth 100000 in
theorem qg_M_usedRegisters {ρ : Type} (kr : Int → zH → Option ρ) (c4 : Int → Int → Int → zH → Option ρ) (a1 : Int) (h : zH) : (c4 a1 0 0 h) = zseg zPP false (zcal []) (zget (999, 0, 0, 0) zc_M_usedRegisters) (zcut zu_M_usedRegisters) (zorc [(4, [some (112, some 0), some (0, none), some (0, none), some (0, none)], [], fun xs h => match xs with
  | [a1, a2, a3] => c4 a1 a2 a3 h
  | _ => none)]) kr (fun _ _ => none) 400 0 [some (112, 0), some (0, a1), none, none] [] h := by rfl
set_option maxRecDepth 100000 in
theorem qe_M_usedRegisters {ρ : Type} (kr : Int → zH → Option ρ) (a1 : Int) (h : zH) : M_usedRegisters a1 h kr = zseg zPP false (zcal []) (zget (999, 0, 0, 0) zc_M_usedRegisters) (zcut zu_M_usedRegisters) (zorc [(4, [some (112, some 0), some (0, none), some (0, none), some (0, none)], [], fun xs h => match xs with
  | [a1, a2, a3] => M_usedRegisters_4 kr a1 a2 a3 h
  | _ => none)]) kr (fun _ _ => none) 400 0 [some (112, 0), some (0, a1), none, none] [] h := qg_M_usedRegisters kr (M_usedRegisters_4 kr) a1 h
def zc_M_usedShared : List zI := [(0, 0, 0, 0), (16, 0, 2, 0), (0, 0, 0, 0), (16, 0, 3, 0), (10, 0, 3, 0), (1, 72, 0, 0), (999, 0, 0, 0), (69, 49, 56, 0), (999, 0, 0, 0), (999, 0, 0, 0), (10, 0, 2, 0), (14, 0, 0, 112), (80, 12, 97, 32), (999, 0, 0, 0), (999, 0, 0, 0), (10, 0, 3, 0), (91, 0, 0, 87), (60, 30, 47, 0), (999, 0, 0, 0), (999, 0, 0, 0), (14, 0, 0, 112), (80, 12, 100, 33), (999, 0, 0, 0), (999, 0, 0, 0), (10, 0, 3, 0), (90, 0, 0, 88), (10, 0, 1, 0), (67, 20, 47, 0), (999, 0, 0, 0), (999, 0, 0, 0), (14, 0, 0, 112), (80, 12, 20, 6), (999, 0, 0, 0), (999, 0, 0, 0), (14, 0, 0, 112), (80, 12, 46, 15), (999, 0, 0, 0), (999, 0, 0, 0), (10, 0, 3, 0), (1, 6, 0, 0), (999, 0, 0, 0), (33, 0, 0, 0), (90, 0, 0, 70), (90, 0, 0, 62), (72, 4, 48, 0), (999, 0, 0, 0), (999, 0, 0, 0), (0, 0, 0, 0), (30, 0, 0, 0), (16, 0, 2, 0), (22, 1, 3, 0), (999, 0, 0, 0), (999, 0, 0, 0), (72, (-49), 4, 0), (999, 0, 0, 0), (999, 0, 0, 0), (10, 0, 2, 0), (130, 0, 0, 0)]
def zu_M_usedShared : List (Nat × List Bool) := [(4, [true, true, true, true]), (47, [true, true, false, true]), (48, [true, true, false, true])]
set_option maxRecDepth 100000 in
theorem qg_M_usedShared_48 {ρ : Type} (kr : Int → zH → Option ρ) (r4 : Int → Int → Int → zH → Option ρ) (a1 a3 t0 t1 : Int) (h : zH) : (r4 a1 (wr (t1 + t0)) (wr (a3 + 1)) h) = zseg zPP false (zcal []) (zget (999, 0, 0, 0) zc_M_usedShared) (zcut zu_M_usedShared) (zorc [(4, [some (112, some 0), some (0, none), some (0, none), some (0, none)], [], fun xs h => match xs with
  | [a1, a2, a3] => r4 a1 a2 a3 h
  | _ => none)]) kr (fun _ _ => none) 400 48 [some (112, 0), some (0, a1), none, some (0, a3)] [(0, t0), (0, t1)] h := by rfl
set_option maxRecDepth 100000 in
theorem qe_M_usedShared_48 {ρ : Type} (kr : Int → zH → Option ρ) (r4 : Int → Int → Int → zH → Option ρ) (a1 a3 t0 t1 : Int) (h : zH) : M_usedShared_48 kr r4 a1 a3 t0 t1 h = zseg zPP false (zcal []) (zget (999, 0, 0, 0) zc_M_usedShared) (zcut zu_M_usedShared) (zorc [(4, [some (112, some 0), some (0, none), some (0, none), some (0, none)], [], fun xs h => match xs with
  | [a1, a2, a3] => r4 a1 a2 a3 h
  | _ => none)]) kr (fun _ _ => none) 400 48 [some (112, 0), some (0, a1), none, some (0, a3)] [(0, t0), (0, t1)] h := qg_M_usedShared_48 kr r4 a1 a3 t0 t1 h
set_option maxRecDepth 100000 in
theorem qg_M_usedShared_47 {ρ : Type} (kr : Int → zH → Option ρ) (r4 : Int → Int → Int → zH → Option ρ) (c48 : Int → Int → Int → Int → zH → Option ρ) (a1 a3 t0 : Int) (h : zH) : (c48 a1 a3 0 t0 h) = zseg zPP false (zcal []) (zget (999, 0, 0, 0) zc_M_usedShared) (zcut zu_M_usedShared) (zorc [(48, [some (112, some 0), some (0, none), none, some (0, none)], [(0, none), (0, none)], fun xs h => match xs with
  | [a1, a3, t0, t1] => c48 a1 a3 t0 t1 h
  | _ => none)]) kr (fun _ _ => none) 400 47 [some (112, 0), some (0, a1), none, some (0, a3)] [(0, t0)] h := by rfl
set_option maxRecDepth 100000 in
theorem qe_M_usedShared_47 {ρ : Type} (kr : Int → zH → Option ρ) (r4 : Int → Int → Int → zH → Option ρ) (a1 a3 t0 : Int) (h : zH) : M_usedShared_47 kr r4 a1 a3 t0 h = zseg zPP false (zcal []) (zget (999, 0, 0, 0) zc_M_usedShared) (zcut zu_M_usedShared) (zorc [(48, [some (112, some 0), some (0, none), none, some (0, none)], [(0, none), (0, none)], fun xs h => match xs with
  | [a1, a3, t0, t1] => M_usedShared_48 kr r4 a1 a3 t0 t1 h
  | _ => none)]) kr (fun _ _ => none) 400 47 [some (112, 0), some (0, a1), none, some (0, a3)] [(0, t0)] h := qg_M_usedShared_47 kr r4 (M_usedShared_48 kr r4) a1 a3 t0 h
set_option maxRecDepth 100000 in
theorem qg_M_usedShared_4b {ρ : Type} (kr : Int → zH → Option ρ) (r4 : Int → Int → Int → zH → Option ρ) (c47 : Int → Int → Int → zH → Option ρ) (c48 : Int → Int → Int → Int → zH → Option ρ) (a1 a2 a3 : Int) (h : zH) : (if a3 < 72 then (zix 72 a3 fun j1 =>
if (zhD h 87 0 j1) = 0 then c47 a1 a3 a2 h
else zix 72 a3 fun j2 =>
if (zhD h 88 0 j2) = a1 then (zix 12 (wr (Int.tdiv a3 6)) fun j3 =>
zix 4 (zhD h 70 0 j3) fun j4 =>
c48 a1 a3 (zhD h 62 0 j4) a2 h)
else c47 a1 a3 a2 h)
else kr a2 h) = zseg zPP false (zcal []) (zget (999, 0, 0, 0) zc_M_usedShared) (zcut zu_M_usedShared) (zorc [(47, [some (112, some 0), some (0, none), none, some (0, none)], [(0, none)], fun xs h => match xs with
  | [a1, a3, t0] => c47 a1 a3 t0 h
  | _ => none), (48, [some (112, some 0), some (0, none), none, some (0, none)], [(0, none), (0, none)], fun xs h => match xs with
  | [a1, a3, t0, t1] => c48 a1 a3 t0 t1 h
  | _ => none)]) kr (fun _ _ => none) 400 4 [some (112, 0), some (0, a1), some (0, a2), some (0, a3)] [] h := by rfl
set_option maxRecDepth 100000 in
theorem qe_M_usedShared_4b {ρ : Type} (kr : Int → zH → Option ρ) (r4 : Int → Int → Int → zH → Option ρ) (a1 a2 a3 : Int) (h : zH) : M_usedShared_4b kr r4 a1 a2 a3 h = zseg zPP false (zcal []) (zget (999, 0, 0, 0) zc_M_usedShared) (zcut zu_M_usedShared) (zorc [(47, [some (112, some 0), some (0, none), none, some (0, none)], [(0, none)], fun xs h => match xs with
  | [a1, a3, t0] => M_usedShared_47 kr r4 a1 a3 t0 h
  | _ => none), (48, [some (112, some 0), some (0, none), none, some (0, none)], [(0, none), (0, none)], fun xs h => match xs with
  | [a1, a3, t0, t1] => M_usedShared_48 kr r4 a1 a3 t0 t1 h
  | _ => none)]) kr (fun _ _ => none) 400 4 [some (112, 0), some (0, a1), some (0, a2), some (0, a3)] [] h := qg_M_usedShared_4b kr r4 (M_usedShared_47 kr r4) (M_usedShared_48 kr r4) a1 a2 a3 h
set_option maxRecDepth 100000 in
theorem qg_M_usedShared {ρ : Type} (kr : Int → zH → Option ρ) (c4 : Int → Int → Int → zH → Option ρ) (a1 : Int) (h : zH) : (c4 a1 0 0 h) = zseg zPP false (zcal []) (zget (999, 0, 0, 0) zc_M_usedShared) (zcut zu_M_usedShared) (zorc [(4, [some (112, some 0), some (0, none), some (0, none), some (0, none)], [], fun xs h => match xs with
  | [a1, a2, a3] => c4 a1 a2 a3 h
  | _ => none)]) kr (fun _ _ => none) 400 0 [some (112, 0), some (0, a1), none, none] [] h := by rfl
set_option maxRecDepth 100000 in
theorem qe_M_usedShared {ρ : Type} (kr : Int → zH → Option ρ) (a1 : Int) (h : zH) : M_usedShared a1 h kr = zseg zPP false (zcal []) (zget (999, 0, 0, 0) zc_M_usedShared) (zcut zu_M_usedShared) (zorc [(4, [some (112, some 0), some (0, none), some (0, none), some (0, none)], [], fun xs h => match xs with
  | [a1, a2, a3] => M_usedShared_4 kr a1 a2 a3 h
  | _ => none)]) kr (fun _ _ => none) 400 0 [some (112, 0), some (0, a1), none, none] [] h := qg_M_usedShared kr (M_usedShared_4 kr) a1 h
def zc_M_hasRoom : List zI := [(14, 0, 0, 112), (80, 12, 115, 38), (999, 0, 0, 0), (999, 0, 0, 0), (10, 0, 1, 0), (90, 0, 0, 93), (14, 0, 0, 112), (10, 0, 2, 0), (110, 0, 405, 89), (999, 0, 0, 0), (999, 0, 0, 0), (30, 0, 0, 0), (0, 4, 0, 0), (70, 58, 71, 0), (999, 0, 0, 0), (999, 0, 0, 0), (14, 0, 0, 112), (10, 0, 1, 0), (110, 0, 408, 129), (999, 0, 0, 0), (999, 0, 0, 0), (14, 0, 0, 112), (80, 12, 55, 18), (999, 0, 0, 0), (999, 0, 0, 0), (10, 0, 2, 0), (90, 0, 0, 73), (14, 0, 0, 112), (80, 12, 17, 5), (999, 0, 0, 0), (999, 0, 0, 0), (14, 0, 0, 112), (80, 12, 46, 15), (999, 0, 0, 0), (999, 0, 0, 0), (10, 0, 2, 0), (90, 0, 0, 70), (90, 0, 0, 61), (32, 0, 0, 0), (30, 0, 0, 0), (1, 64, 0, 0), (999, 0, 0, 0), (70, 29, 71, 0), (999, 0, 0, 0), (999, 0, 0, 0), (14, 0, 0, 112), (10, 0, 1, 0), (110, 0, 411, 130), (999, 0, 0, 0), (999, 0, 0, 0), (14, 0, 0, 112), (80, 12, 20, 6), (999, 0, 0, 0), (999, 0, 0, 0), (14, 0, 0, 112), (80, 12, 46, 15), (999, 0, 0, 0), (999, 0, 0, 0), (10, 0, 2, 0), (90, 0, 0, 70), (90, 0, 0, 62), (30, 0, 0, 0), (1, 32, 0, 0), (999, 0, 0, 0), (70, 7, 71, 0), (999, 0, 0, 0), (999, 0, 0, 0), (0, 1, 0, 0), (72, 4, 72, 0), (999, 0, 0, 0), (999, 0, 0, 0), (0, 0, 0, 0), (130, 0, 1, 0)]
def zu_M_hasRoom : List (Nat × List Bool) := [(71, [false, false, false]), (72, [false, false, false])]
set_option maxRecDepth 100000 in
theorem qg_M_hasRoom_72 {ρ : Type} (kr : Int → zH → Option ρ) (t0 : Int) (h : zH) : (znar 1 t0 fun x1 => kr x1 h) = zseg zPP false (zcal []) (zget (999, 0, 0, 0) zc_M_hasRoom) (zcut zu_M_hasRoom) (zorc []) kr (fun _ _ => none) 400 72 [none, none, none] [(0, t0)] h := by rfl
set_option maxRecDepth 100000 in
theorem qe_M_hasRoom_72 {ρ : Type} (kr : Int → zH → Option ρ) (t0 : Int) (h : zH) : M_hasRoom_72 kr t0 h = zseg zPP false (zcal []) (zget (999, 0, 0, 0) zc_M_hasRoom) (zcut zu_M_hasRoom) (zorc []) kr (fun _ _ => none) 400 72 [none, none, none] [(0, t0)] h := qg_M_hasRoom_72 kr t0 h
set_option maxRecDepth 100000 in
theorem qg_M_hasRoom_71 {ρ : Type} (kr : Int → zH → Option ρ) (c72 : Int → zH → Option ρ) (h : zH) : (c72 0 h) = zseg zPP false (zcal []) (zget (999, 0, 0, 0) zc_M_hasRoom) (zcut zu_M_hasRoom) (zorc [(72, [none, none, none], [(0, none)], fun xs h => match xs with
  | [t0] => c72 t0 h
  | _ => none)]) kr (fun _ _ => none) 400 71 [none, none, none] [] h := by rfl
set_option maxRecDepth 100000 in
theorem qe_M_hasRoom_71 {ρ : Type} (kr : Int → zH → Option ρ) (h : zH) : M_hasRoom_71 kr h = zseg zPP false (zcal []) (zget (999, 0, 0, 0) zc_M_hasRoom) (zcut zu_M_hasRoom) (zorc [(72, [none, none, none], [(0, none)], fun xs h => match xs with
  | [t0] => M_hasRoom_72 kr t0 h
  | _ => none)]) kr (fun _ _ => none) 400 71 [none, none, none] [] h := qg_M_hasRoom_71 kr (M_hasRoom_72 kr) h
set_option maxRecDepth 100000 in
theorem qg_M_hasRoom {ρ : Type} (kr : Int → zH → Option ρ) (F_M_groupsOf : Int → zH → (Int → zH → Option ρ) → Option ρ) (F_M_usedRegisters : Int → zH → (Int → zH → Option ρ) → Option ρ) (F_M_usedShared : Int → zH → (Int → zH → Option ρ) → Option ρ) (c71 : zH → Option ρ) (c72 : Int → zH → Option ρ) (a1 a2 : Int) (h : zH) : (zix 2 a1 fun j1 =>
F_M_groupsOf a2 h  fun v2 h3 =>
if 4 < (wr ((zhD h 93 0 j1) + v2)) then c71 h3
else F_M_usedRegisters a1 h3  fun v4 h5 =>
zix 12 a2 fun j6 =>
zix 12 a2 fun j7 =>
zix 4 (zhD h5 70 0 j7) fun j8 =>
if 64 < (wr (v4 + (wr ((zhD h5 73 0 j6) * (zhD h5 61 0 j8))))) then c71 h5
else F_M_usedShared a1 h5  fun v9 h10 =>
zix 12 a2 fun j11 =>
zix 4 (zhD h10 70 0 j11) fun j12 =>
if 32 < (wr (v9 + (zhD h10 62 0 j12))) then c71 h10
else c72 1 h10) = zseg zPP false (zcal [(89, [some 0, none], fun xs h kr kt => match xs with
  | [x1] => F_M_groupsOf x1 h kr
  | _ => none), (129, [some 0, none], fun xs h kr kt => match xs with
  | [x1] => F_M_usedRegisters x1 h kr
  | _ => none), (130, [some 0, none], fun xs h kr kt => match xs with
  | [x1] => F_M_usedShared x1 h kr
  | _ => none)]) (zget (999, 0, 0, 0) zc_M_hasRoom) (zcut zu_M_hasRoom) (zorc [(71, [none, none, none], [], fun xs h => match xs with
  | [] => c71 h
  | _ => none), (72, [none, none, none], [(0, none)], fun xs h => match xs with
  | [t0] => c72 t0 h
  | _ => none)]) kr (fun _ _ => none) 400 0 [some (112, 0), some (0, a1), some (0, a2)] [] h := by rfl
set_option maxRecDepth 100000 in
theorem qe_M_hasRoom {ρ : Type} (kr : Int → zH → Option ρ) (a1 a2 : Int) (h : zH) : M_hasRoom a1 a2 h kr = zseg zPP false (zcal [(89, [some 0, none], fun xs h kr kt => match xs with
  | [x1] => M_groupsOf x1 h kr
  | _ => none), (129, [some 0, none], fun xs h kr kt => match xs with
  | [x1] => M_usedRegisters x1 h kr
  | _ => none), (130, [some 0, none], fun xs h kr kt => match xs with
  | [x1] => M_usedShared x1 h kr
  | _ => none)]) (zget (999, 0, 0, 0) zc_M_hasRoom) (zcut zu_M_hasRoom) (zorc [(71, [none, none, none], [], fun xs h => match xs with
  | [] => M_hasRoom_71 kr h
  | _ => none), (72, [none, none, none], [(0, none)], fun xs h => match xs with
  | [t0] => M_hasRoom_72 kr t0 h
  | _ => none)]) kr (fun _ _ => none) 400 0 [some (112, 0), some (0, a1), some (0, a2)] [] h := qg_M_hasRoom kr M_groupsOf M_usedRegisters M_usedShared (M_hasRoom_71 kr) (M_hasRoom_72 kr) a1 a2 h
def zc_M_unitFor : List zI := [(14, 0, 0, 112), (0, 0, 0, 0), (10, 0, 1, 0), (110, 0, 414, 131), (999, 0, 0, 0), (999, 0, 0, 0), (16, 0, 2, 0), (14, 0, 0, 112), (0, 1, 0, 0), (10, 0, 1, 0), (110, 0, 414, 131), (999, 0, 0, 0), (999, 0, 0, 0), (16, 0, 3, 0), (10, 0, 2, 0), (60, 26, 41, 0), (999, 0, 0, 0), (999, 0, 0, 0), (10, 0, 3, 0), (60, 18, 37, 0), (999, 0, 0, 0), (999, 0, 0, 0), (14, 0, 0, 112), (80, 12, 115, 38), (999, 0, 0, 0), (999, 0, 0, 0), (0, 0, 0, 0), (90, 0, 0, 93), (14, 0, 0, 112), (80, 12, 115, 38), (999, 0, 0, 0), (999, 0, 0, 0), (0, 1, 0, 0), (90, 0, 0, 93), (70, 7, 41, 0), (999, 0, 0, 0), (999, 0, 0, 0), (0, 0, 0, 0), (72, 12, 50, 0), (999, 0, 0, 0), (999, 0, 0, 0), (10, 0, 3, 0), (60, 7, 49, 0), (999, 0, 0, 0), (999, 0, 0, 0), (0, 1, 0, 0), (72, 4, 50, 0), (999, 0, 0, 0), (999, 0, 0, 0), (0, (-1), 0, 0), (130, 0, 0, 0)]
def zu_M_unitFor : List (Nat × List Bool) := [(37, [false, false, false, false]), (41, [false, false, false, true]), (50, [false, false, false, false])]
set_option maxRecDepth 100000 in
theorem qg_M_unitFor_50 {ρ : Type} (kr : Int → zH → Option ρ) (t0 : Int) (h : zH) : (kr t0 h) = zseg zPP false (zcal []) (zget (999, 0, 0, 0) zc_M_unitFor) (zcut zu_M_unitFor) (zorc []) kr (fun _ _ => none) 400 50 [none, none, none, none] [(0, t0)] h := by rfl
set_option maxRecDepth 100000 in
theorem qe_M_unitFor_50 {ρ : Type} (kr : Int → zH → Option ρ) (t0 : Int) (h : zH) : M_unitFor_50 kr t0 h = zseg zPP false (zcal []) (zget (999, 0, 0, 0) zc_M_unitFor) (zcut zu_M_unitFor) (zorc []) kr (fun _ _ => none) 400 50 [none, none, none, none] [(0, t0)] h := qg_M_unitFor_50 kr t0 h
set_option maxRecDepth 100000 in
theorem qg_M_unitFor_37 {ρ : Type} (kr : Int → zH → Option ρ) (c50 : Int → zH → Option ρ) (h : zH) : (c50 0 h) = zseg zPP false (zcal []) (zget (999, 0, 0, 0) zc_M_unitFor) (zcut zu_M_unitFor) (zorc [(50, [none, none, none, none], [(0, none)], fun xs h => match xs with
  | [t0] => c50 t0 h
  | _ => none)]) kr (fun _ _ => none) 400 37 [none, none, none, none] [] h := by rfl
set_option maxRecDepth 100000 in
theorem qe_M_unitFor_37 {ρ : Type} (kr : Int → zH → Option ρ) (h : zH) : M_unitFor_37 kr h = zseg zPP false (zcal []) (zget (999, 0, 0, 0) zc_M_unitFor) (zcut zu_M_unitFor) (zorc [(50, [none, none, none, none], [(0, none)], fun xs h => match xs with
  | [t0] => M_unitFor_50 kr t0 h
  | _ => none)]) kr (fun _ _ => none) 400 37 [none, none, none, none] [] h := qg_M_unitFor_37 kr (M_unitFor_50 kr) h
set_option maxRecDepth 100000 in
theorem qg_M_unitFor_41 {ρ : Type} (kr : Int → zH → Option ρ) (c50 : Int → zH → Option ρ) (a3 : Int) (h : zH) : (if a3 = 0 then c50 (-1) h
else c50 1 h) = zseg zPP false (zcal []) (zget (999, 0, 0, 0) zc_M_unitFor) (zcut zu_M_unitFor) (zorc [(50, [none, none, none, none], [(0, none)], fun xs h => match xs with
  | [t0] => c50 t0 h
  | _ => none)]) kr (fun _ _ => none) 400 41 [none, none, none, some (0, a3)] [] h := by rfl
set_option maxRecDepth 100000 in
theorem qe_M_unitFor_41 {ρ : Type} (kr : Int → zH → Option ρ) (a3 : Int) (h : zH) : M_unitFor_41 kr a3 h = zseg zPP false (zcal []) (zget (999, 0, 0, 0) zc_M_unitFor) (zcut zu_M_unitFor) (zorc [(50, [none, none, none, none], [(0, none)], fun xs h => match xs with
  | [t0] => M_unitFor_50 kr t0 h
  | _ => none)]) kr (fun _ _ => none) 400 41 [none, none, none, some (0, a3)] [] h := qg_M_unitFor_41 kr (M_unitFor_50 kr) a3 h
set_option maxRecDepth 100000 in
theorem qg_M_unitFor {ρ : Type} (kr : Int → zH → Option ρ) (F_M_hasRoom : Int → Int → zH → (Int → zH → Option ρ) → Option ρ) (c37 : zH → Option ρ) (c41 : Int → zH → Option ρ) (a1 : Int) (h : zH) : (F_M_hasRoom 0 a1 h  fun v1 h2 =>
F_M_hasRoom 1 a1 h2  fun v3 h4 =>
if v1 = 0 then c41 v3 h4
else if v3 = 0 then c37 h4
else zix 2 0 fun j5 =>
zix 2 1 fun j6 =>
if (zhD h4 93 0 j6) < (zhD h4 93 0 j5) then c41 v3 h4
else c37 h4) = zseg zPP false (zcal [(131, [some 0, none, none], fun xs h kr kt => match xs with
  | [x1, x2] => F_M_hasRoom x1 x2 h kr
  | _ => none)]) (zget (999, 0, 0, 0) zc_M_unitFor) (zcut zu_M_unitFor) (zorc [(37, [none, none, none, none], [], fun xs h => match xs with
  | [] => c37 h
  | _ => none), (41, [none, none, none, some (0, none)], [], fun xs h => match xs with
  | [a3] => c41 a3 h
  | _ => none)]) kr (fun _ _ => none) 400 0 [some (112, 0), some (0, a1), none, none] [] h := by rfl
set_option maxRecDepth 100000 in
theorem qe_M_unitFor {ρ : Type} (kr : Int → zH → Option ρ) (a1 : Int) (h : zH) : M_unitFor a1 h kr = zseg zPP false (zcal [(131, [some 0, none, none], fun xs h kr kt => match xs with
  | [x1, x2] => M_hasRoom x1 x2 h kr
  | _ => none)]) (zget (999, 0, 0, 0) zc_M_unitFor) (zcut zu_M_unitFor) (zorc [(37, [none, none, none, none], [], fun xs h => match xs with
  | [] => M_unitFor_37 kr h
  | _ => none), (41, [none, none, none, some (0, none)], [], fun xs h => match xs with
  | [a3] => M_unitFor_41 kr a3 h
  | _ => none)]) kr (fun _ _ => none) 400 0 [some (112, 0), some (0, a1), none, none] [] h := qg_M_unitFor kr M_hasRoom (M_unitFor_37 kr) (M_unitFor_41 kr) a1 h
def zc_M_give : List zI := [(10, 0, 1, 0), (14, 0, 0, 112), (80, 12, 70, 23), (999, 0, 0, 0), (999, 0, 0, 0), (10, 0, 1, 0), (90, 0, 0, 78), (113, 0, 242, 88), (999, 0, 0, 0), (999, 0, 0, 0), (16, 0, 3, 0), (14, 0, 0, 112), (80, 12, 70, 23), (999, 0, 0, 0), (999, 0, 0, 0), (10, 0, 1, 0), (51, 0, 0, 0), (90, 0, 0, 78), (0, 1, 0, 0), (30, 0, 0, 0), (95, 0, 0, 78), (14, 0, 0, 112), (80, 12, 97, 32), (999, 0, 0, 0), (999, 0, 0, 0), (10, 0, 3, 0), (0, 1, 0, 0), (96, 0, 0, 87), (14, 0, 0, 112), (80, 12, 100, 33), (999, 0, 0, 0), (999, 0, 0, 0), (10, 0, 3, 0), (10, 0, 2, 0), (95, 0, 0, 88), (14, 0, 0, 112), (80, 12, 94, 31), (999, 0, 0, 0), (999, 0, 0, 0), (10, 0, 3, 0), (0, 0, 0, 0), (95, 0, 0, 86), (0, 0, 0, 0), (17, 0, 4, 0), (999, 0, 0, 0), (11, 0, 4, 0), (999, 0, 0, 0), (1, 16, 0, 0), (999, 0, 0, 0), (69, 22, 71, 0), (999, 0, 0, 0), (999, 0, 0, 0), (14, 0, 0, 112), (80, 12, 112, 37), (999, 0, 0, 0), (999, 0, 0, 0), (1, 16, 0, 0), (999, 0, 0, 0), (10, 0, 3, 0), (32, 0, 0, 0), (11, 0, 4, 0), (999, 0, 0, 0), (30, 0, 0, 0), (0, 0, 0, 0), (95, 0, 0, 92), (22, 1, 4, 0), (999, 0, 0, 0), (999, 0, 0, 0), (72, (-23), 45, 0), (999, 0, 0, 0), (999, 0, 0, 0), (0, 0, 0, 0), (17, 0, 4, 0), (999, 0, 0, 0), (11, 0, 4, 0), (999, 0, 0, 0), (14, 0, 0, 112), (80, 12, 55, 18), (999, 0, 0, 0), (999, 0, 0, 0), (10, 0, 1, 0), (90, 0, 0, 73), (69, 84, 166, 0), (999, 0, 0, 0), (999, 0, 0, 0), (14, 0, 0, 112), (10, 0, 3, 0), (11, 0, 4, 0), (999, 0, 0, 0), (110, 0, 249, 93), (999, 0, 0, 0), (999, 0, 0, 0), (17, 0, 5, 0), (999, 0, 0, 0), (14, 0, 0, 112), (80, 12, 106, 35), (999, 0, 0, 0), (999, 0, 0, 0), (11, 0, 5, 0), (999, 0, 0, 0), (0, 0, 0, 0), (95, 0, 0, 90), (14, 0, 0, 112), (80, 12, 103, 34), (999, 0, 0, 0), (999, 0, 0, 0), (11, 0, 5, 0), (999, 0, 0, 0), (14, 0, 0, 112), (80, 12, 23, 7), (999, 0, 0, 0), (999, 0, 0, 0), (14, 0, 0, 112), (80, 12, 46, 15), (999, 0, 0, 0), (999, 0, 0, 0), (10, 0, 1, 0), (90, 0, 0, 70), (90, 0, 0, 63), (61, 8, 127, 0), (999, 0, 0, 0), (999, 0, 0, 0), (1, 101, 0, 0), (999, 0, 0, 0), (72, 5, 129, 0), (999, 0, 0, 0), (999, 0, 0, 0), (1, 114, 0, 0), (999, 0, 0, 0), (97, 0, 0, 89), (0, 0, 0, 0), (17, 0, 6, 0), (999, 0, 0, 0), (11, 0, 6, 0), (999, 0, 0, 0), (1, 8, 0, 0), (999, 0, 0, 0), (69, 23, 160, 0), (999, 0, 0, 0), (999, 0, 0, 0), (14, 0, 0, 112), (80, 12, 109, 36), (999, 0, 0, 0), (999, 0, 0, 0), (1, 8, 0, 0), (999, 0, 0, 0), (11, 0, 5, 0), (999, 0, 0, 0), (32, 0, 0, 0), (11, 0, 6, 0), (999, 0, 0, 0), (30, 0, 0, 0), (0, 0, 0, 0), (95, 0, 0, 91), (22, 1, 6, 0), (999, 0, 0, 0), (999, 0, 0, 0), (72, (-24), 133, 0), (999, 0, 0, 0), (999, 0, 0, 0), (22, 1, 4, 0), (999, 0, 0, 0), (999, 0, 0, 0), (72, (-89), 74, 0), (999, 0, 0, 0), (999, 0, 0, 0), (0, 0, 0, 0), (17, 0, 4, 0), (999, 0, 0, 0), (11, 0, 4, 0), (999, 0, 0, 0), (14, 0, 0, 112), (10, 0, 1, 0), (110, 0, 405, 89), (999, 0, 0, 0), (999, 0, 0, 0), (69, 67, 243, 0), (999, 0, 0, 0), (999, 0, 0, 0), (0, 4, 0, 0), (10, 0, 2, 0), (32, 0, 0, 0), (14, 0, 0, 112), (80, 12, 115, 38), (999, 0, 0, 0), (999, 0, 0, 0), (10, 0, 2, 0), (90, 0, 0, 93), (30, 0, 0, 0), (17, 0, 5, 0), (999, 0, 0, 0), (14, 0, 0, 112), (80, 12, 118, 39), (999, 0, 0, 0), (999, 0, 0, 0), (11, 0, 5, 0), (999, 0, 0, 0), (10, 0, 3, 0), (95, 0, 0, 94), (14, 0, 0, 112), (80, 12, 121, 40), (999, 0, 0, 0), (999, 0, 0, 0), (11, 0, 5, 0), (999, 0, 0, 0), (11, 0, 4, 0), (999, 0, 0, 0), (95, 0, 0, 95), (14, 0, 0, 112), (80, 12, 124, 41), (999, 0, 0, 0), (999, 0, 0, 0), (11, 0, 5, 0), (999, 0, 0, 0), (14, 0, 0, 112), (80, 12, 390, 1), (999, 0, 0, 0), (999, 0, 0, 0), (95, 0, 0, 96), (14, 0, 0, 112), (80, 12, 127, 42), (999, 0, 0, 0), (999, 0, 0, 0), (11, 0, 5, 0), (999, 0, 0, 0), (0, 0, 0, 0), (95, 0, 0, 97), (14, 0, 0, 112), (80, 12, 115, 38), (999, 0, 0, 0), (999, 0, 0, 0), (10, 0, 2, 0), (51, 0, 0, 0), (90, 0, 0, 93), (0, 1, 0, 0), (30, 0, 0, 0), (95, 0, 0, 93), (22, 1, 4, 0), (999, 0, 0, 0), (999, 0, 0, 0), (72, (-71), 169, 0), (999, 0, 0, 0), (999, 0, 0, 0), (14, 0, 0, 112), (10, 0, 3, 0), (110, 0, 393, 100), (999, 0, 0, 0), (999, 0, 0, 0), (133, 0, 0, 0)]
def zu_M_give : List (Nat × List Bool) := [(45, [true, true, true, true, true, false, false]), (74, [true, true, true, true, true, false, false]), (129, [true, true, true, true, true, true, false]), (133, [true, true, true, true, true, true, true]), (169, [true, true, true, true, true, false, false])]
set_option maxRecDepth 100000 in
theorem qg_M_give_133b {ρ : Type} (kr : Int → zH → Option ρ) (r74 : Int → Int → Int → Int → zH → Option ρ) (r133 : Int → Int → Int → Int → Int → Int → zH → Option ρ) (a1 a2 a3 a4 a5 a6 : Int) (h : zH) : (if a6 < 8 then (zix 9216 (wr ((wr (8 * a5)) + a6)) fun j1 =>
zlet (zset h 91 0 j1 0) fun h2 =>
r133 a1 a2 a3 a4 a5 (wr (a6 + 1)) h2)
else r74 a1 a2 a3 (wr (a4 + 1)) h) = zseg zPP false (zcal []) (zget (999, 0, 0, 0) zc_M_give) (zcut zu_M_give) (zorc [(74, [some (112, some 0), some (0, none), some (0, none), some (0, none), some (0, none), none, none], [], fun xs h => match xs with
  | [a1, a2, a3, a4] => r74 a1 a2 a3 a4 h
  | _ => none), (133, [some (112, some 0), some (0, none), some (0, none), some (0, none), some (0, none), some (0, none), some (0, none)], [], fun xs h => match xs with
  | [a1, a2, a3, a4, a5, a6] => r133 a1 a2 a3 a4 a5 a6 h
  | _ => none)]) kr (fun _ _ => none) 400 133 [some (112, 0), some (0, a1), some (0, a2), some (0, a3), some (0, a4), some (0, a5), some (0, a6)] [] h := by rfl
set_option maxRecDepth 100000 in
theorem qe_M_give_133b {ρ : Type} (kr : Int → zH → Option ρ) (r74 : Int → Int → Int → Int → zH → Option ρ) (r133 : Int → Int → Int → Int → Int → Int → zH → Option ρ) (a1 a2 a3 a4 a5 a6 : Int) (h : zH) : M_give_133b kr r74 r133 a1 a2 a3 a4 a5 a6 h = zseg zPP false (zcal []) (zget (999, 0, 0, 0) zc_M_give) (zcut zu_M_give) (zorc [(74, [some (112, some 0), some (0, none), some (0, none), some (0, none), some (0, none), none, none], [], fun xs h => match xs with
  | [a1, a2, a3, a4] => r74 a1 a2 a3 a4 h
  | _ => none), (133, [some (112, some 0), some (0, none), some (0, none), some (0, none), some (0, none), some (0, none), some (0, none)], [], fun xs h => match xs with
  | [a1, a2, a3, a4, a5, a6] => r133 a1 a2 a3 a4 a5 a6 h
  | _ => none)]) kr (fun _ _ => none) 400 133 [some (112, 0), some (0, a1), some (0, a2), some (0, a3), some (0, a4), some (0, a5), some (0, a6)] [] h := qg_M_give_133b kr r74 r133 a1 a2 a3 a4 a5 a6 h
set_option maxRecDepth 100000 in
theorem qg_M_give_129 {ρ : Type} (kr : Int → zH → Option ρ) (r74 : Int → Int → Int → Int → zH → Option ρ) (c133 : Int → Int → Int → Int → Int → Int → zH → Option ρ) (a1 a2 a3 a4 a5 t0 t1 : Int) (h : zH) : (zix 1152 t1 fun j1 =>
znar 2 t0 fun x2 =>
zlet (zset h 89 0 j1 x2) fun h3 =>
c133 a1 a2 a3 a4 a5 0 h3) = zseg zPP false (zcal []) (zget (999, 0, 0, 0) zc_M_give) (zcut zu_M_give) (zorc [(133, [some (112, some 0), some (0, none), some (0, none), some (0, none), some (0, none), some (0, none), some (0, none)], [], fun xs h => match xs with
  | [a1, a2, a3, a4, a5, a6] => c133 a1 a2 a3 a4 a5 a6 h
  | _ => none)]) kr (fun _ _ => none) 400 129 [some (112, 0), some (0, a1), some (0, a2), some (0, a3), some (0, a4), some (0, a5), none] [(0, t0), (0, t1), (189, 0)] h := by rfl
set_option maxRecDepth 100000 in
theorem qe_M_give_129 {ρ : Type} (kr : Int → zH → Option ρ) (r74 : Int → Int → Int → Int → zH → Option ρ) (a1 a2 a3 a4 a5 t0 t1 : Int) (h : zH) : M_give_129 kr r74 a1 a2 a3 a4 a5 t0 t1 h = zseg zPP false (zcal []) (zget (999, 0, 0, 0) zc_M_give) (zcut zu_M_give) (zorc [(133, [some (112, some 0), some (0, none), some (0, none), some (0, none), some (0, none), some (0, none), some (0, none)], [], fun xs h => match xs with
  | [a1, a2, a3, a4, a5, a6] => M_give_133 kr r74 a1 a2 a3 a4 a5 a6 h
  | _ => none)]) kr (fun _ _ => none) 400 129 [some (112, 0), some (0, a1), some (0, a2), some (0, a3), some (0, a4), some (0, a5), none] [(0, t0), (0, t1), (189, 0)] h := qg_M_give_129 kr r74 (M_give_133 kr r74) a1 a2 a3 a4 a5 t0 t1 h
set_option maxRecDepth 100000 in
theorem qg_M_give_169b {ρ : Type} (kr : Int → zH → Option ρ) (r169 : Int → Int → Int → Int → zH → Option ρ) (F_M_groupsOf : Int → zH → (Int → zH → Option ρ) → Option ρ) (F_M_settle : Int → zH → (Int → zH → Option ρ) → Option ρ) (a1 a2 a3 a4 : Int) (h : zH) : (F_M_groupsOf a1 h  fun v1 h2 =>
if a4 < v1 then (zix 2 a2 fun j5 =>
zix 8 (wr ((wr (4 * a2)) + (zhD h2 93 0 j5))) fun j6 =>
zlet (zset h2 94 0 j6 a3) fun h7 =>
zix 8 (wr ((wr (4 * a2)) + (zhD h2 93 0 j5))) fun j8 =>
zlet (zset h7 95 0 j8 a4) fun h9 =>
zix 8 (wr ((wr (4 * a2)) + (zhD h2 93 0 j5))) fun j10 =>
zlet (zset h9 96 0 j10 (zhD h9 12 0 1)) fun h11 =>
zix 8 (wr ((wr (4 * a2)) + (zhD h2 93 0 j5))) fun j12 =>
zlet (zset h11 97 0 j12 0) fun h13 =>
zix 2 a2 fun j14 =>
zix 2 a2 fun j15 =>
zlet (zset h13 93 0 j15 (wr ((zhD h13 93 0 j14) + 1))) fun h16 =>
r169 a1 a2 a3 (wr (a4 + 1)) h16)
else F_M_settle a3 h2  fun _ h4 =>
kr 0 h4) = zseg zPP false (zcal [(89, [some 0, none], fun xs h kr kt => match xs with
  | [x1] => F_M_groupsOf x1 h kr
  | _ => none), (100, [some 0, none], fun xs h kr kt => match xs with
  | [x1] => F_M_settle x1 h kr
  | _ => none)]) (zget (999, 0, 0, 0) zc_M_give) (zcut zu_M_give) (zorc [(169, [some (112, some 0), some (0, none), some (0, none), some (0, none), some (0, none), none, none], [], fun xs h => match xs with
  | [a1, a2, a3, a4] => r169 a1 a2 a3 a4 h
  | _ => none)]) kr (fun _ _ => none) 400 169 [some (112, 0), some (0, a1), some (0, a2), some (0, a3), some (0, a4), none, none] [] h := by rfl
set_option maxRecDepth 100000 in
theorem qe_M_give_169b {ρ : Type} (kr : Int → zH → Option ρ) (r169 : Int → Int → Int → Int → zH → Option ρ) (a1 a2 a3 a4 : Int) (h : zH) : M_give_169b kr r169 a1 a2 a3 a4 h = zseg zPP false (zcal [(89, [some 0, none], fun xs h kr kt => match xs with
  | [x1] => M_groupsOf x1 h kr
  | _ => none), (100, [some 0, none], fun xs h kr kt => match xs with
  | [x1] => M_settle x1 h kr
  | _ => none)]) (zget (999, 0, 0, 0) zc_M_give) (zcut zu_M_give) (zorc [(169, [some (112, some 0), some (0, none), some (0, none), some (0, none), some (0, none), none, none], [], fun xs h => match xs with
  | [a1, a2, a3, a4] => r169 a1 a2 a3 a4 h
  | _ => none)]) kr (fun _ _ => none) 400 169 [some (112, 0), some (0, a1), some (0, a2), some (0, a3), some (0, a4), none, none] [] h := qg_M_give_169b kr r169 M_groupsOf M_settle a1 a2 a3 a4 h
set_option maxRecDepth 100000 in
theorem qg_M_give_74b {ρ : Type} (kr : Int → zH → Option ρ) (r74 : Int → Int → Int → Int → zH → Option ρ) (F_M_threadCell : Int → Int → zH → (Int → zH → Option ρ) → Option ρ) (c129 : Int → Int → Int → Int → Int → Int → Int → zH → Option ρ) (c169 : Int → Int → Int → Int → zH → Option ρ) (a1 a2 a3 a4 : Int) (h : zH) : (zix 12 a1 fun j1 =>
if a4 < (zhD h 73 0 j1) then (F_M_threadCell a3 a4 h  fun v2 h3 =>
zix 1152 v2 fun j4 =>
zlet (zset h3 90 0 j4 0) fun h5 =>
zix 12 a1 fun j6 =>
zix 4 (zhD h5 70 0 j6) fun j7 =>
if (zhD h5 63 0 j7) = 0 then c129 a1 a2 a3 a4 v2 101 v2 h5
else c129 a1 a2 a3 a4 v2 114 v2 h5)
else c169 a1 a2 a3 0 h) = zseg zPP false (zcal [(93, [some 0, none, none], fun xs h kr kt => match xs with
  | [x1, x2] => F_M_threadCell x1 x2 h kr
  | _ => none)]) (zget (999, 0, 0, 0) zc_M_give) (zcut zu_M_give) (zorc [(129, [some (112, some 0), some (0, none), some (0, none), some (0, none), some (0, none), some (0, none), none], [(0, none), (0, none), (189, some 0)], fun xs h => match xs with
  | [a1, a2, a3, a4, a5, t0, t1] => c129 a1 a2 a3 a4 a5 t0 t1 h
  | _ => none), (169, [some (112, some 0), some (0, none), some (0, none), some (0, none), some (0, none), none, none], [], fun xs h => match xs with
  | [a1, a2, a3, a4] => c169 a1 a2 a3 a4 h
  | _ => none)]) kr (fun _ _ => none) 400 74 [some (112, 0), some (0, a1), some (0, a2), some (0, a3), some (0, a4), none, none] [] h := by rfl
set_option maxRecDepth 100000 in
theorem qe_M_give_74b {ρ : Type} (kr : Int → zH → Option ρ) (r74 : Int → Int → Int → Int → zH → Option ρ) (a1 a2 a3 a4 : Int) (h : zH) : M_give_74b kr r74 a1 a2 a3 a4 h = zseg zPP false (zcal [(93, [some 0, none, none], fun xs h kr kt => match xs with
  | [x1, x2] => M_threadCell x1 x2 h kr
  | _ => none)]) (zget (999, 0, 0, 0) zc_M_give) (zcut zu_M_give) (zorc [(129, [some (112, some 0), some (0, none), some (0, none), some (0, none), some (0, none), some (0, none), none], [(0, none), (0, none), (189, some 0)], fun xs h => match xs with
  | [a1, a2, a3, a4, a5, t0, t1] => M_give_129 kr r74 a1 a2 a3 a4 a5 t0 t1 h
  | _ => none), (169, [some (112, some 0), some (0, none), some (0, none), some (0, none), some (0, none), none, none], [], fun xs h => match xs with
  | [a1, a2, a3, a4] => M_give_169 kr a1 a2 a3 a4 h
  | _ => none)]) kr (fun _ _ => none) 400 74 [some (112, 0), some (0, a1), some (0, a2), some (0, a3), some (0, a4), none, none] [] h := qg_M_give_74b kr r74 M_threadCell (M_give_129 kr r74) (M_give_169 kr) a1 a2 a3 a4 h
set_option maxRecDepth 100000 in
theorem qg_M_give_45b {ρ : Type} (kr : Int → zH → Option ρ) (r45 : Int → Int → Int → Int → zH → Option ρ) (c74 : Int → Int → Int → Int → zH → Option ρ) (a1 a2 a3 a4 : Int) (h : zH) : (if a4 < 16 then (zix 1152 (wr ((wr (16 * a3)) + a4)) fun j1 =>
zlet (zset h 92 0 j1 0) fun h2 =>
r45 a1 a2 a3 (wr (a4 + 1)) h2)
else c74 a1 a2 a3 0 h) = zseg zPP false (zcal []) (zget (999, 0, 0, 0) zc_M_give) (zcut zu_M_give) (zorc [(45, [some (112, some 0), some (0, none), some (0, none), some (0, none), some (0, none), none, none], [], fun xs h => match xs with
  | [a1, a2, a3, a4] => r45 a1 a2 a3 a4 h
  | _ => none), (74, [some (112, some 0), some (0, none), some (0, none), some (0, none), some (0, none), none, none], [], fun xs h => match xs with
  | [a1, a2, a3, a4] => c74 a1 a2 a3 a4 h
  | _ => none)]) kr (fun _ _ => none) 400 45 [some (112, 0), some (0, a1), some (0, a2), some (0, a3), some (0, a4), none, none] [] h := by rfl
set_option maxRecDepth 100000 in
theorem qe_M_give_45b {ρ : Type} (kr : Int → zH → Option ρ) (r45 : Int → Int → Int → Int → zH → Option ρ) (a1 a2 a3 a4 : Int) (h : zH) : M_give_45b kr r45 a1 a2 a3 a4 h = zseg zPP false (zcal []) (zget (999, 0, 0, 0) zc_M_give) (zcut zu_M_give) (zorc [(45, [some (112, some 0), some (0, none), some (0, none), some (0, none), some (0, none), none, none], [], fun xs h => match xs with
  | [a1, a2, a3, a4] => r45 a1 a2 a3 a4 h
  | _ => none), (74, [some (112, some 0), some (0, none), some (0, none), some (0, none), some (0, none), none, none], [], fun xs h => match xs with
  | [a1, a2, a3, a4] => M_give_74 kr a1 a2 a3 a4 h
  | _ => none)]) kr (fun _ _ => none) 400 45 [some (112, 0), some (0, a1), some (0, a2), some (0, a3), some (0, a4), none, none] [] h := qg_M_give_45b kr r45 (M_give_74 kr) a1 a2 a3 a4 h
set_option maxRecDepth 100000 in
theorem qg_M_give {ρ : Type} (kr : Int → zH → Option ρ) (F_M_blockOf : Int → Int → zH → (Int → zH → Option ρ) → Option ρ) (c45 : Int → Int → Int → Int → zH → Option ρ) (a1 a2 : Int) (h : zH) : (zix 12 a1 fun j1 =>
F_M_blockOf a1 (zhD h 78 0 j1) h  fun v2 h3 =>
zix 12 a1 fun j4 =>
zix 12 a1 fun j5 =>
zlet (zset h3 78 0 j5 (wr ((zhD h3 78 0 j4) + 1))) fun h6 =>
zix 72 v2 fun j7 =>
zlet (zset h6 87 0 j7 1) fun h8 =>
zix 72 v2 fun j9 =>
zlet (zset h8 88 0 j9 a2) fun h10 =>
zix 72 v2 fun j11 =>
zlet (zset h10 86 0 j11 0) fun h12 =>
c45 a1 a2 v2 0 h12) = zseg zPP false (zcal [(88, [none, none], fun xs h kr kt => match xs with
  | [x0, x1] => F_M_blockOf x0 x1 h kr
  | _ => none)]) (zget (999, 0, 0, 0) zc_M_give) (zcut zu_M_give) (zorc [(45, [some (112, some 0), some (0, none), some (0, none), some (0, none), some (0, none), none, none], [], fun xs h => match xs with
  | [a1, a2, a3, a4] => c45 a1 a2 a3 a4 h
  | _ => none)]) kr (fun _ _ => none) 400 0 [some (112, 0), some (0, a1), some (0, a2), none, none, none, none] [] h := by rfl
set_option maxRecDepth 100000 in
theorem qe_M_give {ρ : Type} (kr : Int → zH → Option ρ) (a1 a2 : Int) (h : zH) : M_give a1 a2 h kr = zseg zPP false (zcal [(88, [none, none], fun xs h kr kt => match xs with
  | [x0, x1] => M_blockOf x0 x1 h kr
  | _ => none)]) (zget (999, 0, 0, 0) zc_M_give) (zcut zu_M_give) (zorc [(45, [some (112, some 0), some (0, none), some (0, none), some (0, none), some (0, none), none, none], [], fun xs h => match xs with
  | [a1, a2, a3, a4] => M_give_45 kr a1 a2 a3 a4 h
  | _ => none)]) kr (fun _ _ => none) 400 0 [some (112, 0), some (0, a1), some (0, a2), none, none, none, none] [] h := qg_M_give kr M_blockOf (M_give_45 kr) a1 a2 h
def zc_M_canGo : List zI := [(14, 0, 0, 112), (10, 0, 1, 0), (110, 0, 278, 103), (999, 0, 0, 0), (999, 0, 0, 0), (0, (-1), 0, 0), (66, 20, 26, 0), (999, 0, 0, 0), (999, 0, 0, 0), (14, 0, 0, 112), (80, 12, 124, 41), (999, 0, 0, 0), (999, 0, 0, 0), (10, 0, 1, 0), (90, 0, 0, 96), (14, 0, 0, 112), (80, 12, 390, 1), (999, 0, 0, 0), (999, 0, 0, 0), (70, 7, 26, 0), (999, 0, 0, 0), (999, 0, 0, 0), (0, 1, 0, 0), (72, 4, 27, 0), (999, 0, 0, 0), (999, 0, 0, 0), (0, 0, 0, 0), (130, 0, 1, 0)]
def zu_M_canGo : List (Nat × List Bool) := [(26, [false, false]), (27, [false, false])]
set_option maxRecDepth 100000 in
theorem qg_M_canGo_27 {ρ : Type} (kr : Int → zH → Option ρ) (t0 : Int) (h : zH) : (znar 1 t0 fun x1 => kr x1 h) = zseg zPP false (zcal []) (zget (999, 0, 0, 0) zc_M_canGo) (zcut zu_M_canGo) (zorc []) kr (fun _ _ => none) 400 27 [none, none] [(0, t0)] h := by rfl
set_option maxRecDepth 100000 in
theorem qe_M_canGo_27 {ρ : Type} (kr : Int → zH → Option ρ) (t0 : Int) (h : zH) : M_canGo_27 kr t0 h = zseg zPP false (zcal []) (zget (999, 0, 0, 0) zc_M_canGo) (zcut zu_M_canGo) (zorc []) kr (fun _ _ => none) 400 27 [none, none] [(0, t0)] h := qg_M_canGo_27 kr t0 h
set_option maxRecDepth 100000 in
theorem qg_M_canGo_26 {ρ : Type} (kr : Int → zH → Option ρ) (c27 : Int → zH → Option ρ) (h : zH) : (c27 0 h) = zseg zPP false (zcal []) (zget (999, 0, 0, 0) zc_M_canGo) (zcut zu_M_canGo) (zorc [(27, [none, none], [(0, none)], fun xs h => match xs with
  | [t0] => c27 t0 h
  | _ => none)]) kr (fun _ _ => none) 400 26 [none, none] [] h := by rfl
set_option maxRecDepth 100000 in
theorem qe_M_canGo_26 {ρ : Type} (kr : Int → zH → Option ρ) (h : zH) : M_canGo_26 kr h = zseg zPP false (zcal []) (zget (999, 0, 0, 0) zc_M_canGo) (zcut zu_M_canGo) (zorc [(27, [none, none], [(0, none)], fun xs h => match xs with
  | [t0] => M_canGo_27 kr t0 h
  | _ => none)]) kr (fun _ _ => none) 400 26 [none, none] [] h := qg_M_canGo_26 kr (M_canGo_27 kr) h
set_option maxRecDepth 100000 in
theorem qg_M_canGo {ρ : Type} (kr : Int → zH → Option ρ) (F_M_placeOf : Int → zH → (Int → zH → Option ρ) → Option ρ) (c26 : zH → Option ρ) (c27 : Int → zH → Option ρ) (a1 : Int) (h : zH) : (F_M_placeOf a1 h  fun v1 h2 =>
if v1 = (-1) then c26 h2
else zix 8 a1 fun j3 =>
if (zhD h2 12 0 1) < (zhD h2 96 0 j3) then c26 h2
else c27 1 h2) = zseg zPP false (zcal [(103, [some 0, none], fun xs h kr kt => match xs with
  | [x1] => F_M_placeOf x1 h kr
  | _ => none)]) (zget (999, 0, 0, 0) zc_M_canGo) (zcut zu_M_canGo) (zorc [(26, [none, none], [], fun xs h => match xs with
  | [] => c26 h
  | _ => none), (27, [none, none], [(0, none)], fun xs h => match xs with
  | [t0] => c27 t0 h
  | _ => none)]) kr (fun _ _ => none) 400 0 [some (112, 0), some (0, a1)] [] h := by rfl
set_option maxRecDepth 100000 in
theorem qe_M_canGo {ρ : Type} (kr : Int → zH → Option ρ) (a1 : Int) (h : zH) : M_canGo a1 h kr = zseg zPP false (zcal [(103, [some 0, none], fun xs h kr kt => match xs with
  | [x1] => M_placeOf x1 h kr
  | _ => none)]) (zget (999, 0, 0, 0) zc_M_canGo) (zcut zu_M_canGo) (zorc [(26, [none, none], [], fun xs h => match xs with
  | [] => M_canGo_26 kr h
  | _ => none), (27, [none, none], [(0, none)], fun xs h => match xs with
  | [t0] => M_canGo_27 kr t0 h
  | _ => none)]) kr (fun _ _ => none) 400 0 [some (112, 0), some (0, a1)] [] h := qg_M_canGo kr M_placeOf (M_canGo_26 kr) (M_canGo_27 kr) a1 h
def zc_M_choose : List zI := [(0, 0, 0, 0), (16, 0, 2, 0), (14, 0, 0, 112), (80, 12, 7, 2), (999, 0, 0, 0), (999, 0, 0, 0), (1, 97, 0, 0), (999, 0, 0, 0), (67, 77, 85, 0), (999, 0, 0, 0), (999, 0, 0, 0), (14, 0, 0, 112), (80, 12, 136, 45), (999, 0, 0, 0), (999, 0, 0, 0), (10, 0, 1, 0), (90, 0, 0, 100), (0, (-1), 0, 0), (66, 67, 85, 0), (999, 0, 0, 0), (999, 0, 0, 0), (0, 0, 0, 0), (16, 0, 3, 0), (10, 0, 3, 0), (14, 0, 0, 112), (80, 12, 115, 38), (999, 0, 0, 0), (999, 0, 0, 0), (10, 0, 1, 0), (90, 0, 0, 93), (69, 55, 85, 0), (999, 0, 0, 0), (999, 0, 0, 0), (14, 0, 0, 112), (80, 12, 118, 39), (999, 0, 0, 0), (999, 0, 0, 0), (0, 4, 0, 0), (10, 0, 1, 0), (32, 0, 0, 0), (10, 0, 3, 0), (30, 0, 0, 0), (90, 0, 0, 94), (14, 0, 0, 112), (80, 12, 136, 45), (999, 0, 0, 0), (999, 0, 0, 0), (10, 0, 1, 0), (90, 0, 0, 100), (67, 28, 77, 0), (999, 0, 0, 0), (999, 0, 0, 0), (14, 0, 0, 112), (80, 12, 121, 40), (999, 0, 0, 0), (999, 0, 0, 0), (0, 4, 0, 0), (10, 0, 1, 0), (32, 0, 0, 0), (10, 0, 3, 0), (30, 0, 0, 0), (90, 0, 0, 95), (14, 0, 0, 112), (80, 12, 139, 46), (999, 0, 0, 0), (999, 0, 0, 0), (10, 0, 1, 0), (90, 0, 0, 101), (67, 9, 77, 0), (999, 0, 0, 0), (999, 0, 0, 0), (10, 0, 3, 0), (0, 1, 0, 0), (30, 0, 0, 0), (72, 4, 78, 0), (999, 0, 0, 0), (999, 0, 0, 0), (10, 0, 2, 0), (16, 0, 2, 0), (22, 1, 3, 0), (999, 0, 0, 0), (999, 0, 0, 0), (72, (-59), 23, 0), (999, 0, 0, 0), (999, 0, 0, 0), (0, (-1), 0, 0), (16, 0, 3, 0), (0, 0, 0, 0), (17, 0, 4, 0), (999, 0, 0, 0), (11, 0, 4, 0), (999, 0, 0, 0), (14, 0, 0, 112), (80, 12, 115, 38), (999, 0, 0, 0), (999, 0, 0, 0), (10, 0, 1, 0), (90, 0, 0, 93), (69, 60, 158, 0), (999, 0, 0, 0), (999, 0, 0, 0), (10, 0, 2, 0), (11, 0, 4, 0), (999, 0, 0, 0), (30, 0, 0, 0), (14, 0, 0, 112), (80, 12, 115, 38), (999, 0, 0, 0), (999, 0, 0, 0), (10, 0, 1, 0), (90, 0, 0, 93), (34, 0, 0, 0), (17, 0, 5, 0), (999, 0, 0, 0), (14, 0, 0, 112), (0, 4, 0, 0), (10, 0, 1, 0), (32, 0, 0, 0), (11, 0, 5, 0), (999, 0, 0, 0), (30, 0, 0, 0), (110, 0, 418, 134), (999, 0, 0, 0), (999, 0, 0, 0), (17, 0, 6, 0), (999, 0, 0, 0), (11, 0, 6, 0), (999, 0, 0, 0), (60, 22, 150, 0), (999, 0, 0, 0), (999, 0, 0, 0), (10, 0, 3, 0), (0, (-1), 0, 0), (66, 12, 145, 0), (999, 0, 0, 0), (999, 0, 0, 0), (14, 0, 0, 112), (80, 12, 7, 2), (999, 0, 0, 0), (999, 0, 0, 0), (1, 121, 0, 0), (999, 0, 0, 0), (67, 8, 150, 0), (999, 0, 0, 0), (999, 0, 0, 0), (11, 0, 5, 0), (999, 0, 0, 0), (72, 4, 151, 0), (999, 0, 0, 0), (999, 0, 0, 0), (10, 0, 3, 0), (16, 0, 3, 0), (22, 1, 4, 0), (999, 0, 0, 0), (999, 0, 0, 0), (72, (-65), 90, 0), (999, 0, 0, 0), (999, 0, 0, 0), (10, 0, 3, 0), (130, 0, 0, 0)]
def zu_M_choose : List (Nat × List Bool) := [(23, [true, true, true, true, false, false, false]), (77, [true, true, true, true, false, false, false]), (78, [true, true, false, true, false, false, false]), (85, [true, true, true, false, false, false, false]), (90, [true, true, true, true, true, false, false]), (145, [true, true, true, false, true, true, false]), (150, [true, true, true, true, true, false, false]), (151, [true, true, true, false, true, false, false])]
set_option maxRecDepth 100000 in
theorem qg_M_choose_78 {ρ : Type} (kr : Int → zH → Option ρ) (r23 : Int → Int → Int → zH → Option ρ) (a1 a3 t0 : Int) (h : zH) : (r23 a1 t0 (wr (a3 + 1)) h) = zseg zPP false (zcal []) (zget (999, 0, 0, 0) zc_M_choose) (zcut zu_M_choose) (zorc [(23, [some (112, some 0), some (0, none), some (0, none), some (0, none), none, none, none], [], fun xs h => match xs with
  | [a1, a2, a3] => r23 a1 a2 a3 h
  | _ => none)]) kr (fun _ _ => none) 400 78 [some (112, 0), some (0, a1), none, some (0, a3), none, none, none] [(0, t0)] h := by rfl
set_option maxRecDepth 100000 in
theorem qe_M_choose_78 {ρ : Type} (kr : Int → zH → Option ρ) (r23 : Int → Int → Int → zH → Option ρ) (a1 a3 t0 : Int) (h : zH) : M_choose_78 kr r23 a1 a3 t0 h = zseg zPP false (zcal []) (zget (999, 0, 0, 0) zc_M_choose) (zcut zu_M_choose) (zorc [(23, [some (112, some 0), some (0, none), some (0, none), some (0, none), none, none, none], [], fun xs h => match xs with
  | [a1, a2, a3] => r23 a1 a2 a3 h
  | _ => none)]) kr (fun _ _ => none) 400 78 [some (112, 0), some (0, a1), none, some (0, a3), none, none, none] [(0, t0)] h := qg_M_choose_78 kr r23 a1 a3 t0 h
set_option maxRecDepth 100000 in
theorem qg_M_choose_77 {ρ : Type} (kr : Int → zH → Option ρ) (r23 : Int → Int → Int → zH → Option ρ) (c78 : Int → Int → Int → zH → Option ρ) (a1 a2 a3 : Int) (h : zH) : (c78 a1 a3 a2 h) = zseg zPP false (zcal []) (zget (999, 0, 0, 0) zc_M_choose) (zcut zu_M_choose) (zorc [(78, [some (112, some 0), some (0, none), none, some (0, none), none, none, none], [(0, none)], fun xs h => match xs with
  | [a1, a3, t0] => c78 a1 a3 t0 h
  | _ => none)]) kr (fun _ _ => none) 400 77 [some (112, 0), some (0, a1), some (0, a2), some (0, a3), none, none, none] [] h := by rfl
set_option maxRecDepth 100000 in
theorem qe_M_choose_77 {ρ : Type} (kr : Int → zH → Option ρ) (r23 : Int → Int → Int → zH → Option ρ) (a1 a2 a3 : Int) (h : zH) : M_choose_77 kr r23 a1 a2 a3 h = zseg zPP false (zcal []) (zget (999, 0, 0, 0) zc_M_choose) (zcut zu_M_choose) (zorc [(78, [some (112, some 0), some (0, none), none, some (0, none), none, none, none], [(0, none)], fun xs h => match xs with
  | [a1, a3, t0] => M_choose_78 kr r23 a1 a3 t0 h
  | _ => none)]) kr (fun _ _ => none) 400 77 [some (112, 0), some (0, a1), some (0, a2), some (0, a3), none, none, none] [] h := qg_M_choose_77 kr r23 (M_choose_78 kr r23) a1 a2 a3 h
set_option maxRecDepth 100000 in
theorem qg_M_choose_151 {ρ : Type} (kr : Int → zH → Option ρ) (r90 : Int → Int → Int → Int → zH → Option ρ) (a1 a2 a4 t0 : Int) (h : zH) : (r90 a1 a2 t0 (wr (a4 + 1)) h) = zseg zPP false (zcal []) (zget (999, 0, 0, 0) zc_M_choose) (zcut zu_M_choose) (zorc [(90, [some (112, some 0), some (0, none), some (0, none), some (0, none), some (0, none), none, none], [], fun xs h => match xs with
  | [a1, a2, a3, a4] => r90 a1 a2 a3 a4 h
  | _ => none)]) kr (fun _ _ => none) 400 151 [some (112, 0), some (0, a1), some (0, a2), none, some (0, a4), none, none] [(0, t0)] h := by rfl
set_option maxRecDepth 100000 in
theorem qe_M_choose_151 {ρ : Type} (kr : Int → zH → Option ρ) (r90 : Int → Int → Int → Int → zH → Option ρ) (a1 a2 a4 t0 : Int) (h : zH) : M_choose_151 kr r90 a1 a2 a4 t0 h = zseg zPP false (zcal []) (zget (999, 0, 0, 0) zc_M_choose) (zcut zu_M_choose) (zorc [(90, [some (112, some 0), some (0, none), some (0, none), some (0, none), some (0, none), none, none], [], fun xs h => match xs with
  | [a1, a2, a3, a4] => r90 a1 a2 a3 a4 h
  | _ => none)]) kr (fun _ _ => none) 400 151 [some (112, 0), some (0, a1), some (0, a2), none, some (0, a4), none, none] [(0, t0)] h := qg_M_choose_151 kr r90 a1 a2 a4 t0 h
set_option maxRecDepth 100000 in
theorem qg_M_choose_145 {ρ : Type} (kr : Int → zH → Option ρ) (r90 : Int → Int → Int → Int → zH → Option ρ) (c151 : Int → Int → Int → Int → zH → Option ρ) (a1 a2 a4 a5 : Int) (h : zH) : (c151 a1 a2 a4 a5 h) = zseg zPP false (zcal []) (zget (999, 0, 0, 0) zc_M_choose) (zcut zu_M_choose) (zorc [(151, [some (112, some 0), some (0, none), some (0, none), none, some (0, none), none, none], [(0, none)], fun xs h => match xs with
  | [a1, a2, a4, t0] => c151 a1 a2 a4 t0 h
  | _ => none)]) kr (fun _ _ => none) 400 145 [some (112, 0), some (0, a1), some (0, a2), none, some (0, a4), some (0, a5), none] [] h := by rfl
set_option maxRecDepth 100000 in
theorem qe_M_choose_145 {ρ : Type} (kr : Int → zH → Option ρ) (r90 : Int → Int → Int → Int → zH → Option ρ) (a1 a2 a4 a5 : Int) (h : zH) : M_choose_145 kr r90 a1 a2 a4 a5 h = zseg zPP false (zcal []) (zget (999, 0, 0, 0) zc_M_choose) (zcut zu_M_choose) (zorc [(151, [some (112, some 0), some (0, none), some (0, none), none, some (0, none), none, none], [(0, none)], fun xs h => match xs with
  | [a1, a2, a4, t0] => M_choose_151 kr r90 a1 a2 a4 t0 h
  | _ => none)]) kr (fun _ _ => none) 400 145 [some (112, 0), some (0, a1), some (0, a2), none, some (0, a4), some (0, a5), none] [] h := qg_M_choose_145 kr r90 (M_choose_151 kr r90) a1 a2 a4 a5 h
set_option maxRecDepth 100000 in
theorem qg_M_choose_150 {ρ : Type} (kr : Int → zH → Option ρ) (r90 : Int → Int → Int → Int → zH → Option ρ) (c151 : Int → Int → Int → Int → zH → Option ρ) (a1 a2 a3 a4 : Int) (h : zH) : (c151 a1 a2 a4 a3 h) = zseg zPP false (zcal []) (zget (999, 0, 0, 0) zc_M_choose) (zcut zu_M_choose) (zorc [(151, [some (112, some 0), some (0, none), some (0, none), none, some (0, none), none, none], [(0, none)], fun xs h => match xs with
  | [a1, a2, a4, t0] => c151 a1 a2 a4 t0 h
  | _ => none)]) kr (fun _ _ => none) 400 150 [some (112, 0), some (0, a1), some (0, a2), some (0, a3), some (0, a4), none, none] [] h := by rfl
set_option maxRecDepth 100000 in
theorem qe_M_choose_150 {ρ : Type} (kr : Int → zH → Option ρ) (r90 : Int → Int → Int → Int → zH → Option ρ) (a1 a2 a3 a4 : Int) (h : zH) : M_choose_150 kr r90 a1 a2 a3 a4 h = zseg zPP false (zcal []) (zget (999, 0, 0, 0) zc_M_choose) (zcut zu_M_choose) (zorc [(151, [some (112, some 0), some (0, none), some (0, none), none, some (0, none), none, none], [(0, none)], fun xs h => match xs with
  | [a1, a2, a4, t0] => M_choose_151 kr r90 a1 a2 a4 t0 h
  | _ => none)]) kr (fun _ _ => none) 400 150 [some (112, 0), some (0, a1), some (0, a2), some (0, a3), some (0, a4), none, none] [] h := qg_M_choose_150 kr r90 (M_choose_151 kr r90) a1 a2 a3 a4 h
set_option maxRecDepth 100000 in
theorem qg_M_choose_90b {ρ : Type} (kr : Int → zH → Option ρ) (r90 : Int → Int → Int → Int → zH → Option ρ) (F_M_canGo : Int → zH → (Int → zH → Option ρ) → Option ρ) (c145 : Int → Int → Int → Int → zH → Option ρ) (c150 : Int → Int → Int → Int → zH → Option ρ) (a1 a2 a3 a4 : Int) (h : zH) : (zix 2 a1 fun j1 =>
if a4 < (zhD h 93 0 j1) then (zix 2 a1 fun j2 =>
if zhD h 93 0 j2 = 0 then none else F_M_canGo (wr ((wr (4 * a1)) + (Int.tmod (wr (a2 + a4)) (zhD h 93 0 j2)))) h  fun v3 h4 =>
if v3 = 0 then c150 a1 a2 a3 a4 h4
else if a3 = (-1) then c145 a1 a2 a4 (Int.tmod (wr (a2 + a4)) (zhD h 93 0 j2)) h4
else if (zhD h4 12 0 2) = 121 then c145 a1 a2 a4 (Int.tmod (wr (a2 + a4)) (zhD h 93 0 j2)) h4
else c150 a1 a2 a3 a4 h4)
else kr a3 h) = zseg zPP false (zcal [(134, [some 0, none], fun xs h kr kt => match xs with
  | [x1] => F_M_canGo x1 h kr
  | _ => none)]) (zget (999, 0, 0, 0) zc_M_choose) (zcut zu_M_choose) (zorc [(145, [some (112, some 0), some (0, none), some (0, none), none, some (0, none), some (0, none), none], [], fun xs h => match xs with
  | [a1, a2, a4, a5] => c145 a1 a2 a4 a5 h
  | _ => none), (150, [some (112, some 0), some (0, none), some (0, none), some (0, none), some (0, none), none, none], [], fun xs h => match xs with
  | [a1, a2, a3, a4] => c150 a1 a2 a3 a4 h
  | _ => none)]) kr (fun _ _ => none) 400 90 [some (112, 0), some (0, a1), some (0, a2), some (0, a3), some (0, a4), none, none] [] h := by rfl
set_option maxRecDepth 100000 in
theorem qe_M_choose_90b {ρ : Type} (kr : Int → zH → Option ρ) (r90 : Int → Int → Int → Int → zH → Option ρ) (a1 a2 a3 a4 : Int) (h : zH) : M_choose_90b kr r90 a1 a2 a3 a4 h = zseg zPP false (zcal [(134, [some 0, none], fun xs h kr kt => match xs with
  | [x1] => M_canGo x1 h kr
  | _ => none)]) (zget (999, 0, 0, 0) zc_M_choose) (zcut zu_M_choose) (zorc [(145, [some (112, some 0), some (0, none), some (0, none), none, some (0, none), some (0, none), none], [], fun xs h => match xs with
  | [a1, a2, a4, a5] => M_choose_145 kr r90 a1 a2 a4 a5 h
  | _ => none), (150, [some (112, some 0), some (0, none), some (0, none), some (0, none), some (0, none), none, none], [], fun xs h => match xs with
  | [a1, a2, a3, a4] => M_choose_150 kr r90 a1 a2 a3 a4 h
  | _ => none)]) kr (fun _ _ => none) 400 90 [some (112, 0), some (0, a1), some (0, a2), some (0, a3), some (0, a4), none, none] [] h := qg_M_choose_90b kr r90 M_canGo (M_choose_145 kr r90) (M_choose_150 kr r90) a1 a2 a3 a4 h
set_option maxRecDepth 100000 in
theorem qg_M_choose_85 {ρ : Type} (kr : Int → zH → Option ρ) (c90 : Int → Int → Int → Int → zH → Option ρ) (a1 a2 : Int) (h : zH) : (c90 a1 a2 (-1) 0 h) = zseg zPP false (zcal []) (zget (999, 0, 0, 0) zc_M_choose) (zcut zu_M_choose) (zorc [(90, [some (112, some 0), some (0, none), some (0, none), some (0, none), some (0, none), none, none], [], fun xs h => match xs with
  | [a1, a2, a3, a4] => c90 a1 a2 a3 a4 h
  | _ => none)]) kr (fun _ _ => none) 400 85 [some (112, 0), some (0, a1), some (0, a2), none, none, none, none] [] h := by rfl
set_option maxRecDepth 100000 in
theorem qe_M_choose_85 {ρ : Type} (kr : Int → zH → Option ρ) (a1 a2 : Int) (h : zH) : M_choose_85 kr a1 a2 h = zseg zPP false (zcal []) (zget (999, 0, 0, 0) zc_M_choose) (zcut zu_M_choose) (zorc [(90, [some (112, some 0), some (0, none), some (0, none), some (0, none), some (0, none), none, none], [], fun xs h => match xs with
  | [a1, a2, a3, a4] => M_choose_90 kr a1 a2 a3 a4 h
  | _ => none)]) kr (fun _ _ => none) 400 85 [some (112, 0), some (0, a1), some (0, a2), none, none, none, none] [] h := qg_M_choose_85 kr (M_choose_90 kr) a1 a2 h
set_option maxRecDepth 100000 in
theorem qg_M_choose_23b {ρ : Type} (kr : Int → zH → Option ρ) (r23 : Int → Int → Int → zH → Option ρ) (c77 : Int → Int → Int → zH → Option ρ) (c78 : Int → Int → Int → zH → Option ρ) (c85 : Int → Int → zH → Option ρ) (a1 a2 a3 : Int) (h : zH) : (zix 2 a1 fun j1 =>
if a3 < (zhD h 93 0 j1) then (zix 8 (wr ((wr (4 * a1)) + a3)) fun j2 =>
zix 2 a1 fun j3 =>
if (zhD h 94 0 j2) = (zhD h 100 0 j3) then (zix 8 (wr ((wr (4 * a1)) + a3)) fun j4 =>
zix 2 a1 fun j5 =>
if (zhD h 95 0 j4) = (zhD h 101 0 j5) then c78 a1 a3 (wr (a3 + 1)) h
else c77 a1 a2 a3 h)
else c77 a1 a2 a3 h)
else c85 a1 a2 h) = zseg zPP false (zcal []) (zget (999, 0, 0, 0) zc_M_choose) (zcut zu_M_choose) (zorc [(77, [some (112, some 0), some (0, none), some (0, none), some (0, none), none, none, none], [], fun xs h => match xs with
  | [a1, a2, a3] => c77 a1 a2 a3 h
  | _ => none), (78, [some (112, some 0), some (0, none), none, some (0, none), none, none, none], [(0, none)], fun xs h => match xs with
  | [a1, a3, t0] => c78 a1 a3 t0 h
  | _ => none), (85, [some (112, some 0), some (0, none), some (0, none), none, none, none, none], [], fun xs h => match xs with
  | [a1, a2] => c85 a1 a2 h
  | _ => none)]) kr (fun _ _ => none) 400 23 [some (112, 0), some (0, a1), some (0, a2), some (0, a3), none, none, none] [] h := by rfl
set_option maxRecDepth 100000 in
theorem qe_M_choose_23b {ρ : Type} (kr : Int → zH → Option ρ) (r23 : Int → Int → Int → zH → Option ρ) (a1 a2 a3 : Int) (h : zH) : M_choose_23b kr r23 a1 a2 a3 h = zseg zPP false (zcal []) (zget (999, 0, 0, 0) zc_M_choose) (zcut zu_M_choose) (zorc [(77, [some (112, some 0), some (0, none), some (0, none), some (0, none), none, none, none], [], fun xs h => match xs with
  | [a1, a2, a3] => M_choose_77 kr r23 a1 a2 a3 h
  | _ => none), (78, [some (112, some 0), some (0, none), none, some (0, none), none, none, none], [(0, none)], fun xs h => match xs with
  | [a1, a3, t0] => M_choose_78 kr r23 a1 a3 t0 h
  | _ => none), (85, [some (112, some 0), some (0, none), some (0, none), none, none, none, none], [], fun xs h => match xs with
  | [a1, a2] => M_choose_85 kr a1 a2 h
  | _ => none)]) kr (fun _ _ => none) 400 23 [some (112, 0), some (0, a1), some (0, a2), some (0, a3), none, none, none] [] h := qg_M_choose_23b kr r23 (M_choose_77 kr r23) (M_choose_78 kr r23) (M_choose_85 kr) a1 a2 a3 h
set_option maxRecDepth 100000 in
theorem qg_M_choose {ρ : Type} (kr : Int → zH → Option ρ) (c23 : Int → Int → Int → zH → Option ρ) (c85 : Int → Int → zH → Option ρ) (a1 : Int) (h : zH) : (if (zhD h 12 0 2) = 97 then (zix 2 a1 fun j1 =>
if (zhD h 100 0 j1) = (-1) then c85 a1 0 h
else c23 a1 0 0 h)
else c85 a1 0 h) = zseg zPP false (zcal []) (zget (999, 0, 0, 0) zc_M_choose) (zcut zu_M_choose) (zorc [(23, [some (112, some 0), some (0, none), some (0, none), some (0, none), none, none, none], [], fun xs h => match xs with
  | [a1, a2, a3] => c23 a1 a2 a3 h
  | _ => none), (85, [some (112, some 0), some (0, none), some (0, none), none, none, none, none], [], fun xs h => match xs with
  | [a1, a2] => c85 a1 a2 h
  | _ => none)]) kr (fun _ _ => none) 400 0 [some (112, 0), some (0, a1), none, none, none, none, none] [] h := by rfl
set_option maxRecDepth 100000 in
theorem qe_M_choose {ρ : Type} (kr : Int → zH → Option ρ) (a1 : Int) (h : zH) : M_choose a1 h kr = zseg zPP false (zcal []) (zget (999, 0, 0, 0) zc_M_choose) (zcut zu_M_choose) (zorc [(23, [some (112, some 0), some (0, none), some (0, none), some (0, none), none, none, none], [], fun xs h => match xs with
  | [a1, a2, a3] => M_choose_23 kr a1 a2 a3 h
  | _ => none), (85, [some (112, some 0), some (0, none), some (0, none), none, none, none, none], [], fun xs h => match xs with
  | [a1, a2] => M_choose_85 kr a1 a2 h
  | _ => none)]) kr (fun _ _ => none) 400 0 [some (112, 0), some (0, a1), none, none, none, none, none] [] h := qg_M_choose kr (M_choose_23 kr) (M_choose_85 kr) a1 h
