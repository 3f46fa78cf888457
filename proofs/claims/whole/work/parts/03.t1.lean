def zc_Le_enterHostLaunch : List zI := [(14, 0, 0, 0), (10, 0, 1, 0), (110, 0, 34, 236), (999, 0, 0, 0), (999, 0, 0, 0), (20, 0, 3, 0), (14, 0, 3, 0), (73, 10, 17, 0), (999, 0, 0, 0), (999, 0, 0, 0), (14, 0, 3, 0), (110, 0, 38, 222), (999, 0, 0, 0), (999, 0, 0, 0), (60, 7, 21, 0), (999, 0, 0, 0), (999, 0, 0, 0), (0, 1, 0, 0), (72, 4, 22, 0), (999, 0, 0, 0), (999, 0, 0, 0), (0, 0, 0, 0), (17, 0, 4, 0), (999, 0, 0, 0), (14, 0, 0, 0), (103, 0, 17, 9), (999, 0, 0, 0), (999, 0, 0, 0), (50, 0, 0, 0), (14, 0, 0, 0), (80, 1, 31, 3), (999, 0, 0, 0), (999, 0, 0, 0), (10, 0, 1, 0), (11, 0, 4, 0), (999, 0, 0, 0), (60, 7, 43, 0), (999, 0, 0, 0), (999, 0, 0, 0), (7, 0, 0, 0), (72, 4, 44, 0), (999, 0, 0, 0), (999, 0, 0, 0), (14, 0, 3, 0), (14, 0, 0, 0), (10, 0, 2, 0), (110, 0, 42, 232), (999, 0, 0, 0), (999, 0, 0, 0), (7, 0, 0, 0), (115, 0, 45, 219), (999, 0, 0, 0), (999, 0, 0, 0), (110, 0, 48, 235), (999, 0, 0, 0), (999, 0, 0, 0), (132, 0, 0, 0)]
def Le_enterHostLaunch_44 {ρ : Type} (kr : Int → zH → Option ρ) (a0 a2 t0 t1 t2 t3 t4 t5 : Int) (h : zH) : Option ρ :=
zob h 1 a0 fun _ =>
Le_launchOf a0 a2 h  fun v1 h2 =>
La_init t3 t2 t1 t0 v1 (-1) h2  fun _ h4 =>
zob h4 1 t5 fun _ =>
Le_enter t5 t4 h4  fun v5 h6 =>
kr v5 h6
def Le_enterHostLaunch_22 {ρ : Type} (kr : Int → zH → Option ρ) (a0 a1 a2 a3 t0 : Int) (h : zH) : Option ρ :=
zlet (znew h 9 0 (znf zPP 9) (fun k => zdef (zft zPP 9 k))) fun h1 =>
zob h1 1 a0 fun p2 =>
if t0 = 0 then Le_enterHostLaunch_44 kr a0 a2 a3 a1 (zhd h1 p2 3) (zhn h : Int) (zhn h : Int) a0 h1
else Le_enterHostLaunch_44 kr a0 a2 (-1) a1 (zhd h1 p2 3) (zhn h : Int) (zhn h : Int) a0 h1
def Le_enterHostLaunch_17 {ρ : Type} (kr : Int → zH → Option ρ) (a0 a1 a2 a3 : Int) (h : zH) : Option ρ :=
Le_enterHostLaunch_22 kr a0 a1 a2 a3 1 h
def Le_enterHostLaunch {ρ : Type} (a0 a1 a2 : Int) (h : zH) (kr : Int → zH → Option ρ) : Option ρ :=
zob h 1 a0 fun _ =>
Le_lastIn a0 a1 h  fun v1 h2 =>
if v1 < 0 then Le_enterHostLaunch_17 kr a0 a1 a2 v1 h2
else zob h2 9 v1 fun _ =>
La_isOver v1 h2  fun v3 h4 =>
if v3 = 0 then Le_enterHostLaunch_22 kr a0 a1 a2 v1 0 h4
else Le_enterHostLaunch_17 kr a0 a1 a2 v1 h4
set_option maxRecDepth 100000 in
theorem qe_Le_enterHostLaunch_44 {ρ : Type} (kr : Int → zH → Option ρ) (a0 a2 t0 t1 t2 t3 t4 t5 : Int) (h : zH) : Le_enterHostLaunch_44 kr a0 a2 t0 t1 t2 t3 t4 t5 h = zseg zPP true (fun _ _ => none) (zcal [(219, [none, none, none, none, none, none], fun xs h kr kt => match xs with
  | [x0, x1, x2, x3, x4, x5] => La_init x0 x1 x2 x3 x4 x5 h kr
  | _ => none), (232, [none, none], fun xs h kr kt => match xs with
  | [x0, x1] => Le_launchOf x0 x1 h kr
  | _ => none), (235, [none, none], fun xs h kr kt => match xs with
  | [x0, x1] => Le_enter x0 x1 h kr
  | _ => none)]) (zget (999, 0, 0, 0) zc_Le_enterHostLaunch) (zcut [(17, [true, true, true, true, false]), (22, [true, true, true, true, false]), (44, [true, false, true, false, false])]) (zorc []) kr (fun _ _ => none) 400 44 [some (2, a0), none, some (0, a2), none, none] [(2, t0), (0, t1), (0, t2), (2, t3), (2, t4), (2, t5)] h := by rfl
set_option maxRecDepth 100000 in
theorem qe_Le_enterHostLaunch_22 {ρ : Type} (kr : Int → zH → Option ρ) (a0 a1 a2 a3 t0 : Int) (h : zH) : Le_enterHostLaunch_22 kr a0 a1 a2 a3 t0 h = zseg zPP true (fun _ _ => none) (zcal []) (zget (999, 0, 0, 0) zc_Le_enterHostLaunch) (zcut [(17, [true, true, true, true, false]), (22, [true, true, true, true, false]), (44, [true, false, true, false, false])]) (zorc [(44, [some (2, none), none, some (0, none), none, none], [(2, none), (0, none), (0, none), (2, none), (2, none), (2, none)], fun xs h => match xs with
  | [a0, a2, t0, t1, t2, t3, t4, t5] => Le_enterHostLaunch_44 kr a0 a2 t0 t1 t2 t3 t4 t5 h
  | _ => none)]) kr (fun _ _ => none) 400 22 [some (2, a0), some (0, a1), some (0, a2), some (2, a3), none] [(0, t0)] h := by rfl
set_option maxRecDepth 100000 in
theorem qe_Le_enterHostLaunch_17 {ρ : Type} (kr : Int → zH → Option ρ) (a0 a1 a2 a3 : Int) (h : zH) : Le_enterHostLaunch_17 kr a0 a1 a2 a3 h = zseg zPP true (fun _ _ => none) (zcal []) (zget (999, 0, 0, 0) zc_Le_enterHostLaunch) (zcut [(17, [true, true, true, true, false]), (22, [true, true, true, true, false]), (44, [true, false, true, false, false])]) (zorc [(22, [some (2, none), some (0, none), some (0, none), some (2, none), none], [(0, none)], fun xs h => match xs with
  | [a0, a1, a2, a3, t0] => Le_enterHostLaunch_22 kr a0 a1 a2 a3 t0 h
  | _ => none)]) kr (fun _ _ => none) 400 17 [some (2, a0), some (0, a1), some (0, a2), some (2, a3), none] [] h := by rfl
set_option maxRecDepth 100000 in
theorem qe_Le_enterHostLaunch {ρ : Type} (kr : Int → zH → Option ρ) (a0 a1 a2 : Int) (h : zH) : Le_enterHostLaunch a0 a1 a2 h kr = zseg zPP true (fun _ _ => none) (zcal [(222, [none], fun xs h kr kt => match xs with
  | [x0] => La_isOver x0 h kr
  | _ => none), (236, [none, none], fun xs h kr kt => match xs with
  | [x0, x1] => Le_lastIn x0 x1 h kr
  | _ => none)]) (zget (999, 0, 0, 0) zc_Le_enterHostLaunch) (zcut [(17, [true, true, true, true, false]), (22, [true, true, true, true, false]), (44, [true, false, true, false, false])]) (zorc [(17, [some (2, none), some (0, none), some (0, none), some (2, none), none], [], fun xs h => match xs with
  | [a0, a1, a2, a3] => Le_enterHostLaunch_17 kr a0 a1 a2 a3 h
  | _ => none), (22, [some (2, none), some (0, none), some (0, none), some (2, none), none], [(0, none)], fun xs h => match xs with
  | [a0, a1, a2, a3, t0] => Le_enterHostLaunch_22 kr a0 a1 a2 a3 t0 h
  | _ => none)]) kr (fun _ _ => none) 400 0 [some (2, a0), some (0, a1), some (0, a2), none, none] [] h := by rfl
def zc_X_launch : List zI := [(14, 0, 0, 0), (10, 0, 1, 0), (11, 0, 5, 0), (999, 0, 0, 0), (110, 0, 94, 46), (999, 0, 0, 0), (999, 0, 0, 0), (14, 0, 0, 0), (10, 0, 2, 0), (110, 0, 55, 41), (999, 0, 0, 0), (999, 0, 0, 0), (21, 0, 6, 0), (999, 0, 0, 0), (10, 0, 3, 0), (0, 1, 0, 0), (1, 6, 0, 0), (999, 0, 0, 0), (113, 0, 32, 48), (999, 0, 0, 0), (999, 0, 0, 0), (60, 14, 35, 0), (999, 0, 0, 0), (999, 0, 0, 0), (11, 0, 4, 0), (999, 0, 0, 0), (0, 1, 0, 0), (1, 16, 0, 0), (999, 0, 0, 0), (113, 0, 32, 48), (999, 0, 0, 0), (999, 0, 0, 0), (61, 11, 43, 0), (999, 0, 0, 0), (999, 0, 0, 0), (134, 38, 36, 1), (999, 0, 0, 0), (999, 0, 0, 0), (999, 0, 0, 0), (999, 0, 0, 0), (999, 0, 0, 0), (999, 0, 0, 0), (999, 0, 0, 0), (15, 0, 6, 0), (999, 0, 0, 0), (11, 0, 4, 0), (999, 0, 0, 0), (110, 0, 79, 218), (999, 0, 0, 0), (999, 0, 0, 0), (61, 11, 61, 0), (999, 0, 0, 0), (999, 0, 0, 0), (134, 99, 97, 4), (999, 0, 0, 0), (999, 0, 0, 0), (999, 0, 0, 0), (999, 0, 0, 0), (999, 0, 0, 0), (999, 0, 0, 0), (999, 0, 0, 0), (14, 0, 0, 0), (110, 0, 100, 47), (999, 0, 0, 0), (999, 0, 0, 0), (14, 0, 0, 0), (80, 0, 10, 0), (999, 0, 0, 0), (999, 0, 0, 0), (10, 0, 1, 0), (11, 0, 5, 0), (999, 0, 0, 0), (110, 0, 103, 234), (999, 0, 0, 0), (999, 0, 0, 0), (21, 0, 7, 0), (999, 0, 0, 0), (15, 0, 7, 0), (999, 0, 0, 0), (15, 0, 6, 0), (999, 0, 0, 0), (10, 0, 3, 0), (11, 0, 4, 0), (999, 0, 0, 0), (110, 0, 107, 220), (999, 0, 0, 0), (999, 0, 0, 0), (15, 0, 7, 0), (999, 0, 0, 0), (80, 9, 113, 0), (999, 0, 0, 0), (999, 0, 0, 0), (130, 0, 0, 0)]
def X_launch_35 {ρ : Type} (kr : Int → zH → Option ρ) (kt : Nat → zH → Option ρ) (h : zH) : Option ρ :=
zlet (zthrown h) fun h1 => kt 1 h1
def X_launch {ρ : Type} (a0 a1 a2 a3 a4 a5 : Int) (h : zH) (kt : Nat → zH → Option ρ) (kr : Int → zH → Option ρ) : Option ρ :=
zob h 0 a0 fun _ =>
X_checkQueueAndAfter a0 a1 a5 h (kt := kt) fun _ h2 =>
zob h2 0 a0 fun _ =>
X_kernelAt a0 a2 h2 (kt := kt) fun v3 h4 =>
X_isWithin a3 1 6 h4  fun v5 h6 =>
if v5 = 0 then X_launch_35 kr kt h6
else X_isWithin a4 1 16 h6  fun v7 h8 =>
if v7 = 0 then X_launch_35 kr kt h8
else zob h8 7 v3 fun _ =>
Ke_blocksInUnit v3 a4 h8  fun v9 h10 =>
if v9 = 0 then zlet (zthrown h10) fun h19 => kt 4 h19
else zob h10 0 a0 fun _ =>
X_checkRoomForLaunch a0 h10 (kt := kt) fun _ h12 =>
zob h12 0 a0 fun p13 =>
zob h12 1 (zhd h12 p13 0) fun _ =>
Le_enterHostLaunch (zhd h12 p13 0) a1 a5 h12  fun v14 h15 =>
zob h15 9 v14 fun _ =>
La_useKernel v14 v3 a3 a4 h15  fun _ h17 =>
zob h17 9 v14 fun p18 =>
kr (zhd h17 p18 0) h17
set_option maxRecDepth 100000 in
theorem qe_X_launch_35 {ρ : Type} (kr : Int → zH → Option ρ) (kt : Nat → zH → Option ρ) (h : zH) : X_launch_35 kr kt h = zseg zPP true (fun _ _ => none) (zcal []) (zget (999, 0, 0, 0) zc_X_launch) (zcut [(35, [false, false, false, false, false, false, false, false])]) (zorc []) kr kt 400 35 [none, none, none, none, none, none, none, none] [] h := by rfl
set_option maxRecDepth 100000 in
theorem qe_X_launch {ρ : Type} (kr : Int → zH → Option ρ) (kt : Nat → zH → Option ρ) (a0 a1 a2 a3 a4 a5 : Int) (h : zH) : X_launch a0 a1 a2 a3 a4 a5 h kt kr = zseg zPP true (fun _ _ => none) (zcal [(41, [none, none], fun xs h kr kt => match xs with
  | [x0, x1] => X_kernelAt x0 x1 h kt kr
  | _ => none), (46, [none, none, none], fun xs h kr kt => match xs with
  | [x0, x1, x2] => X_checkQueueAndAfter x0 x1 x2 h kt kr
  | _ => none), (47, [none], fun xs h kr kt => match xs with
  | [x0] => X_checkRoomForLaunch x0 h kt kr
  | _ => none), (48, [none, none, none], fun xs h kr kt => match xs with
  | [x0, x1, x2] => X_isWithin x0 x1 x2 h kr
  | _ => none), (218, [none, none], fun xs h kr kt => match xs with
  | [x0, x1] => Ke_blocksInUnit x0 x1 h kr
  | _ => none), (220, [none, none, none, none], fun xs h kr kt => match xs with
  | [x0, x1, x2, x3] => La_useKernel x0 x1 x2 x3 h kr
  | _ => none), (234, [none, none, none], fun xs h kr kt => match xs with
  | [x0, x1, x2] => Le_enterHostLaunch x0 x1 x2 h kr
  | _ => none)]) (zget (999, 0, 0, 0) zc_X_launch) (zcut [(35, [false, false, false, false, false, false, false, false])]) (zorc [(35, [none, none, none, none, none, none, none, none], [], fun xs h => match xs with
  | [] => X_launch_35 kr kt  h
  | _ => none)]) kr kt 400 0 [some (2, a0), some (0, a1), some (0, a2), some (0, a3), some (0, a4), some (0, a5), none, none] [] h := by rfl
def zc_La_useCopy : List zI := [(14, 0, 0, 0), (10, 0, 1, 0), (82, 9, 56, 13), (999, 0, 0, 0), (999, 0, 0, 0), (14, 0, 0, 0), (10, 0, 2, 0), (82, 9, 59, 14), (999, 0, 0, 0), (999, 0, 0, 0), (14, 0, 0, 0), (10, 0, 3, 0), (82, 9, 62, 15), (999, 0, 0, 0), (999, 0, 0, 0), (133, 0, 0, 0)]
def La_useCopy {ρ : Type} (a0 a1 a2 a3 : Int) (h : zH) (kr : Int → zH → Option ρ) : Option ρ :=
zob h 9 a0 fun p1 =>
zlet (zset h p1 13 a1) fun h2 =>
zob h2 9 a0 fun p3 =>
zlet (zset h2 p3 14 a2) fun h4 =>
zob h4 9 a0 fun p5 =>
zlet (zset h4 p5 15 a3) fun h6 =>
kr 0 h6
set_option maxRecDepth 100000 in
theorem qe_La_useCopy {ρ : Type} (kr : Int → zH → Option ρ) (a0 a1 a2 a3 : Int) (h : zH) : La_useCopy a0 a1 a2 a3 h kr = zseg zPP true (fun _ _ => none) (zcal []) (zget (999, 0, 0, 0) zc_La_useCopy) (zcut []) (zorc []) kr (fun _ _ => none) 400 0 [some (2, a0), some (0, a1), some (0, a2), some (0, a3)] [] h := by rfl
def zc_X_copy : List zI := [(14, 0, 0, 0), (10, 0, 1, 0), (11, 0, 5, 0), (999, 0, 0, 0), (110, 0, 94, 46), (999, 0, 0, 0), (999, 0, 0, 0), (11, 0, 4, 0), (999, 0, 0, 0), (0, 1, 0, 0), (1, 64, 0, 0), (999, 0, 0, 0), (113, 0, 32, 48), (999, 0, 0, 0), (999, 0, 0, 0), (60, 29, 44, 0), (999, 0, 0, 0), (999, 0, 0, 0), (10, 0, 2, 0), (0, 0, 0, 0), (1, 64, 0, 0), (999, 0, 0, 0), (11, 0, 4, 0), (999, 0, 0, 0), (31, 0, 0, 0), (113, 0, 32, 48), (999, 0, 0, 0), (999, 0, 0, 0), (60, 16, 44, 0), (999, 0, 0, 0), (999, 0, 0, 0), (10, 0, 3, 0), (0, 0, 0, 0), (1, 64, 0, 0), (999, 0, 0, 0), (11, 0, 4, 0), (999, 0, 0, 0), (31, 0, 0, 0), (113, 0, 32, 48), (999, 0, 0, 0), (999, 0, 0, 0), (61, 11, 52, 0), (999, 0, 0, 0), (999, 0, 0, 0), (134, 38, 36, 1), (999, 0, 0, 0), (999, 0, 0, 0), (999, 0, 0, 0), (999, 0, 0, 0), (999, 0, 0, 0), (999, 0, 0, 0), (999, 0, 0, 0), (14, 0, 0, 0), (110, 0, 100, 47), (999, 0, 0, 0), (999, 0, 0, 0), (14, 0, 0, 0), (80, 0, 10, 0), (999, 0, 0, 0), (999, 0, 0, 0), (10, 0, 1, 0), (11, 0, 5, 0), (999, 0, 0, 0), (110, 0, 103, 234), (999, 0, 0, 0), (999, 0, 0, 0), (21, 0, 6, 0), (999, 0, 0, 0), (15, 0, 6, 0), (999, 0, 0, 0), (10, 0, 2, 0), (10, 0, 3, 0), (11, 0, 4, 0), (999, 0, 0, 0), (110, 0, 116, 221), (999, 0, 0, 0), (999, 0, 0, 0), (15, 0, 6, 0), (999, 0, 0, 0), (80, 9, 113, 0), (999, 0, 0, 0), (999, 0, 0, 0), (130, 0, 0, 0)]
def X_copy_44 {ρ : Type} (kr : Int → zH → Option ρ) (kt : Nat → zH → Option ρ) (h : zH) : Option ρ :=
zlet (zthrown h) fun h1 => kt 1 h1
def X_copy {ρ : Type} (a0 a1 a2 a3 a4 a5 : Int) (h : zH) (kt : Nat → zH → Option ρ) (kr : Int → zH → Option ρ) : Option ρ :=
zob h 0 a0 fun _ =>
X_checkQueueAndAfter a0 a1 a5 h (kt := kt) fun _ h2 =>
X_isWithin a4 1 64 h2  fun v3 h4 =>
if v3 = 0 then X_copy_44 kr kt h4
else X_isWithin a2 0 (wr (64 - a4)) h4  fun v5 h6 =>
if v5 = 0 then X_copy_44 kr kt h6
else X_isWithin a3 0 (wr (64 - a4)) h6  fun v7 h8 =>
if v7 = 0 then X_copy_44 kr kt h8
else zob h8 0 a0 fun _ =>
X_checkRoomForLaunch a0 h8 (kt := kt) fun _ h10 =>
zob h10 0 a0 fun p11 =>
zob h10 1 (zhd h10 p11 0) fun _ =>
Le_enterHostLaunch (zhd h10 p11 0) a1 a5 h10  fun v12 h13 =>
zob h13 9 v12 fun _ =>
La_useCopy v12 a2 a3 a4 h13  fun _ h15 =>
zob h15 9 v12 fun p16 =>
kr (zhd h15 p16 0) h15
set_option maxRecDepth 100000 in
theorem qe_X_copy_44 {ρ : Type} (kr : Int → zH → Option ρ) (kt : Nat → zH → Option ρ) (h : zH) : X_copy_44 kr kt h = zseg zPP true (fun _ _ => none) (zcal []) (zget (999, 0, 0, 0) zc_X_copy) (zcut [(44, [false, false, false, false, false, false, false])]) (zorc []) kr kt 400 44 [none, none, none, none, none, none, none] [] h := by rfl
set_option maxRecDepth 100000 in
theorem qe_X_copy {ρ : Type} (kr : Int → zH → Option ρ) (kt : Nat → zH → Option ρ) (a0 a1 a2 a3 a4 a5 : Int) (h : zH) : X_copy a0 a1 a2 a3 a4 a5 h kt kr = zseg zPP true (fun _ _ => none) (zcal [(46, [none, none, none], fun xs h kr kt => match xs with
  | [x0, x1, x2] => X_checkQueueAndAfter x0 x1 x2 h kt kr
  | _ => none), (47, [none], fun xs h kr kt => match xs with
  | [x0] => X_checkRoomForLaunch x0 h kt kr
  | _ => none), (48, [none, none, none], fun xs h kr kt => match xs with
  | [x0, x1, x2] => X_isWithin x0 x1 x2 h kr
  | _ => none), (221, [none, none, none, none], fun xs h kr kt => match xs with
  | [x0, x1, x2, x3] => La_useCopy x0 x1 x2 x3 h kr
  | _ => none), (234, [none, none, none], fun xs h kr kt => match xs with
  | [x0, x1, x2] => Le_enterHostLaunch x0 x1 x2 h kr
  | _ => none)]) (zget (999, 0, 0, 0) zc_X_copy) (zcut [(44, [false, false, false, false, false, false, false])]) (zorc [(44, [none, none, none, none, none, none, none], [], fun xs h => match xs with
  | [] => X_copy_44 kr kt  h
  | _ => none)]) kr kt 400 0 [some (2, a0), some (0, a1), some (0, a2), some (0, a3), some (0, a4), some (0, a5), none] [] h := by rfl
def zc_X_launches : List zI := [(14, 0, 0, 0), (80, 0, 10, 0), (999, 0, 0, 0), (999, 0, 0, 0), (80, 1, 120, 3), (999, 0, 0, 0), (999, 0, 0, 0), (130, 0, 0, 0)]
def X_launches {ρ : Type} (a0 : Int) (h : zH) (kr : Int → zH → Option ρ) : Option ρ :=
zob h 0 a0 fun p1 =>
zob h 1 (zhd h p1 0) fun p2 =>
kr (zhd h p2 3) h
set_option maxRecDepth 100000 in
theorem qe_X_launches {ρ : Type} (kr : Int → zH → Option ρ) (a0 : Int) (h : zH) : X_launches a0 h kr = zseg zPP true (fun _ _ => none) (zcal []) (zget (999, 0, 0, 0) zc_X_launches) (zcut []) (zorc []) kr (fun _ _ => none) 400 0 [some (2, a0)] [] h := by rfl
def zc_X_state : List zI := [(14, 0, 0, 0), (10, 0, 1, 0), (110, 0, 123, 42), (999, 0, 0, 0), (999, 0, 0, 0), (80, 9, 127, 10), (999, 0, 0, 0), (999, 0, 0, 0), (130, 0, 2, 0)]
def X_state {ρ : Type} (a0 a1 : Int) (h : zH) (kt : Nat → zH → Option ρ) (kr : Int → zH → Option ρ) : Option ρ :=
zob h 0 a0 fun _ =>
X_launchAt a0 a1 h (kt := kt) fun v1 h2 =>
zob h2 9 v1 fun p3 =>
znar 2 (zhd h2 p3 10) fun x4 => kr x4 h2
set_option maxRecDepth 100000 in
theorem qe_X_state {ρ : Type} (kr : Int → zH → Option ρ) (kt : Nat → zH → Option ρ) (a0 a1 : Int) (h : zH) : X_state a0 a1 h kt kr = zseg zPP true (fun _ _ => none) (zcal [(42, [none, none], fun xs h kr kt => match xs with
  | [x0, x1] => X_launchAt x0 x1 h kt kr
  | _ => none)]) (zget (999, 0, 0, 0) zc_X_state) (zcut []) (zorc []) kr kt 400 0 [some (2, a0), some (0, a1)] [] h := by rfl
def zc_X_parent : List zI := [(14, 0, 0, 0), (10, 0, 1, 0), (110, 0, 123, 42), (999, 0, 0, 0), (999, 0, 0, 0), (20, 0, 2, 0), (14, 0, 2, 0), (80, 9, 131, 4), (999, 0, 0, 0), (999, 0, 0, 0), (74, 11, 21, 0), (999, 0, 0, 0), (999, 0, 0, 0), (134, 137, 135, 5), (999, 0, 0, 0), (999, 0, 0, 0), (999, 0, 0, 0), (999, 0, 0, 0), (999, 0, 0, 0), (999, 0, 0, 0), (999, 0, 0, 0), (14, 0, 2, 0), (80, 9, 131, 4), (999, 0, 0, 0), (999, 0, 0, 0), (80, 9, 113, 0), (999, 0, 0, 0), (999, 0, 0, 0), (130, 0, 0, 0)]
def X_parent {ρ : Type} (a0 a1 : Int) (h : zH) (kt : Nat → zH → Option ρ) (kr : Int → zH → Option ρ) : Option ρ :=
zob h 0 a0 fun _ =>
X_launchAt a0 a1 h (kt := kt) fun v1 h2 =>
zob h2 9 v1 fun p3 =>
if (zhd h2 p3 4) < 0 then zlet (zthrown h2) fun h6 => kt 5 h6
else zob h2 9 v1 fun p4 =>
zob h2 9 (zhd h2 p4 4) fun p5 =>
kr (zhd h2 p5 0) h2
set_option maxRecDepth 100000 in
theorem qe_X_parent {ρ : Type} (kr : Int → zH → Option ρ) (kt : Nat → zH → Option ρ) (a0 a1 : Int) (h : zH) : X_parent a0 a1 h kt kr = zseg zPP true (fun _ _ => none) (zcal [(42, [none, none], fun xs h kr kt => match xs with
  | [x0, x1] => X_launchAt x0 x1 h kt kr
  | _ => none)]) (zget (999, 0, 0, 0) zc_X_parent) (zcut []) (zorc []) kr kt 400 0 [some (2, a0), some (0, a1), none] [] h := by rfl
def zc_X_given : List zI := [(14, 0, 0, 0), (10, 0, 1, 0), (110, 0, 123, 42), (999, 0, 0, 0), (999, 0, 0, 0), (80, 9, 138, 8), (999, 0, 0, 0), (999, 0, 0, 0), (130, 0, 0, 0)]
def X_given {ρ : Type} (a0 a1 : Int) (h : zH) (kt : Nat → zH → Option ρ) (kr : Int → zH → Option ρ) : Option ρ :=
zob h 0 a0 fun _ =>
X_launchAt a0 a1 h (kt := kt) fun v1 h2 =>
zob h2 9 v1 fun p3 =>
kr (zhd h2 p3 8) h2
set_option maxRecDepth 100000 in
theorem qe_X_given {ρ : Type} (kr : Int → zH → Option ρ) (kt : Nat → zH → Option ρ) (a0 a1 : Int) (h : zH) : X_given a0 a1 h kt kr = zseg zPP true (fun _ _ => none) (zcal [(42, [none, none], fun xs h kr kt => match xs with
  | [x0, x1] => X_launchAt x0 x1 h kt kr
  | _ => none)]) (zget (999, 0, 0, 0) zc_X_given) (zcut []) (zorc []) kr kt 400 0 [some (2, a0), some (0, a1)] [] h := by rfl
def zc_La_isCopyRunning : List zI := [(14, 0, 0, 0), (80, 9, 40, 5), (999, 0, 0, 0), (999, 0, 0, 0), (74, 16, 20, 0), (999, 0, 0, 0), (999, 0, 0, 0), (14, 0, 0, 0), (80, 9, 11, 10), (999, 0, 0, 0), (999, 0, 0, 0), (1, 114, 0, 0), (999, 0, 0, 0), (67, 7, 20, 0), (999, 0, 0, 0), (999, 0, 0, 0), (0, 1, 0, 0), (72, 4, 21, 0), (999, 0, 0, 0), (999, 0, 0, 0), (0, 0, 0, 0), (130, 0, 1, 0)]
def La_isCopyRunning_21 {ρ : Type} (kr : Int → zH → Option ρ) (t0 : Int) (h : zH) : Option ρ :=
znar 1 t0 fun x1 => kr x1 h
def La_isCopyRunning_20 {ρ : Type} (kr : Int → zH → Option ρ) (h : zH) : Option ρ :=
La_isCopyRunning_21 kr 0 h
def La_isCopyRunning {ρ : Type} (a0 : Int) (h : zH) (kr : Int → zH → Option ρ) : Option ρ :=
zob h 9 a0 fun p1 =>
if (zhd h p1 5) < 0 then (zob h 9 a0 fun p2 =>
if (zhd h p2 10) = 114 then La_isCopyRunning_21 kr 1 h
else La_isCopyRunning_20 kr h)
else La_isCopyRunning_20 kr h
set_option maxRecDepth 100000 in
theorem qe_La_isCopyRunning_21 {ρ : Type} (kr : Int → zH → Option ρ) (t0 : Int) (h : zH) : La_isCopyRunning_21 kr t0 h = zseg zPP true (fun _ _ => none) (zcal []) (zget (999, 0, 0, 0) zc_La_isCopyRunning) (zcut [(20, [false]), (21, [false])]) (zorc []) kr (fun _ _ => none) 400 21 [none] [(0, t0)] h := by rfl
set_option maxRecDepth 100000 in
theorem qe_La_isCopyRunning_20 {ρ : Type} (kr : Int → zH → Option ρ) (h : zH) : La_isCopyRunning_20 kr h = zseg zPP true (fun _ _ => none) (zcal []) (zget (999, 0, 0, 0) zc_La_isCopyRunning) (zcut [(20, [false]), (21, [false])]) (zorc [(21, [none], [(0, none)], fun xs h => match xs with
  | [t0] => La_isCopyRunning_21 kr t0 h
  | _ => none)]) kr (fun _ _ => none) 400 20 [none] [] h := by rfl
set_option maxRecDepth 100000 in
theorem qe_La_isCopyRunning {ρ : Type} (kr : Int → zH → Option ρ) (a0 : Int) (h : zH) : La_isCopyRunning a0 h kr = zseg zPP true (fun _ _ => none) (zcal []) (zget (999, 0, 0, 0) zc_La_isCopyRunning) (zcut [(20, [false]), (21, [false])]) (zorc [(20, [none], [], fun xs h => match xs with
  | [] => La_isCopyRunning_20 kr  h
  | _ => none), (21, [none], [(0, none)], fun xs h => match xs with
  | [t0] => La_isCopyRunning_21 kr t0 h
  | _ => none)]) kr (fun _ _ => none) 400 0 [some (2, a0)] [] h := by rfl
def zc_La_moveCell : List zI := [(14, 0, 0, 0), (80, 9, 62, 15), (999, 0, 0, 0), (999, 0, 0, 0), (65, 65, 69, 0), (999, 0, 0, 0), (999, 0, 0, 0), (14, 0, 0, 0), (80, 9, 56, 13), (999, 0, 0, 0), (999, 0, 0, 0), (114, 0, 68, 49), (999, 0, 0, 0), (999, 0, 0, 0), (60, 55, 69, 0), (999, 0, 0, 0), (999, 0, 0, 0), (14, 0, 0, 0), (80, 9, 59, 14), (999, 0, 0, 0), (999, 0, 0, 0), (114, 0, 68, 49), (999, 0, 0, 0), (999, 0, 0, 0), (60, 45, 69, 0), (999, 0, 0, 0), (999, 0, 0, 0), (14, 0, 1, 0), (14, 0, 0, 0), (80, 9, 59, 14), (999, 0, 0, 0), (999, 0, 0, 0), (14, 0, 1, 0), (14, 0, 0, 0), (80, 9, 56, 13), (999, 0, 0, 0), (999, 0, 0, 0), (90, 0, 0, 0), (95, 0, 0, 0), (14, 0, 0, 0), (50, 0, 0, 0), (80, 9, 56, 13), (999, 0, 0, 0), (999, 0, 0, 0), (0, 1, 0, 0), (30, 0, 0, 0), (82, 9, 56, 13), (999, 0, 0, 0), (999, 0, 0, 0), (14, 0, 0, 0), (50, 0, 0, 0), (80, 9, 59, 14), (999, 0, 0, 0), (999, 0, 0, 0), (0, 1, 0, 0), (30, 0, 0, 0), (82, 9, 59, 14), (999, 0, 0, 0), (999, 0, 0, 0), (14, 0, 0, 0), (50, 0, 0, 0), (80, 9, 62, 15), (999, 0, 0, 0), (999, 0, 0, 0), (0, 1, 0, 0), (31, 0, 0, 0), (82, 9, 62, 15), (999, 0, 0, 0), (999, 0, 0, 0), (14, 0, 0, 0), (80, 9, 62, 15), (999, 0, 0, 0), (999, 0, 0, 0), (61, 9, 82, 0), (999, 0, 0, 0), (999, 0, 0, 0), (14, 0, 0, 0), (1, 100, 0, 0), (999, 0, 0, 0), (82, 9, 11, 10), (999, 0, 0, 0), (999, 0, 0, 0), (133, 0, 0, 0)]
def La_moveCell_82 {ρ : Type} (kr : Int → zH → Option ρ) (h : zH) : Option ρ :=
kr 0 h
def La_moveCell_69 {ρ : Type} (kr : Int → zH → Option ρ) (a0 : Int) (h : zH) : Option ρ :=
zob h 9 a0 fun p1 =>
if (zhd h p1 15) = 0 then (zob h 9 a0 fun p2 =>
zlet (zset h p2 10 100) fun h3 =>
La_moveCell_82 kr h3)
else La_moveCell_82 kr h
def La_moveCell {ρ : Type} (a0 a1 : Int) (h : zH) (kr : Int → zH → Option ρ) : Option ρ :=
zob h 9 a0 fun p1 =>
if 0 < (zhd h p1 15) then (zob h 9 a0 fun p2 =>
X_isCell (zhd h p2 13) h  fun v3 h4 =>
if v3 = 0 then La_moveCell_69 kr a0 h4
else zob h4 9 a0 fun p5 =>
X_isCell (zhd h4 p5 14) h4  fun v6 h7 =>
if v6 = 0 then La_moveCell_69 kr a0 h7
else zob h7 9 a0 fun p8 =>
zob h7 9 a0 fun p9 =>
zob h7 20 a1 fun p11 =>
zix (zhl h7 p11) (zhd h7 p9 13) fun j10 =>
zob h7 20 a1 fun p13 =>
zix (zhl h7 p13) (zhd h7 p8 14) fun j12 =>
zlet (zset h7 p13 j12 (zhd h7 p11 j10)) fun h14 =>
zob h14 9 a0 fun p15 =>
zob h14 9 a0 fun p16 =>
zlet (zset h14 p16 13 (wr ((zhd h14 p15 13) + 1))) fun h17 =>
zob h17 9 a0 fun p18 =>
zob h17 9 a0 fun p19 =>
zlet (zset h17 p19 14 (wr ((zhd h17 p18 14) + 1))) fun h20 =>
zob h20 9 a0 fun p21 =>
zob h20 9 a0 fun p22 =>
zlet (zset h20 p22 15 (wr ((zhd h20 p21 15) - 1))) fun h23 =>
La_moveCell_69 kr a0 h23)
else La_moveCell_69 kr a0 h
set_option maxRecDepth 100000 in
theorem qe_La_moveCell_82 {ρ : Type} (kr : Int → zH → Option ρ) (h : zH) : La_moveCell_82 kr h = zseg zPP true (fun _ _ => none) (zcal []) (zget (999, 0, 0, 0) zc_La_moveCell) (zcut [(69, [true, false]), (82, [false, false])]) (zorc []) kr (fun _ _ => none) 400 82 [none, none] [] h := by rfl
set_option maxRecDepth 100000 in
theorem qe_La_moveCell_69 {ρ : Type} (kr : Int → zH → Option ρ) (a0 : Int) (h : zH) : La_moveCell_69 kr a0 h = zseg zPP true (fun _ _ => none) (zcal []) (zget (999, 0, 0, 0) zc_La_moveCell) (zcut [(69, [true, false]), (82, [false, false])]) (zorc [(82, [none, none], [], fun xs h => match xs with
  | [] => La_moveCell_82 kr  h
  | _ => none)]) kr (fun _ _ => none) 400 69 [some (2, a0), none] [] h := by rfl
set_option maxRecDepth 100000 in
theorem qe_La_moveCell {ρ : Type} (kr : Int → zH → Option ρ) (a0 a1 : Int) (h : zH) : La_moveCell a0 a1 h kr = zseg zPP true (fun _ _ => none) (zcal [(49, [none], fun xs h kr kt => match xs with
  | [x0] => X_isCell x0 h kr
  | _ => none)]) (zget (999, 0, 0, 0) zc_La_moveCell) (zcut [(69, [true, false]), (82, [false, false])]) (zorc [(69, [some (2, none), none], [], fun xs h => match xs with
  | [a0] => La_moveCell_69 kr a0 h
  | _ => none)]) kr (fun _ _ => none) 400 0 [some (2, a0), some (2, a1)] [] h := by rfl
def zc_Co_moveCopies : List zI := [(0, 0, 0, 0), (16, 0, 1, 0), (10, 0, 1, 0), (14, 0, 0, 0), (80, 2, 39, 0), (999, 0, 0, 0), (999, 0, 0, 0), (80, 1, 79, 3), (999, 0, 0, 0), (999, 0, 0, 0), (69, 37, 47, 0), (999, 0, 0, 0), (999, 0, 0, 0), (14, 0, 0, 0), (80, 2, 39, 0), (999, 0, 0, 0), (999, 0, 0, 0), (10, 0, 1, 0), (110, 0, 82, 232), (999, 0, 0, 0), (999, 0, 0, 0), (20, 0, 2, 0), (14, 0, 2, 0), (73, 18, 41, 0), (999, 0, 0, 0), (999, 0, 0, 0), (14, 0, 2, 0), (110, 0, 86, 225), (999, 0, 0, 0), (999, 0, 0, 0), (60, 11, 41, 0), (999, 0, 0, 0), (999, 0, 0, 0), (14, 0, 2, 0), (14, 0, 0, 0), (80, 2, 9, 1), (999, 0, 0, 0), (999, 0, 0, 0), (110, 0, 92, 228), (999, 0, 0, 0), (999, 0, 0, 0), (22, 1, 1, 0), (999, 0, 0, 0), (999, 0, 0, 0), (72, (-42), 2, 0), (999, 0, 0, 0), (999, 0, 0, 0), (133, 0, 0, 0)]
def Co_moveCopies_41 {ρ : Type} (kr : Int → zH → Option ρ) (r2 : Int → Int → zH → Option ρ) (a0 a1 : Int) (h : zH) : Option ρ :=
r2 a0 (wr (a1 + 1)) h
def Co_moveCopies_2b {ρ : Type} (kr : Int → zH → Option ρ) (r2 : Int → Int → zH → Option ρ) (a0 a1 : Int) (h : zH) : Option ρ :=
zob h 2 a0 fun p1 =>
zob h 1 (zhd h p1 0) fun p2 =>
if a1 < (zhd h p2 3) then (zob h 2 a0 fun p3 =>
zob h 1 (zhd h p3 0) fun _ =>
Le_launchOf (zhd h p3 0) a1 h  fun v4 h5 =>
if v4 < 0 then Co_moveCopies_41 kr r2 a0 a1 h5
else zob h5 9 v4 fun _ =>
La_isCopyRunning v4 h5  fun v6 h7 =>
if v6 = 0 then Co_moveCopies_41 kr r2 a0 a1 h7
else zob h7 2 a0 fun p8 =>
zob h7 9 v4 fun _ =>
La_moveCell v4 (zhd h7 p8 1) h7  fun _ h10 =>
Co_moveCopies_41 kr r2 a0 a1 h10)
else kr 0 h
def Co_moveCopies_2 {ρ : Type} (kr : Int → zH → Option ρ) : Int → Int → zH → Option ρ := zit (fun _ _ _ => none) (Co_moveCopies_2b kr) zN
def Co_moveCopies {ρ : Type} (a0 : Int) (h : zH) (kr : Int → zH → Option ρ) : Option ρ :=
Co_moveCopies_2 kr a0 0 h
set_option maxRecDepth 100000 in
theorem qe_Co_moveCopies_41 {ρ : Type} (kr : Int → zH → Option ρ) (r2 : Int → Int → zH → Option ρ) (a0 a1 : Int) (h : zH) : Co_moveCopies_41 kr r2 a0 a1 h = zseg zPP true (fun _ _ => none) (zcal []) (zget (999, 0, 0, 0) zc_Co_moveCopies) (zcut [(2, [true, true, false]), (41, [true, true, false])]) (zorc [(2, [some (2, none), some (0, none), none], [], fun xs h => match xs with
  | [a0, a1] => r2 a0 a1 h
  | _ => none)]) kr (fun _ _ => none) 400 41 [some (2, a0), some (0, a1), none] [] h := by rfl
set_option maxRecDepth 100000 in
theorem qe_Co_moveCopies_2b {ρ : Type} (kr : Int → zH → Option ρ) (r2 : Int → Int → zH → Option ρ) (a0 a1 : Int) (h : zH) : Co_moveCopies_2b kr r2 a0 a1 h = zseg zPP true (fun _ _ => none) (zcal [(225, [none], fun xs h kr kt => match xs with
  | [x0] => La_isCopyRunning x0 h kr
  | _ => none), (228, [none, none], fun xs h kr kt => match xs with
  | [x0, x1] => La_moveCell x0 x1 h kr
  | _ => none), (232, [none, none], fun xs h kr kt => match xs with
  | [x0, x1] => Le_launchOf x0 x1 h kr
  | _ => none)]) (zget (999, 0, 0, 0) zc_Co_moveCopies) (zcut [(2, [true, true, false]), (41, [true, true, false])]) (zorc [(41, [some (2, none), some (0, none), none], [], fun xs h => match xs with
  | [a0, a1] => Co_moveCopies_41 kr r2 a0 a1 h
  | _ => none)]) kr (fun _ _ => none) 400 2 [some (2, a0), some (0, a1), none] [] h := by rfl
set_option maxRecDepth 100000 in
theorem qe_Co_moveCopies {ρ : Type} (kr : Int → zH → Option ρ) (a0 : Int) (h : zH) : Co_moveCopies a0 h kr = zseg zPP true (fun _ _ => none) (zcal []) (zget (999, 0, 0, 0) zc_Co_moveCopies) (zcut [(2, [true, true, false]), (41, [true, true, false])]) (zorc [(2, [some (2, none), some (0, none), none], [], fun xs h => match xs with
  | [a0, a1] => Co_moveCopies_2 kr a0 a1 h
  | _ => none)]) kr (fun _ _ => none) 400 0 [some (2, a0), none, none] [] h := by rfl
def zc_Un_usedRegisters : List zI := [(0, 0, 0, 0), (16, 0, 1, 0), (0, 0, 0, 0), (16, 0, 2, 0), (10, 0, 2, 0), (14, 0, 0, 0), (80, 3, 21, 2), (999, 0, 0, 0), (999, 0, 0, 0), (69, 54, 63, 0), (999, 0, 0, 0), (999, 0, 0, 0), (14, 0, 0, 0), (80, 3, 11, 0), (999, 0, 0, 0), (999, 0, 0, 0), (10, 0, 2, 0), (94, 0, 0, 11), (80, 11, 48, 0), (999, 0, 0, 0), (999, 0, 0, 0), (20, 0, 3, 0), (10, 0, 1, 0), (14, 0, 0, 0), (80, 3, 11, 0), (999, 0, 0, 0), (999, 0, 0, 0), (10, 0, 2, 0), (94, 0, 0, 11), (80, 11, 52, 1), (999, 0, 0, 0), (999, 0, 0, 0), (61, 22, 54, 0), (999, 0, 0, 0), (999, 0, 0, 0), (14, 0, 3, 0), (80, 10, 55, 2), (999, 0, 0, 0), (999, 0, 0, 0), (100, 0, 0, 36), (14, 0, 3, 0), (80, 10, 61, 0), (999, 0, 0, 0), (999, 0, 0, 0), (80, 9, 65, 5), (999, 0, 0, 0), (999, 0, 0, 0), (80, 7, 37, 0), (999, 0, 0, 0), (999, 0, 0, 0), (32, 0, 0, 0), (72, 4, 55, 0), (999, 0, 0, 0), (999, 0, 0, 0), (0, 0, 0, 0), (30, 0, 0, 0), (16, 0, 1, 0), (22, 1, 2, 0), (999, 0, 0, 0), (999, 0, 0, 0), (72, (-56), 4, 0), (999, 0, 0, 0), (999, 0, 0, 0), (10, 0, 1, 0), (130, 0, 0, 0)]
def Un_usedRegisters_55 {ρ : Type} (kr : Int → zH → Option ρ) (r4 : Int → Int → Int → zH → Option ρ) (a0 a2 t0 t1 : Int) (h : zH) : Option ρ :=
r4 a0 (wr (t1 + t0)) (wr (a2 + 1)) h
def Un_usedRegisters_4b {ρ : Type} (kr : Int → zH → Option ρ) (r4 : Int → Int → Int → zH → Option ρ) (a0 a1 a2 : Int) (h : zH) : Option ρ :=
zob h 3 a0 fun p1 =>
if a2 < (zhd h p1 2) then (zob h 3 a0 fun p2 =>
zob h 41 (zhd h p2 0) fun p4 =>
zix (zhl h p4) a2 fun j3 =>
zob h 11 (zhd h p4 j3) fun p5 =>
zob h 3 a0 fun p6 =>
zob h 41 (zhd h p6 0) fun p8 =>
zix (zhl h p8) a2 fun j7 =>
zob h 11 (zhd h p8 j7) fun p9 =>
if (zhd h p9 1) = 0 then (zob h 10 (zhd h p5 0) fun p10 =>
zob h 36 (zhd h p10 2) fun p11 =>
zob h 10 (zhd h p5 0) fun p12 =>
zob h 9 (zhd h p12 0) fun p13 =>
zob h 7 (zhd h p13 5) fun p14 =>
Un_usedRegisters_55 kr r4 a0 a2 (wr ((zhl h p11 : Int) * (zhd h p14 0))) a1 h)
else Un_usedRegisters_55 kr r4 a0 a2 0 a1 h)
else kr a1 h
def Un_usedRegisters_4 {ρ : Type} (kr : Int → zH → Option ρ) : Int → Int → Int → zH → Option ρ := zit (fun _ _ _ _ => none) (Un_usedRegisters_4b kr) zN
def Un_usedRegisters {ρ : Type} (a0 : Int) (h : zH) (kr : Int → zH → Option ρ) : Option ρ :=
Un_usedRegisters_4 kr a0 0 0 h
set_option maxRecDepth 100000 in
theorem qe_Un_usedRegisters_55 {ρ : Type} (kr : Int → zH → Option ρ) (r4 : Int → Int → Int → zH → Option ρ) (a0 a2 t0 t1 : Int) (h : zH) : Un_usedRegisters_55 kr r4 a0 a2 t0 t1 h = zseg zPP true (fun _ _ => none) (zcal []) (zget (999, 0, 0, 0) zc_Un_usedRegisters) (zcut [(4, [true, true, true, false]), (55, [true, false, true, false])]) (zorc [(4, [some (2, none), some (0, none), some (0, none), none], [], fun xs h => match xs with
  | [a0, a1, a2] => r4 a0 a1 a2 h
  | _ => none)]) kr (fun _ _ => none) 400 55 [some (2, a0), none, some (0, a2), none] [(0, t0), (0, t1)] h := by rfl
set_option maxRecDepth 100000 in
theorem qe_Un_usedRegisters_4b {ρ : Type} (kr : Int → zH → Option ρ) (r4 : Int → Int → Int → zH → Option ρ) (a0 a1 a2 : Int) (h : zH) : Un_usedRegisters_4b kr r4 a0 a1 a2 h = zseg zPP true (fun _ _ => none) (zcal []) (zget (999, 0, 0, 0) zc_Un_usedRegisters) (zcut [(4, [true, true, true, false]), (55, [true, false, true, false])]) (zorc [(55, [some (2, none), none, some (0, none), none], [(0, none), (0, none)], fun xs h => match xs with
  | [a0, a2, t0, t1] => Un_usedRegisters_55 kr r4 a0 a2 t0 t1 h
  | _ => none)]) kr (fun _ _ => none) 400 4 [some (2, a0), some (0, a1), some (0, a2), none] [] h := by rfl
set_option maxRecDepth 100000 in
theorem qe_Un_usedRegisters {ρ : Type} (kr : Int → zH → Option ρ) (a0 : Int) (h : zH) : Un_usedRegisters a0 h kr = zseg zPP true (fun _ _ => none) (zcal []) (zget (999, 0, 0, 0) zc_Un_usedRegisters) (zcut [(4, [true, true, true, false]), (55, [true, false, true, false])]) (zorc [(4, [some (2, none), some (0, none), some (0, none), none], [], fun xs h => match xs with
  | [a0, a1, a2] => Un_usedRegisters_4 kr a0 a1 a2 h
  | _ => none)]) kr (fun _ _ => none) 400 0 [some (2, a0), none, none, none] [] h := by rfl
def zc_Un_usedShared : List zI := [(0, 0, 0, 0), (16, 0, 1, 0), (0, 0, 0, 0), (16, 0, 2, 0), (10, 0, 2, 0), (14, 0, 0, 0), (80, 3, 21, 2), (999, 0, 0, 0), (999, 0, 0, 0), (69, 41, 50, 0), (999, 0, 0, 0), (999, 0, 0, 0), (10, 0, 1, 0), (14, 0, 0, 0), (80, 3, 11, 0), (999, 0, 0, 0), (999, 0, 0, 0), (10, 0, 2, 0), (94, 0, 0, 11), (80, 11, 52, 1), (999, 0, 0, 0), (999, 0, 0, 0), (61, 19, 41, 0), (999, 0, 0, 0), (999, 0, 0, 0), (14, 0, 0, 0), (80, 3, 11, 0), (999, 0, 0, 0), (999, 0, 0, 0), (10, 0, 2, 0), (94, 0, 0, 11), (80, 11, 48, 0), (999, 0, 0, 0), (999, 0, 0, 0), (80, 10, 71, 4), (999, 0, 0, 0), (999, 0, 0, 0), (100, 0, 0, 20), (72, 4, 42, 0), (999, 0, 0, 0), (999, 0, 0, 0), (0, 0, 0, 0), (30, 0, 0, 0), (16, 0, 1, 0), (22, 1, 2, 0), (999, 0, 0, 0), (999, 0, 0, 0), (72, (-43), 4, 0), (999, 0, 0, 0), (999, 0, 0, 0), (10, 0, 1, 0), (130, 0, 0, 0)]
def Un_usedShared_42 {ρ : Type} (kr : Int → zH → Option ρ) (r4 : Int → Int → Int → zH → Option ρ) (a0 a2 t0 t1 : Int) (h : zH) : Option ρ :=
r4 a0 (wr (t1 + t0)) (wr (a2 + 1)) h
def Un_usedShared_4b {ρ : Type} (kr : Int → zH → Option ρ) (r4 : Int → Int → Int → zH → Option ρ) (a0 a1 a2 : Int) (h : zH) : Option ρ :=
zob h 3 a0 fun p1 =>
if a2 < (zhd h p1 2) then (zob h 3 a0 fun p2 =>
zob h 41 (zhd h p2 0) fun p4 =>
zix (zhl h p4) a2 fun j3 =>
zob h 11 (zhd h p4 j3) fun p5 =>
if (zhd h p5 1) = 0 then (zob h 3 a0 fun p6 =>
zob h 41 (zhd h p6 0) fun p8 =>
zix (zhl h p8) a2 fun j7 =>
zob h 11 (zhd h p8 j7) fun p9 =>
zob h 10 (zhd h p9 0) fun p10 =>
zob h 20 (zhd h p10 4) fun p11 =>
Un_usedShared_42 kr r4 a0 a2 (zhl h p11 : Int) a1 h)
else Un_usedShared_42 kr r4 a0 a2 0 a1 h)
else kr a1 h
def Un_usedShared_4 {ρ : Type} (kr : Int → zH → Option ρ) : Int → Int → Int → zH → Option ρ := zit (fun _ _ _ _ => none) (Un_usedShared_4b kr) zN
def Un_usedShared {ρ : Type} (a0 : Int) (h : zH) (kr : Int → zH → Option ρ) : Option ρ :=
Un_usedShared_4 kr a0 0 0 h
set_option maxRecDepth 100000 in
theorem qe_Un_usedShared_42 {ρ : Type} (kr : Int → zH → Option ρ) (r4 : Int → Int → Int → zH → Option ρ) (a0 a2 t0 t1 : Int) (h : zH) : Un_usedShared_42 kr r4 a0 a2 t0 t1 h = zseg zPP true (fun _ _ => none) (zcal []) (zget (999, 0, 0, 0) zc_Un_usedShared) (zcut [(4, [true, true, true]), (42, [true, false, true])]) (zorc [(4, [some (2, none), some (0, none), some (0, none)], [], fun xs h => match xs with
  | [a0, a1, a2] => r4 a0 a1 a2 h
  | _ => none)]) kr (fun _ _ => none) 400 42 [some (2, a0), none, some (0, a2)] [(0, t0), (0, t1)] h := by rfl
set_option maxRecDepth 100000 in
theorem qe_Un_usedShared_4b {ρ : Type} (kr : Int → zH → Option ρ) (r4 : Int → Int → Int → zH → Option ρ) (a0 a1 a2 : Int) (h : zH) : Un_usedShared_4b kr r4 a0 a1 a2 h = zseg zPP true (fun _ _ => none) (zcal []) (zget (999, 0, 0, 0) zc_Un_usedShared) (zcut [(4, [true, true, true]), (42, [true, false, true])]) (zorc [(42, [some (2, none), none, some (0, none)], [(0, none), (0, none)], fun xs h => match xs with
  | [a0, a2, t0, t1] => Un_usedShared_42 kr r4 a0 a2 t0 t1 h
  | _ => none)]) kr (fun _ _ => none) 400 4 [some (2, a0), some (0, a1), some (0, a2)] [] h := by rfl
set_option maxRecDepth 100000 in
theorem qe_Un_usedShared {ρ : Type} (kr : Int → zH → Option ρ) (a0 : Int) (h : zH) : Un_usedShared a0 h kr = zseg zPP true (fun _ _ => none) (zcal []) (zget (999, 0, 0, 0) zc_Un_usedShared) (zcut [(4, [true, true, true]), (42, [true, false, true])]) (zorc [(4, [some (2, none), some (0, none), some (0, none)], [], fun xs h => match xs with
  | [a0, a1, a2] => Un_usedShared_4 kr a0 a1 a2 h
  | _ => none)]) kr (fun _ _ => none) 400 0 [some (2, a0), none, none] [] h := by rfl
def zc_Un_hasRoomFor : List zI := [(14, 0, 0, 0), (80, 3, 21, 2), (999, 0, 0, 0), (999, 0, 0, 0), (10, 0, 2, 0), (114, 0, 29, 51), (999, 0, 0, 0), (999, 0, 0, 0), (30, 0, 0, 0), (0, 4, 0, 0), (70, 37, 47, 0), (999, 0, 0, 0), (999, 0, 0, 0), (14, 0, 0, 0), (110, 0, 33, 268), (999, 0, 0, 0), (999, 0, 0, 0), (10, 0, 2, 0), (14, 0, 1, 0), (80, 7, 37, 0), (999, 0, 0, 0), (999, 0, 0, 0), (32, 0, 0, 0), (30, 0, 0, 0), (1, 64, 0, 0), (999, 0, 0, 0), (70, 21, 47, 0), (999, 0, 0, 0), (999, 0, 0, 0), (14, 0, 0, 0), (110, 0, 42, 269), (999, 0, 0, 0), (999, 0, 0, 0), (14, 0, 1, 0), (80, 7, 45, 1), (999, 0, 0, 0), (999, 0, 0, 0), (30, 0, 0, 0), (1, 32, 0, 0), (999, 0, 0, 0), (70, 7, 47, 0), (999, 0, 0, 0), (999, 0, 0, 0), (0, 1, 0, 0), (72, 4, 48, 0), (999, 0, 0, 0), (999, 0, 0, 0), (0, 0, 0, 0), (130, 0, 1, 0)]
def Un_hasRoomFor_48 {ρ : Type} (kr : Int → zH → Option ρ) (t0 : Int) (h : zH) : Option ρ :=
znar 1 t0 fun x1 => kr x1 h
def Un_hasRoomFor_47 {ρ : Type} (kr : Int → zH → Option ρ) (h : zH) : Option ρ :=
Un_hasRoomFor_48 kr 0 h
def Un_hasRoomFor {ρ : Type} (a0 a1 a2 : Int) (h : zH) (kr : Int → zH → Option ρ) : Option ρ :=
zob h 3 a0 fun p1 =>
X_groupsFor a2 h  fun v2 h3 =>
if 4 < (wr ((zhd h p1 2) + v2)) then Un_hasRoomFor_47 kr h3
else zob h3 3 a0 fun _ =>
Un_usedRegisters a0 h3  fun v4 h5 =>
zob h5 7 a1 fun p6 =>
if 64 < (wr (v4 + (wr (a2 * (zhd h5 p6 0))))) then Un_hasRoomFor_47 kr h5
else zob h5 3 a0 fun _ =>
Un_usedShared a0 h5  fun v7 h8 =>
zob h8 7 a1 fun p9 =>
if 32 < (wr (v7 + (zhd h8 p9 1))) then Un_hasRoomFor_47 kr h8
else Un_hasRoomFor_48 kr 1 h8
set_option maxRecDepth 100000 in
theorem qe_Un_hasRoomFor_48 {ρ : Type} (kr : Int → zH → Option ρ) (t0 : Int) (h : zH) : Un_hasRoomFor_48 kr t0 h = zseg zPP true (fun _ _ => none) (zcal []) (zget (999, 0, 0, 0) zc_Un_hasRoomFor) (zcut [(47, [false, false, false]), (48, [false, false, false])]) (zorc []) kr (fun _ _ => none) 400 48 [none, none, none] [(0, t0)] h := by rfl
set_option maxRecDepth 100000 in
theorem qe_Un_hasRoomFor_47 {ρ : Type} (kr : Int → zH → Option ρ) (h : zH) : Un_hasRoomFor_47 kr h = zseg zPP true (fun _ _ => none) (zcal []) (zget (999, 0, 0, 0) zc_Un_hasRoomFor) (zcut [(47, [false, false, false]), (48, [false, false, false])]) (zorc [(48, [none, none, none], [(0, none)], fun xs h => match xs with
  | [t0] => Un_hasRoomFor_48 kr t0 h
  | _ => none)]) kr (fun _ _ => none) 400 47 [none, none, none] [] h := by rfl
set_option maxRecDepth 100000 in
theorem qe_Un_hasRoomFor {ρ : Type} (kr : Int → zH → Option ρ) (a0 a1 a2 : Int) (h : zH) : Un_hasRoomFor a0 a1 a2 h kr = zseg zPP true (fun _ _ => none) (zcal [(51, [none], fun xs h kr kt => match xs with
  | [x0] => X_groupsFor x0 h kr
  | _ => none), (268, [none], fun xs h kr kt => match xs with
  | [x0] => Un_usedRegisters x0 h kr
  | _ => none), (269, [none], fun xs h kr kt => match xs with
  | [x0] => Un_usedShared x0 h kr
  | _ => none)]) (zget (999, 0, 0, 0) zc_Un_hasRoomFor) (zcut [(47, [false, false, false]), (48, [false, false, false])]) (zorc [(47, [none, none, none], [], fun xs h => match xs with
  | [] => Un_hasRoomFor_47 kr  h
  | _ => none), (48, [none, none, none], [(0, none)], fun xs h => match xs with
  | [t0] => Un_hasRoomFor_48 kr t0 h
  | _ => none)]) kr (fun _ _ => none) 400 0 [some (2, a0), some (2, a1), some (0, a2)] [] h := by rfl
def zc_Co_unitFor : List zI := [(7, 0, 0, 0), (20, 0, 2, 0), (0, 0, 0, 0), (16, 0, 3, 0), (10, 0, 3, 0), (0, 2, 0, 0), (69, 56, 62, 0), (999, 0, 0, 0), (999, 0, 0, 0), (14, 0, 0, 0), (80, 2, 18, 2), (999, 0, 0, 0), (999, 0, 0, 0), (10, 0, 3, 0), (94, 0, 0, 3), (14, 0, 1, 0), (80, 9, 107, 5), (999, 0, 0, 0), (999, 0, 0, 0), (14, 0, 1, 0), (80, 9, 111, 7), (999, 0, 0, 0), (999, 0, 0, 0), (110, 0, 114, 267), (999, 0, 0, 0), (999, 0, 0, 0), (60, 30, 56, 0), (999, 0, 0, 0), (999, 0, 0, 0), (14, 0, 2, 0), (73, 19, 49, 0), (999, 0, 0, 0), (999, 0, 0, 0), (14, 0, 0, 0), (80, 2, 18, 2), (999, 0, 0, 0), (999, 0, 0, 0), (10, 0, 3, 0), (94, 0, 0, 3), (80, 3, 118, 2), (999, 0, 0, 0), (999, 0, 0, 0), (14, 0, 2, 0), (80, 3, 118, 2), (999, 0, 0, 0), (999, 0, 0, 0), (69, 10, 56, 0), (999, 0, 0, 0), (999, 0, 0, 0), (14, 0, 0, 0), (80, 2, 18, 2), (999, 0, 0, 0), (999, 0, 0, 0), (10, 0, 3, 0), (94, 0, 0, 3), (20, 0, 2, 0), (22, 1, 3, 0), (999, 0, 0, 0), (999, 0, 0, 0), (72, (-55), 4, 0), (999, 0, 0, 0), (999, 0, 0, 0), (14, 0, 2, 0), (132, 0, 0, 0)]
def Co_unitFor_56 {ρ : Type} (kr : Int → zH → Option ρ) (r4 : Int → Int → Int → Int → zH → Option ρ) (a0 a1 a2 a3 : Int) (h : zH) : Option ρ :=
r4 a0 a1 a2 (wr (a3 + 1)) h
def Co_unitFor_49 {ρ : Type} (kr : Int → zH → Option ρ) (r4 : Int → Int → Int → Int → zH → Option ρ) (a0 a1 a3 : Int) (h : zH) : Option ρ :=
zob h 2 a0 fun p1 =>
zob h 33 (zhd h p1 2) fun p3 =>
zix (zhl h p3) a3 fun j2 =>
Co_unitFor_56 kr r4 a0 a1 (zhd h p3 j2) a3 h
def Co_unitFor_4b {ρ : Type} (kr : Int → zH → Option ρ) (r4 : Int → Int → Int → Int → zH → Option ρ) (a0 a1 a2 a3 : Int) (h : zH) : Option ρ :=
if a3 < 2 then (zob h 2 a0 fun p1 =>
zob h 33 (zhd h p1 2) fun p3 =>
zix (zhl h p3) a3 fun j2 =>
zob h 9 a1 fun p4 =>
zob h 9 a1 fun p5 =>
zob h 3 (zhd h p3 j2) fun _ =>
Un_hasRoomFor (zhd h p3 j2) (zhd h p4 5) (zhd h p5 7) h  fun v6 h7 =>
if v6 = 0 then Co_unitFor_56 kr r4 a0 a1 a2 a3 h7
else if a2 < 0 then Co_unitFor_49 kr r4 a0 a1 a3 h7
else zob h7 2 a0 fun p8 =>
zob h7 33 (zhd h7 p8 2) fun p10 =>
zix (zhl h7 p10) a3 fun j9 =>
zob h7 3 (zhd h7 p10 j9) fun p11 =>
zob h7 3 a2 fun p12 =>
if (zhd h7 p11 2) < (zhd h7 p12 2) then Co_unitFor_49 kr r4 a0 a1 a3 h7
else Co_unitFor_56 kr r4 a0 a1 a2 a3 h7)
else kr a2 h
def Co_unitFor_4 {ρ : Type} (kr : Int → zH → Option ρ) : Int → Int → Int → Int → zH → Option ρ := zit (fun _ _ _ _ _ => none) (Co_unitFor_4b kr) zN
def Co_unitFor {ρ : Type} (a0 a1 : Int) (h : zH) (kr : Int → zH → Option ρ) : Option ρ :=
Co_unitFor_4 kr a0 a1 (-1) 0 h
set_option maxRecDepth 100000 in
theorem qe_Co_unitFor_56 {ρ : Type} (kr : Int → zH → Option ρ) (r4 : Int → Int → Int → Int → zH → Option ρ) (a0 a1 a2 a3 : Int) (h : zH) : Co_unitFor_56 kr r4 a0 a1 a2 a3 h = zseg zPP true (fun _ _ => none) (zcal []) (zget (999, 0, 0, 0) zc_Co_unitFor) (zcut [(4, [true, true, true, true]), (49, [true, true, false, true]), (56, [true, true, true, true])]) (zorc [(4, [some (2, none), some (2, none), some (2, none), some (0, none)], [], fun xs h => match xs with
  | [a0, a1, a2, a3] => r4 a0 a1 a2 a3 h
  | _ => none)]) kr (fun _ _ => none) 400 56 [some (2, a0), some (2, a1), some (2, a2), some (0, a3)] [] h := by rfl
set_option maxRecDepth 100000 in
theorem qe_Co_unitFor_49 {ρ : Type} (kr : Int → zH → Option ρ) (r4 : Int → Int → Int → Int → zH → Option ρ) (a0 a1 a3 : Int) (h : zH) : Co_unitFor_49 kr r4 a0 a1 a3 h = zseg zPP true (fun _ _ => none) (zcal []) (zget (999, 0, 0, 0) zc_Co_unitFor) (zcut [(4, [true, true, true, true]), (49, [true, true, false, true]), (56, [true, true, true, true])]) (zorc [(56, [some (2, none), some (2, none), some (2, none), some (0, none)], [], fun xs h => match xs with
  | [a0, a1, a2, a3] => Co_unitFor_56 kr r4 a0 a1 a2 a3 h
  | _ => none)]) kr (fun _ _ => none) 400 49 [some (2, a0), some (2, a1), none, some (0, a3)] [] h := by rfl
set_option maxRecDepth 100000 in
theorem qe_Co_unitFor_4b {ρ : Type} (kr : Int → zH → Option ρ) (r4 : Int → Int → Int → Int → zH → Option ρ) (a0 a1 a2 a3 : Int) (h : zH) : Co_unitFor_4b kr r4 a0 a1 a2 a3 h = zseg zPP true (fun _ _ => none) (zcal [(267, [none, none, none], fun xs h kr kt => match xs with
  | [x0, x1, x2] => Un_hasRoomFor x0 x1 x2 h kr
  | _ => none)]) (zget (999, 0, 0, 0) zc_Co_unitFor) (zcut [(4, [true, true, true, true]), (49, [true, true, false, true]), (56, [true, true, true, true])]) (zorc [(49, [some (2, none), some (2, none), none, some (0, none)], [], fun xs h => match xs with
  | [a0, a1, a3] => Co_unitFor_49 kr r4 a0 a1 a3 h
  | _ => none), (56, [some (2, none), some (2, none), some (2, none), some (0, none)], [], fun xs h => match xs with
  | [a0, a1, a2, a3] => Co_unitFor_56 kr r4 a0 a1 a2 a3 h
  | _ => none)]) kr (fun _ _ => none) 400 4 [some (2, a0), some (2, a1), some (2, a2), some (0, a3)] [] h := by rfl
set_option maxRecDepth 100000 in
theorem qe_Co_unitFor {ρ : Type} (kr : Int → zH → Option ρ) (a0 a1 : Int) (h : zH) : Co_unitFor a0 a1 h kr = zseg zPP true (fun _ _ => none) (zcal []) (zget (999, 0, 0, 0) zc_Co_unitFor) (zcut [(4, [true, true, true, true]), (49, [true, true, false, true]), (56, [true, true, true, true])]) (zorc [(4, [some (2, none), some (2, none), some (2, none), some (0, none)], [], fun xs h => match xs with
  | [a0, a1, a2, a3] => Co_unitFor_4 kr a0 a1 a2 a3 h
  | _ => none)]) kr (fun _ _ => none) 400 0 [some (2, a0), some (2, a1), none, none] [] h := by rfl
def zc_Th_goTo : List zI := [(14, 0, 0, 0), (10, 0, 1, 0), (82, 6, 63, 3), (999, 0, 0, 0), (999, 0, 0, 0), (10, 0, 1, 0), (62, 8, 14, 0), (999, 0, 0, 0), (999, 0, 0, 0), (10, 0, 1, 0), (10, 0, 2, 0), (68, 9, 20, 0), (999, 0, 0, 0), (999, 0, 0, 0), (14, 0, 0, 0), (1, 101, 0, 0), (999, 0, 0, 0), (82, 6, 34, 4), (999, 0, 0, 0), (999, 0, 0, 0), (133, 0, 0, 0)]
def Th_goTo_20 {ρ : Type} (kr : Int → zH → Option ρ) (h : zH) : Option ρ :=
kr 0 h
def Th_goTo_14 {ρ : Type} (kr : Int → zH → Option ρ) (a0 : Int) (h : zH) : Option ρ :=
zob h 6 a0 fun p1 =>
zlet (zset h p1 4 101) fun h2 =>
Th_goTo_20 kr h2
def Th_goTo {ρ : Type} (a0 a1 a2 : Int) (h : zH) (kr : Int → zH → Option ρ) : Option ρ :=
zob h 6 a0 fun p1 =>
zlet (zset h p1 3 a1) fun h2 =>
if a1 < 0 then Th_goTo_14 kr a0 h2
else if a1 < a2 then Th_goTo_20 kr h2
else Th_goTo_14 kr a0 h2
set_option maxRecDepth 100000 in
theorem qe_Th_goTo_20 {ρ : Type} (kr : Int → zH → Option ρ) (h : zH) : Th_goTo_20 kr h = zseg zPP true (fun _ _ => none) (zcal []) (zget (999, 0, 0, 0) zc_Th_goTo) (zcut [(14, [true, false, false]), (20, [false, false, false])]) (zorc []) kr (fun _ _ => none) 400 20 [none, none, none] [] h := by rfl
set_option maxRecDepth 100000 in
theorem qe_Th_goTo_14 {ρ : Type} (kr : Int → zH → Option ρ) (a0 : Int) (h : zH) : Th_goTo_14 kr a0 h = zseg zPP true (fun _ _ => none) (zcal []) (zget (999, 0, 0, 0) zc_Th_goTo) (zcut [(14, [true, false, false]), (20, [false, false, false])]) (zorc [(20, [none, none, none], [], fun xs h => match xs with
  | [] => Th_goTo_20 kr  h
  | _ => none)]) kr (fun _ _ => none) 400 14 [some (2, a0), none, none] [] h := by rfl
set_option maxRecDepth 100000 in
theorem qe_Th_goTo {ρ : Type} (kr : Int → zH → Option ρ) (a0 a1 a2 : Int) (h : zH) : Th_goTo a0 a1 a2 h kr = zseg zPP true (fun _ _ => none) (zcal []) (zget (999, 0, 0, 0) zc_Th_goTo) (zcut [(14, [true, false, false]), (20, [false, false, false])]) (zorc [(14, [some (2, none), none, none], [], fun xs h => match xs with
  | [a0] => Th_goTo_14 kr a0 h
  | _ => none), (20, [none, none, none], [], fun xs h => match xs with
  | [] => Th_goTo_20 kr  h
  | _ => none)]) kr (fun _ _ => none) 400 0 [some (2, a0), some (0, a1), some (0, a2)] [] h := by rfl
def zc_Th_begin : List zI := [(14, 0, 0, 0), (10, 0, 1, 0), (82, 6, 25, 2), (999, 0, 0, 0), (999, 0, 0, 0), (14, 0, 0, 0), (80, 6, 21, 1), (999, 0, 0, 0), (999, 0, 0, 0), (0, 0, 0, 0), (113, 0, 28, 3), (999, 0, 0, 0), (999, 0, 0, 0), (14, 0, 0, 0), (1, 114, 0, 0), (999, 0, 0, 0), (82, 6, 34, 4), (999, 0, 0, 0), (999, 0, 0, 0), (14, 0, 0, 0), (0, 0, 0, 0), (10, 0, 2, 0), (110, 0, 38, 253), (999, 0, 0, 0), (999, 0, 0, 0), (133, 0, 0, 0)]
def Th_begin {ρ : Type} (a0 a1 a2 : Int) (h : zH) (kr : Int → zH → Option ρ) : Option ρ :=
zob h 6 a0 fun p1 =>
zlet (zset h p1 2 a1) fun h2 =>
zob h2 6 a0 fun p3 =>
Ar_fill (zhd h2 p3 1) 0 h2  fun _ h5 =>
zob h5 6 a0 fun p6 =>
zlet (zset h5 p6 4 114) fun h7 =>
zob h7 6 a0 fun _ =>
Th_goTo a0 0 a2 h7  fun _ h9 =>
kr 0 h9
set_option maxRecDepth 100000 in
theorem qe_Th_begin {ρ : Type} (kr : Int → zH → Option ρ) (a0 a1 a2 : Int) (h : zH) : Th_begin a0 a1 a2 h kr = zseg zPP true (fun _ _ => none) (zcal [(3, [none, none], fun xs h kr kt => match xs with
  | [x0, x1] => Ar_fill x0 x1 h kr
  | _ => none), (253, [none, none, none], fun xs h kr kt => match xs with
  | [x0, x1, x2] => Th_goTo x0 x1 x2 h kr
  | _ => none)]) (zget (999, 0, 0, 0) zc_Th_begin) (zcut []) (zorc []) kr (fun _ _ => none) 400 0 [some (2, a0), some (0, a1), some (0, a2)] [] h := by rfl
def zc_Bl_init : List zI := [(14, 0, 0, 0), (117, 0, 3, 0), (999, 0, 0, 0), (999, 0, 0, 0), (14, 0, 0, 0), (1, 64, 0, 0), (999, 0, 0, 0), (101, 0, 0, 20), (999, 0, 0, 0), (84, 10, 9, 5), (999, 0, 0, 0), (999, 0, 0, 0), (14, 0, 0, 0), (14, 0, 1, 0), (84, 10, 15, 0), (999, 0, 0, 0), (999, 0, 0, 0), (14, 0, 0, 0), (10, 0, 2, 0), (84, 10, 19, 1), (999, 0, 0, 0), (999, 0, 0, 0), (14, 0, 0, 0), (14, 0, 1, 0), (80, 9, 23, 7), (999, 0, 0, 0), (999, 0, 0, 0), (102, 0, 28, 6), (999, 0, 0, 0), (999, 0, 0, 0), (84, 10, 30, 2), (999, 0, 0, 0), (999, 0, 0, 0), (0, 0, 0, 0), (16, 0, 3, 0), (10, 0, 3, 0), (14, 0, 0, 0), (80, 10, 30, 2), (999, 0, 0, 0), (999, 0, 0, 0), (100, 0, 0, 36), (69, 47, 88, 0), (999, 0, 0, 0), (999, 0, 0, 0), (14, 0, 0, 0), (80, 10, 30, 2), (999, 0, 0, 0), (999, 0, 0, 0), (10, 0, 3, 0), (103, 0, 28, 6), (999, 0, 0, 0), (999, 0, 0, 0), (50, 0, 0, 0), (10, 0, 3, 0), (14, 0, 1, 0), (80, 9, 33, 5), (999, 0, 0, 0), (999, 0, 0, 0), (80, 7, 37, 0), (999, 0, 0, 0), (999, 0, 0, 0), (115, 0, 42, 244), (999, 0, 0, 0), (999, 0, 0, 0), (99, 0, 0, 6), (14, 0, 0, 0), (80, 10, 30, 2), (999, 0, 0, 0), (999, 0, 0, 0), (10, 0, 3, 0), (94, 0, 0, 6), (10, 0, 2, 0), (14, 0, 1, 0), (80, 9, 33, 5), (999, 0, 0, 0), (999, 0, 0, 0), (80, 7, 45, 3), (999, 0, 0, 0), (999, 0, 0, 0), (110, 0, 48, 245), (999, 0, 0, 0), (999, 0, 0, 0), (22, 1, 3, 0), (999, 0, 0, 0), (999, 0, 0, 0), (72, (-50), 35, 0), (999, 0, 0, 0), (999, 0, 0, 0), (14, 0, 0, 0), (14, 0, 1, 0), (80, 9, 23, 7), (999, 0, 0, 0), (999, 0, 0, 0), (114, 0, 51, 51), (999, 0, 0, 0), (999, 0, 0, 0), (102, 0, 55, 11), (999, 0, 0, 0), (999, 0, 0, 0), (84, 10, 57, 3), (999, 0, 0, 0), (999, 0, 0, 0), (14, 0, 0, 0), (14, 0, 1, 0), (80, 9, 33, 5), (999, 0, 0, 0), (999, 0, 0, 0), (80, 7, 61, 1), (999, 0, 0, 0), (999, 0, 0, 0), (101, 0, 0, 20), (999, 0, 0, 0), (84, 10, 64, 4), (999, 0, 0, 0), (999, 0, 0, 0), (14, 0, 0, 0), (14, 0, 1, 0), (80, 9, 33, 5), (999, 0, 0, 0), (999, 0, 0, 0), (80, 7, 61, 1), (999, 0, 0, 0), (999, 0, 0, 0), (101, 0, 0, 20), (999, 0, 0, 0), (84, 10, 66, 6), (999, 0, 0, 0), (999, 0, 0, 0), (14, 0, 0, 0), (14, 0, 1, 0), (80, 9, 33, 5), (999, 0, 0, 0), (999, 0, 0, 0), (80, 7, 61, 1), (999, 0, 0, 0), (999, 0, 0, 0), (101, 0, 0, 21), (999, 0, 0, 0), (84, 10, 69, 7), (999, 0, 0, 0), (999, 0, 0, 0), (133, 0, 0, 0)]
def Bl_init_35b {ρ : Type} (kr : Int → zH → Option ρ) (r35 : Int → Int → Int → Int → zH → Option ρ) (a0 a1 a2 a3 : Int) (h : zH) : Option ρ :=
zob h 10 a0 fun p1 =>
zob h 36 (zhd h p1 2) fun p2 =>
if a3 < (zhl h p2 : Int) then (zob h 10 a0 fun p28 =>
zlet (znew h 6 0 (znf zPP 6) (fun k => zdef (zft zPP 6 k))) fun h29 =>
zob h29 9 a1 fun p30 =>
zob h29 7 (zhd h29 p30 5) fun p31 =>
Th_init (zhn h : Int) a3 (zhd h29 p31 0) h29  fun _ h33 =>
zob h33 36 (zhd h p28 2) fun p35 =>
zix (zhl h33 p35) a3 fun j34 =>
if (zhn h : Int) < 0 then (zlet (zset h33 p35 j34 (-1)) fun h36 =>
zob h36 10 a0 fun p38 =>
zob h36 36 (zhd h36 p38 2) fun p40 =>
zix (zhl h36 p40) a3 fun j39 =>
zob h36 9 a1 fun p41 =>
zob h36 7 (zhd h36 p41 5) fun p42 =>
zob h36 6 (zhd h36 p40 j39) fun _ =>
Th_begin (zhd h36 p40 j39) a2 (zhd h36 p42 3) h36  fun _ h44 =>
r35 a0 a1 a2 (wr (a3 + 1)) h44)
else zob h33 6 (zhn h : Int) fun _ =>
zlet (zset h33 p35 j34 (zhn h : Int)) fun h37 =>
zob h37 10 a0 fun p45 =>
zob h37 36 (zhd h37 p45 2) fun p47 =>
zix (zhl h37 p47) a3 fun j46 =>
zob h37 9 a1 fun p48 =>
zob h37 7 (zhd h37 p48 5) fun p49 =>
zob h37 6 (zhd h37 p47 j46) fun _ =>
Th_begin (zhd h37 p47 j46) a2 (zhd h37 p49 3) h37  fun _ h51 =>
r35 a0 a1 a2 (wr (a3 + 1)) h51)
else zob h 9 a1 fun p3 =>
X_groupsFor (zhd h p3 7) h  fun v4 h5 =>
zix 100000 v4 fun n6 =>
zlet (znew h5 41 n6 n6 (fun _ => -1)) fun h7 =>
zob h7 10 a0 fun p8 =>
zlet (zset h7 p8 3 (zhn h5 : Int)) fun h9 =>
zob h9 9 a1 fun p10 =>
zob h9 7 (zhd h9 p10 5) fun p11 =>
zix 100000 (zhd h9 p11 1) fun n12 =>
zlet (znew h9 20 n12 n12 (fun _ => 0)) fun h13 =>
zob h13 10 a0 fun p14 =>
zlet (zset h13 p14 4 (zhn h9 : Int)) fun h15 =>
zob h15 9 a1 fun p16 =>
zob h15 7 (zhd h15 p16 5) fun p17 =>
zix 100000 (zhd h15 p17 1) fun n18 =>
zlet (znew h15 20 n18 n18 (fun _ => 0)) fun h19 =>
zob h19 10 a0 fun p20 =>
zlet (zset h19 p20 6 (zhn h15 : Int)) fun h21 =>
zob h21 9 a1 fun p22 =>
zob h21 7 (zhd h21 p22 5) fun p23 =>
zix 100000 (zhd h21 p23 1) fun n24 =>
zlet (znew h21 21 n24 n24 (fun _ => 0)) fun h25 =>
zob h25 10 a0 fun p26 =>
zlet (zset h25 p26 7 (zhn h21 : Int)) fun h27 =>
kr 0 h27
def Bl_init_35 {ρ : Type} (kr : Int → zH → Option ρ) : Int → Int → Int → Int → zH → Option ρ := zit (fun _ _ _ _ _ => none) (Bl_init_35b kr) zN
def Bl_init {ρ : Type} (a0 a1 a2 : Int) (h : zH) (kr : Int → zH → Option ρ) : Option ρ :=
zix 100000 64 fun n1 =>
zlet (znew h 20 n1 n1 (fun _ => 0)) fun h2 =>
zob h2 10 a0 fun p3 =>
zlet (zset h2 p3 5 (zhn h : Int)) fun h4 =>
zob h4 10 a0 fun p5 =>
zlet (zset h4 p5 0 a1) fun h6 =>
zob h6 10 a0 fun p7 =>
zlet (zset h6 p7 1 a2) fun h8 =>
zob h8 9 a1 fun p9 =>
zix 100000 (zhd h8 p9 7) fun n10 =>
zlet (znew h8 36 n10 n10 (fun _ => -1)) fun h11 =>
zob h11 10 a0 fun p12 =>
zlet (zset h11 p12 2 (zhn h8 : Int)) fun h13 =>
Bl_init_35 kr a0 a1 a2 0 h13
set_option maxRecDepth 100000 in
theorem qe_Bl_init_35b {ρ : Type} (kr : Int → zH → Option ρ) (r35 : Int → Int → Int → Int → zH → Option ρ) (a0 a1 a2 a3 : Int) (h : zH) : Bl_init_35b kr r35 a0 a1 a2 a3 h = zseg zPP true (fun _ _ => none) (zcal [(51, [none], fun xs h kr kt => match xs with
  | [x0] => X_groupsFor x0 h kr
  | _ => none), (244, [none, none, none], fun xs h kr kt => match xs with
  | [x0, x1, x2] => Th_init x0 x1 x2 h kr
  | _ => none), (245, [none, none, none], fun xs h kr kt => match xs with
  | [x0, x1, x2] => Th_begin x0 x1 x2 h kr
  | _ => none)]) (zget (999, 0, 0, 0) zc_Bl_init) (zcut [(35, [true, true, true, true])]) (zorc [(35, [some (2, none), some (2, none), some (0, none), some (0, none)], [], fun xs h => match xs with
  | [a0, a1, a2, a3] => r35 a0 a1 a2 a3 h
  | _ => none)]) kr (fun _ _ => none) 400 35 [some (2, a0), some (2, a1), some (0, a2), some (0, a3)] [] h := by rfl
set_option maxRecDepth 100000 in
theorem qe_Bl_init {ρ : Type} (kr : Int → zH → Option ρ) (a0 a1 a2 : Int) (h : zH) : Bl_init a0 a1 a2 h kr = zseg zPP true (fun _ _ => none) (zcal []) (zget (999, 0, 0, 0) zc_Bl_init) (zcut [(35, [true, true, true, true])]) (zorc [(35, [some (2, none), some (2, none), some (0, none), some (0, none)], [], fun xs h => match xs with
  | [a0, a1, a2, a3] => Bl_init_35 kr a0 a1 a2 a3 h
  | _ => none)]) kr (fun _ _ => none) 400 0 [some (2, a0), some (2, a1), some (0, a2), none] [] h := by rfl
def zc_Gr_init : List zI := [(14, 0, 0, 0), (117, 0, 3, 0), (999, 0, 0, 0), (999, 0, 0, 0), (14, 0, 0, 0), (0, 4, 0, 0), (101, 0, 0, 20), (999, 0, 0, 0), (84, 11, 11, 3), (999, 0, 0, 0), (999, 0, 0, 0), (14, 0, 0, 0), (0, 4, 0, 0), (101, 0, 0, 20), (999, 0, 0, 0), (84, 11, 15, 4), (999, 0, 0, 0), (999, 0, 0, 0), (14, 0, 0, 0), (14, 0, 1, 0), (84, 11, 18, 0), (999, 0, 0, 0), (999, 0, 0, 0), (14, 0, 0, 0), (10, 0, 2, 0), (84, 11, 22, 1), (999, 0, 0, 0), (999, 0, 0, 0), (14, 0, 0, 0), (0, 4, 0, 0), (102, 0, 26, 6), (999, 0, 0, 0), (999, 0, 0, 0), (84, 11, 28, 2), (999, 0, 0, 0), (999, 0, 0, 0), (0, 0, 0, 0), (16, 0, 3, 0), (10, 0, 3, 0), (0, 4, 0, 0), (69, 34, 74, 0), (999, 0, 0, 0), (999, 0, 0, 0), (10, 0, 2, 0), (10, 0, 3, 0), (30, 0, 0, 0), (14, 0, 1, 0), (80, 10, 32, 2), (999, 0, 0, 0), (999, 0, 0, 0), (100, 0, 0, 36), (69, 23, 74, 0), (999, 0, 0, 0), (999, 0, 0, 0), (14, 0, 0, 0), (80, 11, 28, 2), (999, 0, 0, 0), (999, 0, 0, 0), (10, 0, 3, 0), (14, 0, 1, 0), (80, 10, 32, 2), (999, 0, 0, 0), (999, 0, 0, 0), (10, 0, 2, 0), (10, 0, 3, 0), (30, 0, 0, 0), (94, 0, 0, 6), (99, 0, 0, 6), (22, 1, 3, 0), (999, 0, 0, 0), (999, 0, 0, 0), (72, (-33), 38, 0), (999, 0, 0, 0), (999, 0, 0, 0), (133, 0, 0, 0)]
def Gr_init_74 {ρ : Type} (kr : Int → zH → Option ρ) (h : zH) : Option ρ :=
kr 0 h
def Gr_init_38b {ρ : Type} (kr : Int → zH → Option ρ) (r38 : Int → Int → Int → Int → zH → Option ρ) (a0 a1 a2 a3 : Int) (h : zH) : Option ρ :=
if a3 < 4 then (zob h 10 a1 fun p1 =>
zob h 36 (zhd h p1 2) fun p2 =>
if (wr (a2 + a3)) < (zhl h p2 : Int) then (zob h 11 a0 fun p3 =>
zob h 10 a1 fun p4 =>
zob h 36 (zhd h p4 2) fun p6 =>
zix (zhl h p6) (wr (a2 + a3)) fun j5 =>
zob h 36 (zhd h p3 2) fun p8 =>
zix (zhl h p8) a3 fun j7 =>
if (zhd h p6 j5) < 0 then (zlet (zset h p8 j7 (-1)) fun h9 =>
r38 a0 a1 a2 (wr (a3 + 1)) h9)
else zob h 6 (zhd h p6 j5) fun _ =>
zlet (zset h p8 j7 (zhd h p6 j5)) fun h10 =>
r38 a0 a1 a2 (wr (a3 + 1)) h10)
else Gr_init_74 kr h)
else Gr_init_74 kr h
def Gr_init_38 {ρ : Type} (kr : Int → zH → Option ρ) : Int → Int → Int → Int → zH → Option ρ := zit (fun _ _ _ _ _ => none) (Gr_init_38b kr) zN
def Gr_init {ρ : Type} (a0 a1 a2 : Int) (h : zH) (kr : Int → zH → Option ρ) : Option ρ :=
zix 100000 4 fun n1 =>
zlet (znew h 20 n1 n1 (fun _ => 0)) fun h2 =>
zob h2 11 a0 fun p3 =>
zlet (zset h2 p3 3 (zhn h : Int)) fun h4 =>
zix 100000 4 fun n5 =>
zlet (znew h4 20 n5 n5 (fun _ => 0)) fun h6 =>
zob h6 11 a0 fun p7 =>
zlet (zset h6 p7 4 (zhn h4 : Int)) fun h8 =>
zob h8 11 a0 fun p9 =>
zlet (zset h8 p9 0 a1) fun h10 =>
zob h10 11 a0 fun p11 =>
zlet (zset h10 p11 1 a2) fun h12 =>
zix 100000 4 fun n13 =>
zlet (znew h12 36 n13 n13 (fun _ => -1)) fun h14 =>
zob h14 11 a0 fun p15 =>
zlet (zset h14 p15 2 (zhn h12 : Int)) fun h16 =>
Gr_init_38 kr a0 a1 a2 0 h16
set_option maxRecDepth 100000 in
theorem qe_Gr_init_74 {ρ : Type} (kr : Int → zH → Option ρ) (h : zH) : Gr_init_74 kr h = zseg zPP true (fun _ _ => none) (zcal []) (zget (999, 0, 0, 0) zc_Gr_init) (zcut [(38, [true, true, true, true]), (74, [false, false, false, false])]) (zorc []) kr (fun _ _ => none) 400 74 [none, none, none, none] [] h := by rfl
set_option maxRecDepth 100000 in
theorem qe_Gr_init_38b {ρ : Type} (kr : Int → zH → Option ρ) (r38 : Int → Int → Int → Int → zH → Option ρ) (a0 a1 a2 a3 : Int) (h : zH) : Gr_init_38b kr r38 a0 a1 a2 a3 h = zseg zPP true (fun _ _ => none) (zcal []) (zget (999, 0, 0, 0) zc_Gr_init) (zcut [(38, [true, true, true, true]), (74, [false, false, false, false])]) (zorc [(38, [some (2, none), some (2, none), some (0, none), some (0, none)], [], fun xs h => match xs with
  | [a0, a1, a2, a3] => r38 a0 a1 a2 a3 h
  | _ => none), (74, [none, none, none, none], [], fun xs h => match xs with
  | [] => Gr_init_74 kr  h
  | _ => none)]) kr (fun _ _ => none) 400 38 [some (2, a0), some (2, a1), some (0, a2), some (0, a3)] [] h := by rfl
set_option maxRecDepth 100000 in
theorem qe_Gr_init {ρ : Type} (kr : Int → zH → Option ρ) (a0 a1 a2 : Int) (h : zH) : Gr_init a0 a1 a2 h kr = zseg zPP true (fun _ _ => none) (zcal []) (zget (999, 0, 0, 0) zc_Gr_init) (zcut [(38, [true, true, true, true]), (74, [false, false, false, false])]) (zorc [(38, [some (2, none), some (2, none), some (0, none), some (0, none)], [], fun xs h => match xs with
  | [a0, a1, a2, a3] => Gr_init_38 kr a0 a1 a2 a3 h
  | _ => none)]) kr (fun _ _ => none) 400 0 [some (2, a0), some (2, a1), some (0, a2), none] [] h := by rfl
def zc_Bl_nextOf : List zI := [(103, 0, 10, 10), (999, 0, 0, 0), (999, 0, 0, 0), (50, 0, 0, 0), (14, 0, 0, 0), (14, 0, 0, 0), (80, 9, 73, 8), (999, 0, 0, 0), (999, 0, 0, 0), (115, 0, 76, 160), (999, 0, 0, 0), (999, 0, 0, 0), (20, 0, 1, 0), (0, 0, 0, 0), (16, 0, 2, 0), (10, 0, 2, 0), (14, 0, 1, 0), (80, 10, 57, 3), (999, 0, 0, 0), (999, 0, 0, 0), (100, 0, 0, 41), (69, 26, 47, 0), (999, 0, 0, 0), (999, 0, 0, 0), (14, 0, 1, 0), (80, 10, 57, 3), (999, 0, 0, 0), (999, 0, 0, 0), (10, 0, 2, 0), (103, 0, 55, 11), (999, 0, 0, 0), (999, 0, 0, 0), (50, 0, 0, 0), (14, 0, 1, 0), (0, 4, 0, 0), (10, 0, 2, 0), (32, 0, 0, 0), (115, 0, 79, 193), (999, 0, 0, 0), (999, 0, 0, 0), (99, 0, 0, 11), (22, 1, 2, 0), (999, 0, 0, 0), (999, 0, 0, 0), (72, (-29), 15, 0), (999, 0, 0, 0), (999, 0, 0, 0), (14, 0, 0, 0), (50, 0, 0, 0), (80, 9, 73, 8), (999, 0, 0, 0), (999, 0, 0, 0), (0, 1, 0, 0), (30, 0, 0, 0), (82, 9, 73, 8), (999, 0, 0, 0), (999, 0, 0, 0), (14, 0, 1, 0), (132, 0, 0, 0)]
def Bl_nextOf_15b {ρ : Type} (kr : Int → zH → Option ρ) (r15 : Int → Int → Int → zH → Option ρ) (a0 a1 a2 : Int) (h : zH) : Option ρ :=
zob h 10 a1 fun p1 =>
zob h 41 (zhd h p1 3) fun p2 =>
if a2 < (zhl h p2 : Int) then (zob h 10 a1 fun p6 =>
zlet (znew h 11 0 (znf zPP 11) (fun k => zdef (zft zPP 11 k))) fun h7 =>
Gr_init (zhn h : Int) a1 (wr (4 * a2)) h7  fun _ h9 =>
zob h9 41 (zhd h p6 3) fun p11 =>
zix (zhl h9 p11) a2 fun j10 =>
if (zhn h : Int) < 0 then (zlet (zset h9 p11 j10 (-1)) fun h12 =>
r15 a0 a1 (wr (a2 + 1)) h12)
else zob h9 11 (zhn h : Int) fun _ =>
zlet (zset h9 p11 j10 (zhn h : Int)) fun h13 =>
r15 a0 a1 (wr (a2 + 1)) h13)
else zob h 9 a0 fun p3 =>
zob h 9 a0 fun p4 =>
zlet (zset h p4 8 (wr ((zhd h p3 8) + 1))) fun h5 =>
kr a1 h5
def Bl_nextOf_15 {ρ : Type} (kr : Int → zH → Option ρ) : Int → Int → Int → zH → Option ρ := zit (fun _ _ _ _ => none) (Bl_nextOf_15b kr) zN
def Bl_nextOf {ρ : Type} (a0 : Int) (h : zH) (kr : Int → zH → Option ρ) : Option ρ :=
zlet (znew h 10 0 (znf zPP 10) (fun k => zdef (zft zPP 10 k))) fun h1 =>
zob h1 9 a0 fun p2 =>
Bl_init (zhn h : Int) a0 (zhd h1 p2 8) h1  fun _ h4 =>
Bl_nextOf_15 kr a0 (zhn h : Int) 0 h4
set_option maxRecDepth 100000 in
theorem qe_Bl_nextOf_15b {ρ : Type} (kr : Int → zH → Option ρ) (r15 : Int → Int → Int → zH → Option ρ) (a0 a1 a2 : Int) (h : zH) : Bl_nextOf_15b kr r15 a0 a1 a2 h = zseg zPP true (fun _ _ => none) (zcal [(193, [none, none, none], fun xs h kr kt => match xs with
  | [x0, x1, x2] => Gr_init x0 x1 x2 h kr
  | _ => none)]) (zget (999, 0, 0, 0) zc_Bl_nextOf) (zcut [(15, [true, true, true])]) (zorc [(15, [some (2, none), some (2, none), some (0, none)], [], fun xs h => match xs with
  | [a0, a1, a2] => r15 a0 a1 a2 h
  | _ => none)]) kr (fun _ _ => none) 400 15 [some (2, a0), some (2, a1), some (0, a2)] [] h := by rfl
set_option maxRecDepth 100000 in
theorem qe_Bl_nextOf {ρ : Type} (kr : Int → zH → Option ρ) (a0 : Int) (h : zH) : Bl_nextOf a0 h kr = zseg zPP true (fun _ _ => none) (zcal [(160, [none, none, none], fun xs h kr kt => match xs with
  | [x0, x1, x2] => Bl_init x0 x1 x2 h kr
  | _ => none)]) (zget (999, 0, 0, 0) zc_Bl_nextOf) (zcut [(15, [true, true, true])]) (zorc [(15, [some (2, none), some (2, none), some (0, none)], [], fun xs h => match xs with
  | [a0, a1, a2] => Bl_nextOf_15 kr a0 a1 a2 h
  | _ => none)]) kr (fun _ _ => none) 400 0 [some (2, a0), none, none] [] h := by rfl
def zc_Th_isRunning : List zI := [(14, 0, 0, 0), (80, 6, 34, 4), (999, 0, 0, 0), (999, 0, 0, 0), (1, 114, 0, 0), (999, 0, 0, 0), (67, 7, 13, 0), (999, 0, 0, 0), (999, 0, 0, 0), (0, 1, 0, 0), (72, 4, 14, 0), (999, 0, 0, 0), (999, 0, 0, 0), (0, 0, 0, 0), (130, 0, 1, 0)]
def Th_isRunning_14 {ρ : Type} (kr : Int → zH → Option ρ) (t0 : Int) (h : zH) : Option ρ :=
znar 1 t0 fun x1 => kr x1 h
def Th_isRunning {ρ : Type} (a0 : Int) (h : zH) (kr : Int → zH → Option ρ) : Option ρ :=
zob h 6 a0 fun p1 =>
if (zhd h p1 4) = 114 then Th_isRunning_14 kr 1 h
else Th_isRunning_14 kr 0 h
set_option maxRecDepth 100000 in
theorem qe_Th_isRunning_14 {ρ : Type} (kr : Int → zH → Option ρ) (t0 : Int) (h : zH) : Th_isRunning_14 kr t0 h = zseg zPP true (fun _ _ => none) (zcal []) (zget (999, 0, 0, 0) zc_Th_isRunning) (zcut [(14, [false])]) (zorc []) kr (fun _ _ => none) 400 14 [none] [(0, t0)] h := by rfl
set_option maxRecDepth 100000 in
theorem qe_Th_isRunning {ρ : Type} (kr : Int → zH → Option ρ) (a0 : Int) (h : zH) : Th_isRunning a0 h kr = zseg zPP true (fun _ _ => none) (zcal []) (zget (999, 0, 0, 0) zc_Th_isRunning) (zcut [(14, [false])]) (zorc [(14, [none], [(0, none)], fun xs h => match xs with
  | [t0] => Th_isRunning_14 kr t0 h
  | _ => none)]) kr (fun _ _ => none) 400 0 [some (2, a0)] [] h := by rfl
def zc_Th_isAnyRunning : List zI := [(0, 0, 0, 0), (16, 0, 2, 0), (10, 0, 2, 0), (10, 0, 1, 0), (69, 26, 30, 0), (999, 0, 0, 0), (999, 0, 0, 0), (10, 0, 2, 0), (14, 0, 0, 0), (100, 0, 0, 36), (69, 20, 30, 0), (999, 0, 0, 0), (999, 0, 0, 0), (14, 0, 0, 0), (10, 0, 2, 0), (94, 0, 0, 6), (110, 0, 66, 246), (999, 0, 0, 0), (999, 0, 0, 0), (60, 5, 24, 0), (999, 0, 0, 0), (999, 0, 0, 0), (0, 1, 0, 0), (130, 0, 1, 0), (22, 1, 2, 0), (999, 0, 0, 0), (999, 0, 0, 0), (72, (-25), 2, 0), (999, 0, 0, 0), (999, 0, 0, 0), (0, 0, 0, 0), (130, 0, 1, 0)]
def Th_isAnyRunning_30 {ρ : Type} (kr : Int → zH → Option ρ) (h : zH) : Option ρ :=
kr 0 h
def Th_isAnyRunning_2b {ρ : Type} (kr : Int → zH → Option ρ) (r2 : Int → Int → Int → zH → Option ρ) (a0 a1 a2 : Int) (h : zH) : Option ρ :=
if a2 < a1 then (zob h 36 a0 fun p1 =>
if a2 < (zhl h p1 : Int) then (zob h 36 a0 fun p3 =>
zix (zhl h p3) a2 fun j2 =>
zob h 6 (zhd h p3 j2) fun _ =>
Th_isRunning (zhd h p3 j2) h  fun v4 h5 =>
if v4 = 0 then r2 a0 a1 (wr (a2 + 1)) h5
else kr 1 h5)
else Th_isAnyRunning_30 kr h)
else Th_isAnyRunning_30 kr h
def Th_isAnyRunning_2 {ρ : Type} (kr : Int → zH → Option ρ) : Int → Int → Int → zH → Option ρ := zit (fun _ _ _ _ => none) (Th_isAnyRunning_2b kr) zN
def Th_isAnyRunning {ρ : Type} (a0 a1 : Int) (h : zH) (kr : Int → zH → Option ρ) : Option ρ :=
Th_isAnyRunning_2 kr a0 a1 0 h
set_option maxRecDepth 100000 in
theorem qe_Th_isAnyRunning_30 {ρ : Type} (kr : Int → zH → Option ρ) (h : zH) : Th_isAnyRunning_30 kr h = zseg zPP true (fun _ _ => none) (zcal []) (zget (999, 0, 0, 0) zc_Th_isAnyRunning) (zcut [(2, [true, true, true]), (30, [false, false, false])]) (zorc []) kr (fun _ _ => none) 400 30 [none, none, none] [] h := by rfl
set_option maxRecDepth 100000 in
theorem qe_Th_isAnyRunning_2b {ρ : Type} (kr : Int → zH → Option ρ) (r2 : Int → Int → Int → zH → Option ρ) (a0 a1 a2 : Int) (h : zH) : Th_isAnyRunning_2b kr r2 a0 a1 a2 h = zseg zPP true (fun _ _ => none) (zcal [(246, [none], fun xs h kr kt => match xs with
  | [x0] => Th_isRunning x0 h kr
  | _ => none)]) (zget (999, 0, 0, 0) zc_Th_isAnyRunning) (zcut [(2, [true, true, true]), (30, [false, false, false])]) (zorc [(2, [some (2, none), some (0, none), some (0, none)], [], fun xs h => match xs with
  | [a0, a1, a2] => r2 a0 a1 a2 h
  | _ => none), (30, [none, none, none], [], fun xs h => match xs with
  | [] => Th_isAnyRunning_30 kr  h
  | _ => none)]) kr (fun _ _ => none) 400 2 [some (2, a0), some (0, a1), some (0, a2)] [] h := by rfl
set_option maxRecDepth 100000 in
theorem qe_Th_isAnyRunning {ρ : Type} (kr : Int → zH → Option ρ) (a0 a1 : Int) (h : zH) : Th_isAnyRunning a0 a1 h kr = zseg zPP true (fun _ _ => none) (zcal []) (zget (999, 0, 0, 0) zc_Th_isAnyRunning) (zcut [(2, [true, true, true]), (30, [false, false, false])]) (zorc [(2, [some (2, none), some (0, none), some (0, none)], [], fun xs h => match xs with
  | [a0, a1, a2] => Th_isAnyRunning_2 kr a0 a1 a2 h
  | _ => none)]) kr (fun _ _ => none) 400 0 [some (2, a0), some (0, a1), none] [] h := by rfl
def zc_Th_isWaiting : List zI := [(14, 0, 0, 0), (80, 6, 34, 4), (999, 0, 0, 0), (999, 0, 0, 0), (1, 119, 0, 0), (999, 0, 0, 0), (67, 7, 13, 0), (999, 0, 0, 0), (999, 0, 0, 0), (0, 1, 0, 0), (72, 4, 14, 0), (999, 0, 0, 0), (999, 0, 0, 0), (0, 0, 0, 0), (130, 0, 1, 0)]
def Th_isWaiting_14 {ρ : Type} (kr : Int → zH → Option ρ) (t0 : Int) (h : zH) : Option ρ :=
znar 1 t0 fun x1 => kr x1 h
def Th_isWaiting {ρ : Type} (a0 : Int) (h : zH) (kr : Int → zH → Option ρ) : Option ρ :=
zob h 6 a0 fun p1 =>
if (zhd h p1 4) = 119 then Th_isWaiting_14 kr 1 h
else Th_isWaiting_14 kr 0 h
set_option maxRecDepth 100000 in
theorem qe_Th_isWaiting_14 {ρ : Type} (kr : Int → zH → Option ρ) (t0 : Int) (h : zH) : Th_isWaiting_14 kr t0 h = zseg zPP true (fun _ _ => none) (zcal []) (zget (999, 0, 0, 0) zc_Th_isWaiting) (zcut [(14, [false])]) (zorc []) kr (fun _ _ => none) 400 14 [none] [(0, t0)] h := by rfl
set_option maxRecDepth 100000 in
theorem qe_Th_isWaiting {ρ : Type} (kr : Int → zH → Option ρ) (a0 : Int) (h : zH) : Th_isWaiting a0 h kr = zseg zPP true (fun _ _ => none) (zcal []) (zget (999, 0, 0, 0) zc_Th_isWaiting) (zcut [(14, [false])]) (zorc [(14, [none], [(0, none)], fun xs h => match xs with
  | [t0] => Th_isWaiting_14 kr t0 h
  | _ => none)]) kr (fun _ _ => none) 400 0 [some (2, a0)] [] h := by rfl
def zc_Th_lowestOfWaiting : List zI := [(0, 0, 0, 0), (16, 0, 2, 0), (10, 0, 2, 0), (10, 0, 1, 0), (69, 28, 32, 0), (999, 0, 0, 0), (999, 0, 0, 0), (10, 0, 2, 0), (14, 0, 0, 0), (100, 0, 0, 36), (69, 22, 32, 0), (999, 0, 0, 0), (999, 0, 0, 0), (14, 0, 0, 0), (10, 0, 2, 0), (94, 0, 0, 6), (110, 0, 70, 247), (999, 0, 0, 0), (999, 0, 0, 0), (60, 7, 26, 0), (999, 0, 0, 0), (999, 0, 0, 0), (14, 0, 0, 0), (10, 0, 2, 0), (94, 0, 0, 6), (132, 0, 0, 0), (22, 1, 2, 0), (999, 0, 0, 0), (999, 0, 0, 0), (72, (-27), 2, 0), (999, 0, 0, 0), (999, 0, 0, 0), (7, 0, 0, 0), (132, 0, 0, 0)]
def Th_lowestOfWaiting_32 {ρ : Type} (kr : Int → zH → Option ρ) (h : zH) : Option ρ :=
kr (-1) h
def Th_lowestOfWaiting_2b {ρ : Type} (kr : Int → zH → Option ρ) (r2 : Int → Int → Int → zH → Option ρ) (a0 a1 a2 : Int) (h : zH) : Option ρ :=
if a2 < a1 then (zob h 36 a0 fun p1 =>
if a2 < (zhl h p1 : Int) then (zob h 36 a0 fun p3 =>
zix (zhl h p3) a2 fun j2 =>
zob h 6 (zhd h p3 j2) fun _ =>
Th_isWaiting (zhd h p3 j2) h  fun v4 h5 =>
if v4 = 0 then r2 a0 a1 (wr (a2 + 1)) h5
else zob h5 36 a0 fun p7 =>
zix (zhl h5 p7) a2 fun j6 =>
kr (zhd h5 p7 j6) h5)
else Th_lowestOfWaiting_32 kr h)
else Th_lowestOfWaiting_32 kr h
def Th_lowestOfWaiting_2 {ρ : Type} (kr : Int → zH → Option ρ) : Int → Int → Int → zH → Option ρ := zit (fun _ _ _ _ => none) (Th_lowestOfWaiting_2b kr) zN
def Th_lowestOfWaiting {ρ : Type} (a0 a1 : Int) (h : zH) (kr : Int → zH → Option ρ) : Option ρ :=
Th_lowestOfWaiting_2 kr a0 a1 0 h
set_option maxRecDepth 100000 in
theorem qe_Th_lowestOfWaiting_32 {ρ : Type} (kr : Int → zH → Option ρ) (h : zH) : Th_lowestOfWaiting_32 kr h = zseg zPP true (fun _ _ => none) (zcal []) (zget (999, 0, 0, 0) zc_Th_lowestOfWaiting) (zcut [(2, [true, true, true]), (32, [false, false, false])]) (zorc []) kr (fun _ _ => none) 400 32 [none, none, none] [] h := by rfl
set_option maxRecDepth 100000 in
theorem qe_Th_lowestOfWaiting_2b {ρ : Type} (kr : Int → zH → Option ρ) (r2 : Int → Int → Int → zH → Option ρ) (a0 a1 a2 : Int) (h : zH) : Th_lowestOfWaiting_2b kr r2 a0 a1 a2 h = zseg zPP true (fun _ _ => none) (zcal [(247, [none], fun xs h kr kt => match xs with
  | [x0] => Th_isWaiting x0 h kr
  | _ => none)]) (zget (999, 0, 0, 0) zc_Th_lowestOfWaiting) (zcut [(2, [true, true, true]), (32, [false, false, false])]) (zorc [(2, [some (2, none), some (0, none), some (0, none)], [], fun xs h => match xs with
  | [a0, a1, a2] => r2 a0 a1 a2 h
  | _ => none), (32, [none, none, none], [], fun xs h => match xs with
  | [] => Th_lowestOfWaiting_32 kr  h
  | _ => none)]) kr (fun _ _ => none) 400 2 [some (2, a0), some (0, a1), some (0, a2)] [] h := by rfl
set_option maxRecDepth 100000 in
theorem qe_Th_lowestOfWaiting {ρ : Type} (kr : Int → zH → Option ρ) (a0 a1 : Int) (h : zH) : Th_lowestOfWaiting a0 a1 h kr = zseg zPP true (fun _ _ => none) (zcal []) (zget (999, 0, 0, 0) zc_Th_lowestOfWaiting) (zcut [(2, [true, true, true]), (32, [false, false, false])]) (zorc [(2, [some (2, none), some (0, none), some (0, none)], [], fun xs h => match xs with
  | [a0, a1, a2] => Th_lowestOfWaiting_2 kr a0 a1 a2 h
  | _ => none)]) kr (fun _ _ => none) 400 0 [some (2, a0), some (0, a1), none] [] h := by rfl
def zc_Bl_isAllEnded : List zI := [(14, 0, 0, 0), (80, 10, 30, 2), (999, 0, 0, 0), (999, 0, 0, 0), (14, 0, 0, 0), (80, 10, 30, 2), (999, 0, 0, 0), (999, 0, 0, 0), (100, 0, 0, 36), (113, 0, 86, 254), (999, 0, 0, 0), (999, 0, 0, 0), (61, 22, 34, 0), (999, 0, 0, 0), (999, 0, 0, 0), (14, 0, 0, 0), (80, 10, 30, 2), (999, 0, 0, 0), (999, 0, 0, 0), (14, 0, 0, 0), (80, 10, 30, 2), (999, 0, 0, 0), (999, 0, 0, 0), (100, 0, 0, 36), (113, 0, 90, 255), (999, 0, 0, 0), (999, 0, 0, 0), (74, 7, 34, 0), (999, 0, 0, 0), (999, 0, 0, 0), (0, 1, 0, 0), (72, 4, 35, 0), (999, 0, 0, 0), (999, 0, 0, 0), (0, 0, 0, 0), (130, 0, 1, 0)]
def Bl_isAllEnded_35 {ρ : Type} (kr : Int → zH → Option ρ) (t0 : Int) (h : zH) : Option ρ :=
znar 1 t0 fun x1 => kr x1 h
def Bl_isAllEnded_34 {ρ : Type} (kr : Int → zH → Option ρ) (h : zH) : Option ρ :=
Bl_isAllEnded_35 kr 0 h
def Bl_isAllEnded {ρ : Type} (a0 : Int) (h : zH) (kr : Int → zH → Option ρ) : Option ρ :=
zob h 10 a0 fun p1 =>
zob h 10 a0 fun p2 =>
zob h 36 (zhd h p2 2) fun p3 =>
Th_isAnyRunning (zhd h p1 2) (zhl h p3 : Int) h  fun v4 h5 =>
if v4 = 0 then (zob h5 10 a0 fun p6 =>
zob h5 10 a0 fun p7 =>
zob h5 36 (zhd h5 p7 2) fun p8 =>
Th_lowestOfWaiting (zhd h5 p6 2) (zhl h5 p8 : Int) h5  fun v9 h10 =>
if v9 < 0 then Bl_isAllEnded_35 kr 1 h10
else Bl_isAllEnded_34 kr h10)
else Bl_isAllEnded_34 kr h5
set_option maxRecDepth 100000 in
theorem qe_Bl_isAllEnded_35 {ρ : Type} (kr : Int → zH → Option ρ) (t0 : Int) (h : zH) : Bl_isAllEnded_35 kr t0 h = zseg zPP true (fun _ _ => none) (zcal []) (zget (999, 0, 0, 0) zc_Bl_isAllEnded) (zcut [(34, [false]), (35, [false])]) (zorc []) kr (fun _ _ => none) 400 35 [none] [(0, t0)] h := by rfl
set_option maxRecDepth 100000 in
theorem qe_Bl_isAllEnded_34 {ρ : Type} (kr : Int → zH → Option ρ) (h : zH) : Bl_isAllEnded_34 kr h = zseg zPP true (fun _ _ => none) (zcal []) (zget (999, 0, 0, 0) zc_Bl_isAllEnded) (zcut [(34, [false]), (35, [false])]) (zorc [(35, [none], [(0, none)], fun xs h => match xs with
  | [t0] => Bl_isAllEnded_35 kr t0 h
  | _ => none)]) kr (fun _ _ => none) 400 34 [none] [] h := by rfl
set_option maxRecDepth 100000 in
theorem qe_Bl_isAllEnded {ρ : Type} (kr : Int → zH → Option ρ) (a0 : Int) (h : zH) : Bl_isAllEnded a0 h kr = zseg zPP true (fun _ _ => none) (zcal [(254, [none, none], fun xs h kr kt => match xs with
  | [x0, x1] => Th_isAnyRunning x0 x1 h kr
  | _ => none), (255, [none, none], fun xs h kr kt => match xs with
  | [x0, x1] => Th_lowestOfWaiting x0 x1 h kr
  | _ => none)]) (zget (999, 0, 0, 0) zc_Bl_isAllEnded) (zcut [(34, [false]), (35, [false])]) (zorc [(34, [none], [], fun xs h => match xs with
  | [] => Bl_isAllEnded_34 kr  h
  | _ => none), (35, [none], [(0, none)], fun xs h => match xs with
  | [t0] => Bl_isAllEnded_35 kr t0 h
  | _ => none)]) kr (fun _ _ => none) 400 0 [some (2, a0)] [] h := by rfl
def zc_La_isRunning : List zI := [(14, 0, 0, 0), (80, 9, 11, 10), (999, 0, 0, 0), (999, 0, 0, 0), (1, 114, 0, 0), (999, 0, 0, 0), (67, 7, 13, 0), (999, 0, 0, 0), (999, 0, 0, 0), (0, 1, 0, 0), (72, 4, 14, 0), (999, 0, 0, 0), (999, 0, 0, 0), (0, 0, 0, 0), (130, 0, 1, 0)]
def La_isRunning_14 {ρ : Type} (kr : Int → zH → Option ρ) (t0 : Int) (h : zH) : Option ρ :=
znar 1 t0 fun x1 => kr x1 h
def La_isRunning {ρ : Type} (a0 : Int) (h : zH) (kr : Int → zH → Option ρ) : Option ρ :=
zob h 9 a0 fun p1 =>
if (zhd h p1 10) = 114 then La_isRunning_14 kr 1 h
else La_isRunning_14 kr 0 h
set_option maxRecDepth 100000 in
theorem qe_La_isRunning_14 {ρ : Type} (kr : Int → zH → Option ρ) (t0 : Int) (h : zH) : La_isRunning_14 kr t0 h = zseg zPP true (fun _ _ => none) (zcal []) (zget (999, 0, 0, 0) zc_La_isRunning) (zcut [(14, [false])]) (zorc []) kr (fun _ _ => none) 400 14 [none] [(0, t0)] h := by rfl
set_option maxRecDepth 100000 in
theorem qe_La_isRunning {ρ : Type} (kr : Int → zH → Option ρ) (a0 : Int) (h : zH) : La_isRunning a0 h kr = zseg zPP true (fun _ _ => none) (zcal []) (zget (999, 0, 0, 0) zc_La_isRunning) (zcut [(14, [false])]) (zorc [(14, [none], [(0, none)], fun xs h => match xs with
  | [t0] => La_isRunning_14 kr t0 h
  | _ => none)]) kr (fun _ _ => none) 400 0 [some (2, a0)] [] h := by rfl
def zc_Le_hasOpenChild : List zI := [(0, 0, 0, 0), (16, 0, 2, 0), (10, 0, 2, 0), (14, 0, 0, 0), (80, 1, 31, 3), (999, 0, 0, 0), (999, 0, 0, 0), (69, 36, 43, 0), (999, 0, 0, 0), (999, 0, 0, 0), (14, 0, 0, 0), (80, 1, 19, 1), (999, 0, 0, 0), (999, 0, 0, 0), (10, 0, 2, 0), (94, 0, 0, 9), (80, 9, 75, 4), (999, 0, 0, 0), (999, 0, 0, 0), (14, 0, 1, 0), (76, 17, 37, 0), (999, 0, 0, 0), (999, 0, 0, 0), (14, 0, 0, 0), (80, 1, 19, 1), (999, 0, 0, 0), (999, 0, 0, 0), (10, 0, 2, 0), (94, 0, 0, 9), (110, 0, 38, 222), (999, 0, 0, 0), (999, 0, 0, 0), (61, 5, 37, 0), (999, 0, 0, 0), (999, 0, 0, 0), (0, 1, 0, 0), (130, 0, 1, 0), (22, 1, 2, 0), (999, 0, 0, 0), (999, 0, 0, 0), (72, (-38), 2, 0), (999, 0, 0, 0), (999, 0, 0, 0), (0, 0, 0, 0), (130, 0, 1, 0)]
def Le_hasOpenChild_37 {ρ : Type} (kr : Int → zH → Option ρ) (r2 : Int → Int → Int → zH → Option ρ) (a0 a1 a2 : Int) (h : zH) : Option ρ :=
r2 a0 a1 (wr (a2 + 1)) h
def Le_hasOpenChild_2b {ρ : Type} (kr : Int → zH → Option ρ) (r2 : Int → Int → Int → zH → Option ρ) (a0 a1 a2 : Int) (h : zH) : Option ρ :=
zob h 1 a0 fun p1 =>
if a2 < (zhd h p1 3) then (zob h 1 a0 fun p2 =>
zob h 39 (zhd h p2 1) fun p4 =>
zix (zhl h p4) a2 fun j3 =>
zob h 9 (zhd h p4 j3) fun p5 =>
if (zhd h p5 4) = a1 then (zob h 1 a0 fun p6 =>
zob h 39 (zhd h p6 1) fun p8 =>
zix (zhl h p8) a2 fun j7 =>
zob h 9 (zhd h p8 j7) fun _ =>
La_isOver (zhd h p8 j7) h  fun v9 h10 =>
if v9 = 0 then kr 1 h10
else Le_hasOpenChild_37 kr r2 a0 a1 a2 h10)
else Le_hasOpenChild_37 kr r2 a0 a1 a2 h)
else kr 0 h
def Le_hasOpenChild_2 {ρ : Type} (kr : Int → zH → Option ρ) : Int → Int → Int → zH → Option ρ := zit (fun _ _ _ _ => none) (Le_hasOpenChild_2b kr) zN
def Le_hasOpenChild {ρ : Type} (a0 a1 : Int) (h : zH) (kr : Int → zH → Option ρ) : Option ρ :=
Le_hasOpenChild_2 kr a0 a1 0 h
set_option maxRecDepth 100000 in
theorem qe_Le_hasOpenChild_37 {ρ : Type} (kr : Int → zH → Option ρ) (r2 : Int → Int → Int → zH → Option ρ) (a0 a1 a2 : Int) (h : zH) : Le_hasOpenChild_37 kr r2 a0 a1 a2 h = zseg zPP true (fun _ _ => none) (zcal []) (zget (999, 0, 0, 0) zc_Le_hasOpenChild) (zcut [(2, [true, true, true]), (37, [true, true, true])]) (zorc [(2, [some (2, none), some (2, none), some (0, none)], [], fun xs h => match xs with
  | [a0, a1, a2] => r2 a0 a1 a2 h
  | _ => none)]) kr (fun _ _ => none) 400 37 [some (2, a0), some (2, a1), some (0, a2)] [] h := by rfl
set_option maxRecDepth 100000 in
theorem qe_Le_hasOpenChild_2b {ρ : Type} (kr : Int → zH → Option ρ) (r2 : Int → Int → Int → zH → Option ρ) (a0 a1 a2 : Int) (h : zH) : Le_hasOpenChild_2b kr r2 a0 a1 a2 h = zseg zPP true (fun _ _ => none) (zcal [(222, [none], fun xs h kr kt => match xs with
  | [x0] => La_isOver x0 h kr
  | _ => none)]) (zget (999, 0, 0, 0) zc_Le_hasOpenChild) (zcut [(2, [true, true, true]), (37, [true, true, true])]) (zorc [(37, [some (2, none), some (2, none), some (0, none)], [], fun xs h => match xs with
  | [a0, a1, a2] => Le_hasOpenChild_37 kr r2 a0 a1 a2 h
  | _ => none)]) kr (fun _ _ => none) 400 2 [some (2, a0), some (2, a1), some (0, a2)] [] h := by rfl
set_option maxRecDepth 100000 in
theorem qe_Le_hasOpenChild {ρ : Type} (kr : Int → zH → Option ρ) (a0 a1 : Int) (h : zH) : Le_hasOpenChild a0 a1 h kr = zseg zPP true (fun _ _ => none) (zcal []) (zget (999, 0, 0, 0) zc_Le_hasOpenChild) (zcut [(2, [true, true, true]), (37, [true, true, true])]) (zorc [(2, [some (2, none), some (2, none), some (0, none)], [], fun xs h => match xs with
  | [a0, a1, a2] => Le_hasOpenChild_2 kr a0 a1 a2 h
  | _ => none)]) kr (fun _ _ => none) 400 0 [some (2, a0), some (2, a1), none] [] h := by rfl
def zc_Le_endIfDone : List zI := [(14, 0, 1, 0), (20, 0, 2, 0), (0, 0, 0, 0), (16, 0, 3, 0), (10, 0, 3, 0), (1, 12, 0, 0), (999, 0, 0, 0), (69, 51, 58, 0), (999, 0, 0, 0), (999, 0, 0, 0), (14, 0, 2, 0), (73, 47, 58, 0), (999, 0, 0, 0), (999, 0, 0, 0), (14, 0, 2, 0), (110, 0, 96, 224), (999, 0, 0, 0), (999, 0, 0, 0), (60, 22, 40, 0), (999, 0, 0, 0), (999, 0, 0, 0), (14, 0, 2, 0), (80, 9, 99, 9), (999, 0, 0, 0), (999, 0, 0, 0), (14, 0, 2, 0), (80, 9, 102, 6), (999, 0, 0, 0), (999, 0, 0, 0), (68, 11, 40, 0), (999, 0, 0, 0), (999, 0, 0, 0), (14, 0, 0, 0), (14, 0, 2, 0), (110, 0, 105, 243), (999, 0, 0, 0), (999, 0, 0, 0), (60, 4, 41, 0), (999, 0, 0, 0), (999, 0, 0, 0), (133, 0, 0, 0), (14, 0, 2, 0), (1, 100, 0, 0), (999, 0, 0, 0), (82, 9, 79, 10), (999, 0, 0, 0), (999, 0, 0, 0), (14, 0, 2, 0), (80, 9, 75, 4), (999, 0, 0, 0), (999, 0, 0, 0), (20, 0, 2, 0), (22, 1, 3, 0), (999, 0, 0, 0), (999, 0, 0, 0), (72, (-51), 4, 0), (999, 0, 0, 0), (999, 0, 0, 0), (133, 0, 0, 0)]
def Le_endIfDone_40 {ρ : Type} (kr : Int → zH → Option ρ) (h : zH) : Option ρ :=
kr 0 h
def Le_endIfDone_58 {ρ : Type} (kr : Int → zH → Option ρ) (h : zH) : Option ρ :=
kr 0 h
def Le_endIfDone_4b {ρ : Type} (kr : Int → zH → Option ρ) (r4 : Int → Int → Int → zH → Option ρ) (a0 a2 a3 : Int) (h : zH) : Option ρ :=
if a3 < 12 then (if a2 < 0 then Le_endIfDone_58 kr h
else zob h 9 a2 fun _ =>
La_isRunning a2 h  fun v1 h2 =>
if v1 = 0 then Le_endIfDone_40 kr h2
else zob h2 9 a2 fun p3 =>
zob h2 9 a2 fun p4 =>
if (zhd h2 p3 9) < (zhd h2 p4 6) then Le_endIfDone_40 kr h2
else zob h2 1 a0 fun _ =>
Le_hasOpenChild a0 a2 h2  fun v5 h6 =>
if v5 = 0 then (zob h6 9 a2 fun p7 =>
zlet (zset h6 p7 10 100) fun h8 =>
zob h8 9 a2 fun p9 =>
r4 a0 (zhd h8 p9 4) (wr (a3 + 1)) h8)
else Le_endIfDone_40 kr h6)
else Le_endIfDone_58 kr h
def Le_endIfDone_4 {ρ : Type} (kr : Int → zH → Option ρ) : Int → Int → Int → zH → Option ρ := zit (fun _ _ _ _ => none) (Le_endIfDone_4b kr) zN
def Le_endIfDone {ρ : Type} (a0 a1 : Int) (h : zH) (kr : Int → zH → Option ρ) : Option ρ :=
Le_endIfDone_4 kr a0 a1 0 h
set_option maxRecDepth 100000 in
theorem qe_Le_endIfDone_40 {ρ : Type} (kr : Int → zH → Option ρ) (h : zH) : Le_endIfDone_40 kr h = zseg zPP true (fun _ _ => none) (zcal []) (zget (999, 0, 0, 0) zc_Le_endIfDone) (zcut [(4, [true, false, true, true]), (40, [false, false, false, false]), (58, [false, false, false, false])]) (zorc []) kr (fun _ _ => none) 400 40 [none, none, none, none] [] h := by rfl
set_option maxRecDepth 100000 in
theorem qe_Le_endIfDone_58 {ρ : Type} (kr : Int → zH → Option ρ) (h : zH) : Le_endIfDone_58 kr h = zseg zPP true (fun _ _ => none) (zcal []) (zget (999, 0, 0, 0) zc_Le_endIfDone) (zcut [(4, [true, false, true, true]), (40, [false, false, false, false]), (58, [false, false, false, false])]) (zorc []) kr (fun _ _ => none) 400 58 [none, none, none, none] [] h := by rfl
set_option maxRecDepth 100000 in
theorem qe_Le_endIfDone_4b {ρ : Type} (kr : Int → zH → Option ρ) (r4 : Int → Int → Int → zH → Option ρ) (a0 a2 a3 : Int) (h : zH) : Le_endIfDone_4b kr r4 a0 a2 a3 h = zseg zPP true (fun _ _ => none) (zcal [(224, [none], fun xs h kr kt => match xs with
  | [x0] => La_isRunning x0 h kr
  | _ => none), (243, [none, none], fun xs h kr kt => match xs with
  | [x0, x1] => Le_hasOpenChild x0 x1 h kr
  | _ => none)]) (zget (999, 0, 0, 0) zc_Le_endIfDone) (zcut [(4, [true, false, true, true]), (40, [false, false, false, false]), (58, [false, false, false, false])]) (zorc [(4, [some (2, none), none, some (2, none), some (0, none)], [], fun xs h => match xs with
  | [a0, a2, a3] => r4 a0 a2 a3 h
  | _ => none), (40, [none, none, none, none], [], fun xs h => match xs with
  | [] => Le_endIfDone_40 kr  h
  | _ => none), (58, [none, none, none, none], [], fun xs h => match xs with
  | [] => Le_endIfDone_58 kr  h
  | _ => none)]) kr (fun _ _ => none) 400 4 [some (2, a0), none, some (2, a2), some (0, a3)] [] h := by rfl
set_option maxRecDepth 100000 in
theorem qe_Le_endIfDone {ρ : Type} (kr : Int → zH → Option ρ) (a0 a1 : Int) (h : zH) : Le_endIfDone a0 a1 h kr = zseg zPP true (fun _ _ => none) (zcal []) (zget (999, 0, 0, 0) zc_Le_endIfDone) (zcut [(4, [true, false, true, true]), (40, [false, false, false, false]), (58, [false, false, false, false])]) (zorc [(4, [some (2, none), none, some (2, none), some (0, none)], [], fun xs h => match xs with
  | [a0, a2, a3] => Le_endIfDone_4 kr a0 a2 a3 h
  | _ => none)]) kr (fun _ _ => none) 400 0 [some (2, a0), some (2, a1), none, none] [] h := by rfl
def zc_Un_cutTo : List zI := [(10, 0, 1, 0), (16, 0, 2, 0), (10, 0, 2, 0), (14, 0, 0, 0), (80, 3, 21, 2), (999, 0, 0, 0), (999, 0, 0, 0), (69, 16, 23, 0), (999, 0, 0, 0), (999, 0, 0, 0), (14, 0, 0, 0), (80, 3, 11, 0), (999, 0, 0, 0), (999, 0, 0, 0), (10, 0, 2, 0), (7, 0, 0, 0), (99, 0, 0, 11), (22, 1, 2, 0), (999, 0, 0, 0), (999, 0, 0, 0), (72, (-18), 2, 0), (999, 0, 0, 0), (999, 0, 0, 0), (14, 0, 0, 0), (10, 0, 1, 0), (82, 3, 21, 2), (999, 0, 0, 0), (999, 0, 0, 0), (133, 0, 0, 0)]
def Un_cutTo_2b {ρ : Type} (kr : Int → zH → Option ρ) (r2 : Int → Int → Int → zH → Option ρ) (a0 a1 a2 : Int) (h : zH) : Option ρ :=
zob h 3 a0 fun p1 =>
if a2 < (zhd h p1 2) then (zob h 3 a0 fun p4 =>
zob h 41 (zhd h p4 0) fun p6 =>
zix (zhl h p6) a2 fun j5 =>
if (-1) < 0 then (zlet (zset h p6 j5 (-1)) fun h7 =>
r2 a0 a1 (wr (a2 + 1)) h7)
else zob h 11 (-1) fun _ =>
zlet (zset h p6 j5 (-1)) fun h8 =>
r2 a0 a1 (wr (a2 + 1)) h8)
else zob h 3 a0 fun p2 =>
zlet (zset h p2 2 a1) fun h3 =>
kr 0 h3
def Un_cutTo_2 {ρ : Type} (kr : Int → zH → Option ρ) : Int → Int → Int → zH → Option ρ := zit (fun _ _ _ _ => none) (Un_cutTo_2b kr) zN
def Un_cutTo {ρ : Type} (a0 a1 : Int) (h : zH) (kr : Int → zH → Option ρ) : Option ρ :=
Un_cutTo_2 kr a0 a1 a1 h
set_option maxRecDepth 100000 in
theorem qe_Un_cutTo_2b {ρ : Type} (kr : Int → zH → Option ρ) (r2 : Int → Int → Int → zH → Option ρ) (a0 a1 a2 : Int) (h : zH) : Un_cutTo_2b kr r2 a0 a1 a2 h = zseg zPP true (fun _ _ => none) (zcal []) (zget (999, 0, 0, 0) zc_Un_cutTo) (zcut [(2, [true, true, true])]) (zorc [(2, [some (2, none), some (0, none), some (0, none)], [], fun xs h => match xs with
  | [a0, a1, a2] => r2 a0 a1 a2 h
  | _ => none)]) kr (fun _ _ => none) 400 2 [some (2, a0), some (0, a1), some (0, a2)] [] h := by rfl
set_option maxRecDepth 100000 in
theorem qe_Un_cutTo {ρ : Type} (kr : Int → zH → Option ρ) (a0 a1 : Int) (h : zH) : Un_cutTo a0 a1 h kr = zseg zPP true (fun _ _ => none) (zcal []) (zget (999, 0, 0, 0) zc_Un_cutTo) (zcut [(2, [true, true, true])]) (zorc [(2, [some (2, none), some (0, none), some (0, none)], [], fun xs h => match xs with
  | [a0, a1, a2] => Un_cutTo_2 kr a0 a1 a2 h
  | _ => none)]) kr (fun _ _ => none) 400 0 [some (2, a0), some (0, a1), none] [] h := by rfl
def zc_Un_dropBlock : List zI := [(0, 0, 0, 0), (16, 0, 2, 0), (0, 0, 0, 0), (16, 0, 3, 0), (10, 0, 3, 0), (14, 0, 0, 0), (80, 3, 21, 2), (999, 0, 0, 0), (999, 0, 0, 0), (69, 37, 46, 0), (999, 0, 0, 0), (999, 0, 0, 0), (14, 0, 0, 0), (80, 3, 11, 0), (999, 0, 0, 0), (999, 0, 0, 0), (10, 0, 3, 0), (94, 0, 0, 11), (80, 11, 48, 0), (999, 0, 0, 0), (999, 0, 0, 0), (14, 0, 1, 0), (75, 18, 40, 0), (999, 0, 0, 0), (999, 0, 0, 0), (14, 0, 0, 0), (80, 3, 11, 0), (999, 0, 0, 0), (999, 0, 0, 0), (10, 0, 2, 0), (14, 0, 0, 0), (80, 3, 11, 0), (999, 0, 0, 0), (999, 0, 0, 0), (10, 0, 3, 0), (94, 0, 0, 11), (99, 0, 0, 11), (22, 1, 2, 0), (999, 0, 0, 0), (999, 0, 0, 0), (22, 1, 3, 0), (999, 0, 0, 0), (999, 0, 0, 0), (72, (-39), 4, 0), (999, 0, 0, 0), (999, 0, 0, 0), (14, 0, 0, 0), (10, 0, 2, 0), (110, 0, 74, 273), (999, 0, 0, 0), (999, 0, 0, 0), (133, 0, 0, 0)]
def Un_dropBlock_40 {ρ : Type} (kr : Int → zH → Option ρ) (r4 : Int → Int → Int → Int → zH → Option ρ) (a0 a1 a2 a3 : Int) (h : zH) : Option ρ :=
r4 a0 a1 a2 (wr (a3 + 1)) h
def Un_dropBlock_4b {ρ : Type} (kr : Int → zH → Option ρ) (r4 : Int → Int → Int → Int → zH → Option ρ) (a0 a1 a2 a3 : Int) (h : zH) : Option ρ :=
zob h 3 a0 fun p1 =>
if a3 < (zhd h p1 2) then (zob h 3 a0 fun p4 =>
zob h 41 (zhd h p4 0) fun p6 =>
zix (zhl h p6) a3 fun j5 =>
zob h 11 (zhd h p6 j5) fun p7 =>
if (zhd h p7 0) = a1 then Un_dropBlock_40 kr r4 a0 a1 a2 a3 h
else zob h 3 a0 fun p8 =>
zob h 3 a0 fun p9 =>
zob h 41 (zhd h p9 0) fun p11 =>
zix (zhl h p11) a3 fun j10 =>
zob h 41 (zhd h p8 0) fun p13 =>
zix (zhl h p13) a2 fun j12 =>
if (zhd h p11 j10) < 0 then (zlet (zset h p13 j12 (-1)) fun h14 =>
Un_dropBlock_40 kr r4 a0 a1 (wr (a2 + 1)) a3 h14)
else zob h 11 (zhd h p11 j10) fun _ =>
zlet (zset h p13 j12 (zhd h p11 j10)) fun h15 =>
Un_dropBlock_40 kr r4 a0 a1 (wr (a2 + 1)) a3 h15)
else zob h 3 a0 fun _ =>
Un_cutTo a0 a2 h  fun _ h3 =>
kr 0 h3
def Un_dropBlock_4 {ρ : Type} (kr : Int → zH → Option ρ) : Int → Int → Int → Int → zH → Option ρ := zit (fun _ _ _ _ _ => none) (Un_dropBlock_4b kr) zN
def Un_dropBlock {ρ : Type} (a0 a1 : Int) (h : zH) (kr : Int → zH → Option ρ) : Option ρ :=
Un_dropBlock_4 kr a0 a1 0 0 h
set_option maxRecDepth 100000 in
theorem qe_Un_dropBlock_40 {ρ : Type} (kr : Int → zH → Option ρ) (r4 : Int → Int → Int → Int → zH → Option ρ) (a0 a1 a2 a3 : Int) (h : zH) : Un_dropBlock_40 kr r4 a0 a1 a2 a3 h = zseg zPP true (fun _ _ => none) (zcal []) (zget (999, 0, 0, 0) zc_Un_dropBlock) (zcut [(4, [true, true, true, true]), (40, [true, true, true, true])]) (zorc [(4, [some (2, none), some (2, none), some (0, none), some (0, none)], [], fun xs h => match xs with
  | [a0, a1, a2, a3] => r4 a0 a1 a2 a3 h
  | _ => none)]) kr (fun _ _ => none) 400 40 [some (2, a0), some (2, a1), some (0, a2), some (0, a3)] [] h := by rfl
set_option maxRecDepth 100000 in
theorem qe_Un_dropBlock_4b {ρ : Type} (kr : Int → zH → Option ρ) (r4 : Int → Int → Int → Int → zH → Option ρ) (a0 a1 a2 a3 : Int) (h : zH) : Un_dropBlock_4b kr r4 a0 a1 a2 a3 h = zseg zPP true (fun _ _ => none) (zcal [(273, [none, none], fun xs h kr kt => match xs with
  | [x0, x1] => Un_cutTo x0 x1 h kr
  | _ => none)]) (zget (999, 0, 0, 0) zc_Un_dropBlock) (zcut [(4, [true, true, true, true]), (40, [true, true, true, true])]) (zorc [(40, [some (2, none), some (2, none), some (0, none), some (0, none)], [], fun xs h => match xs with
  | [a0, a1, a2, a3] => Un_dropBlock_40 kr r4 a0 a1 a2 a3 h
  | _ => none)]) kr (fun _ _ => none) 400 4 [some (2, a0), some (2, a1), some (0, a2), some (0, a3)] [] h := by rfl
set_option maxRecDepth 100000 in
theorem qe_Un_dropBlock {ρ : Type} (kr : Int → zH → Option ρ) (a0 a1 : Int) (h : zH) : Un_dropBlock a0 a1 h kr = zseg zPP true (fun _ _ => none) (zcal []) (zget (999, 0, 0, 0) zc_Un_dropBlock) (zcut [(4, [true, true, true, true]), (40, [true, true, true, true])]) (zorc [(4, [some (2, none), some (2, none), some (0, none), some (0, none)], [], fun xs h => match xs with
  | [a0, a1, a2, a3] => Un_dropBlock_4 kr a0 a1 a2 a3 h
  | _ => none)]) kr (fun _ _ => none) 400 0 [some (2, a0), some (2, a1), none, none] [] h := by rfl
