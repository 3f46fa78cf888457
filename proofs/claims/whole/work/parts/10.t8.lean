def zc_M_accessShared : List zI := [(1, 16, 0, 0), (999, 0, 0, 0), (1, 16, 0, 0), (999, 0, 0, 0), (10, 0, 1, 0), (32, 0, 0, 0), (10, 0, 3, 0), (30, 0, 0, 0), (32, 0, 0, 0), (17, 0, 5, 0), (999, 0, 0, 0), (0, 0, 0, 0), (17, 0, 6, 0), (999, 0, 0, 0), (11, 0, 6, 0), (999, 0, 0, 0), (14, 0, 0, 0), (80, 12, 55, 18), (999, 0, 0, 0), (999, 0, 0, 0), (10, 0, 1, 0), (1, 6, 0, 0), (999, 0, 0, 0), (33, 0, 0, 0), (90, 0, 0, 0), (69, 103, 128, 0), (999, 0, 0, 0), (999, 0, 0, 0), (11, 0, 6, 0), (999, 0, 0, 0), (10, 0, 2, 0), (66, 53, 84, 0), (999, 0, 0, 0), (999, 0, 0, 0), (11, 0, 4, 0), (999, 0, 0, 0), (60, 25, 61, 0), (999, 0, 0, 0), (999, 0, 0, 0), (14, 0, 0, 0), (80, 12, 155, 51), (999, 0, 0, 0), (999, 0, 0, 0), (11, 0, 5, 0), (999, 0, 0, 0), (11, 0, 6, 0), (999, 0, 0, 0), (30, 0, 0, 0), (90, 0, 0, 0), (14, 0, 0, 0), (80, 12, 94, 31), (999, 0, 0, 0), (999, 0, 0, 0), (10, 0, 1, 0), (90, 0, 0, 0), (71, 29, 84, 0), (999, 0, 0, 0), (999, 0, 0, 0), (72, 22, 80, 0), (999, 0, 0, 0), (999, 0, 0, 0), (14, 0, 0, 0), (80, 12, 158, 52), (999, 0, 0, 0), (999, 0, 0, 0), (11, 0, 5, 0), (999, 0, 0, 0), (11, 0, 6, 0), (999, 0, 0, 0), (30, 0, 0, 0), (90, 0, 0, 0), (14, 0, 0, 0), (80, 12, 94, 31), (999, 0, 0, 0), (999, 0, 0, 0), (10, 0, 1, 0), (90, 0, 0, 0), (71, 7, 84, 0), (999, 0, 0, 0), (999, 0, 0, 0), (0, 1, 0, 0), (72, 4, 85, 0), (999, 0, 0, 0), (999, 0, 0, 0), (0, 0, 0, 0), (17, 0, 7, 0), (999, 0, 0, 0), (14, 0, 0, 0), (80, 12, 161, 53), (999, 0, 0, 0), (999, 0, 0, 0), (1, 16, 0, 0), (999, 0, 0, 0), (10, 0, 1, 0), (32, 0, 0, 0), (10, 0, 3, 0), (30, 0, 0, 0), (14, 0, 0, 0), (80, 12, 161, 53), (999, 0, 0, 0), (999, 0, 0, 0), (1, 16, 0, 0), (999, 0, 0, 0), (10, 0, 1, 0), (32, 0, 0, 0), (10, 0, 3, 0), (30, 0, 0, 0), (91, 0, 0, 0), (61, 8, 116, 0), (999, 0, 0, 0), (999, 0, 0, 0), (11, 0, 7, 0), (999, 0, 0, 0), (60, 7, 120, 0), (999, 0, 0, 0), (999, 0, 0, 0), (0, 1, 0, 0), (72, 4, 121, 0), (999, 0, 0, 0), (999, 0, 0, 0), (0, 0, 0, 0), (96, 0, 0, 0), (22, 1, 6, 0), (999, 0, 0, 0), (999, 0, 0, 0), (72, (-111), 14, 0), (999, 0, 0, 0), (999, 0, 0, 0), (14, 0, 0, 0), (80, 12, 155, 51), (999, 0, 0, 0), (999, 0, 0, 0), (11, 0, 5, 0), (999, 0, 0, 0), (10, 0, 2, 0), (30, 0, 0, 0), (14, 0, 0, 0), (80, 12, 94, 31), (999, 0, 0, 0), (999, 0, 0, 0), (10, 0, 1, 0), (90, 0, 0, 0), (0, 1, 0, 0), (30, 0, 0, 0), (95, 0, 0, 0), (14, 0, 0, 0), (80, 12, 158, 52), (999, 0, 0, 0), (999, 0, 0, 0), (11, 0, 5, 0), (999, 0, 0, 0), (10, 0, 2, 0), (30, 0, 0, 0), (11, 0, 4, 0), (999, 0, 0, 0), (60, 14, 169, 0), (999, 0, 0, 0), (999, 0, 0, 0), (14, 0, 0, 0), (80, 12, 94, 31), (999, 0, 0, 0), (999, 0, 0, 0), (10, 0, 1, 0), (90, 0, 0, 0), (0, 1, 0, 0), (30, 0, 0, 0), (72, 12, 178, 0), (999, 0, 0, 0), (999, 0, 0, 0), (14, 0, 0, 0), (80, 12, 158, 52), (999, 0, 0, 0), (999, 0, 0, 0), (11, 0, 5, 0), (999, 0, 0, 0), (10, 0, 2, 0), (30, 0, 0, 0), (90, 0, 0, 0), (95, 0, 0, 0), (133, 0, 0, 0)]
def M_accessShared_121 {ρ : Type} (kr : Int → zD → Option ρ) (r14 : Int → Int → Int → Int → Int → Int → zD → Option ρ) (a1 a2 a3 a4 a5 a6 t0 t1 : Int) (s : zD) : Option ρ :=
zix 1152 t1 fun j1 =>
znar 1 t0 fun x2 =>
zlet (zup s 49 j1 x2) fun s3 =>
r14 a1 a2 a3 a4 a5 (wr (a6 + 1)) s3
def M_accessShared_116 {ρ : Type} (kr : Int → zD → Option ρ) (r14 : Int → Int → Int → Int → Int → Int → zD → Option ρ) (a1 a2 a3 a4 a5 a6 t0 : Int) (s : zD) : Option ρ :=
M_accessShared_121 kr r14 a1 a2 a3 a4 a5 a6 1 t0 s
def M_accessShared_85 {ρ : Type} (kr : Int → zD → Option ρ) (r14 : Int → Int → Int → Int → Int → Int → zD → Option ρ) (a1 a2 a3 a4 a5 a6 t0 : Int) (s : zD) : Option ρ :=
zix 1152 (wr ((wr (16 * a1)) + a3)) fun j1 =>
if (s 49 j1) = 0 then (if t0 = 0 then M_accessShared_121 kr r14 a1 a2 a3 a4 a5 a6 0 (wr ((wr (16 * a1)) + a3)) s
else M_accessShared_116 kr r14 a1 a2 a3 a4 a5 a6 (wr ((wr (16 * a1)) + a3)) s)
else M_accessShared_116 kr r14 a1 a2 a3 a4 a5 a6 (wr ((wr (16 * a1)) + a3)) s
def M_accessShared_80 {ρ : Type} (kr : Int → zD → Option ρ) (r14 : Int → Int → Int → Int → Int → Int → zD → Option ρ) (a1 a2 a3 a4 a5 a6 : Int) (s : zD) : Option ρ :=
M_accessShared_85 kr r14 a1 a2 a3 a4 a5 a6 1 s
def M_accessShared_84 {ρ : Type} (kr : Int → zD → Option ρ) (r14 : Int → Int → Int → Int → Int → Int → zD → Option ρ) (a1 a2 a3 a4 a5 a6 : Int) (s : zD) : Option ρ :=
M_accessShared_85 kr r14 a1 a2 a3 a4 a5 a6 0 s
def M_accessShared_178 {ρ : Type} (kr : Int → zD → Option ρ) (t0 t1 : Int) (s : zD) : Option ρ :=
zix 18432 t1 fun j1 =>
zlet (zup s 48 j1 t0) fun s2 =>
kr 0 s2
def M_accessShared_14b {ρ : Type} (kr : Int → zD → Option ρ) (r14 : Int → Int → Int → Int → Int → Int → zD → Option ρ) (a1 a2 a3 a4 a5 a6 : Int) (s : zD) : Option ρ :=
zix 12 (wr (Int.tdiv a1 6)) fun j1 =>
if a6 < (s 14 j1) then (if a6 = a2 then M_accessShared_84 kr r14 a1 a2 a3 a4 a5 a6 s
else if a4 = 0 then (zix 18432 (wr (a5 + a6)) fun j7 =>
zix 72 a1 fun j8 =>
if (s 27 j8) < (s 48 j7) then M_accessShared_80 kr r14 a1 a2 a3 a4 a5 a6 s
else M_accessShared_84 kr r14 a1 a2 a3 a4 a5 a6 s)
else zix 18432 (wr (a5 + a6)) fun j9 =>
zix 72 a1 fun j10 =>
if (s 27 j10) < (s 47 j9) then M_accessShared_80 kr r14 a1 a2 a3 a4 a5 a6 s
else M_accessShared_84 kr r14 a1 a2 a3 a4 a5 a6 s)
else zix 72 a1 fun j2 =>
zix 18432 (wr (a5 + a2)) fun j3 =>
zlet (zup s 47 j3 (wr ((s 27 j2) + 1))) fun s4 =>
if a4 = 0 then (zix 18432 (wr (a5 + a2)) fun j5 =>
M_accessShared_178 kr (s4 48 j5) (wr (a5 + a2)) s4)
else zix 72 a1 fun j6 =>
M_accessShared_178 kr (wr ((s4 27 j6) + 1)) (wr (a5 + a2)) s4
def M_accessShared_14 {ρ : Type} (kr : Int → zD → Option ρ) : Int → Int → Int → Int → Int → Int → zD → Option ρ := zit (fun _ _ _ _ _ _ _ => none) (M_accessShared_14b kr) zN
def M_accessShared {ρ : Type} (a1 a2 a3 a4 : Int) (s : zD) (kr : Int → zD → Option ρ) : Option ρ :=
M_accessShared_14 kr a1 a2 a3 a4 (wr (16 * (wr ((wr (16 * a1)) + a3)))) 0 s
set_option maxRecDepth 100000 in
theorem qe_M_accessShared_121 {ρ : Type} (kr : Int → zD → Option ρ) (r14 : Int → Int → Int → Int → Int → Int → zD → Option ρ) (a1 a2 a3 a4 a5 a6 t0 t1 : Int) (s : zD) : M_accessShared_121 kr r14 a1 a2 a3 a4 a5 a6 t0 t1 s = zseg zPP false zfinM (zcal []) (zget (999, 0, 0, 0) zc_M_accessShared) (zcut [(14, [true, true, true, true, true, true, true, false]), (80, [true, true, true, true, true, true, true, false]), (84, [true, true, true, true, true, true, true, false]), (85, [true, true, true, true, true, true, true, false]), (116, [true, true, true, true, true, true, true, false]), (121, [true, true, true, true, true, true, true, false]), (178, [false, false, false, false, false, false, false, false])]) (zorc [(14, [some (2, some 0), some (0, none), some (0, none), some (0, none), some (0, none), some (0, none), some (0, none), none], [], fun xs h => match xs with
  | [a1, a2, a3, a4, a5, a6] => r14 a1 a2 a3 a4 a5 a6 (zhd h)
  | _ => none)]) (fun v h => kr v (zhd h)) (fun _ _ => none) 400 121 [some (2, 0), some (0, a1), some (0, a2), some (0, a3), some (0, a4), some (0, a5), some (0, a6), none] [(0, t0), (0, t1), (2, 49)] (zM s) := by rfl
set_option maxRecDepth 100000 in
theorem qe_M_accessShared_116 {ρ : Type} (kr : Int → zD → Option ρ) (r14 : Int → Int → Int → Int → Int → Int → zD → Option ρ) (a1 a2 a3 a4 a5 a6 t0 : Int) (s : zD) : M_accessShared_116 kr r14 a1 a2 a3 a4 a5 a6 t0 s = zseg zPP false zfinM (zcal []) (zget (999, 0, 0, 0) zc_M_accessShared) (zcut [(14, [true, true, true, true, true, true, true, false]), (80, [true, true, true, true, true, true, true, false]), (84, [true, true, true, true, true, true, true, false]), (85, [true, true, true, true, true, true, true, false]), (116, [true, true, true, true, true, true, true, false]), (121, [true, true, true, true, true, true, true, false]), (178, [false, false, false, false, false, false, false, false])]) (zorc [(121, [some (2, some 0), some (0, none), some (0, none), some (0, none), some (0, none), some (0, none), some (0, none), none], [(0, none), (0, none), (2, some 49)], fun xs h => match xs with
  | [a1, a2, a3, a4, a5, a6, t0, t1] => M_accessShared_121 kr r14 a1 a2 a3 a4 a5 a6 t0 t1 (zhd h)
  | _ => none)]) (fun v h => kr v (zhd h)) (fun _ _ => none) 400 116 [some (2, 0), some (0, a1), some (0, a2), some (0, a3), some (0, a4), some (0, a5), some (0, a6), none] [(0, t0), (2, 49)] (zM s) := by rfl
set_option maxRecDepth 100000 in
theorem qe_M_accessShared_85 {ρ : Type} (kr : Int → zD → Option ρ) (r14 : Int → Int → Int → Int → Int → Int → zD → Option ρ) (a1 a2 a3 a4 a5 a6 t0 : Int) (s : zD) : M_accessShared_85 kr r14 a1 a2 a3 a4 a5 a6 t0 s = zseg zPP false zfinM (zcal []) (zget (999, 0, 0, 0) zc_M_accessShared) (zcut [(14, [true, true, true, true, true, true, true, false]), (80, [true, true, true, true, true, true, true, false]), (84, [true, true, true, true, true, true, true, false]), (85, [true, true, true, true, true, true, true, false]), (116, [true, true, true, true, true, true, true, false]), (121, [true, true, true, true, true, true, true, false]), (178, [false, false, false, false, false, false, false, false])]) (zorc [(116, [some (2, some 0), some (0, none), some (0, none), some (0, none), some (0, none), some (0, none), some (0, none), none], [(0, none), (2, some 49)], fun xs h => match xs with
  | [a1, a2, a3, a4, a5, a6, t0] => M_accessShared_116 kr r14 a1 a2 a3 a4 a5 a6 t0 (zhd h)
  | _ => none), (121, [some (2, some 0), some (0, none), some (0, none), some (0, none), some (0, none), some (0, none), some (0, none), none], [(0, none), (0, none), (2, some 49)], fun xs h => match xs with
  | [a1, a2, a3, a4, a5, a6, t0, t1] => M_accessShared_121 kr r14 a1 a2 a3 a4 a5 a6 t0 t1 (zhd h)
  | _ => none)]) (fun v h => kr v (zhd h)) (fun _ _ => none) 400 85 [some (2, 0), some (0, a1), some (0, a2), some (0, a3), some (0, a4), some (0, a5), some (0, a6), none] [(0, t0)] (zM s) := by rfl
set_option maxRecDepth 100000 in
theorem qe_M_accessShared_80 {ρ : Type} (kr : Int → zD → Option ρ) (r14 : Int → Int → Int → Int → Int → Int → zD → Option ρ) (a1 a2 a3 a4 a5 a6 : Int) (s : zD) : M_accessShared_80 kr r14 a1 a2 a3 a4 a5 a6 s = zseg zPP false zfinM (zcal []) (zget (999, 0, 0, 0) zc_M_accessShared) (zcut [(14, [true, true, true, true, true, true, true, false]), (80, [true, true, true, true, true, true, true, false]), (84, [true, true, true, true, true, true, true, false]), (85, [true, true, true, true, true, true, true, false]), (116, [true, true, true, true, true, true, true, false]), (121, [true, true, true, true, true, true, true, false]), (178, [false, false, false, false, false, false, false, false])]) (zorc [(85, [some (2, some 0), some (0, none), some (0, none), some (0, none), some (0, none), some (0, none), some (0, none), none], [(0, none)], fun xs h => match xs with
  | [a1, a2, a3, a4, a5, a6, t0] => M_accessShared_85 kr r14 a1 a2 a3 a4 a5 a6 t0 (zhd h)
  | _ => none)]) (fun v h => kr v (zhd h)) (fun _ _ => none) 400 80 [some (2, 0), some (0, a1), some (0, a2), some (0, a3), some (0, a4), some (0, a5), some (0, a6), none] [] (zM s) := by rfl
set_option maxRecDepth 100000 in
theorem qe_M_accessShared_84 {ρ : Type} (kr : Int → zD → Option ρ) (r14 : Int → Int → Int → Int → Int → Int → zD → Option ρ) (a1 a2 a3 a4 a5 a6 : Int) (s : zD) : M_accessShared_84 kr r14 a1 a2 a3 a4 a5 a6 s = zseg zPP false zfinM (zcal []) (zget (999, 0, 0, 0) zc_M_accessShared) (zcut [(14, [true, true, true, true, true, true, true, false]), (80, [true, true, true, true, true, true, true, false]), (84, [true, true, true, true, true, true, true, false]), (85, [true, true, true, true, true, true, true, false]), (116, [true, true, true, true, true, true, true, false]), (121, [true, true, true, true, true, true, true, false]), (178, [false, false, false, false, false, false, false, false])]) (zorc [(85, [some (2, some 0), some (0, none), some (0, none), some (0, none), some (0, none), some (0, none), some (0, none), none], [(0, none)], fun xs h => match xs with
  | [a1, a2, a3, a4, a5, a6, t0] => M_accessShared_85 kr r14 a1 a2 a3 a4 a5 a6 t0 (zhd h)
  | _ => none)]) (fun v h => kr v (zhd h)) (fun _ _ => none) 400 84 [some (2, 0), some (0, a1), some (0, a2), some (0, a3), some (0, a4), some (0, a5), some (0, a6), none] [] (zM s) := by rfl
set_option maxRecDepth 100000 in
theorem qe_M_accessShared_178 {ρ : Type} (kr : Int → zD → Option ρ) (t0 t1 : Int) (s : zD) : M_accessShared_178 kr t0 t1 s = zseg zPP false zfinM (zcal []) (zget (999, 0, 0, 0) zc_M_accessShared) (zcut [(14, [true, true, true, true, true, true, true, false]), (80, [true, true, true, true, true, true, true, false]), (84, [true, true, true, true, true, true, true, false]), (85, [true, true, true, true, true, true, true, false]), (116, [true, true, true, true, true, true, true, false]), (121, [true, true, true, true, true, true, true, false]), (178, [false, false, false, false, false, false, false, false])]) (zorc []) (fun v h => kr v (zhd h)) (fun _ _ => none) 400 178 [none, none, none, none, none, none, none, none] [(0, t0), (0, t1), (2, 48)] (zM s) := by rfl
set_option maxRecDepth 100000 in
theorem qe_M_accessShared_14b {ρ : Type} (kr : Int → zD → Option ρ) (r14 : Int → Int → Int → Int → Int → Int → zD → Option ρ) (a1 a2 a3 a4 a5 a6 : Int) (s : zD) : M_accessShared_14b kr r14 a1 a2 a3 a4 a5 a6 s = zseg zPP false zfinM (zcal []) (zget (999, 0, 0, 0) zc_M_accessShared) (zcut [(14, [true, true, true, true, true, true, true, false]), (80, [true, true, true, true, true, true, true, false]), (84, [true, true, true, true, true, true, true, false]), (85, [true, true, true, true, true, true, true, false]), (116, [true, true, true, true, true, true, true, false]), (121, [true, true, true, true, true, true, true, false]), (178, [false, false, false, false, false, false, false, false])]) (zorc [(80, [some (2, some 0), some (0, none), some (0, none), some (0, none), some (0, none), some (0, none), some (0, none), none], [], fun xs h => match xs with
  | [a1, a2, a3, a4, a5, a6] => M_accessShared_80 kr r14 a1 a2 a3 a4 a5 a6 (zhd h)
  | _ => none), (84, [some (2, some 0), some (0, none), some (0, none), some (0, none), some (0, none), some (0, none), some (0, none), none], [], fun xs h => match xs with
  | [a1, a2, a3, a4, a5, a6] => M_accessShared_84 kr r14 a1 a2 a3 a4 a5 a6 (zhd h)
  | _ => none), (178, [none, none, none, none, none, none, none, none], [(0, none), (0, none), (2, some 48)], fun xs h => match xs with
  | [t0, t1] => M_accessShared_178 kr t0 t1 (zhd h)
  | _ => none)]) (fun v h => kr v (zhd h)) (fun _ _ => none) 400 14 [some (2, 0), some (0, a1), some (0, a2), some (0, a3), some (0, a4), some (0, a5), some (0, a6), none] [] (zM s) := by rfl
set_option maxRecDepth 100000 in
theorem qe_M_accessShared {ρ : Type} (kr : Int → zD → Option ρ) (a1 a2 a3 a4 : Int) (s : zD) : M_accessShared a1 a2 a3 a4 s kr = zseg zPP false zfinM (zcal []) (zget (999, 0, 0, 0) zc_M_accessShared) (zcut [(14, [true, true, true, true, true, true, true, false]), (80, [true, true, true, true, true, true, true, false]), (84, [true, true, true, true, true, true, true, false]), (85, [true, true, true, true, true, true, true, false]), (116, [true, true, true, true, true, true, true, false]), (121, [true, true, true, true, true, true, true, false]), (178, [false, false, false, false, false, false, false, false])]) (zorc [(14, [some (2, some 0), some (0, none), some (0, none), some (0, none), some (0, none), some (0, none), some (0, none), none], [], fun xs h => match xs with
  | [a1, a2, a3, a4, a5, a6] => M_accessShared_14 kr a1 a2 a3 a4 a5 a6 (zhd h)
  | _ => none)]) (fun v h => kr v (zhd h)) (fun _ _ => none) 400 0 [some (2, 0), some (0, a1), some (0, a2), some (0, a3), some (0, a4), none, none, none] [] (zM s) := by rfl
def zc_M_placeOf : List zI := [(14, 0, 0, 0), (80, 12, 118, 39), (999, 0, 0, 0), (999, 0, 0, 0), (10, 0, 1, 0), (90, 0, 0, 0), (16, 0, 2, 0), (0, (-1), 0, 0), (16, 0, 3, 0), (0, 4, 0, 0), (14, 0, 0, 0), (80, 12, 121, 40), (999, 0, 0, 0), (999, 0, 0, 0), (10, 0, 1, 0), (90, 0, 0, 0), (32, 0, 0, 0), (17, 0, 4, 0), (999, 0, 0, 0), (11, 0, 4, 0), (999, 0, 0, 0), (0, 4, 0, 0), (14, 0, 0, 0), (80, 12, 121, 40), (999, 0, 0, 0), (999, 0, 0, 0), (10, 0, 1, 0), (90, 0, 0, 0), (32, 0, 0, 0), (0, 4, 0, 0), (30, 0, 0, 0), (69, 72, 103, 0), (999, 0, 0, 0), (999, 0, 0, 0), (11, 0, 4, 0), (999, 0, 0, 0), (14, 0, 0, 0), (80, 12, 55, 18), (999, 0, 0, 0), (999, 0, 0, 0), (10, 0, 2, 0), (1, 6, 0, 0), (999, 0, 0, 0), (33, 0, 0, 0), (90, 0, 0, 0), (69, 58, 103, 0), (999, 0, 0, 0), (999, 0, 0, 0), (14, 0, 0, 0), (10, 0, 2, 0), (11, 0, 4, 0), (999, 0, 0, 0), (110, 0, 249, 86), (999, 0, 0, 0), (999, 0, 0, 0), (17, 0, 5, 0), (999, 0, 0, 0), (14, 0, 0, 0), (80, 12, 103, 34), (999, 0, 0, 0), (999, 0, 0, 0), (11, 0, 5, 0), (999, 0, 0, 0), (92, 0, 0, 0), (1, 114, 0, 0), (999, 0, 0, 0), (67, 29, 95, 0), (999, 0, 0, 0), (999, 0, 0, 0), (10, 0, 3, 0), (0, (-1), 0, 0), (66, 14, 85, 0), (999, 0, 0, 0), (999, 0, 0, 0), (14, 0, 0, 0), (80, 12, 106, 35), (999, 0, 0, 0), (999, 0, 0, 0), (11, 0, 5, 0), (999, 0, 0, 0), (90, 0, 0, 0), (10, 0, 3, 0), (69, 13, 95, 0), (999, 0, 0, 0), (999, 0, 0, 0), (14, 0, 0, 0), (80, 12, 106, 35), (999, 0, 0, 0), (999, 0, 0, 0), (11, 0, 5, 0), (999, 0, 0, 0), (90, 0, 0, 0), (72, 4, 96, 0), (999, 0, 0, 0), (999, 0, 0, 0), (10, 0, 3, 0), (16, 0, 3, 0), (22, 1, 4, 0), (999, 0, 0, 0), (999, 0, 0, 0), (72, (-81), 19, 0), (999, 0, 0, 0), (999, 0, 0, 0), (10, 0, 3, 0), (130, 0, 0, 0)]
def M_placeOf_96 {ρ : Type} (kr : Int → zD → Option ρ) (r19 : Int → Int → Int → Int → zD → Option ρ) (a1 a2 a4 t0 : Int) (s : zD) : Option ρ :=
r19 a1 a2 t0 (wr (a4 + 1)) s
def M_placeOf_85 {ρ : Type} (kr : Int → zD → Option ρ) (r19 : Int → Int → Int → Int → zD → Option ρ) (a1 a2 a4 a5 : Int) (s : zD) : Option ρ :=
zix 1152 a5 fun j1 =>
M_placeOf_96 kr r19 a1 a2 a4 (s 31 j1) s
def M_placeOf_95 {ρ : Type} (kr : Int → zD → Option ρ) (r19 : Int → Int → Int → Int → zD → Option ρ) (a1 a2 a3 a4 : Int) (s : zD) : Option ρ :=
M_placeOf_96 kr r19 a1 a2 a4 a3 s
def M_placeOf_103 {ρ : Type} (kr : Int → zD → Option ρ) (a3 : Int) (s : zD) : Option ρ :=
kr a3 s
def M_placeOf_19b {ρ : Type} (kr : Int → zD → Option ρ) (r19 : Int → Int → Int → Int → zD → Option ρ) (a1 a2 a3 a4 : Int) (s : zD) : Option ρ :=
zix 8 a1 fun j1 =>
if a4 < (wr ((wr (4 * (s 36 j1))) + 4)) then (zix 12 (wr (Int.tdiv a2 6)) fun j2 =>
if a4 < (s 14 j2) then (M_threadCell a2 a4 s  fun v3 s4 =>
zix 1152 v3 fun j5 =>
if (s4 30 j5) = 114 then (if a3 = (-1) then M_placeOf_85 kr r19 a1 a2 a4 v3 s4
else zix 1152 v3 fun j6 =>
if (s4 31 j6) < a3 then M_placeOf_85 kr r19 a1 a2 a4 v3 s4
else M_placeOf_95 kr r19 a1 a2 a3 a4 s4)
else M_placeOf_95 kr r19 a1 a2 a3 a4 s4)
else M_placeOf_103 kr a3 s)
else M_placeOf_103 kr a3 s
def M_placeOf_19 {ρ : Type} (kr : Int → zD → Option ρ) : Int → Int → Int → Int → zD → Option ρ := zit (fun _ _ _ _ _ => none) (M_placeOf_19b kr) zN
def M_placeOf {ρ : Type} (a1 : Int) (s : zD) (kr : Int → zD → Option ρ) : Option ρ :=
zix 8 a1 fun j1 =>
zix 8 a1 fun j2 =>
M_placeOf_19 kr a1 (s 35 j1) (-1) (wr (4 * (s 36 j2))) s
set_option maxRecDepth 100000 in
theorem qe_M_placeOf_96 {ρ : Type} (kr : Int → zD → Option ρ) (r19 : Int → Int → Int → Int → zD → Option ρ) (a1 a2 a4 t0 : Int) (s : zD) : M_placeOf_96 kr r19 a1 a2 a4 t0 s = zseg zPP false zfinM (zcal []) (zget (999, 0, 0, 0) zc_M_placeOf) (zcut [(19, [true, true, true, true, true, false]), (85, [true, true, true, false, true, true]), (95, [true, true, true, true, true, false]), (96, [true, true, true, false, true, false]), (103, [false, false, false, true, false, false])]) (zorc [(19, [some (2, some 0), some (0, none), some (0, none), some (0, none), some (0, none), none], [], fun xs h => match xs with
  | [a1, a2, a3, a4] => r19 a1 a2 a3 a4 (zhd h)
  | _ => none)]) (fun v h => kr v (zhd h)) (fun _ _ => none) 400 96 [some (2, 0), some (0, a1), some (0, a2), none, some (0, a4), none] [(0, t0)] (zM s) := by rfl
set_option maxRecDepth 100000 in
theorem qe_M_placeOf_85 {ρ : Type} (kr : Int → zD → Option ρ) (r19 : Int → Int → Int → Int → zD → Option ρ) (a1 a2 a4 a5 : Int) (s : zD) : M_placeOf_85 kr r19 a1 a2 a4 a5 s = zseg zPP false zfinM (zcal []) (zget (999, 0, 0, 0) zc_M_placeOf) (zcut [(19, [true, true, true, true, true, false]), (85, [true, true, true, false, true, true]), (95, [true, true, true, true, true, false]), (96, [true, true, true, false, true, false]), (103, [false, false, false, true, false, false])]) (zorc [(96, [some (2, some 0), some (0, none), some (0, none), none, some (0, none), none], [(0, none)], fun xs h => match xs with
  | [a1, a2, a4, t0] => M_placeOf_96 kr r19 a1 a2 a4 t0 (zhd h)
  | _ => none)]) (fun v h => kr v (zhd h)) (fun _ _ => none) 400 85 [some (2, 0), some (0, a1), some (0, a2), none, some (0, a4), some (0, a5)] [] (zM s) := by rfl
set_option maxRecDepth 100000 in
theorem qe_M_placeOf_95 {ρ : Type} (kr : Int → zD → Option ρ) (r19 : Int → Int → Int → Int → zD → Option ρ) (a1 a2 a3 a4 : Int) (s : zD) : M_placeOf_95 kr r19 a1 a2 a3 a4 s = zseg zPP false zfinM (zcal []) (zget (999, 0, 0, 0) zc_M_placeOf) (zcut [(19, [true, true, true, true, true, false]), (85, [true, true, true, false, true, true]), (95, [true, true, true, true, true, false]), (96, [true, true, true, false, true, false]), (103, [false, false, false, true, false, false])]) (zorc [(96, [some (2, some 0), some (0, none), some (0, none), none, some (0, none), none], [(0, none)], fun xs h => match xs with
  | [a1, a2, a4, t0] => M_placeOf_96 kr r19 a1 a2 a4 t0 (zhd h)
  | _ => none)]) (fun v h => kr v (zhd h)) (fun _ _ => none) 400 95 [some (2, 0), some (0, a1), some (0, a2), some (0, a3), some (0, a4), none] [] (zM s) := by rfl
set_option maxRecDepth 100000 in
theorem qe_M_placeOf_103 {ρ : Type} (kr : Int → zD → Option ρ) (a3 : Int) (s : zD) : M_placeOf_103 kr a3 s = zseg zPP false zfinM (zcal []) (zget (999, 0, 0, 0) zc_M_placeOf) (zcut [(19, [true, true, true, true, true, false]), (85, [true, true, true, false, true, true]), (95, [true, true, true, true, true, false]), (96, [true, true, true, false, true, false]), (103, [false, false, false, true, false, false])]) (zorc []) (fun v h => kr v (zhd h)) (fun _ _ => none) 400 103 [none, none, none, some (0, a3), none, none] [] (zM s) := by rfl
set_option maxRecDepth 100000 in
theorem qe_M_placeOf_19b {ρ : Type} (kr : Int → zD → Option ρ) (r19 : Int → Int → Int → Int → zD → Option ρ) (a1 a2 a3 a4 : Int) (s : zD) : M_placeOf_19b kr r19 a1 a2 a3 a4 s = zseg zPP false zfinM (zcal [(86, [some 0, none, none], fun xs h kr kt => match xs with
  | [x0, x1] => M_threadCell x0 x1 (zhd h) (fun v s => kr v (zM s))
  | _ => none)]) (zget (999, 0, 0, 0) zc_M_placeOf) (zcut [(19, [true, true, true, true, true, false]), (85, [true, true, true, false, true, true]), (95, [true, true, true, true, true, false]), (96, [true, true, true, false, true, false]), (103, [false, false, false, true, false, false])]) (zorc [(85, [some (2, some 0), some (0, none), some (0, none), none, some (0, none), some (0, none)], [], fun xs h => match xs with
  | [a1, a2, a4, a5] => M_placeOf_85 kr r19 a1 a2 a4 a5 (zhd h)
  | _ => none), (95, [some (2, some 0), some (0, none), some (0, none), some (0, none), some (0, none), none], [], fun xs h => match xs with
  | [a1, a2, a3, a4] => M_placeOf_95 kr r19 a1 a2 a3 a4 (zhd h)
  | _ => none), (103, [none, none, none, some (0, none), none, none], [], fun xs h => match xs with
  | [a3] => M_placeOf_103 kr a3 (zhd h)
  | _ => none)]) (fun v h => kr v (zhd h)) (fun _ _ => none) 400 19 [some (2, 0), some (0, a1), some (0, a2), some (0, a3), some (0, a4), none] [] (zM s) := by rfl
set_option maxRecDepth 100000 in
theorem qe_M_placeOf {ρ : Type} (kr : Int → zD → Option ρ) (a1 : Int) (s : zD) : M_placeOf a1 s kr = zseg zPP false zfinM (zcal []) (zget (999, 0, 0, 0) zc_M_placeOf) (zcut [(19, [true, true, true, true, true, false]), (85, [true, true, true, false, true, true]), (95, [true, true, true, true, true, false]), (96, [true, true, true, false, true, false]), (103, [false, false, false, true, false, false])]) (zorc [(19, [some (2, some 0), some (0, none), some (0, none), some (0, none), some (0, none), none], [], fun xs h => match xs with
  | [a1, a2, a3, a4] => M_placeOf_19 kr a1 a2 a3 a4 (zhd h)
  | _ => none)]) (fun v h => kr v (zhd h)) (fun _ _ => none) 400 0 [some (2, 0), some (0, a1), none, none, none, none] [] (zM s) := by rfl
def zc_M_maskOf : List zI := [(14, 0, 0, 0), (80, 12, 118, 39), (999, 0, 0, 0), (999, 0, 0, 0), (10, 0, 1, 0), (90, 0, 0, 0), (16, 0, 2, 0), (14, 0, 0, 0), (10, 0, 1, 0), (110, 0, 278, 96), (999, 0, 0, 0), (999, 0, 0, 0), (16, 0, 3, 0), (0, 0, 0, 0), (17, 0, 4, 0), (999, 0, 0, 0), (0, 0, 0, 0), (17, 0, 5, 0), (999, 0, 0, 0), (11, 0, 5, 0), (999, 0, 0, 0), (0, 4, 0, 0), (69, 86, 108, 0), (999, 0, 0, 0), (999, 0, 0, 0), (0, 4, 0, 0), (14, 0, 0, 0), (80, 12, 121, 40), (999, 0, 0, 0), (999, 0, 0, 0), (10, 0, 1, 0), (90, 0, 0, 0), (32, 0, 0, 0), (11, 0, 5, 0), (999, 0, 0, 0), (30, 0, 0, 0), (14, 0, 0, 0), (80, 12, 55, 18), (999, 0, 0, 0), (999, 0, 0, 0), (10, 0, 2, 0), (1, 6, 0, 0), (999, 0, 0, 0), (33, 0, 0, 0), (90, 0, 0, 0), (69, 63, 108, 0), (999, 0, 0, 0), (999, 0, 0, 0), (14, 0, 0, 0), (10, 0, 2, 0), (0, 4, 0, 0), (14, 0, 0, 0), (80, 12, 121, 40), (999, 0, 0, 0), (999, 0, 0, 0), (10, 0, 1, 0), (90, 0, 0, 0), (32, 0, 0, 0), (11, 0, 5, 0), (999, 0, 0, 0), (30, 0, 0, 0), (110, 0, 249, 86), (999, 0, 0, 0), (999, 0, 0, 0), (17, 0, 6, 0), (999, 0, 0, 0), (11, 0, 4, 0), (999, 0, 0, 0), (14, 0, 0, 0), (80, 12, 103, 34), (999, 0, 0, 0), (999, 0, 0, 0), (11, 0, 6, 0), (999, 0, 0, 0), (92, 0, 0, 0), (1, 114, 0, 0), (999, 0, 0, 0), (67, 21, 98, 0), (999, 0, 0, 0), (999, 0, 0, 0), (14, 0, 0, 0), (80, 12, 106, 35), (999, 0, 0, 0), (999, 0, 0, 0), (11, 0, 6, 0), (999, 0, 0, 0), (90, 0, 0, 0), (10, 0, 3, 0), (67, 10, 98, 0), (999, 0, 0, 0), (999, 0, 0, 0), (0, 1, 0, 0), (11, 0, 5, 0), (999, 0, 0, 0), (39, 0, 0, 0), (72, 4, 99, 0), (999, 0, 0, 0), (999, 0, 0, 0), (0, 0, 0, 0), (37, 0, 0, 0), (17, 0, 4, 0), (999, 0, 0, 0), (22, 1, 5, 0), (999, 0, 0, 0), (999, 0, 0, 0), (72, (-86), 19, 0), (999, 0, 0, 0), (999, 0, 0, 0), (11, 0, 4, 0), (999, 0, 0, 0), (130, 0, 0, 0)]
def M_maskOf_99 {ρ : Type} (kr : Int → zD → Option ρ) (r19 : Int → Int → Int → Int → Int → zD → Option ρ) (a1 a2 a3 a5 t0 t1 : Int) (s : zD) : Option ρ :=
r19 a1 a2 a3 (zor t1 t0) (wr (a5 + 1)) s
def M_maskOf_98 {ρ : Type} (kr : Int → zD → Option ρ) (r19 : Int → Int → Int → Int → Int → zD → Option ρ) (a1 a2 a3 a5 t0 : Int) (s : zD) : Option ρ :=
M_maskOf_99 kr r19 a1 a2 a3 a5 0 t0 s
def M_maskOf_108 {ρ : Type} (kr : Int → zD → Option ρ) (a4 : Int) (s : zD) : Option ρ :=
kr a4 s
def M_maskOf_19b {ρ : Type} (kr : Int → zD → Option ρ) (r19 : Int → Int → Int → Int → Int → zD → Option ρ) (a1 a2 a3 a4 a5 : Int) (s : zD) : Option ρ :=
if a5 < 4 then (zix 8 a1 fun j1 =>
zix 12 (wr (Int.tdiv a2 6)) fun j2 =>
if (wr ((wr (4 * (s 36 j1))) + a5)) < (s 14 j2) then (zix 8 a1 fun j3 =>
M_threadCell a2 (wr ((wr (4 * (s 36 j3))) + a5)) s  fun v4 s5 =>
zix 1152 v4 fun j6 =>
if (s5 30 j6) = 114 then (zix 1152 v4 fun j7 =>
if (s5 31 j7) = a3 then M_maskOf_99 kr r19 a1 a2 a3 a5 (zshl 1 a5) a4 s5
else M_maskOf_98 kr r19 a1 a2 a3 a5 a4 s5)
else M_maskOf_98 kr r19 a1 a2 a3 a5 a4 s5)
else M_maskOf_108 kr a4 s)
else M_maskOf_108 kr a4 s
def M_maskOf_19 {ρ : Type} (kr : Int → zD → Option ρ) : Int → Int → Int → Int → Int → zD → Option ρ := zit (fun _ _ _ _ _ _ => none) (M_maskOf_19b kr) zN
def M_maskOf {ρ : Type} (a1 : Int) (s : zD) (kr : Int → zD → Option ρ) : Option ρ :=
zix 8 a1 fun j1 =>
M_placeOf a1 s  fun v2 s3 =>
M_maskOf_19 kr a1 (s 35 j1) v2 0 0 s3
set_option maxRecDepth 100000 in
theorem qe_M_maskOf_99 {ρ : Type} (kr : Int → zD → Option ρ) (r19 : Int → Int → Int → Int → Int → zD → Option ρ) (a1 a2 a3 a5 t0 t1 : Int) (s : zD) : M_maskOf_99 kr r19 a1 a2 a3 a5 t0 t1 s = zseg zPP false zfinM (zcal []) (zget (999, 0, 0, 0) zc_M_maskOf) (zcut [(19, [true, true, true, true, true, true, false]), (98, [true, true, true, true, false, true, false]), (99, [true, true, true, true, false, true, false]), (108, [false, false, false, false, true, false, false])]) (zorc [(19, [some (2, some 0), some (0, none), some (0, none), some (0, none), some (0, none), some (0, none), none], [], fun xs h => match xs with
  | [a1, a2, a3, a4, a5] => r19 a1 a2 a3 a4 a5 (zhd h)
  | _ => none)]) (fun v h => kr v (zhd h)) (fun _ _ => none) 400 99 [some (2, 0), some (0, a1), some (0, a2), some (0, a3), none, some (0, a5), none] [(0, t0), (0, t1)] (zM s) := by rfl
set_option maxRecDepth 100000 in
theorem qe_M_maskOf_98 {ρ : Type} (kr : Int → zD → Option ρ) (r19 : Int → Int → Int → Int → Int → zD → Option ρ) (a1 a2 a3 a5 t0 : Int) (s : zD) : M_maskOf_98 kr r19 a1 a2 a3 a5 t0 s = zseg zPP false zfinM (zcal []) (zget (999, 0, 0, 0) zc_M_maskOf) (zcut [(19, [true, true, true, true, true, true, false]), (98, [true, true, true, true, false, true, false]), (99, [true, true, true, true, false, true, false]), (108, [false, false, false, false, true, false, false])]) (zorc [(99, [some (2, some 0), some (0, none), some (0, none), some (0, none), none, some (0, none), none], [(0, none), (0, none)], fun xs h => match xs with
  | [a1, a2, a3, a5, t0, t1] => M_maskOf_99 kr r19 a1 a2 a3 a5 t0 t1 (zhd h)
  | _ => none)]) (fun v h => kr v (zhd h)) (fun _ _ => none) 400 98 [some (2, 0), some (0, a1), some (0, a2), some (0, a3), none, some (0, a5), none] [(0, t0)] (zM s) := by rfl
set_option maxRecDepth 100000 in
theorem qe_M_maskOf_108 {ρ : Type} (kr : Int → zD → Option ρ) (a4 : Int) (s : zD) : M_maskOf_108 kr a4 s = zseg zPP false zfinM (zcal []) (zget (999, 0, 0, 0) zc_M_maskOf) (zcut [(19, [true, true, true, true, true, true, false]), (98, [true, true, true, true, false, true, false]), (99, [true, true, true, true, false, true, false]), (108, [false, false, false, false, true, false, false])]) (zorc []) (fun v h => kr v (zhd h)) (fun _ _ => none) 400 108 [none, none, none, none, some (0, a4), none, none] [] (zM s) := by rfl
set_option maxRecDepth 100000 in
theorem qe_M_maskOf_19b {ρ : Type} (kr : Int → zD → Option ρ) (r19 : Int → Int → Int → Int → Int → zD → Option ρ) (a1 a2 a3 a4 a5 : Int) (s : zD) : M_maskOf_19b kr r19 a1 a2 a3 a4 a5 s = zseg zPP false zfinM (zcal [(86, [some 0, none, none], fun xs h kr kt => match xs with
  | [x0, x1] => M_threadCell x0 x1 (zhd h) (fun v s => kr v (zM s))
  | _ => none)]) (zget (999, 0, 0, 0) zc_M_maskOf) (zcut [(19, [true, true, true, true, true, true, false]), (98, [true, true, true, true, false, true, false]), (99, [true, true, true, true, false, true, false]), (108, [false, false, false, false, true, false, false])]) (zorc [(98, [some (2, some 0), some (0, none), some (0, none), some (0, none), none, some (0, none), none], [(0, none)], fun xs h => match xs with
  | [a1, a2, a3, a5, t0] => M_maskOf_98 kr r19 a1 a2 a3 a5 t0 (zhd h)
  | _ => none), (99, [some (2, some 0), some (0, none), some (0, none), some (0, none), none, some (0, none), none], [(0, none), (0, none)], fun xs h => match xs with
  | [a1, a2, a3, a5, t0, t1] => M_maskOf_99 kr r19 a1 a2 a3 a5 t0 t1 (zhd h)
  | _ => none), (108, [none, none, none, none, some (0, none), none, none], [], fun xs h => match xs with
  | [a4] => M_maskOf_108 kr a4 (zhd h)
  | _ => none)]) (fun v h => kr v (zhd h)) (fun _ _ => none) 400 19 [some (2, 0), some (0, a1), some (0, a2), some (0, a3), some (0, a4), some (0, a5), none] [] (zM s) := by rfl
set_option maxRecDepth 100000 in
theorem qe_M_maskOf {ρ : Type} (kr : Int → zD → Option ρ) (a1 : Int) (s : zD) : M_maskOf a1 s kr = zseg zPP false zfinM (zcal [(96, [some 0, none], fun xs h kr kt => match xs with
  | [x0] => M_placeOf x0 (zhd h) (fun v s => kr v (zM s))
  | _ => none)]) (zget (999, 0, 0, 0) zc_M_maskOf) (zcut [(19, [true, true, true, true, true, true, false]), (98, [true, true, true, true, false, true, false]), (99, [true, true, true, true, false, true, false]), (108, [false, false, false, false, true, false, false])]) (zorc [(19, [some (2, some 0), some (0, none), some (0, none), some (0, none), some (0, none), some (0, none), none], [], fun xs h => match xs with
  | [a1, a2, a3, a4, a5] => M_maskOf_19 kr a1 a2 a3 a4 a5 (zhd h)
  | _ => none)]) (fun v h => kr v (zhd h)) (fun _ _ => none) 400 0 [some (2, 0), some (0, a1), none, none, none, none, none] [] (zM s) := by rfl
def zc_M_registerCell : List zI := [(1, 8, 0, 0), (999, 0, 0, 0), (14, 0, 0, 0), (14, 0, 0, 0), (80, 12, 118, 39), (999, 0, 0, 0), (999, 0, 0, 0), (10, 0, 1, 0), (90, 0, 0, 0), (0, 4, 0, 0), (14, 0, 0, 0), (80, 12, 121, 40), (999, 0, 0, 0), (999, 0, 0, 0), (10, 0, 1, 0), (90, 0, 0, 0), (32, 0, 0, 0), (10, 0, 2, 0), (30, 0, 0, 0), (110, 0, 249, 86), (999, 0, 0, 0), (999, 0, 0, 0), (32, 0, 0, 0), (10, 0, 3, 0), (30, 0, 0, 0), (130, 0, 0, 0)]
def M_registerCell {ρ : Type} (a1 a2 a3 : Int) (s : zD) (kr : Int → zD → Option ρ) : Option ρ :=
zix 8 a1 fun j1 =>
zix 8 a1 fun j2 =>
M_threadCell (s 35 j1) (wr ((wr (4 * (s 36 j2))) + a2)) s  fun v3 s4 =>
kr (wr ((wr (8 * v3)) + a3)) s4
set_option maxRecDepth 100000 in
theorem qe_M_registerCell {ρ : Type} (kr : Int → zD → Option ρ) (a1 a2 a3 : Int) (s : zD) : M_registerCell a1 a2 a3 s kr = zseg zPP false zfinM (zcal [(86, [some 0, none, none], fun xs h kr kt => match xs with
  | [x0, x1] => M_threadCell x0 x1 (zhd h) (fun v s => kr v (zM s))
  | _ => none)]) (zget (999, 0, 0, 0) zc_M_registerCell) (zcut []) (zorc []) (fun v h => kr v (zhd h)) (fun _ _ => none) 400 0 [some (2, 0), some (0, a1), some (0, a2), some (0, a3)] [] (zM s) := by rfl
def zc_M_lane : List zI := [(14, 0, 0, 0), (80, 12, 164, 62), (999, 0, 0, 0), (999, 0, 0, 0), (1, 8, 0, 0), (999, 0, 0, 0), (10, 0, 1, 0), (32, 0, 0, 0), (10, 0, 2, 0), (30, 0, 0, 0), (90, 0, 0, 0), (130, 0, 0, 0)]
def M_lane {ρ : Type} (a1 a2 : Int) (s : zD) (kr : Int → zD → Option ρ) : Option ρ :=
zix 32 (wr ((wr (8 * a1)) + a2)) fun j1 =>
kr (s 50 j1) s
set_option maxRecDepth 100000 in
theorem qe_M_lane {ρ : Type} (kr : Int → zD → Option ρ) (a1 a2 : Int) (s : zD) : M_lane a1 a2 s kr = zseg zPP false zfinM (zcal []) (zget (999, 0, 0, 0) zc_M_lane) (zcut []) (zorc []) (fun v h => kr v (zhd h)) (fun _ _ => none) 400 0 [some (2, 0), some (0, a1), some (0, a2)] [] (zM s) := by rfl
def zc_M_set : List zI := [(14, 0, 0, 0), (80, 12, 109, 36), (999, 0, 0, 0), (999, 0, 0, 0), (14, 0, 0, 0), (10, 0, 1, 0), (10, 0, 2, 0), (10, 0, 3, 0), (110, 0, 281, 98), (999, 0, 0, 0), (999, 0, 0, 0), (11, 0, 4, 0), (999, 0, 0, 0), (95, 0, 0, 0), (133, 0, 0, 0)]
def M_set {ρ : Type} (a1 a2 a3 a4 : Int) (s : zD) (kr : Int → zD → Option ρ) : Option ρ :=
M_registerCell a1 a2 a3 s  fun v1 s2 =>
zix 9216 v1 fun j3 =>
zlet (zup s2 32 j3 a4) fun s4 =>
kr 0 s4
set_option maxRecDepth 100000 in
theorem qe_M_set {ρ : Type} (kr : Int → zD → Option ρ) (a1 a2 a3 a4 : Int) (s : zD) : M_set a1 a2 a3 a4 s kr = zseg zPP false zfinM (zcal [(98, [some 0, none, none, none], fun xs h kr kt => match xs with
  | [x0, x1, x2] => M_registerCell x0 x1 x2 (zhd h) (fun v s => kr v (zM s))
  | _ => none)]) (zget (999, 0, 0, 0) zc_M_set) (zcut []) (zorc []) (fun v h => kr v (zhd h)) (fun _ _ => none) 400 0 [some (2, 0), some (0, a1), some (0, a2), some (0, a3), some (0, a4)] [] (zM s) := by rfl
def zc_M_isUnder : List zI := [(14, 0, 0, 0), (80, 12, 284, 63), (999, 0, 0, 0), (999, 0, 0, 0), (10, 0, 1, 0), (40, 0, 0, 0), (0, 1, 0, 0), (36, 0, 0, 0), (0, 1, 0, 0), (67, 7, 16, 0), (999, 0, 0, 0), (999, 0, 0, 0), (0, 1, 0, 0), (72, 4, 17, 0), (999, 0, 0, 0), (999, 0, 0, 0), (0, 0, 0, 0), (130, 0, 1, 0)]
def M_isUnder_17 {ρ : Type} (kr : Int → zD → Option ρ) (t0 : Int) (s : zD) : Option ρ :=
znar 1 t0 fun x1 => kr x1 s
def M_isUnder {ρ : Type} (a1 : Int) (s : zD) (kr : Int → zD → Option ρ) : Option ρ :=
if (zand (zshr (s 0 63) a1) 1) = 1 then M_isUnder_17 kr 1 s
else M_isUnder_17 kr 0 s
set_option maxRecDepth 100000 in
theorem qe_M_isUnder_17 {ρ : Type} (kr : Int → zD → Option ρ) (t0 : Int) (s : zD) : M_isUnder_17 kr t0 s = zseg zPP false zfinM (zcal []) (zget (999, 0, 0, 0) zc_M_isUnder) (zcut [(17, [false, false])]) (zorc []) (fun v h => kr v (zhd h)) (fun _ _ => none) 400 17 [none, none] [(0, t0)] (zM s) := by rfl
set_option maxRecDepth 100000 in
theorem qe_M_isUnder {ρ : Type} (kr : Int → zD → Option ρ) (a1 : Int) (s : zD) : M_isUnder a1 s kr = zseg zPP false zfinM (zcal []) (zget (999, 0, 0, 0) zc_M_isUnder) (zcut [(17, [false, false])]) (zorc [(17, [none, none], [(0, none)], fun xs h => match xs with
  | [t0] => M_isUnder_17 kr t0 (zhd h)
  | _ => none)]) (fun v h => kr v (zhd h)) (fun _ _ => none) 400 0 [some (2, 0), some (0, a1)] [] (zM s) := by rfl
def zc_M_modulo : List zI := [(10, 0, 0, 0), (0, 3, 0, 0), (36, 0, 0, 0), (130, 0, 0, 0)]
def M_modulo {ρ : Type} (a0 : Int) (s : zD) (kr : Int → zD → Option ρ) : Option ρ :=
kr (zand a0 3) s
set_option maxRecDepth 100000 in
theorem qe_M_modulo {ρ : Type} (kr : Int → zD → Option ρ) (a0 : Int) (s : zD) : M_modulo a0 s kr = zseg zPP false zfinM (zcal []) (zget (999, 0, 0, 0) zc_M_modulo) (zcut []) (zorc []) (fun v h => kr v (zhd h)) (fun _ _ => none) 400 0 [some (0, a0)] [] (zM s) := by rfl
def zc_M_vote : List zI := [(0, 0, 0, 0), (16, 0, 2, 0), (0, 0, 0, 0), (16, 0, 3, 0), (10, 0, 3, 0), (0, 4, 0, 0), (69, 36, 42, 0), (999, 0, 0, 0), (999, 0, 0, 0), (10, 0, 2, 0), (14, 0, 0, 0), (10, 0, 3, 0), (110, 0, 287, 101), (999, 0, 0, 0), (999, 0, 0, 0), (60, 18, 33, 0), (999, 0, 0, 0), (999, 0, 0, 0), (14, 0, 0, 0), (10, 0, 3, 0), (10, 0, 1, 0), (110, 0, 290, 99), (999, 0, 0, 0), (999, 0, 0, 0), (60, 9, 33, 0), (999, 0, 0, 0), (999, 0, 0, 0), (0, 1, 0, 0), (10, 0, 3, 0), (39, 0, 0, 0), (72, 4, 34, 0), (999, 0, 0, 0), (999, 0, 0, 0), (0, 0, 0, 0), (37, 0, 0, 0), (16, 0, 2, 0), (22, 1, 3, 0), (999, 0, 0, 0), (999, 0, 0, 0), (72, (-35), 4, 0), (999, 0, 0, 0), (999, 0, 0, 0), (10, 0, 2, 0), (130, 0, 0, 0)]
def M_vote_34 {ρ : Type} (kr : Int → zD → Option ρ) (r4 : Int → Int → Int → zD → Option ρ) (a1 a3 t0 t1 : Int) (s : zD) : Option ρ :=
r4 a1 (zor t1 t0) (wr (a3 + 1)) s
def M_vote_33 {ρ : Type} (kr : Int → zD → Option ρ) (r4 : Int → Int → Int → zD → Option ρ) (a1 a3 t0 : Int) (s : zD) : Option ρ :=
M_vote_34 kr r4 a1 a3 0 t0 s
def M_vote_4b {ρ : Type} (kr : Int → zD → Option ρ) (r4 : Int → Int → Int → zD → Option ρ) (a1 a2 a3 : Int) (s : zD) : Option ρ :=
if a3 < 4 then (M_isUnder a3 s  fun v1 s2 =>
if v1 = 0 then M_vote_33 kr r4 a1 a3 a2 s2
else M_lane a3 a1 s2  fun v3 s4 =>
if v3 = 0 then M_vote_33 kr r4 a1 a3 a2 s4
else M_vote_34 kr r4 a1 a3 (zshl 1 a3) a2 s4)
else kr a2 s
def M_vote_4 {ρ : Type} (kr : Int → zD → Option ρ) : Int → Int → Int → zD → Option ρ := zit (fun _ _ _ _ => none) (M_vote_4b kr) zN
def M_vote {ρ : Type} (a1 : Int) (s : zD) (kr : Int → zD → Option ρ) : Option ρ :=
M_vote_4 kr a1 0 0 s
set_option maxRecDepth 100000 in
theorem qe_M_vote_34 {ρ : Type} (kr : Int → zD → Option ρ) (r4 : Int → Int → Int → zD → Option ρ) (a1 a3 t0 t1 : Int) (s : zD) : M_vote_34 kr r4 a1 a3 t0 t1 s = zseg zPP false zfinM (zcal []) (zget (999, 0, 0, 0) zc_M_vote) (zcut [(4, [true, true, true, true]), (33, [true, true, false, true]), (34, [true, true, false, true])]) (zorc [(4, [some (2, some 0), some (0, none), some (0, none), some (0, none)], [], fun xs h => match xs with
  | [a1, a2, a3] => r4 a1 a2 a3 (zhd h)
  | _ => none)]) (fun v h => kr v (zhd h)) (fun _ _ => none) 400 34 [some (2, 0), some (0, a1), none, some (0, a3)] [(0, t0), (0, t1)] (zM s) := by rfl
set_option maxRecDepth 100000 in
theorem qe_M_vote_33 {ρ : Type} (kr : Int → zD → Option ρ) (r4 : Int → Int → Int → zD → Option ρ) (a1 a3 t0 : Int) (s : zD) : M_vote_33 kr r4 a1 a3 t0 s = zseg zPP false zfinM (zcal []) (zget (999, 0, 0, 0) zc_M_vote) (zcut [(4, [true, true, true, true]), (33, [true, true, false, true]), (34, [true, true, false, true])]) (zorc [(34, [some (2, some 0), some (0, none), none, some (0, none)], [(0, none), (0, none)], fun xs h => match xs with
  | [a1, a3, t0, t1] => M_vote_34 kr r4 a1 a3 t0 t1 (zhd h)
  | _ => none)]) (fun v h => kr v (zhd h)) (fun _ _ => none) 400 33 [some (2, 0), some (0, a1), none, some (0, a3)] [(0, t0)] (zM s) := by rfl
set_option maxRecDepth 100000 in
theorem qe_M_vote_4b {ρ : Type} (kr : Int → zD → Option ρ) (r4 : Int → Int → Int → zD → Option ρ) (a1 a2 a3 : Int) (s : zD) : M_vote_4b kr r4 a1 a2 a3 s = zseg zPP false zfinM (zcal [(99, [some 0, none, none], fun xs h kr kt => match xs with
  | [x0, x1] => M_lane x0 x1 (zhd h) (fun v s => kr v (zM s))
  | _ => none), (101, [some 0, none], fun xs h kr kt => match xs with
  | [x0] => M_isUnder x0 (zhd h) (fun v s => kr v (zM s))
  | _ => none)]) (zget (999, 0, 0, 0) zc_M_vote) (zcut [(4, [true, true, true, true]), (33, [true, true, false, true]), (34, [true, true, false, true])]) (zorc [(33, [some (2, some 0), some (0, none), none, some (0, none)], [(0, none)], fun xs h => match xs with
  | [a1, a3, t0] => M_vote_33 kr r4 a1 a3 t0 (zhd h)
  | _ => none), (34, [some (2, some 0), some (0, none), none, some (0, none)], [(0, none), (0, none)], fun xs h => match xs with
  | [a1, a3, t0, t1] => M_vote_34 kr r4 a1 a3 t0 t1 (zhd h)
  | _ => none)]) (fun v h => kr v (zhd h)) (fun _ _ => none) 400 4 [some (2, 0), some (0, a1), some (0, a2), some (0, a3)] [] (zM s) := by rfl
set_option maxRecDepth 100000 in
theorem qe_M_vote {ρ : Type} (kr : Int → zD → Option ρ) (a1 : Int) (s : zD) : M_vote a1 s kr = zseg zPP false zfinM (zcal []) (zget (999, 0, 0, 0) zc_M_vote) (zcut [(4, [true, true, true, true]), (33, [true, true, false, true]), (34, [true, true, false, true])]) (zorc [(4, [some (2, some 0), some (0, none), some (0, none), some (0, none)], [], fun xs h => match xs with
  | [a1, a2, a3] => M_vote_4 kr a1 a2 a3 (zhd h)
  | _ => none)]) (fun v h => kr v (zhd h)) (fun _ _ => none) 400 0 [some (2, 0), some (0, a1), none, none] [] (zM s) := by rfl
def zc_M_seen : List zI := [(14, 0, 0, 0), (80, 12, 13, 3), (999, 0, 0, 0), (999, 0, 0, 0), (10, 0, 2, 0), (90, 0, 0, 0), (16, 0, 3, 0), (0, 4, 0, 0), (10, 0, 1, 0), (32, 0, 0, 0), (17, 0, 4, 0), (999, 0, 0, 0), (11, 0, 4, 0), (999, 0, 0, 0), (0, 4, 0, 0), (10, 0, 1, 0), (32, 0, 0, 0), (14, 0, 0, 0), (80, 12, 127, 42), (999, 0, 0, 0), (999, 0, 0, 0), (10, 0, 1, 0), (90, 0, 0, 0), (30, 0, 0, 0), (69, 32, 56, 0), (999, 0, 0, 0), (999, 0, 0, 0), (14, 0, 0, 0), (80, 12, 130, 43), (999, 0, 0, 0), (999, 0, 0, 0), (11, 0, 4, 0), (999, 0, 0, 0), (90, 0, 0, 0), (10, 0, 2, 0), (67, 13, 48, 0), (999, 0, 0, 0), (999, 0, 0, 0), (14, 0, 0, 0), (80, 12, 133, 44), (999, 0, 0, 0), (999, 0, 0, 0), (11, 0, 4, 0), (999, 0, 0, 0), (90, 0, 0, 0), (72, 4, 49, 0), (999, 0, 0, 0), (999, 0, 0, 0), (10, 0, 3, 0), (16, 0, 3, 0), (22, 1, 4, 0), (999, 0, 0, 0), (999, 0, 0, 0), (72, (-41), 12, 0), (999, 0, 0, 0), (999, 0, 0, 0), (10, 0, 3, 0), (130, 0, 0, 0)]
def M_seen_49 {ρ : Type} (kr : Int → zD → Option ρ) (r12 : Int → Int → Int → Int → zD → Option ρ) (a1 a2 a4 t0 : Int) (s : zD) : Option ρ :=
r12 a1 a2 t0 (wr (a4 + 1)) s
def M_seen_12b {ρ : Type} (kr : Int → zD → Option ρ) (r12 : Int → Int → Int → Int → zD → Option ρ) (a1 a2 a3 a4 : Int) (s : zD) : Option ρ :=
zix 8 a1 fun j1 =>
if a4 < (wr ((wr (4 * a1)) + (s 38 j1))) then (zix 32 a4 fun j2 =>
if (s 39 j2) = a2 then (zix 32 a4 fun j3 =>
M_seen_49 kr r12 a1 a2 a4 (s 40 j3) s)
else M_seen_49 kr r12 a1 a2 a4 a3 s)
else kr a3 s
def M_seen_12 {ρ : Type} (kr : Int → zD → Option ρ) : Int → Int → Int → Int → zD → Option ρ := zit (fun _ _ _ _ _ => none) (M_seen_12b kr) zN
def M_seen {ρ : Type} (a1 a2 : Int) (s : zD) (kr : Int → zD → Option ρ) : Option ρ :=
zix 64 a2 fun j1 =>
M_seen_12 kr a1 a2 (s 1 j1) (wr (4 * a1)) s
set_option maxRecDepth 100000 in
theorem qe_M_seen_49 {ρ : Type} (kr : Int → zD → Option ρ) (r12 : Int → Int → Int → Int → zD → Option ρ) (a1 a2 a4 t0 : Int) (s : zD) : M_seen_49 kr r12 a1 a2 a4 t0 s = zseg zPP false zfinM (zcal []) (zget (999, 0, 0, 0) zc_M_seen) (zcut [(12, [true, true, true, true, true]), (49, [true, true, true, false, true])]) (zorc [(12, [some (2, some 0), some (0, none), some (0, none), some (0, none), some (0, none)], [], fun xs h => match xs with
  | [a1, a2, a3, a4] => r12 a1 a2 a3 a4 (zhd h)
  | _ => none)]) (fun v h => kr v (zhd h)) (fun _ _ => none) 400 49 [some (2, 0), some (0, a1), some (0, a2), none, some (0, a4)] [(0, t0)] (zM s) := by rfl
set_option maxRecDepth 100000 in
theorem qe_M_seen_12b {ρ : Type} (kr : Int → zD → Option ρ) (r12 : Int → Int → Int → Int → zD → Option ρ) (a1 a2 a3 a4 : Int) (s : zD) : M_seen_12b kr r12 a1 a2 a3 a4 s = zseg zPP false zfinM (zcal []) (zget (999, 0, 0, 0) zc_M_seen) (zcut [(12, [true, true, true, true, true]), (49, [true, true, true, false, true])]) (zorc [(49, [some (2, some 0), some (0, none), some (0, none), none, some (0, none)], [(0, none)], fun xs h => match xs with
  | [a1, a2, a4, t0] => M_seen_49 kr r12 a1 a2 a4 t0 (zhd h)
  | _ => none)]) (fun v h => kr v (zhd h)) (fun _ _ => none) 400 12 [some (2, 0), some (0, a1), some (0, a2), some (0, a3), some (0, a4)] [] (zM s) := by rfl
set_option maxRecDepth 100000 in
theorem qe_M_seen {ρ : Type} (kr : Int → zD → Option ρ) (a1 a2 : Int) (s : zD) : M_seen a1 a2 s kr = zseg zPP false zfinM (zcal []) (zget (999, 0, 0, 0) zc_M_seen) (zcut [(12, [true, true, true, true, true]), (49, [true, true, true, false, true])]) (zorc [(12, [some (2, some 0), some (0, none), some (0, none), some (0, none), some (0, none)], [], fun xs h => match xs with
  | [a1, a2, a3, a4] => M_seen_12 kr a1 a2 a3 a4 (zhd h)
  | _ => none)]) (fun v h => kr v (zhd h)) (fun _ _ => none) 400 0 [some (2, 0), some (0, a1), some (0, a2), none, none] [] (zM s) := by rfl
def zc_M_cellOf : List zI := [(10, 0, 1, 0), (1, 119, 0, 0), (999, 0, 0, 0), (66, 9, 12, 0), (999, 0, 0, 0), (999, 0, 0, 0), (10, 0, 1, 0), (1, 87, 0, 0), (999, 0, 0, 0), (67, 17, 26, 0), (999, 0, 0, 0), (999, 0, 0, 0), (14, 0, 0, 0), (10, 0, 3, 0), (14, 0, 0, 0), (80, 12, 34, 10), (999, 0, 0, 0), (999, 0, 0, 0), (10, 0, 2, 0), (90, 0, 0, 0), (110, 0, 290, 99), (999, 0, 0, 0), (999, 0, 0, 0), (72, 14, 37, 0), (999, 0, 0, 0), (999, 0, 0, 0), (14, 0, 0, 0), (10, 0, 3, 0), (14, 0, 0, 0), (80, 12, 37, 11), (999, 0, 0, 0), (999, 0, 0, 0), (10, 0, 2, 0), (90, 0, 0, 0), (110, 0, 290, 99), (999, 0, 0, 0), (999, 0, 0, 0), (130, 0, 0, 0)]
def M_cellOf_37 {ρ : Type} (kr : Int → zD → Option ρ) (t0 : Int) (s : zD) : Option ρ :=
kr t0 s
def M_cellOf_12 {ρ : Type} (kr : Int → zD → Option ρ) (a2 a3 : Int) (s : zD) : Option ρ :=
zix 160 a2 fun j1 =>
M_lane a3 (s 7 j1) s  fun v2 s3 =>
M_cellOf_37 kr v2 s3
def M_cellOf {ρ : Type} (a1 a2 a3 : Int) (s : zD) (kr : Int → zD → Option ρ) : Option ρ :=
if a1 = 119 then M_cellOf_12 kr a2 a3 s
else if a1 = 87 then M_cellOf_12 kr a2 a3 s
else zix 160 a2 fun j1 =>
M_lane a3 (s 8 j1) s  fun v2 s3 =>
M_cellOf_37 kr v2 s3
set_option maxRecDepth 100000 in
theorem qe_M_cellOf_37 {ρ : Type} (kr : Int → zD → Option ρ) (t0 : Int) (s : zD) : M_cellOf_37 kr t0 s = zseg zPP false zfinM (zcal []) (zget (999, 0, 0, 0) zc_M_cellOf) (zcut [(12, [true, false, true, true]), (37, [false, false, false, false])]) (zorc []) (fun v h => kr v (zhd h)) (fun _ _ => none) 400 37 [none, none, none, none] [(0, t0)] (zM s) := by rfl
set_option maxRecDepth 100000 in
theorem qe_M_cellOf_12 {ρ : Type} (kr : Int → zD → Option ρ) (a2 a3 : Int) (s : zD) : M_cellOf_12 kr a2 a3 s = zseg zPP false zfinM (zcal [(99, [some 0, none, none], fun xs h kr kt => match xs with
  | [x0, x1] => M_lane x0 x1 (zhd h) (fun v s => kr v (zM s))
  | _ => none)]) (zget (999, 0, 0, 0) zc_M_cellOf) (zcut [(12, [true, false, true, true]), (37, [false, false, false, false])]) (zorc [(37, [none, none, none, none], [(0, none)], fun xs h => match xs with
  | [t0] => M_cellOf_37 kr t0 (zhd h)
  | _ => none)]) (fun v h => kr v (zhd h)) (fun _ _ => none) 400 12 [some (2, 0), none, some (0, a2), some (0, a3)] [] (zM s) := by rfl
set_option maxRecDepth 100000 in
theorem qe_M_cellOf {ρ : Type} (kr : Int → zD → Option ρ) (a1 a2 a3 : Int) (s : zD) : M_cellOf a1 a2 a3 s kr = zseg zPP false zfinM (zcal [(99, [some 0, none, none], fun xs h kr kt => match xs with
  | [x0, x1] => M_lane x0 x1 (zhd h) (fun v s => kr v (zM s))
  | _ => none)]) (zget (999, 0, 0, 0) zc_M_cellOf) (zcut [(12, [true, false, true, true]), (37, [false, false, false, false])]) (zorc [(12, [some (2, some 0), none, some (0, none), some (0, none)], [], fun xs h => match xs with
  | [a2, a3] => M_cellOf_12 kr a2 a3 (zhd h)
  | _ => none), (37, [none, none, none, none], [(0, none)], fun xs h => match xs with
  | [t0] => M_cellOf_37 kr t0 (zhd h)
  | _ => none)]) (fun v h => kr v (zhd h)) (fun _ _ => none) 400 0 [some (2, 0), some (0, a1), some (0, a2), some (0, a3)] [] (zM s) := by rfl
def zc_M_isGlobal : List zI := [(10, 0, 0, 0), (1, 114, 0, 0), (999, 0, 0, 0), (66, 21, 24, 0), (999, 0, 0, 0), (999, 0, 0, 0), (10, 0, 0, 0), (1, 119, 0, 0), (999, 0, 0, 0), (66, 15, 24, 0), (999, 0, 0, 0), (999, 0, 0, 0), (10, 0, 0, 0), (1, 97, 0, 0), (999, 0, 0, 0), (66, 9, 24, 0), (999, 0, 0, 0), (999, 0, 0, 0), (10, 0, 0, 0), (1, 120, 0, 0), (999, 0, 0, 0), (67, 7, 28, 0), (999, 0, 0, 0), (999, 0, 0, 0), (0, 1, 0, 0), (72, 4, 29, 0), (999, 0, 0, 0), (999, 0, 0, 0), (0, 0, 0, 0), (130, 0, 1, 0)]
def M_isGlobal_29 {ρ : Type} (kr : Int → zD → Option ρ) (t0 : Int) (s : zD) : Option ρ :=
znar 1 t0 fun x1 => kr x1 s
def M_isGlobal_24 {ρ : Type} (kr : Int → zD → Option ρ) (s : zD) : Option ρ :=
M_isGlobal_29 kr 1 s
def M_isGlobal {ρ : Type} (a0 : Int) (s : zD) (kr : Int → zD → Option ρ) : Option ρ :=
if a0 = 114 then M_isGlobal_24 kr s
else if a0 = 119 then M_isGlobal_24 kr s
else if a0 = 97 then M_isGlobal_24 kr s
else if a0 = 120 then M_isGlobal_24 kr s
else M_isGlobal_29 kr 0 s
set_option maxRecDepth 100000 in
theorem qe_M_isGlobal_29 {ρ : Type} (kr : Int → zD → Option ρ) (t0 : Int) (s : zD) : M_isGlobal_29 kr t0 s = zseg zPP false zfinM (zcal []) (zget (999, 0, 0, 0) zc_M_isGlobal) (zcut [(24, [false]), (29, [false])]) (zorc []) (fun v h => kr v (zhd h)) (fun _ _ => none) 400 29 [none] [(0, t0)] (zM s) := by rfl
set_option maxRecDepth 100000 in
theorem qe_M_isGlobal_24 {ρ : Type} (kr : Int → zD → Option ρ) (s : zD) : M_isGlobal_24 kr s = zseg zPP false zfinM (zcal []) (zget (999, 0, 0, 0) zc_M_isGlobal) (zcut [(24, [false]), (29, [false])]) (zorc [(29, [none], [(0, none)], fun xs h => match xs with
  | [t0] => M_isGlobal_29 kr t0 (zhd h)
  | _ => none)]) (fun v h => kr v (zhd h)) (fun _ _ => none) 400 24 [none] [] (zM s) := by rfl
set_option maxRecDepth 100000 in
theorem qe_M_isGlobal {ρ : Type} (kr : Int → zD → Option ρ) (a0 : Int) (s : zD) : M_isGlobal a0 s kr = zseg zPP false zfinM (zcal []) (zget (999, 0, 0, 0) zc_M_isGlobal) (zcut [(24, [false]), (29, [false])]) (zorc [(24, [none], [], fun xs h => match xs with
  | [] => M_isGlobal_24 kr  (zhd h)
  | _ => none), (29, [none], [(0, none)], fun xs h => match xs with
  | [t0] => M_isGlobal_29 kr t0 (zhd h)
  | _ => none)]) (fun v h => kr v (zhd h)) (fun _ _ => none) 400 0 [some (0, a0)] [] (zM s) := by rfl
def zc_M_isShared : List zI := [(10, 0, 0, 0), (1, 82, 0, 0), (999, 0, 0, 0), (66, 9, 12, 0), (999, 0, 0, 0), (999, 0, 0, 0), (10, 0, 0, 0), (1, 87, 0, 0), (999, 0, 0, 0), (67, 7, 16, 0), (999, 0, 0, 0), (999, 0, 0, 0), (0, 1, 0, 0), (72, 4, 17, 0), (999, 0, 0, 0), (999, 0, 0, 0), (0, 0, 0, 0), (130, 0, 1, 0)]
def M_isShared_17 {ρ : Type} (kr : Int → zD → Option ρ) (t0 : Int) (s : zD) : Option ρ :=
znar 1 t0 fun x1 => kr x1 s
def M_isShared_12 {ρ : Type} (kr : Int → zD → Option ρ) (s : zD) : Option ρ :=
M_isShared_17 kr 1 s
def M_isShared {ρ : Type} (a0 : Int) (s : zD) (kr : Int → zD → Option ρ) : Option ρ :=
if a0 = 82 then M_isShared_12 kr s
else if a0 = 87 then M_isShared_12 kr s
else M_isShared_17 kr 0 s
set_option maxRecDepth 100000 in
theorem qe_M_isShared_17 {ρ : Type} (kr : Int → zD → Option ρ) (t0 : Int) (s : zD) : M_isShared_17 kr t0 s = zseg zPP false zfinM (zcal []) (zget (999, 0, 0, 0) zc_M_isShared) (zcut [(12, [false]), (17, [false])]) (zorc []) (fun v h => kr v (zhd h)) (fun _ _ => none) 400 17 [none] [(0, t0)] (zM s) := by rfl
set_option maxRecDepth 100000 in
theorem qe_M_isShared_12 {ρ : Type} (kr : Int → zD → Option ρ) (s : zD) : M_isShared_12 kr s = zseg zPP false zfinM (zcal []) (zget (999, 0, 0, 0) zc_M_isShared) (zcut [(12, [false]), (17, [false])]) (zorc [(17, [none], [(0, none)], fun xs h => match xs with
  | [t0] => M_isShared_17 kr t0 (zhd h)
  | _ => none)]) (fun v h => kr v (zhd h)) (fun _ _ => none) 400 12 [none] [] (zM s) := by rfl
set_option maxRecDepth 100000 in
theorem qe_M_isShared {ρ : Type} (kr : Int → zD → Option ρ) (a0 : Int) (s : zD) : M_isShared a0 s kr = zseg zPP false zfinM (zcal []) (zget (999, 0, 0, 0) zc_M_isShared) (zcut [(12, [false]), (17, [false])]) (zorc [(12, [none], [], fun xs h => match xs with
  | [] => M_isShared_12 kr  (zhd h)
  | _ => none), (17, [none], [(0, none)], fun xs h => match xs with
  | [t0] => M_isShared_17 kr t0 (zhd h)
  | _ => none)]) (fun v h => kr v (zhd h)) (fun _ _ => none) 400 0 [some (0, a0)] [] (zM s) := by rfl
def zc_M_compute : List zI := [(10, 0, 0, 0), (1, 43, 0, 0), (999, 0, 0, 0), (67, 7, 10, 0), (999, 0, 0, 0), (999, 0, 0, 0), (10, 0, 1, 0), (10, 0, 2, 0), (30, 0, 0, 0), (130, 0, 0, 0), (10, 0, 0, 0), (1, 45, 0, 0), (999, 0, 0, 0), (67, 7, 20, 0), (999, 0, 0, 0), (999, 0, 0, 0), (10, 0, 1, 0), (10, 0, 2, 0), (31, 0, 0, 0), (130, 0, 0, 0), (10, 0, 0, 0), (1, 42, 0, 0), (999, 0, 0, 0), (67, 9, 32, 0), (999, 0, 0, 0), (999, 0, 0, 0), (10, 0, 1, 0), (10, 0, 2, 0), (32, 0, 0, 0), (72, 32, 61, 0), (999, 0, 0, 0), (999, 0, 0, 0), (10, 0, 0, 0), (1, 60, 0, 0), (999, 0, 0, 0), (67, 16, 51, 0), (999, 0, 0, 0), (999, 0, 0, 0), (10, 0, 1, 0), (10, 0, 2, 0), (69, 7, 47, 0), (999, 0, 0, 0), (999, 0, 0, 0), (0, 1, 0, 0), (72, 17, 61, 0), (999, 0, 0, 0), (999, 0, 0, 0), (0, 0, 0, 0), (72, 13, 61, 0), (999, 0, 0, 0), (999, 0, 0, 0), (10, 0, 1, 0), (10, 0, 2, 0), (67, 7, 60, 0), (999, 0, 0, 0), (999, 0, 0, 0), (0, 1, 0, 0), (72, 4, 61, 0), (999, 0, 0, 0), (999, 0, 0, 0), (0, 0, 0, 0), (130, 0, 0, 0)]
def M_compute_61 {ρ : Type} (kr : Int → zD → Option ρ) (t0 : Int) (s : zD) : Option ρ :=
kr t0 s
def M_compute {ρ : Type} (a0 a1 a2 : Int) (s : zD) (kr : Int → zD → Option ρ) : Option ρ :=
if a0 = 43 then kr (wr (a1 + a2)) s
else if a0 = 45 then kr (wr (a1 - a2)) s
else if a0 = 42 then M_compute_61 kr (wr (a1 * a2)) s
else if a0 = 60 then (if a1 < a2 then M_compute_61 kr 1 s
else M_compute_61 kr 0 s)
else if a1 = a2 then M_compute_61 kr 1 s
else M_compute_61 kr 0 s
set_option maxRecDepth 100000 in
theorem qe_M_compute_61 {ρ : Type} (kr : Int → zD → Option ρ) (t0 : Int) (s : zD) : M_compute_61 kr t0 s = zseg zPP false zfinM (zcal []) (zget (999, 0, 0, 0) zc_M_compute) (zcut [(61, [false, false, false])]) (zorc []) (fun v h => kr v (zhd h)) (fun _ _ => none) 400 61 [none, none, none] [(0, t0)] (zM s) := by rfl
set_option maxRecDepth 100000 in
theorem qe_M_compute {ρ : Type} (kr : Int → zD → Option ρ) (a0 a1 a2 : Int) (s : zD) : M_compute a0 a1 a2 s kr = zseg zPP false zfinM (zcal []) (zget (999, 0, 0, 0) zc_M_compute) (zcut [(61, [false, false, false])]) (zorc [(61, [none, none, none], [(0, none)], fun xs h => match xs with
  | [t0] => M_compute_61 kr t0 (zhd h)
  | _ => none)]) (fun v h => kr v (zhd h)) (fun _ _ => none) 400 0 [some (0, a0), some (0, a1), some (0, a2)] [] (zM s) := by rfl
def zc_M_doCell : List zI := [(14, 0, 0, 0), (80, 12, 118, 39), (999, 0, 0, 0), (999, 0, 0, 0), (10, 0, 1, 0), (90, 0, 0, 0), (17, 0, 5, 0), (999, 0, 0, 0), (0, 4, 0, 0), (14, 0, 0, 0), (80, 12, 121, 40), (999, 0, 0, 0), (999, 0, 0, 0), (10, 0, 1, 0), (90, 0, 0, 0), (32, 0, 0, 0), (10, 0, 2, 0), (30, 0, 0, 0), (17, 0, 6, 0), (999, 0, 0, 0), (14, 0, 0, 0), (10, 0, 3, 0), (11, 0, 4, 0), (999, 0, 0, 0), (10, 0, 2, 0), (110, 0, 293, 105), (999, 0, 0, 0), (999, 0, 0, 0), (17, 0, 7, 0), (999, 0, 0, 0), (10, 0, 3, 0), (113, 0, 297, 107), (999, 0, 0, 0), (999, 0, 0, 0), (60, 85, 119, 0), (999, 0, 0, 0), (999, 0, 0, 0), (14, 0, 0, 0), (11, 0, 5, 0), (999, 0, 0, 0), (11, 0, 6, 0), (999, 0, 0, 0), (11, 0, 7, 0), (999, 0, 0, 0), (10, 0, 3, 0), (1, 87, 0, 0), (999, 0, 0, 0), (67, 7, 54, 0), (999, 0, 0, 0), (999, 0, 0, 0), (0, 1, 0, 0), (72, 4, 55, 0), (999, 0, 0, 0), (999, 0, 0, 0), (0, 0, 0, 0), (110, 0, 301, 95), (999, 0, 0, 0), (999, 0, 0, 0), (10, 0, 3, 0), (1, 87, 0, 0), (999, 0, 0, 0), (67, 31, 92, 0), (999, 0, 0, 0), (999, 0, 0, 0), (14, 0, 0, 0), (80, 12, 112, 37), (999, 0, 0, 0), (999, 0, 0, 0), (1, 16, 0, 0), (999, 0, 0, 0), (11, 0, 5, 0), (999, 0, 0, 0), (32, 0, 0, 0), (11, 0, 7, 0), (999, 0, 0, 0), (30, 0, 0, 0), (14, 0, 0, 0), (10, 0, 2, 0), (14, 0, 0, 0), (80, 12, 37, 11), (999, 0, 0, 0), (999, 0, 0, 0), (11, 0, 4, 0), (999, 0, 0, 0), (90, 0, 0, 0), (110, 0, 290, 99), (999, 0, 0, 0), (999, 0, 0, 0), (95, 0, 0, 0), (72, 29, 118, 0), (999, 0, 0, 0), (999, 0, 0, 0), (14, 0, 0, 0), (10, 0, 1, 0), (10, 0, 2, 0), (14, 0, 0, 0), (80, 12, 34, 10), (999, 0, 0, 0), (999, 0, 0, 0), (11, 0, 4, 0), (999, 0, 0, 0), (90, 0, 0, 0), (14, 0, 0, 0), (80, 12, 112, 37), (999, 0, 0, 0), (999, 0, 0, 0), (1, 16, 0, 0), (999, 0, 0, 0), (11, 0, 5, 0), (999, 0, 0, 0), (32, 0, 0, 0), (11, 0, 7, 0), (999, 0, 0, 0), (30, 0, 0, 0), (90, 0, 0, 0), (110, 0, 305, 100), (999, 0, 0, 0), (999, 0, 0, 0), (133, 0, 0, 0), (14, 0, 0, 0), (11, 0, 5, 0), (999, 0, 0, 0), (11, 0, 6, 0), (999, 0, 0, 0), (11, 0, 7, 0), (999, 0, 0, 0), (10, 0, 3, 0), (1, 119, 0, 0), (999, 0, 0, 0), (67, 7, 136, 0), (999, 0, 0, 0), (999, 0, 0, 0), (0, 1, 0, 0), (72, 4, 137, 0), (999, 0, 0, 0), (999, 0, 0, 0), (0, 0, 0, 0), (110, 0, 309, 94), (999, 0, 0, 0), (999, 0, 0, 0), (10, 0, 3, 0), (1, 114, 0, 0), (999, 0, 0, 0), (67, 26, 169, 0), (999, 0, 0, 0), (999, 0, 0, 0), (14, 0, 0, 0), (10, 0, 1, 0), (10, 0, 2, 0), (14, 0, 0, 0), (80, 12, 34, 10), (999, 0, 0, 0), (999, 0, 0, 0), (11, 0, 4, 0), (999, 0, 0, 0), (90, 0, 0, 0), (14, 0, 0, 0), (10, 0, 1, 0), (11, 0, 7, 0), (999, 0, 0, 0), (110, 0, 312, 104), (999, 0, 0, 0), (999, 0, 0, 0), (110, 0, 305, 100), (999, 0, 0, 0), (999, 0, 0, 0), (72, 158, 324, 0), (999, 0, 0, 0), (999, 0, 0, 0), (10, 0, 3, 0), (1, 119, 0, 0), (999, 0, 0, 0), (67, 85, 257, 0), (999, 0, 0, 0), (999, 0, 0, 0), (14, 0, 0, 0), (80, 12, 127, 42), (999, 0, 0, 0), (999, 0, 0, 0), (10, 0, 1, 0), (90, 0, 0, 0), (0, 4, 0, 0), (67, 18, 200, 0), (999, 0, 0, 0), (999, 0, 0, 0), (14, 0, 0, 0), (10, 0, 1, 0), (110, 0, 263, 90), (999, 0, 0, 0), (999, 0, 0, 0), (14, 0, 0, 0), (50, 0, 0, 0), (80, 12, 315, 65), (999, 0, 0, 0), (999, 0, 0, 0), (0, 1, 0, 0), (30, 0, 0, 0), (82, 12, 315, 65), (999, 0, 0, 0), (999, 0, 0, 0), (14, 0, 0, 0), (80, 12, 130, 43), (999, 0, 0, 0), (999, 0, 0, 0), (0, 4, 0, 0), (10, 0, 1, 0), (32, 0, 0, 0), (14, 0, 0, 0), (80, 12, 127, 42), (999, 0, 0, 0), (999, 0, 0, 0), (10, 0, 1, 0), (90, 0, 0, 0), (30, 0, 0, 0), (11, 0, 7, 0), (999, 0, 0, 0), (95, 0, 0, 0), (14, 0, 0, 0), (80, 12, 133, 44), (999, 0, 0, 0), (999, 0, 0, 0), (0, 4, 0, 0), (10, 0, 1, 0), (32, 0, 0, 0), (14, 0, 0, 0), (80, 12, 127, 42), (999, 0, 0, 0), (999, 0, 0, 0), (10, 0, 1, 0), (90, 0, 0, 0), (30, 0, 0, 0), (14, 0, 0, 0), (10, 0, 2, 0), (14, 0, 0, 0), (80, 12, 37, 11), (999, 0, 0, 0), (999, 0, 0, 0), (11, 0, 4, 0), (999, 0, 0, 0), (90, 0, 0, 0), (110, 0, 290, 99), (999, 0, 0, 0), (999, 0, 0, 0), (95, 0, 0, 0), (14, 0, 0, 0), (80, 12, 127, 42), (999, 0, 0, 0), (999, 0, 0, 0), (10, 0, 1, 0), (51, 0, 0, 0), (90, 0, 0, 0), (0, 1, 0, 0), (30, 0, 0, 0), (95, 0, 0, 0), (72, 70, 324, 0), (999, 0, 0, 0), (999, 0, 0, 0), (14, 0, 0, 0), (80, 12, 13, 3), (999, 0, 0, 0), (999, 0, 0, 0), (11, 0, 7, 0), (999, 0, 0, 0), (90, 0, 0, 0), (17, 0, 8, 0), (999, 0, 0, 0), (14, 0, 0, 0), (80, 12, 13, 3), (999, 0, 0, 0), (999, 0, 0, 0), (11, 0, 7, 0), (999, 0, 0, 0), (10, 0, 3, 0), (1, 97, 0, 0), (999, 0, 0, 0), (67, 21, 296, 0), (999, 0, 0, 0), (999, 0, 0, 0), (11, 0, 8, 0), (999, 0, 0, 0), (14, 0, 0, 0), (10, 0, 2, 0), (14, 0, 0, 0), (80, 12, 40, 12), (999, 0, 0, 0), (999, 0, 0, 0), (11, 0, 4, 0), (999, 0, 0, 0), (90, 0, 0, 0), (110, 0, 290, 99), (999, 0, 0, 0), (999, 0, 0, 0), (30, 0, 0, 0), (72, 15, 308, 0), (999, 0, 0, 0), (999, 0, 0, 0), (14, 0, 0, 0), (10, 0, 2, 0), (14, 0, 0, 0), (80, 12, 40, 12), (999, 0, 0, 0), (999, 0, 0, 0), (11, 0, 4, 0), (999, 0, 0, 0), (90, 0, 0, 0), (110, 0, 290, 99), (999, 0, 0, 0), (999, 0, 0, 0), (95, 0, 0, 0), (14, 0, 0, 0), (10, 0, 1, 0), (10, 0, 2, 0), (14, 0, 0, 0), (80, 12, 34, 10), (999, 0, 0, 0), (999, 0, 0, 0), (11, 0, 4, 0), (999, 0, 0, 0), (90, 0, 0, 0), (11, 0, 8, 0), (999, 0, 0, 0), (110, 0, 305, 100), (999, 0, 0, 0), (999, 0, 0, 0), (133, 0, 0, 0)]
def M_doCell_118 {ρ : Type} (kr : Int → zD → Option ρ) (s : zD) : Option ρ :=
kr 0 s
def M_doCell_55 {ρ : Type} (kr : Int → zD → Option ρ) (a1 a2 a3 a4 a5 a7 t0 t1 t2 t3 : Int) (s : zD) : Option ρ :=
M_accessShared t3 t2 t1 t0 s  fun _ s2 =>
if a3 = 87 then (zix 160 a4 fun j7 =>
M_lane a2 (s2 8 j7) s2  fun v8 s9 =>
zix 1152 (wr ((wr (16 * a5)) + a7)) fun j10 =>
zlet (zup s9 33 j10 v8) fun s11 =>
M_doCell_118 kr s11)
else zix 160 a4 fun j3 =>
zix 1152 (wr ((wr (16 * a5)) + a7)) fun j4 =>
M_set a1 a2 (s2 7 j3) (s2 33 j4) s2  fun _ s6 =>
M_doCell_118 kr s6
def M_doCell_324 {ρ : Type} (kr : Int → zD → Option ρ) (s : zD) : Option ρ :=
kr 0 s
def M_doCell_200 {ρ : Type} (kr : Int → zD → Option ρ) (a1 a2 a4 a7 : Int) (s : zD) : Option ρ :=
zix 8 a1 fun j1 =>
zix 32 (wr ((wr (4 * a1)) + (s 38 j1))) fun j2 =>
zlet (zup s 39 j2 a7) fun s3 =>
zix 8 a1 fun j4 =>
zix 160 a4 fun j5 =>
M_lane a2 (s3 8 j5) s3  fun v6 s7 =>
zix 32 (wr ((wr (4 * a1)) + (s3 38 j4))) fun j8 =>
zlet (zup s7 40 j8 v6) fun s9 =>
zix 8 a1 fun j10 =>
zix 8 a1 fun j11 =>
zlet (zup s9 38 j11 (wr ((s9 38 j10) + 1))) fun s12 =>
M_doCell_324 kr s12
def M_doCell_308 {ρ : Type} (kr : Int → zD → Option ρ) (a1 a2 a4 a8 t0 t1 : Int) (s : zD) : Option ρ :=
zix 64 t1 fun j1 =>
zlet (zup s 1 j1 t0) fun s2 =>
zix 160 a4 fun j3 =>
M_set a1 a2 (s2 7 j3) a8 s2  fun _ s5 =>
M_doCell_324 kr s5
def M_doCell_137 {ρ : Type} (kr : Int → zD → Option ρ) (a1 a2 a3 a4 a7 t0 t1 t2 t3 : Int) (s : zD) : Option ρ :=
M_access t3 t2 t1 t0 s  fun _ s2 =>
if a3 = 114 then (zix 160 a4 fun j14 =>
M_seen a1 a7 s2  fun v15 s16 =>
M_set a1 a2 (s2 7 j14) v15 s16  fun _ s18 =>
M_doCell_324 kr s18)
else if a3 = 119 then (zix 8 a1 fun j10 =>
if (s2 38 j10) = 4 then (M_writeFirst a1 s2  fun _ s12 =>
zlet (zup s12 0 65 (wr ((s12 0 65) + 1))) fun s13 =>
M_doCell_200 kr a1 a2 a4 a7 s13)
else M_doCell_200 kr a1 a2 a4 a7 s2)
else zix 64 a7 fun j3 =>
if a3 = 97 then (zix 160 a4 fun j7 =>
M_lane a2 (s2 9 j7) s2  fun v8 s9 =>
M_doCell_308 kr a1 a2 a4 (s2 1 j3) (wr ((s2 1 j3) + v8)) a7 s9)
else zix 160 a4 fun j4 =>
M_lane a2 (s2 9 j4) s2  fun v5 s6 =>
M_doCell_308 kr a1 a2 a4 (s2 1 j3) v5 a7 s6
def M_doCell {ρ : Type} (a1 a2 a3 a4 : Int) (s : zD) (kr : Int → zD → Option ρ) : Option ρ :=
zix 8 a1 fun j1 =>
zix 8 a1 fun j2 =>
M_cellOf a3 a4 a2 s  fun v3 s4 =>
M_isShared a3 s4  fun v5 s6 =>
if v5 = 0 then (if a3 = 119 then M_doCell_137 kr a1 a2 a3 a4 v3 1 v3 (wr ((wr (4 * (s 36 j2))) + a2)) (s 35 j1) s6
else M_doCell_137 kr a1 a2 a3 a4 v3 0 v3 (wr ((wr (4 * (s 36 j2))) + a2)) (s 35 j1) s6)
else if a3 = 87 then M_doCell_55 kr a1 a2 a3 a4 (s 35 j1) v3 1 v3 (wr ((wr (4 * (s 36 j2))) + a2)) (s 35 j1) s6
else M_doCell_55 kr a1 a2 a3 a4 (s 35 j1) v3 0 v3 (wr ((wr (4 * (s 36 j2))) + a2)) (s 35 j1) s6
set_option maxRecDepth 100000 in
theorem qe_M_doCell_118 {ρ : Type} (kr : Int → zD → Option ρ) (s : zD) : M_doCell_118 kr s = zseg zPP false zfinM (zcal []) (zget (999, 0, 0, 0) zc_M_doCell) (zcut [(55, [true, true, true, true, true, true, false, true, false]), (118, [false, false, false, false, false, false, false, false, false]), (137, [true, true, true, true, true, false, false, true, false]), (200, [true, true, true, false, true, false, false, true, false]), (308, [true, true, true, false, true, false, false, false, true]), (324, [false, false, false, false, false, false, false, false, false])]) (zorc []) (fun v h => kr v (zhd h)) (fun _ _ => none) 400 118 [none, none, none, none, none, none, none, none, none] [] (zM s) := by rfl
set_option maxRecDepth 100000 in
theorem qe_M_doCell_55 {ρ : Type} (kr : Int → zD → Option ρ) (a1 a2 a3 a4 a5 a7 t0 t1 t2 t3 : Int) (s : zD) : M_doCell_55 kr a1 a2 a3 a4 a5 a7 t0 t1 t2 t3 s = zseg zPP false zfinM (zcal [(95, [some 0, none, none, none, none], fun xs h kr kt => match xs with
  | [x0, x1, x2, x3] => M_accessShared x0 x1 x2 x3 (zhd h) (fun v s => kr v (zM s))
  | _ => none), (99, [some 0, none, none], fun xs h kr kt => match xs with
  | [x0, x1] => M_lane x0 x1 (zhd h) (fun v s => kr v (zM s))
  | _ => none), (100, [some 0, none, none, none, none], fun xs h kr kt => match xs with
  | [x0, x1, x2, x3] => M_set x0 x1 x2 x3 (zhd h) (fun v s => kr v (zM s))
  | _ => none)]) (zget (999, 0, 0, 0) zc_M_doCell) (zcut [(55, [true, true, true, true, true, true, false, true, false]), (118, [false, false, false, false, false, false, false, false, false]), (137, [true, true, true, true, true, false, false, true, false]), (200, [true, true, true, false, true, false, false, true, false]), (308, [true, true, true, false, true, false, false, false, true]), (324, [false, false, false, false, false, false, false, false, false])]) (zorc [(118, [none, none, none, none, none, none, none, none, none], [], fun xs h => match xs with
  | [] => M_doCell_118 kr  (zhd h)
  | _ => none)]) (fun v h => kr v (zhd h)) (fun _ _ => none) 400 55 [some (2, 0), some (0, a1), some (0, a2), some (0, a3), some (0, a4), some (0, a5), none, some (0, a7), none] [(0, t0), (0, t1), (0, t2), (0, t3), (2, 0)] (zM s) := by rfl
set_option maxRecDepth 100000 in
theorem qe_M_doCell_324 {ρ : Type} (kr : Int → zD → Option ρ) (s : zD) : M_doCell_324 kr s = zseg zPP false zfinM (zcal []) (zget (999, 0, 0, 0) zc_M_doCell) (zcut [(55, [true, true, true, true, true, true, false, true, false]), (118, [false, false, false, false, false, false, false, false, false]), (137, [true, true, true, true, true, false, false, true, false]), (200, [true, true, true, false, true, false, false, true, false]), (308, [true, true, true, false, true, false, false, false, true]), (324, [false, false, false, false, false, false, false, false, false])]) (zorc []) (fun v h => kr v (zhd h)) (fun _ _ => none) 400 324 [none, none, none, none, none, none, none, none, none] [] (zM s) := by rfl
set_option maxRecDepth 100000 in
theorem qe_M_doCell_200 {ρ : Type} (kr : Int → zD → Option ρ) (a1 a2 a4 a7 : Int) (s : zD) : M_doCell_200 kr a1 a2 a4 a7 s = zseg zPP false zfinM (zcal [(99, [some 0, none, none], fun xs h kr kt => match xs with
  | [x0, x1] => M_lane x0 x1 (zhd h) (fun v s => kr v (zM s))
  | _ => none)]) (zget (999, 0, 0, 0) zc_M_doCell) (zcut [(55, [true, true, true, true, true, true, false, true, false]), (118, [false, false, false, false, false, false, false, false, false]), (137, [true, true, true, true, true, false, false, true, false]), (200, [true, true, true, false, true, false, false, true, false]), (308, [true, true, true, false, true, false, false, false, true]), (324, [false, false, false, false, false, false, false, false, false])]) (zorc [(324, [none, none, none, none, none, none, none, none, none], [], fun xs h => match xs with
  | [] => M_doCell_324 kr  (zhd h)
  | _ => none)]) (fun v h => kr v (zhd h)) (fun _ _ => none) 400 200 [some (2, 0), some (0, a1), some (0, a2), none, some (0, a4), none, none, some (0, a7), none] [] (zM s) := by rfl
set_option maxRecDepth 100000 in
theorem qe_M_doCell_308 {ρ : Type} (kr : Int → zD → Option ρ) (a1 a2 a4 a8 t0 t1 : Int) (s : zD) : M_doCell_308 kr a1 a2 a4 a8 t0 t1 s = zseg zPP false zfinM (zcal [(100, [some 0, none, none, none, none], fun xs h kr kt => match xs with
  | [x0, x1, x2, x3] => M_set x0 x1 x2 x3 (zhd h) (fun v s => kr v (zM s))
  | _ => none)]) (zget (999, 0, 0, 0) zc_M_doCell) (zcut [(55, [true, true, true, true, true, true, false, true, false]), (118, [false, false, false, false, false, false, false, false, false]), (137, [true, true, true, true, true, false, false, true, false]), (200, [true, true, true, false, true, false, false, true, false]), (308, [true, true, true, false, true, false, false, false, true]), (324, [false, false, false, false, false, false, false, false, false])]) (zorc [(324, [none, none, none, none, none, none, none, none, none], [], fun xs h => match xs with
  | [] => M_doCell_324 kr  (zhd h)
  | _ => none)]) (fun v h => kr v (zhd h)) (fun _ _ => none) 400 308 [some (2, 0), some (0, a1), some (0, a2), none, some (0, a4), none, none, none, some (0, a8)] [(0, t0), (0, t1), (2, 1)] (zM s) := by rfl
set_option maxRecDepth 100000 in
theorem qe_M_doCell_137 {ρ : Type} (kr : Int → zD → Option ρ) (a1 a2 a3 a4 a7 t0 t1 t2 t3 : Int) (s : zD) : M_doCell_137 kr a1 a2 a3 a4 a7 t0 t1 t2 t3 s = zseg zPP false zfinM (zcal [(90, [some 0, none], fun xs h kr kt => match xs with
  | [x0] => M_writeFirst x0 (zhd h) (fun v s => kr v (zM s))
  | _ => none), (94, [some 0, none, none, none, none], fun xs h kr kt => match xs with
  | [x0, x1, x2, x3] => M_access x0 x1 x2 x3 (zhd h) (fun v s => kr v (zM s))
  | _ => none), (99, [some 0, none, none], fun xs h kr kt => match xs with
  | [x0, x1] => M_lane x0 x1 (zhd h) (fun v s => kr v (zM s))
  | _ => none), (100, [some 0, none, none, none, none], fun xs h kr kt => match xs with
  | [x0, x1, x2, x3] => M_set x0 x1 x2 x3 (zhd h) (fun v s => kr v (zM s))
  | _ => none), (104, [some 0, none, none], fun xs h kr kt => match xs with
  | [x0, x1] => M_seen x0 x1 (zhd h) (fun v s => kr v (zM s))
  | _ => none)]) (zget (999, 0, 0, 0) zc_M_doCell) (zcut [(55, [true, true, true, true, true, true, false, true, false]), (118, [false, false, false, false, false, false, false, false, false]), (137, [true, true, true, true, true, false, false, true, false]), (200, [true, true, true, false, true, false, false, true, false]), (308, [true, true, true, false, true, false, false, false, true]), (324, [false, false, false, false, false, false, false, false, false])]) (zorc [(200, [some (2, some 0), some (0, none), some (0, none), none, some (0, none), none, none, some (0, none), none], [], fun xs h => match xs with
  | [a1, a2, a4, a7] => M_doCell_200 kr a1 a2 a4 a7 (zhd h)
  | _ => none), (308, [some (2, some 0), some (0, none), some (0, none), none, some (0, none), none, none, none, some (0, none)], [(0, none), (0, none), (2, some 1)], fun xs h => match xs with
  | [a1, a2, a4, a8, t0, t1] => M_doCell_308 kr a1 a2 a4 a8 t0 t1 (zhd h)
  | _ => none), (324, [none, none, none, none, none, none, none, none, none], [], fun xs h => match xs with
  | [] => M_doCell_324 kr  (zhd h)
  | _ => none)]) (fun v h => kr v (zhd h)) (fun _ _ => none) 400 137 [some (2, 0), some (0, a1), some (0, a2), some (0, a3), some (0, a4), none, none, some (0, a7), none] [(0, t0), (0, t1), (0, t2), (0, t3), (2, 0)] (zM s) := by rfl
set_option maxRecDepth 100000 in
theorem qe_M_doCell {ρ : Type} (kr : Int → zD → Option ρ) (a1 a2 a3 a4 : Int) (s : zD) : M_doCell a1 a2 a3 a4 s kr = zseg zPP false zfinM (zcal [(105, [some 0, none, none, none], fun xs h kr kt => match xs with
  | [x0, x1, x2] => M_cellOf x0 x1 x2 (zhd h) (fun v s => kr v (zM s))
  | _ => none), (107, [none], fun xs h kr kt => match xs with
  | [x0] => M_isShared x0 (zhd h) (fun v s => kr v (zM s))
  | _ => none)]) (zget (999, 0, 0, 0) zc_M_doCell) (zcut [(55, [true, true, true, true, true, true, false, true, false]), (118, [false, false, false, false, false, false, false, false, false]), (137, [true, true, true, true, true, false, false, true, false]), (200, [true, true, true, false, true, false, false, true, false]), (308, [true, true, true, false, true, false, false, false, true]), (324, [false, false, false, false, false, false, false, false, false])]) (zorc [(55, [some (2, some 0), some (0, none), some (0, none), some (0, none), some (0, none), some (0, none), none, some (0, none), none], [(0, none), (0, none), (0, none), (0, none), (2, some 0)], fun xs h => match xs with
  | [a1, a2, a3, a4, a5, a7, t0, t1, t2, t3] => M_doCell_55 kr a1 a2 a3 a4 a5 a7 t0 t1 t2 t3 (zhd h)
  | _ => none), (137, [some (2, some 0), some (0, none), some (0, none), some (0, none), some (0, none), none, none, some (0, none), none], [(0, none), (0, none), (0, none), (0, none), (2, some 0)], fun xs h => match xs with
  | [a1, a2, a3, a4, a7, t0, t1, t2, t3] => M_doCell_137 kr a1 a2 a3 a4 a7 t0 t1 t2 t3 (zhd h)
  | _ => none)]) (fun v h => kr v (zhd h)) (fun _ _ => none) 400 0 [some (2, 0), some (0, a1), some (0, a2), some (0, a3), some (0, a4), none, none, none, none] [] (zM s) := by rfl
def zc_M_doLane : List zI := [(14, 0, 0, 0), (80, 12, 118, 39), (999, 0, 0, 0), (999, 0, 0, 0), (10, 0, 1, 0), (90, 0, 0, 0), (17, 0, 5, 0), (999, 0, 0, 0), (0, 4, 0, 0), (14, 0, 0, 0), (80, 12, 121, 40), (999, 0, 0, 0), (999, 0, 0, 0), (10, 0, 1, 0), (90, 0, 0, 0), (32, 0, 0, 0), (10, 0, 2, 0), (30, 0, 0, 0), (17, 0, 6, 0), (999, 0, 0, 0), (14, 0, 0, 0), (11, 0, 5, 0), (999, 0, 0, 0), (11, 0, 6, 0), (999, 0, 0, 0), (110, 0, 249, 86), (999, 0, 0, 0), (999, 0, 0, 0), (17, 0, 7, 0), (999, 0, 0, 0), (14, 0, 0, 0), (80, 12, 106, 35), (999, 0, 0, 0), (999, 0, 0, 0), (11, 0, 7, 0), (999, 0, 0, 0), (90, 0, 0, 0), (0, 1, 0, 0), (30, 0, 0, 0), (17, 0, 8, 0), (999, 0, 0, 0), (10, 0, 3, 0), (1, 107, 0, 0), (999, 0, 0, 0), (67, 26, 70, 0), (999, 0, 0, 0), (999, 0, 0, 0), (14, 0, 0, 0), (10, 0, 1, 0), (10, 0, 2, 0), (14, 0, 0, 0), (80, 12, 34, 10), (999, 0, 0, 0), (999, 0, 0, 0), (11, 0, 4, 0), (999, 0, 0, 0), (90, 0, 0, 0), (14, 0, 0, 0), (80, 12, 37, 11), (999, 0, 0, 0), (999, 0, 0, 0), (11, 0, 4, 0), (999, 0, 0, 0), (90, 0, 0, 0), (110, 0, 305, 100), (999, 0, 0, 0), (999, 0, 0, 0), (72, 346, 413, 0), (999, 0, 0, 0), (999, 0, 0, 0), (10, 0, 3, 0), (1, 116, 0, 0), (999, 0, 0, 0), (66, 15, 88, 0), (999, 0, 0, 0), (999, 0, 0, 0), (10, 0, 3, 0), (1, 110, 0, 0), (999, 0, 0, 0), (66, 9, 88, 0), (999, 0, 0, 0), (999, 0, 0, 0), (10, 0, 3, 0), (1, 108, 0, 0), (999, 0, 0, 0), (67, 45, 130, 0), (999, 0, 0, 0), (999, 0, 0, 0), (14, 0, 0, 0), (10, 0, 1, 0), (10, 0, 2, 0), (14, 0, 0, 0), (80, 12, 34, 10), (999, 0, 0, 0), (999, 0, 0, 0), (11, 0, 4, 0), (999, 0, 0, 0), (90, 0, 0, 0), (10, 0, 3, 0), (1, 116, 0, 0), (999, 0, 0, 0), (67, 8, 109, 0), (999, 0, 0, 0), (999, 0, 0, 0), (11, 0, 6, 0), (999, 0, 0, 0), (72, 18, 124, 0), (999, 0, 0, 0), (999, 0, 0, 0), (10, 0, 3, 0), (1, 110, 0, 0), (999, 0, 0, 0), (67, 11, 123, 0), (999, 0, 0, 0), (999, 0, 0, 0), (11, 0, 5, 0), (999, 0, 0, 0), (1, 6, 0, 0), (999, 0, 0, 0), (34, 0, 0, 0), (72, 4, 124, 0), (999, 0, 0, 0), (999, 0, 0, 0), (10, 0, 2, 0), (110, 0, 305, 100), (999, 0, 0, 0), (999, 0, 0, 0), (72, 286, 413, 0), (999, 0, 0, 0), (999, 0, 0, 0), (10, 0, 3, 0), (1, 118, 0, 0), (999, 0, 0, 0), (67, 30, 163, 0), (999, 0, 0, 0), (999, 0, 0, 0), (14, 0, 0, 0), (10, 0, 1, 0), (10, 0, 2, 0), (14, 0, 0, 0), (80, 12, 34, 10), (999, 0, 0, 0), (999, 0, 0, 0), (11, 0, 4, 0), (999, 0, 0, 0), (90, 0, 0, 0), (14, 0, 0, 0), (14, 0, 0, 0), (80, 12, 37, 11), (999, 0, 0, 0), (999, 0, 0, 0), (11, 0, 4, 0), (999, 0, 0, 0), (90, 0, 0, 0), (110, 0, 318, 103), (999, 0, 0, 0), (999, 0, 0, 0), (110, 0, 305, 100), (999, 0, 0, 0), (999, 0, 0, 0), (72, 253, 413, 0), (999, 0, 0, 0), (999, 0, 0, 0), (10, 0, 3, 0), (1, 115, 0, 0), (999, 0, 0, 0), (67, 62, 228, 0), (999, 0, 0, 0), (999, 0, 0, 0), (14, 0, 0, 0), (10, 0, 2, 0), (14, 0, 0, 0), (80, 12, 40, 12), (999, 0, 0, 0), (999, 0, 0, 0), (11, 0, 4, 0), (999, 0, 0, 0), (90, 0, 0, 0), (110, 0, 290, 99), (999, 0, 0, 0), (999, 0, 0, 0), (113, 0, 321, 102), (999, 0, 0, 0), (999, 0, 0, 0), (17, 0, 9, 0), (999, 0, 0, 0), (14, 0, 0, 0), (10, 0, 1, 0), (10, 0, 2, 0), (14, 0, 0, 0), (80, 12, 34, 10), (999, 0, 0, 0), (999, 0, 0, 0), (11, 0, 4, 0), (999, 0, 0, 0), (90, 0, 0, 0), (14, 0, 0, 0), (14, 0, 0, 0), (11, 0, 9, 0), (999, 0, 0, 0), (110, 0, 287, 101), (999, 0, 0, 0), (999, 0, 0, 0), (60, 8, 211, 0), (999, 0, 0, 0), (999, 0, 0, 0), (11, 0, 9, 0), (999, 0, 0, 0), (72, 4, 212, 0), (999, 0, 0, 0), (999, 0, 0, 0), (10, 0, 2, 0), (14, 0, 0, 0), (80, 12, 37, 11), (999, 0, 0, 0), (999, 0, 0, 0), (11, 0, 4, 0), (999, 0, 0, 0), (90, 0, 0, 0), (110, 0, 290, 99), (999, 0, 0, 0), (999, 0, 0, 0), (110, 0, 305, 100), (999, 0, 0, 0), (999, 0, 0, 0), (72, 188, 413, 0), (999, 0, 0, 0), (999, 0, 0, 0), (10, 0, 3, 0), (1, 122, 0, 0), (999, 0, 0, 0), (67, 35, 266, 0), (999, 0, 0, 0), (999, 0, 0, 0), (14, 0, 0, 0), (10, 0, 2, 0), (14, 0, 0, 0), (80, 12, 34, 10), (999, 0, 0, 0), (999, 0, 0, 0), (11, 0, 4, 0), (999, 0, 0, 0), (90, 0, 0, 0), (110, 0, 290, 99), (999, 0, 0, 0), (999, 0, 0, 0), (61, 13, 259, 0), (999, 0, 0, 0), (999, 0, 0, 0), (14, 0, 0, 0), (80, 12, 37, 11), (999, 0, 0, 0), (999, 0, 0, 0), (11, 0, 4, 0), (999, 0, 0, 0), (90, 0, 0, 0), (72, 5, 261, 0), (999, 0, 0, 0), (999, 0, 0, 0), (11, 0, 8, 0), (999, 0, 0, 0), (17, 0, 8, 0), (999, 0, 0, 0), (72, 150, 413, 0), (999, 0, 0, 0), (999, 0, 0, 0), (10, 0, 3, 0), (1, 106, 0, 0), (999, 0, 0, 0), (67, 15, 284, 0), (999, 0, 0, 0), (999, 0, 0, 0), (14, 0, 0, 0), (80, 12, 37, 11), (999, 0, 0, 0), (999, 0, 0, 0), (11, 0, 4, 0), (999, 0, 0, 0), (90, 0, 0, 0), (17, 0, 8, 0), (999, 0, 0, 0), (72, 132, 413, 0), (999, 0, 0, 0), (999, 0, 0, 0), (10, 0, 3, 0), (1, 99, 0, 0), (999, 0, 0, 0), (67, 55, 342, 0), (999, 0, 0, 0), (999, 0, 0, 0), (14, 0, 0, 0), (10, 0, 1, 0), (10, 0, 2, 0), (14, 0, 0, 0), (80, 12, 34, 10), (999, 0, 0, 0), (999, 0, 0, 0), (11, 0, 4, 0), (999, 0, 0, 0), (90, 0, 0, 0), (14, 0, 0, 0), (11, 0, 5, 0), (999, 0, 0, 0), (1, 6, 0, 0), (999, 0, 0, 0), (33, 0, 0, 0), (14, 0, 0, 0), (80, 12, 37, 11), (999, 0, 0, 0), (999, 0, 0, 0), (11, 0, 4, 0), (999, 0, 0, 0), (90, 0, 0, 0), (14, 0, 0, 0), (10, 0, 2, 0), (14, 0, 0, 0), (80, 12, 40, 12), (999, 0, 0, 0), (999, 0, 0, 0), (11, 0, 4, 0), (999, 0, 0, 0), (90, 0, 0, 0), (110, 0, 290, 99), (999, 0, 0, 0), (999, 0, 0, 0), (110, 0, 324, 75), (999, 0, 0, 0), (999, 0, 0, 0), (60, 7, 335, 0), (999, 0, 0, 0), (999, 0, 0, 0), (0, 1, 0, 0), (72, 4, 336, 0), (999, 0, 0, 0), (999, 0, 0, 0), (0, 0, 0, 0), (110, 0, 305, 100), (999, 0, 0, 0), (999, 0, 0, 0), (72, 74, 413, 0), (999, 0, 0, 0), (999, 0, 0, 0), (10, 0, 3, 0), (1, 43, 0, 0), (999, 0, 0, 0), (66, 27, 372, 0), (999, 0, 0, 0), (999, 0, 0, 0), (10, 0, 3, 0), (1, 45, 0, 0), (999, 0, 0, 0), (66, 21, 372, 0), (999, 0, 0, 0), (999, 0, 0, 0), (10, 0, 3, 0), (1, 42, 0, 0), (999, 0, 0, 0), (66, 15, 372, 0), (999, 0, 0, 0), (999, 0, 0, 0), (10, 0, 3, 0), (1, 60, 0, 0), (999, 0, 0, 0), (66, 9, 372, 0), (999, 0, 0, 0), (999, 0, 0, 0), (10, 0, 3, 0), (1, 61, 0, 0), (999, 0, 0, 0), (67, 44, 413, 0), (999, 0, 0, 0), (999, 0, 0, 0), (14, 0, 0, 0), (10, 0, 1, 0), (10, 0, 2, 0), (14, 0, 0, 0), (80, 12, 34, 10), (999, 0, 0, 0), (999, 0, 0, 0), (11, 0, 4, 0), (999, 0, 0, 0), (90, 0, 0, 0), (10, 0, 3, 0), (14, 0, 0, 0), (10, 0, 2, 0), (14, 0, 0, 0), (80, 12, 37, 11), (999, 0, 0, 0), (999, 0, 0, 0), (11, 0, 4, 0), (999, 0, 0, 0), (90, 0, 0, 0), (110, 0, 290, 99), (999, 0, 0, 0), (999, 0, 0, 0), (14, 0, 0, 0), (10, 0, 2, 0), (14, 0, 0, 0), (80, 12, 40, 12), (999, 0, 0, 0), (999, 0, 0, 0), (11, 0, 4, 0), (999, 0, 0, 0), (90, 0, 0, 0), (110, 0, 290, 99), (999, 0, 0, 0), (999, 0, 0, 0), (113, 0, 327, 108), (999, 0, 0, 0), (999, 0, 0, 0), (110, 0, 305, 100), (999, 0, 0, 0), (999, 0, 0, 0), (10, 0, 3, 0), (1, 98, 0, 0), (999, 0, 0, 0), (67, 15, 431, 0), (999, 0, 0, 0), (999, 0, 0, 0), (14, 0, 0, 0), (80, 12, 103, 34), (999, 0, 0, 0), (999, 0, 0, 0), (11, 0, 7, 0), (999, 0, 0, 0), (1, 119, 0, 0), (999, 0, 0, 0), (97, 0, 0, 0), (72, 52, 480, 0), (999, 0, 0, 0), (999, 0, 0, 0), (14, 0, 0, 0), (80, 12, 106, 35), (999, 0, 0, 0), (999, 0, 0, 0), (11, 0, 7, 0), (999, 0, 0, 0), (11, 0, 8, 0), (999, 0, 0, 0), (95, 0, 0, 0), (14, 0, 0, 0), (80, 12, 103, 34), (999, 0, 0, 0), (999, 0, 0, 0), (11, 0, 7, 0), (999, 0, 0, 0), (10, 0, 3, 0), (1, 101, 0, 0), (999, 0, 0, 0), (66, 23, 472, 0), (999, 0, 0, 0), (999, 0, 0, 0), (11, 0, 8, 0), (999, 0, 0, 0), (14, 0, 0, 0), (80, 12, 23, 7), (999, 0, 0, 0), (999, 0, 0, 0), (14, 0, 0, 0), (80, 12, 46, 15), (999, 0, 0, 0), (999, 0, 0, 0), (11, 0, 5, 0), (999, 0, 0, 0), (1, 6, 0, 0), (999, 0, 0, 0), (33, 0, 0, 0), (90, 0, 0, 0), (90, 0, 0, 0), (68, 8, 477, 0), (999, 0, 0, 0), (999, 0, 0, 0), (1, 101, 0, 0), (999, 0, 0, 0), (72, 5, 479, 0), (999, 0, 0, 0), (999, 0, 0, 0), (1, 114, 0, 0), (999, 0, 0, 0), (97, 0, 0, 0), (133, 0, 0, 0)]
def M_doLane_480 {ρ : Type} (kr : Int → zD → Option ρ) (s : zD) : Option ρ :=
kr 0 s
def M_doLane_479 {ρ : Type} (kr : Int → zD → Option ρ) (t0 t1 : Int) (s : zD) : Option ρ :=
zix 1152 t1 fun j1 =>
znar 2 t0 fun x2 =>
zlet (zup s 30 j1 x2) fun s3 =>
M_doLane_480 kr s3
def M_doLane_472 {ρ : Type} (kr : Int → zD → Option ρ) (t0 : Int) (s : zD) : Option ρ :=
M_doLane_479 kr 101 t0 s
def M_doLane_413 {ρ : Type} (kr : Int → zD → Option ρ) (a3 a5 a7 a8 : Int) (s : zD) : Option ρ :=
if a3 = 98 then (zix 1152 a7 fun j5 =>
zlet (zup s 30 j5 119) fun s6 =>
M_doLane_480 kr s6)
else zix 1152 a7 fun j1 =>
zlet (zup s 31 j1 a8) fun s2 =>
if a3 = 101 then M_doLane_472 kr a7 s2
else zix 12 (wr (Int.tdiv a5 6)) fun j3 =>
zix 4 (s2 11 j3) fun j4 =>
if a8 < (s2 4 j4) then M_doLane_479 kr 114 a7 s2
else M_doLane_472 kr a7 s2
def M_doLane_124 {ρ : Type} (kr : Int → zD → Option ρ) (a3 a5 a7 a8 t0 t1 t2 t3 : Int) (s : zD) : Option ρ :=
M_set t3 t2 t1 t0 s  fun _ s2 =>
M_doLane_413 kr a3 a5 a7 a8 s2
def M_doLane_88 {ρ : Type} (kr : Int → zD → Option ρ) (a1 a2 a3 a4 a5 a6 a7 a8 : Int) (s : zD) : Option ρ :=
zix 160 a4 fun j1 =>
if a3 = 116 then M_doLane_124 kr a3 a5 a7 a8 a6 (s 7 j1) a2 a1 s
else if a3 = 110 then M_doLane_124 kr a3 a5 a7 a8 (Int.tmod a5 6) (s 7 j1) a2 a1 s
else M_doLane_124 kr a3 a5 a7 a8 a2 (s 7 j1) a2 a1 s
def M_doLane_212 {ρ : Type} (kr : Int → zD → Option ρ) (a3 a4 a5 a7 a8 t0 t2 t3 t4 : Int) (s : zD) : Option ρ :=
zix 160 a4 fun j1 =>
M_lane t0 (s 8 j1) s  fun v2 s3 =>
M_set t4 t3 t2 v2 s3  fun _ s5 =>
M_doLane_413 kr a3 a5 a7 a8 s5
def M_doLane_261 {ρ : Type} (kr : Int → zD → Option ρ) (a3 a5 a7 t0 : Int) (s : zD) : Option ρ :=
M_doLane_413 kr a3 a5 a7 t0 s
def M_doLane_336 {ρ : Type} (kr : Int → zD → Option ρ) (a3 a5 a7 a8 t0 t1 t2 t3 : Int) (s : zD) : Option ρ :=
M_set t3 t2 t1 t0 s  fun _ s2 =>
M_doLane_413 kr a3 a5 a7 a8 s2
def M_doLane_372 {ρ : Type} (kr : Int → zD → Option ρ) (a1 a2 a3 a4 a5 a7 a8 : Int) (s : zD) : Option ρ :=
zix 160 a4 fun j1 =>
zix 160 a4 fun j2 =>
M_lane a2 (s 8 j2) s  fun v3 s4 =>
zix 160 a4 fun j5 =>
M_lane a2 (s4 9 j5) s4  fun v6 s7 =>
M_compute a3 v3 v6 s7  fun v8 s9 =>
M_set a1 a2 (s 7 j1) v8 s9  fun _ s11 =>
M_doLane_413 kr a3 a5 a7 a8 s11
def M_doLane {ρ : Type} (a1 a2 a3 a4 : Int) (s : zD) (kr : Int → zD → Option ρ) : Option ρ :=
zix 8 a1 fun j1 =>
zix 8 a1 fun j2 =>
M_threadCell (s 35 j1) (wr ((wr (4 * (s 36 j2))) + a2)) s  fun v3 s4 =>
zix 1152 v3 fun j5 =>
if a3 = 107 then (zix 160 a4 fun j32 =>
zix 160 a4 fun j33 =>
M_set a1 a2 (s4 7 j32) (s4 8 j33) s4  fun _ s35 =>
M_doLane_413 kr a3 (s 35 j1) v3 (wr ((s4 31 j5) + 1)) s35)
else if a3 = 116 then M_doLane_88 kr a1 a2 a3 a4 (s 35 j1) (wr ((wr (4 * (s 36 j2))) + a2)) v3 (wr ((s4 31 j5) + 1)) s4
else if a3 = 110 then M_doLane_88 kr a1 a2 a3 a4 (s 35 j1) (wr ((wr (4 * (s 36 j2))) + a2)) v3 (wr ((s4 31 j5) + 1)) s4
else if a3 = 108 then M_doLane_88 kr a1 a2 a3 a4 (s 35 j1) (wr ((wr (4 * (s 36 j2))) + a2)) v3 (wr ((s4 31 j5) + 1)) s4
else if a3 = 118 then (zix 160 a4 fun j26 =>
zix 160 a4 fun j27 =>
M_vote (s4 8 j27) s4  fun v28 s29 =>
M_set a1 a2 (s4 7 j26) v28 s29  fun _ s31 =>
M_doLane_413 kr a3 (s 35 j1) v3 (wr ((s4 31 j5) + 1)) s31)
else if a3 = 115 then (zix 160 a4 fun j18 =>
M_lane a2 (s4 9 j18) s4  fun v19 s20 =>
M_modulo v19 s20  fun v21 s22 =>
zix 160 a4 fun j23 =>
M_isUnder v21 s22  fun v24 s25 =>
if v24 = 0 then M_doLane_212 kr a3 a4 (s 35 j1) v3 (wr ((s4 31 j5) + 1)) a2 (s22 7 j23) a2 a1 s25
else M_doLane_212 kr a3 a4 (s 35 j1) v3 (wr ((s4 31 j5) + 1)) v21 (s22 7 j23) a2 a1 s25)
else if a3 = 122 then (zix 160 a4 fun j14 =>
M_lane a2 (s4 7 j14) s4  fun v15 s16 =>
if v15 = 0 then (zix 160 a4 fun j17 =>
M_doLane_261 kr a3 (s 35 j1) v3 (s16 8 j17) s16)
else M_doLane_261 kr a3 (s 35 j1) v3 (wr ((s4 31 j5) + 1)) s16)
else if a3 = 106 then (zix 160 a4 fun j13 =>
M_doLane_413 kr a3 (s 35 j1) v3 (s4 8 j13) s4)
else if a3 = 99 then (zix 160 a4 fun j6 =>
zix 160 a4 fun j7 =>
zix 160 a4 fun j8 =>
M_lane a2 (s4 9 j8) s4  fun v9 s10 =>
M_launchChild (wr (Int.tdiv (s 35 j1) 6)) (s4 8 j7) v9 s10  fun v11 s12 =>
if v11 = 0 then M_doLane_336 kr a3 (s 35 j1) v3 (wr ((s4 31 j5) + 1)) 0 (s4 7 j6) a2 a1 s12
else M_doLane_336 kr a3 (s 35 j1) v3 (wr ((s4 31 j5) + 1)) 1 (s4 7 j6) a2 a1 s12)
else if a3 = 43 then M_doLane_372 kr a1 a2 a3 a4 (s 35 j1) v3 (wr ((s4 31 j5) + 1)) s4
else if a3 = 45 then M_doLane_372 kr a1 a2 a3 a4 (s 35 j1) v3 (wr ((s4 31 j5) + 1)) s4
else if a3 = 42 then M_doLane_372 kr a1 a2 a3 a4 (s 35 j1) v3 (wr ((s4 31 j5) + 1)) s4
else if a3 = 60 then M_doLane_372 kr a1 a2 a3 a4 (s 35 j1) v3 (wr ((s4 31 j5) + 1)) s4
else if a3 = 61 then M_doLane_372 kr a1 a2 a3 a4 (s 35 j1) v3 (wr ((s4 31 j5) + 1)) s4
else M_doLane_413 kr a3 (s 35 j1) v3 (wr ((s4 31 j5) + 1)) s4
set_option maxRecDepth 100000 in
theorem qe_M_doLane_480 {ρ : Type} (kr : Int → zD → Option ρ) (s : zD) : M_doLane_480 kr s = zseg zPP false zfinM (zcal []) (zget (999, 0, 0, 0) zc_M_doLane) (zcut [(88, [true, true, true, true, true, true, true, true, true, false]), (124, [true, false, false, true, false, true, false, true, true, false]), (212, [true, false, false, true, true, true, false, true, true, false]), (261, [true, false, false, true, false, true, false, true, false, false]), (336, [true, false, false, true, false, true, false, true, true, false]), (372, [true, true, true, true, true, true, false, true, true, false]), (413, [true, false, false, true, false, true, false, true, true, false]), (472, [false, false, false, false, false, false, false, false, false, false]), (479, [false, false, false, false, false, false, false, false, false, false]), (480, [false, false, false, false, false, false, false, false, false, false])]) (zorc []) (fun v h => kr v (zhd h)) (fun _ _ => none) 400 480 [none, none, none, none, none, none, none, none, none, none] [] (zM s) := by rfl
set_option maxRecDepth 100000 in
theorem qe_M_doLane_479 {ρ : Type} (kr : Int → zD → Option ρ) (t0 t1 : Int) (s : zD) : M_doLane_479 kr t0 t1 s = zseg zPP false zfinM (zcal []) (zget (999, 0, 0, 0) zc_M_doLane) (zcut [(88, [true, true, true, true, true, true, true, true, true, false]), (124, [true, false, false, true, false, true, false, true, true, false]), (212, [true, false, false, true, true, true, false, true, true, false]), (261, [true, false, false, true, false, true, false, true, false, false]), (336, [true, false, false, true, false, true, false, true, true, false]), (372, [true, true, true, true, true, true, false, true, true, false]), (413, [true, false, false, true, false, true, false, true, true, false]), (472, [false, false, false, false, false, false, false, false, false, false]), (479, [false, false, false, false, false, false, false, false, false, false]), (480, [false, false, false, false, false, false, false, false, false, false])]) (zorc [(480, [none, none, none, none, none, none, none, none, none, none], [], fun xs h => match xs with
  | [] => M_doLane_480 kr  (zhd h)
  | _ => none)]) (fun v h => kr v (zhd h)) (fun _ _ => none) 400 479 [none, none, none, none, none, none, none, none, none, none] [(0, t0), (0, t1), (2, 30)] (zM s) := by rfl
set_option maxRecDepth 100000 in
theorem qe_M_doLane_472 {ρ : Type} (kr : Int → zD → Option ρ) (t0 : Int) (s : zD) : M_doLane_472 kr t0 s = zseg zPP false zfinM (zcal []) (zget (999, 0, 0, 0) zc_M_doLane) (zcut [(88, [true, true, true, true, true, true, true, true, true, false]), (124, [true, false, false, true, false, true, false, true, true, false]), (212, [true, false, false, true, true, true, false, true, true, false]), (261, [true, false, false, true, false, true, false, true, false, false]), (336, [true, false, false, true, false, true, false, true, true, false]), (372, [true, true, true, true, true, true, false, true, true, false]), (413, [true, false, false, true, false, true, false, true, true, false]), (472, [false, false, false, false, false, false, false, false, false, false]), (479, [false, false, false, false, false, false, false, false, false, false]), (480, [false, false, false, false, false, false, false, false, false, false])]) (zorc [(479, [none, none, none, none, none, none, none, none, none, none], [(0, none), (0, none), (2, some 30)], fun xs h => match xs with
  | [t0, t1] => M_doLane_479 kr t0 t1 (zhd h)
  | _ => none)]) (fun v h => kr v (zhd h)) (fun _ _ => none) 400 472 [none, none, none, none, none, none, none, none, none, none] [(0, t0), (2, 30)] (zM s) := by rfl
set_option maxRecDepth 100000 in
theorem qe_M_doLane_413 {ρ : Type} (kr : Int → zD → Option ρ) (a3 a5 a7 a8 : Int) (s : zD) : M_doLane_413 kr a3 a5 a7 a8 s = zseg zPP false zfinM (zcal []) (zget (999, 0, 0, 0) zc_M_doLane) (zcut [(88, [true, true, true, true, true, true, true, true, true, false]), (124, [true, false, false, true, false, true, false, true, true, false]), (212, [true, false, false, true, true, true, false, true, true, false]), (261, [true, false, false, true, false, true, false, true, false, false]), (336, [true, false, false, true, false, true, false, true, true, false]), (372, [true, true, true, true, true, true, false, true, true, false]), (413, [true, false, false, true, false, true, false, true, true, false]), (472, [false, false, false, false, false, false, false, false, false, false]), (479, [false, false, false, false, false, false, false, false, false, false]), (480, [false, false, false, false, false, false, false, false, false, false])]) (zorc [(472, [none, none, none, none, none, none, none, none, none, none], [(0, none), (2, some 30)], fun xs h => match xs with
  | [t0] => M_doLane_472 kr t0 (zhd h)
  | _ => none), (479, [none, none, none, none, none, none, none, none, none, none], [(0, none), (0, none), (2, some 30)], fun xs h => match xs with
  | [t0, t1] => M_doLane_479 kr t0 t1 (zhd h)
  | _ => none), (480, [none, none, none, none, none, none, none, none, none, none], [], fun xs h => match xs with
  | [] => M_doLane_480 kr  (zhd h)
  | _ => none)]) (fun v h => kr v (zhd h)) (fun _ _ => none) 400 413 [some (2, 0), none, none, some (0, a3), none, some (0, a5), none, some (0, a7), some (0, a8), none] [] (zM s) := by rfl
set_option maxRecDepth 100000 in
theorem qe_M_doLane_124 {ρ : Type} (kr : Int → zD → Option ρ) (a3 a5 a7 a8 t0 t1 t2 t3 : Int) (s : zD) : M_doLane_124 kr a3 a5 a7 a8 t0 t1 t2 t3 s = zseg zPP false zfinM (zcal [(100, [some 0, none, none, none, none], fun xs h kr kt => match xs with
  | [x0, x1, x2, x3] => M_set x0 x1 x2 x3 (zhd h) (fun v s => kr v (zM s))
  | _ => none)]) (zget (999, 0, 0, 0) zc_M_doLane) (zcut [(88, [true, true, true, true, true, true, true, true, true, false]), (124, [true, false, false, true, false, true, false, true, true, false]), (212, [true, false, false, true, true, true, false, true, true, false]), (261, [true, false, false, true, false, true, false, true, false, false]), (336, [true, false, false, true, false, true, false, true, true, false]), (372, [true, true, true, true, true, true, false, true, true, false]), (413, [true, false, false, true, false, true, false, true, true, false]), (472, [false, false, false, false, false, false, false, false, false, false]), (479, [false, false, false, false, false, false, false, false, false, false]), (480, [false, false, false, false, false, false, false, false, false, false])]) (zorc [(413, [some (2, some 0), none, none, some (0, none), none, some (0, none), none, some (0, none), some (0, none), none], [], fun xs h => match xs with
  | [a3, a5, a7, a8] => M_doLane_413 kr a3 a5 a7 a8 (zhd h)
  | _ => none)]) (fun v h => kr v (zhd h)) (fun _ _ => none) 400 124 [some (2, 0), none, none, some (0, a3), none, some (0, a5), none, some (0, a7), some (0, a8), none] [(0, t0), (0, t1), (0, t2), (0, t3), (2, 0)] (zM s) := by rfl
set_option maxRecDepth 100000 in
theorem qe_M_doLane_88 {ρ : Type} (kr : Int → zD → Option ρ) (a1 a2 a3 a4 a5 a6 a7 a8 : Int) (s : zD) : M_doLane_88 kr a1 a2 a3 a4 a5 a6 a7 a8 s = zseg zPP false zfinM (zcal []) (zget (999, 0, 0, 0) zc_M_doLane) (zcut [(88, [true, true, true, true, true, true, true, true, true, false]), (124, [true, false, false, true, false, true, false, true, true, false]), (212, [true, false, false, true, true, true, false, true, true, false]), (261, [true, false, false, true, false, true, false, true, false, false]), (336, [true, false, false, true, false, true, false, true, true, false]), (372, [true, true, true, true, true, true, false, true, true, false]), (413, [true, false, false, true, false, true, false, true, true, false]), (472, [false, false, false, false, false, false, false, false, false, false]), (479, [false, false, false, false, false, false, false, false, false, false]), (480, [false, false, false, false, false, false, false, false, false, false])]) (zorc [(124, [some (2, some 0), none, none, some (0, none), none, some (0, none), none, some (0, none), some (0, none), none], [(0, none), (0, none), (0, none), (0, none), (2, some 0)], fun xs h => match xs with
  | [a3, a5, a7, a8, t0, t1, t2, t3] => M_doLane_124 kr a3 a5 a7 a8 t0 t1 t2 t3 (zhd h)
  | _ => none)]) (fun v h => kr v (zhd h)) (fun _ _ => none) 400 88 [some (2, 0), some (0, a1), some (0, a2), some (0, a3), some (0, a4), some (0, a5), some (0, a6), some (0, a7), some (0, a8), none] [] (zM s) := by rfl
set_option maxRecDepth 100000 in
theorem qe_M_doLane_212 {ρ : Type} (kr : Int → zD → Option ρ) (a3 a4 a5 a7 a8 t0 t2 t3 t4 : Int) (s : zD) : M_doLane_212 kr a3 a4 a5 a7 a8 t0 t2 t3 t4 s = zseg zPP false zfinM (zcal [(99, [some 0, none, none], fun xs h kr kt => match xs with
  | [x0, x1] => M_lane x0 x1 (zhd h) (fun v s => kr v (zM s))
  | _ => none), (100, [some 0, none, none, none, none], fun xs h kr kt => match xs with
  | [x0, x1, x2, x3] => M_set x0 x1 x2 x3 (zhd h) (fun v s => kr v (zM s))
  | _ => none)]) (zget (999, 0, 0, 0) zc_M_doLane) (zcut [(88, [true, true, true, true, true, true, true, true, true, false]), (124, [true, false, false, true, false, true, false, true, true, false]), (212, [true, false, false, true, true, true, false, true, true, false]), (261, [true, false, false, true, false, true, false, true, false, false]), (336, [true, false, false, true, false, true, false, true, true, false]), (372, [true, true, true, true, true, true, false, true, true, false]), (413, [true, false, false, true, false, true, false, true, true, false]), (472, [false, false, false, false, false, false, false, false, false, false]), (479, [false, false, false, false, false, false, false, false, false, false]), (480, [false, false, false, false, false, false, false, false, false, false])]) (zorc [(413, [some (2, some 0), none, none, some (0, none), none, some (0, none), none, some (0, none), some (0, none), none], [], fun xs h => match xs with
  | [a3, a5, a7, a8] => M_doLane_413 kr a3 a5 a7 a8 (zhd h)
  | _ => none)]) (fun v h => kr v (zhd h)) (fun _ _ => none) 400 212 [some (2, 0), none, none, some (0, a3), some (0, a4), some (0, a5), none, some (0, a7), some (0, a8), none] [(0, t0), (2, 0), (0, t2), (0, t3), (0, t4), (2, 0)] (zM s) := by rfl
set_option maxRecDepth 100000 in
theorem qe_M_doLane_261 {ρ : Type} (kr : Int → zD → Option ρ) (a3 a5 a7 t0 : Int) (s : zD) : M_doLane_261 kr a3 a5 a7 t0 s = zseg zPP false zfinM (zcal []) (zget (999, 0, 0, 0) zc_M_doLane) (zcut [(88, [true, true, true, true, true, true, true, true, true, false]), (124, [true, false, false, true, false, true, false, true, true, false]), (212, [true, false, false, true, true, true, false, true, true, false]), (261, [true, false, false, true, false, true, false, true, false, false]), (336, [true, false, false, true, false, true, false, true, true, false]), (372, [true, true, true, true, true, true, false, true, true, false]), (413, [true, false, false, true, false, true, false, true, true, false]), (472, [false, false, false, false, false, false, false, false, false, false]), (479, [false, false, false, false, false, false, false, false, false, false]), (480, [false, false, false, false, false, false, false, false, false, false])]) (zorc [(413, [some (2, some 0), none, none, some (0, none), none, some (0, none), none, some (0, none), some (0, none), none], [], fun xs h => match xs with
  | [a3, a5, a7, a8] => M_doLane_413 kr a3 a5 a7 a8 (zhd h)
  | _ => none)]) (fun v h => kr v (zhd h)) (fun _ _ => none) 400 261 [some (2, 0), none, none, some (0, a3), none, some (0, a5), none, some (0, a7), none, none] [(0, t0)] (zM s) := by rfl
set_option maxRecDepth 100000 in
theorem qe_M_doLane_336 {ρ : Type} (kr : Int → zD → Option ρ) (a3 a5 a7 a8 t0 t1 t2 t3 : Int) (s : zD) : M_doLane_336 kr a3 a5 a7 a8 t0 t1 t2 t3 s = zseg zPP false zfinM (zcal [(100, [some 0, none, none, none, none], fun xs h kr kt => match xs with
  | [x0, x1, x2, x3] => M_set x0 x1 x2 x3 (zhd h) (fun v s => kr v (zM s))
  | _ => none)]) (zget (999, 0, 0, 0) zc_M_doLane) (zcut [(88, [true, true, true, true, true, true, true, true, true, false]), (124, [true, false, false, true, false, true, false, true, true, false]), (212, [true, false, false, true, true, true, false, true, true, false]), (261, [true, false, false, true, false, true, false, true, false, false]), (336, [true, false, false, true, false, true, false, true, true, false]), (372, [true, true, true, true, true, true, false, true, true, false]), (413, [true, false, false, true, false, true, false, true, true, false]), (472, [false, false, false, false, false, false, false, false, false, false]), (479, [false, false, false, false, false, false, false, false, false, false]), (480, [false, false, false, false, false, false, false, false, false, false])]) (zorc [(413, [some (2, some 0), none, none, some (0, none), none, some (0, none), none, some (0, none), some (0, none), none], [], fun xs h => match xs with
  | [a3, a5, a7, a8] => M_doLane_413 kr a3 a5 a7 a8 (zhd h)
  | _ => none)]) (fun v h => kr v (zhd h)) (fun _ _ => none) 400 336 [some (2, 0), none, none, some (0, a3), none, some (0, a5), none, some (0, a7), some (0, a8), none] [(0, t0), (0, t1), (0, t2), (0, t3), (2, 0)] (zM s) := by rfl
set_option maxRecDepth 100000 in
theorem qe_M_doLane_372 {ρ : Type} (kr : Int → zD → Option ρ) (a1 a2 a3 a4 a5 a7 a8 : Int) (s : zD) : M_doLane_372 kr a1 a2 a3 a4 a5 a7 a8 s = zseg zPP false zfinM (zcal [(99, [some 0, none, none], fun xs h kr kt => match xs with
  | [x0, x1] => M_lane x0 x1 (zhd h) (fun v s => kr v (zM s))
  | _ => none), (100, [some 0, none, none, none, none], fun xs h kr kt => match xs with
  | [x0, x1, x2, x3] => M_set x0 x1 x2 x3 (zhd h) (fun v s => kr v (zM s))
  | _ => none), (108, [none, none, none], fun xs h kr kt => match xs with
  | [x0, x1, x2] => M_compute x0 x1 x2 (zhd h) (fun v s => kr v (zM s))
  | _ => none)]) (zget (999, 0, 0, 0) zc_M_doLane) (zcut [(88, [true, true, true, true, true, true, true, true, true, false]), (124, [true, false, false, true, false, true, false, true, true, false]), (212, [true, false, false, true, true, true, false, true, true, false]), (261, [true, false, false, true, false, true, false, true, false, false]), (336, [true, false, false, true, false, true, false, true, true, false]), (372, [true, true, true, true, true, true, false, true, true, false]), (413, [true, false, false, true, false, true, false, true, true, false]), (472, [false, false, false, false, false, false, false, false, false, false]), (479, [false, false, false, false, false, false, false, false, false, false]), (480, [false, false, false, false, false, false, false, false, false, false])]) (zorc [(413, [some (2, some 0), none, none, some (0, none), none, some (0, none), none, some (0, none), some (0, none), none], [], fun xs h => match xs with
  | [a3, a5, a7, a8] => M_doLane_413 kr a3 a5 a7 a8 (zhd h)
  | _ => none)]) (fun v h => kr v (zhd h)) (fun _ _ => none) 400 372 [some (2, 0), some (0, a1), some (0, a2), some (0, a3), some (0, a4), some (0, a5), none, some (0, a7), some (0, a8), none] [] (zM s) := by rfl
set_option maxRecDepth 100000 in
theorem qe_M_doLane {ρ : Type} (kr : Int → zD → Option ρ) (a1 a2 a3 a4 : Int) (s : zD) : M_doLane a1 a2 a3 a4 s kr = zseg zPP false zfinM (zcal [(75, [some 0, none, none, none], fun xs h kr kt => match xs with
  | [x0, x1, x2] => M_launchChild x0 x1 x2 (zhd h) (fun v s => kr v (zM s))
  | _ => none), (86, [some 0, none, none], fun xs h kr kt => match xs with
  | [x0, x1] => M_threadCell x0 x1 (zhd h) (fun v s => kr v (zM s))
  | _ => none), (99, [some 0, none, none], fun xs h kr kt => match xs with
  | [x0, x1] => M_lane x0 x1 (zhd h) (fun v s => kr v (zM s))
  | _ => none), (100, [some 0, none, none, none, none], fun xs h kr kt => match xs with
  | [x0, x1, x2, x3] => M_set x0 x1 x2 x3 (zhd h) (fun v s => kr v (zM s))
  | _ => none), (101, [some 0, none], fun xs h kr kt => match xs with
  | [x0] => M_isUnder x0 (zhd h) (fun v s => kr v (zM s))
  | _ => none), (102, [none], fun xs h kr kt => match xs with
  | [x0] => M_modulo x0 (zhd h) (fun v s => kr v (zM s))
  | _ => none), (103, [some 0, none], fun xs h kr kt => match xs with
  | [x0] => M_vote x0 (zhd h) (fun v s => kr v (zM s))
  | _ => none)]) (zget (999, 0, 0, 0) zc_M_doLane) (zcut [(88, [true, true, true, true, true, true, true, true, true, false]), (124, [true, false, false, true, false, true, false, true, true, false]), (212, [true, false, false, true, true, true, false, true, true, false]), (261, [true, false, false, true, false, true, false, true, false, false]), (336, [true, false, false, true, false, true, false, true, true, false]), (372, [true, true, true, true, true, true, false, true, true, false]), (413, [true, false, false, true, false, true, false, true, true, false]), (472, [false, false, false, false, false, false, false, false, false, false]), (479, [false, false, false, false, false, false, false, false, false, false]), (480, [false, false, false, false, false, false, false, false, false, false])]) (zorc [(88, [some (2, some 0), some (0, none), some (0, none), some (0, none), some (0, none), some (0, none), some (0, none), some (0, none), some (0, none), none], [], fun xs h => match xs with
  | [a1, a2, a3, a4, a5, a6, a7, a8] => M_doLane_88 kr a1 a2 a3 a4 a5 a6 a7 a8 (zhd h)
  | _ => none), (212, [some (2, some 0), none, none, some (0, none), some (0, none), some (0, none), none, some (0, none), some (0, none), none], [(0, none), (2, some 0), (0, none), (0, none), (0, none), (2, some 0)], fun xs h => match xs with
  | [a3, a4, a5, a7, a8, t0, t2, t3, t4] => M_doLane_212 kr a3 a4 a5 a7 a8 t0 t2 t3 t4 (zhd h)
  | _ => none), (261, [some (2, some 0), none, none, some (0, none), none, some (0, none), none, some (0, none), none, none], [(0, none)], fun xs h => match xs with
  | [a3, a5, a7, t0] => M_doLane_261 kr a3 a5 a7 t0 (zhd h)
  | _ => none), (336, [some (2, some 0), none, none, some (0, none), none, some (0, none), none, some (0, none), some (0, none), none], [(0, none), (0, none), (0, none), (0, none), (2, some 0)], fun xs h => match xs with
  | [a3, a5, a7, a8, t0, t1, t2, t3] => M_doLane_336 kr a3 a5 a7 a8 t0 t1 t2 t3 (zhd h)
  | _ => none), (372, [some (2, some 0), some (0, none), some (0, none), some (0, none), some (0, none), some (0, none), none, some (0, none), some (0, none), none], [], fun xs h => match xs with
  | [a1, a2, a3, a4, a5, a7, a8] => M_doLane_372 kr a1 a2 a3 a4 a5 a7 a8 (zhd h)
  | _ => none), (413, [some (2, some 0), none, none, some (0, none), none, some (0, none), none, some (0, none), some (0, none), none], [], fun xs h => match xs with
  | [a3, a5, a7, a8] => M_doLane_413 kr a3 a5 a7 a8 (zhd h)
  | _ => none)]) (fun v h => kr v (zhd h)) (fun _ _ => none) 400 0 [some (2, 0), some (0, a1), some (0, a2), some (0, a3), some (0, a4), none, none, none, none, none] [] (zM s) := by rfl
