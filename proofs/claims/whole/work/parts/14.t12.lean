def zc_M_runBarrier : List zI := [(0, (-1), 0, 0), (16, 0, 2, 0), (0, 1, 0, 0), (16, 0, 3, 0), (0, 0, 0, 0), (17, 0, 4, 0), (999, 0, 0, 0), (11, 0, 4, 0), (999, 0, 0, 0), (10, 0, 1, 0), (69, 55, 65, 0), (999, 0, 0, 0), (999, 0, 0, 0), (14, 0, 0, 0), (80, 12, 179, 72), (999, 0, 0, 0), (999, 0, 0, 0), (11, 0, 4, 0), (999, 0, 0, 0), (92, 0, 0, 0), (1, 119, 0, 0), (999, 0, 0, 0), (67, 37, 59, 0), (999, 0, 0, 0), (999, 0, 0, 0), (10, 0, 3, 0), (60, 23, 49, 0), (999, 0, 0, 0), (999, 0, 0, 0), (10, 0, 2, 0), (0, (-1), 0, 0), (66, 14, 45, 0), (999, 0, 0, 0), (999, 0, 0, 0), (10, 0, 2, 0), (14, 0, 0, 0), (80, 12, 176, 71), (999, 0, 0, 0), (999, 0, 0, 0), (11, 0, 4, 0), (999, 0, 0, 0), (90, 0, 0, 0), (67, 7, 49, 0), (999, 0, 0, 0), (999, 0, 0, 0), (0, 1, 0, 0), (72, 4, 50, 0), (999, 0, 0, 0), (999, 0, 0, 0), (0, 0, 0, 0), (16, 0, 3, 0), (14, 0, 0, 0), (80, 12, 176, 71), (999, 0, 0, 0), (999, 0, 0, 0), (11, 0, 4, 0), (999, 0, 0, 0), (90, 0, 0, 0), (16, 0, 2, 0), (22, 1, 4, 0), (999, 0, 0, 0), (999, 0, 0, 0), (72, (-55), 7, 0), (999, 0, 0, 0), (999, 0, 0, 0), (0, 0, 0, 0), (17, 0, 4, 0), (999, 0, 0, 0), (11, 0, 4, 0), (999, 0, 0, 0), (10, 0, 1, 0), (69, 45, 116, 0), (999, 0, 0, 0), (999, 0, 0, 0), (10, 0, 3, 0), (60, 41, 116, 0), (999, 0, 0, 0), (999, 0, 0, 0), (14, 0, 0, 0), (80, 12, 179, 72), (999, 0, 0, 0), (999, 0, 0, 0), (11, 0, 4, 0), (999, 0, 0, 0), (92, 0, 0, 0), (1, 119, 0, 0), (999, 0, 0, 0), (67, 23, 110, 0), (999, 0, 0, 0), (999, 0, 0, 0), (14, 0, 0, 0), (80, 12, 179, 72), (999, 0, 0, 0), (999, 0, 0, 0), (11, 0, 4, 0), (999, 0, 0, 0), (1, 114, 0, 0), (999, 0, 0, 0), (97, 0, 0, 0), (14, 0, 0, 0), (80, 12, 176, 71), (999, 0, 0, 0), (999, 0, 0, 0), (11, 0, 4, 0), (999, 0, 0, 0), (51, 0, 0, 0), (90, 0, 0, 0), (0, 1, 0, 0), (30, 0, 0, 0), (95, 0, 0, 0), (22, 1, 4, 0), (999, 0, 0, 0), (999, 0, 0, 0), (72, (-45), 68, 0), (999, 0, 0, 0), (999, 0, 0, 0), (10, 0, 2, 0), (0, (-1), 0, 0), (67, 8, 126, 0), (999, 0, 0, 0), (999, 0, 0, 0), (1, 101, 0, 0), (999, 0, 0, 0), (72, 14, 137, 0), (999, 0, 0, 0), (999, 0, 0, 0), (10, 0, 3, 0), (60, 8, 135, 0), (999, 0, 0, 0), (999, 0, 0, 0), (1, 112, 0, 0), (999, 0, 0, 0), (72, 5, 137, 0), (999, 0, 0, 0), (999, 0, 0, 0), (1, 102, 0, 0), (999, 0, 0, 0), (130, 0, 2, 0)]
def M_runBarrier_59 {ρ : Type} (kr : Int → zD → Option ρ) (r7 : Int → Int → Int → Int → zD → Option ρ) (a1 a2 a3 a4 : Int) (s : zD) : Option ρ :=
r7 a1 a2 a3 (wr (a4 + 1)) s
def M_runBarrier_50 {ρ : Type} (kr : Int → zD → Option ρ) (r7 : Int → Int → Int → Int → zD → Option ρ) (a1 a4 t0 : Int) (s : zD) : Option ρ :=
zix 16 a4 fun j1 =>
M_runBarrier_59 kr r7 a1 (s 54 j1) t0 a4 s
def M_runBarrier_45 {ρ : Type} (kr : Int → zD → Option ρ) (r7 : Int → Int → Int → Int → zD → Option ρ) (a1 a4 : Int) (s : zD) : Option ρ :=
M_runBarrier_50 kr r7 a1 a4 1 s
def M_runBarrier_49 {ρ : Type} (kr : Int → zD → Option ρ) (r7 : Int → Int → Int → Int → zD → Option ρ) (a1 a4 : Int) (s : zD) : Option ρ :=
M_runBarrier_50 kr r7 a1 a4 0 s
def M_runBarrier_110 {ρ : Type} (kr : Int → zD → Option ρ) (r68 : Int → Int → Int → Int → zD → Option ρ) (a1 a2 a3 a4 : Int) (s : zD) : Option ρ :=
r68 a1 a2 a3 (wr (a4 + 1)) s
def M_runBarrier_137 {ρ : Type} (kr : Int → zD → Option ρ) (t0 : Int) (s : zD) : Option ρ :=
znar 2 t0 fun x1 => kr x1 s
def M_runBarrier_116 {ρ : Type} (kr : Int → zD → Option ρ) (a2 a3 : Int) (s : zD) : Option ρ :=
if a2 = (-1) then M_runBarrier_137 kr 101 s
else if a3 = 0 then M_runBarrier_137 kr 102 s
else M_runBarrier_137 kr 112 s
def M_runBarrier_68b {ρ : Type} (kr : Int → zD → Option ρ) (r68 : Int → Int → Int → Int → zD → Option ρ) (a1 a2 a3 a4 : Int) (s : zD) : Option ρ :=
if a4 < a1 then (if a3 = 0 then M_runBarrier_116 kr a2 a3 s
else zix 16 a4 fun j1 =>
if (s 55 j1) = 119 then (zix 16 a4 fun j2 =>
zlet (zup s 55 j2 114) fun s3 =>
zix 16 a4 fun j4 =>
zix 16 a4 fun j5 =>
zlet (zup s3 54 j5 (wr ((s3 54 j4) + 1))) fun s6 =>
M_runBarrier_110 kr r68 a1 a2 a3 a4 s6)
else M_runBarrier_110 kr r68 a1 a2 a3 a4 s)
else M_runBarrier_116 kr a2 a3 s
def M_runBarrier_68 {ρ : Type} (kr : Int → zD → Option ρ) : Int → Int → Int → Int → zD → Option ρ := zit (fun _ _ _ _ _ => none) (M_runBarrier_68b kr) zN
def M_runBarrier_7b {ρ : Type} (kr : Int → zD → Option ρ) (r7 : Int → Int → Int → Int → zD → Option ρ) (a1 a2 a3 a4 : Int) (s : zD) : Option ρ :=
if a4 < a1 then (zix 16 a4 fun j1 =>
if (s 55 j1) = 119 then (if a3 = 0 then M_runBarrier_49 kr r7 a1 a4 s
else if a2 = (-1) then M_runBarrier_45 kr r7 a1 a4 s
else zix 16 a4 fun j2 =>
if a2 = (s 54 j2) then M_runBarrier_45 kr r7 a1 a4 s
else M_runBarrier_49 kr r7 a1 a4 s)
else M_runBarrier_59 kr r7 a1 a2 a3 a4 s)
else M_runBarrier_68 kr a1 a2 a3 0 s
def M_runBarrier_7 {ρ : Type} (kr : Int → zD → Option ρ) : Int → Int → Int → Int → zD → Option ρ := zit (fun _ _ _ _ _ => none) (M_runBarrier_7b kr) zN
def M_runBarrier {ρ : Type} (a1 : Int) (s : zD) (kr : Int → zD → Option ρ) : Option ρ :=
M_runBarrier_7 kr a1 (-1) 1 0 s
set_option maxRecDepth 100000 in
theorem qe_M_runBarrier_59 {ρ : Type} (kr : Int → zD → Option ρ) (r7 : Int → Int → Int → Int → zD → Option ρ) (a1 a2 a3 a4 : Int) (s : zD) : M_runBarrier_59 kr r7 a1 a2 a3 a4 s = zseg zPP false zfinM (zcal []) (zget (999, 0, 0, 0) zc_M_runBarrier) (zcut [(7, [true, true, true, true, true]), (45, [true, true, false, false, true]), (49, [true, true, false, false, true]), (50, [true, true, false, false, true]), (59, [true, true, true, true, true]), (68, [true, true, true, true, true]), (110, [true, true, true, true, true]), (116, [false, false, true, true, false]), (137, [false, false, false, false, false])]) (zorc [(7, [some (2, some 0), some (0, none), some (0, none), some (0, none), some (0, none)], [], fun xs h => match xs with
  | [a1, a2, a3, a4] => r7 a1 a2 a3 a4 (zhd h)
  | _ => none)]) (fun v h => kr v (zhd h)) (fun _ _ => none) 400 59 [some (2, 0), some (0, a1), some (0, a2), some (0, a3), some (0, a4)] [] (zM s) := by rfl
set_option maxRecDepth 100000 in
theorem qe_M_runBarrier_50 {ρ : Type} (kr : Int → zD → Option ρ) (r7 : Int → Int → Int → Int → zD → Option ρ) (a1 a4 t0 : Int) (s : zD) : M_runBarrier_50 kr r7 a1 a4 t0 s = zseg zPP false zfinM (zcal []) (zget (999, 0, 0, 0) zc_M_runBarrier) (zcut [(7, [true, true, true, true, true]), (45, [true, true, false, false, true]), (49, [true, true, false, false, true]), (50, [true, true, false, false, true]), (59, [true, true, true, true, true]), (68, [true, true, true, true, true]), (110, [true, true, true, true, true]), (116, [false, false, true, true, false]), (137, [false, false, false, false, false])]) (zorc [(59, [some (2, some 0), some (0, none), some (0, none), some (0, none), some (0, none)], [], fun xs h => match xs with
  | [a1, a2, a3, a4] => M_runBarrier_59 kr r7 a1 a2 a3 a4 (zhd h)
  | _ => none)]) (fun v h => kr v (zhd h)) (fun _ _ => none) 400 50 [some (2, 0), some (0, a1), none, none, some (0, a4)] [(0, t0)] (zM s) := by rfl
set_option maxRecDepth 100000 in
theorem qe_M_runBarrier_45 {ρ : Type} (kr : Int → zD → Option ρ) (r7 : Int → Int → Int → Int → zD → Option ρ) (a1 a4 : Int) (s : zD) : M_runBarrier_45 kr r7 a1 a4 s = zseg zPP false zfinM (zcal []) (zget (999, 0, 0, 0) zc_M_runBarrier) (zcut [(7, [true, true, true, true, true]), (45, [true, true, false, false, true]), (49, [true, true, false, false, true]), (50, [true, true, false, false, true]), (59, [true, true, true, true, true]), (68, [true, true, true, true, true]), (110, [true, true, true, true, true]), (116, [false, false, true, true, false]), (137, [false, false, false, false, false])]) (zorc [(50, [some (2, some 0), some (0, none), none, none, some (0, none)], [(0, none)], fun xs h => match xs with
  | [a1, a4, t0] => M_runBarrier_50 kr r7 a1 a4 t0 (zhd h)
  | _ => none)]) (fun v h => kr v (zhd h)) (fun _ _ => none) 400 45 [some (2, 0), some (0, a1), none, none, some (0, a4)] [] (zM s) := by rfl
set_option maxRecDepth 100000 in
theorem qe_M_runBarrier_49 {ρ : Type} (kr : Int → zD → Option ρ) (r7 : Int → Int → Int → Int → zD → Option ρ) (a1 a4 : Int) (s : zD) : M_runBarrier_49 kr r7 a1 a4 s = zseg zPP false zfinM (zcal []) (zget (999, 0, 0, 0) zc_M_runBarrier) (zcut [(7, [true, true, true, true, true]), (45, [true, true, false, false, true]), (49, [true, true, false, false, true]), (50, [true, true, false, false, true]), (59, [true, true, true, true, true]), (68, [true, true, true, true, true]), (110, [true, true, true, true, true]), (116, [false, false, true, true, false]), (137, [false, false, false, false, false])]) (zorc [(50, [some (2, some 0), some (0, none), none, none, some (0, none)], [(0, none)], fun xs h => match xs with
  | [a1, a4, t0] => M_runBarrier_50 kr r7 a1 a4 t0 (zhd h)
  | _ => none)]) (fun v h => kr v (zhd h)) (fun _ _ => none) 400 49 [some (2, 0), some (0, a1), none, none, some (0, a4)] [] (zM s) := by rfl
set_option maxRecDepth 100000 in
theorem qe_M_runBarrier_110 {ρ : Type} (kr : Int → zD → Option ρ) (r68 : Int → Int → Int → Int → zD → Option ρ) (a1 a2 a3 a4 : Int) (s : zD) : M_runBarrier_110 kr r68 a1 a2 a3 a4 s = zseg zPP false zfinM (zcal []) (zget (999, 0, 0, 0) zc_M_runBarrier) (zcut [(7, [true, true, true, true, true]), (45, [true, true, false, false, true]), (49, [true, true, false, false, true]), (50, [true, true, false, false, true]), (59, [true, true, true, true, true]), (68, [true, true, true, true, true]), (110, [true, true, true, true, true]), (116, [false, false, true, true, false]), (137, [false, false, false, false, false])]) (zorc [(68, [some (2, some 0), some (0, none), some (0, none), some (0, none), some (0, none)], [], fun xs h => match xs with
  | [a1, a2, a3, a4] => r68 a1 a2 a3 a4 (zhd h)
  | _ => none)]) (fun v h => kr v (zhd h)) (fun _ _ => none) 400 110 [some (2, 0), some (0, a1), some (0, a2), some (0, a3), some (0, a4)] [] (zM s) := by rfl
set_option maxRecDepth 100000 in
theorem qe_M_runBarrier_137 {ρ : Type} (kr : Int → zD → Option ρ) (t0 : Int) (s : zD) : M_runBarrier_137 kr t0 s = zseg zPP false zfinM (zcal []) (zget (999, 0, 0, 0) zc_M_runBarrier) (zcut [(7, [true, true, true, true, true]), (45, [true, true, false, false, true]), (49, [true, true, false, false, true]), (50, [true, true, false, false, true]), (59, [true, true, true, true, true]), (68, [true, true, true, true, true]), (110, [true, true, true, true, true]), (116, [false, false, true, true, false]), (137, [false, false, false, false, false])]) (zorc []) (fun v h => kr v (zhd h)) (fun _ _ => none) 400 137 [none, none, none, none, none] [(0, t0)] (zM s) := by rfl
set_option maxRecDepth 100000 in
theorem qe_M_runBarrier_116 {ρ : Type} (kr : Int → zD → Option ρ) (a2 a3 : Int) (s : zD) : M_runBarrier_116 kr a2 a3 s = zseg zPP false zfinM (zcal []) (zget (999, 0, 0, 0) zc_M_runBarrier) (zcut [(7, [true, true, true, true, true]), (45, [true, true, false, false, true]), (49, [true, true, false, false, true]), (50, [true, true, false, false, true]), (59, [true, true, true, true, true]), (68, [true, true, true, true, true]), (110, [true, true, true, true, true]), (116, [false, false, true, true, false]), (137, [false, false, false, false, false])]) (zorc [(137, [none, none, none, none, none], [(0, none)], fun xs h => match xs with
  | [t0] => M_runBarrier_137 kr t0 (zhd h)
  | _ => none)]) (fun v h => kr v (zhd h)) (fun _ _ => none) 400 116 [none, none, some (0, a2), some (0, a3), none] [] (zM s) := by rfl
set_option maxRecDepth 100000 in
theorem qe_M_runBarrier_68b {ρ : Type} (kr : Int → zD → Option ρ) (r68 : Int → Int → Int → Int → zD → Option ρ) (a1 a2 a3 a4 : Int) (s : zD) : M_runBarrier_68b kr r68 a1 a2 a3 a4 s = zseg zPP false zfinM (zcal []) (zget (999, 0, 0, 0) zc_M_runBarrier) (zcut [(7, [true, true, true, true, true]), (45, [true, true, false, false, true]), (49, [true, true, false, false, true]), (50, [true, true, false, false, true]), (59, [true, true, true, true, true]), (68, [true, true, true, true, true]), (110, [true, true, true, true, true]), (116, [false, false, true, true, false]), (137, [false, false, false, false, false])]) (zorc [(110, [some (2, some 0), some (0, none), some (0, none), some (0, none), some (0, none)], [], fun xs h => match xs with
  | [a1, a2, a3, a4] => M_runBarrier_110 kr r68 a1 a2 a3 a4 (zhd h)
  | _ => none), (116, [none, none, some (0, none), some (0, none), none], [], fun xs h => match xs with
  | [a2, a3] => M_runBarrier_116 kr a2 a3 (zhd h)
  | _ => none)]) (fun v h => kr v (zhd h)) (fun _ _ => none) 400 68 [some (2, 0), some (0, a1), some (0, a2), some (0, a3), some (0, a4)] [] (zM s) := by rfl
set_option maxRecDepth 100000 in
theorem qe_M_runBarrier_7b {ρ : Type} (kr : Int → zD → Option ρ) (r7 : Int → Int → Int → Int → zD → Option ρ) (a1 a2 a3 a4 : Int) (s : zD) : M_runBarrier_7b kr r7 a1 a2 a3 a4 s = zseg zPP false zfinM (zcal []) (zget (999, 0, 0, 0) zc_M_runBarrier) (zcut [(7, [true, true, true, true, true]), (45, [true, true, false, false, true]), (49, [true, true, false, false, true]), (50, [true, true, false, false, true]), (59, [true, true, true, true, true]), (68, [true, true, true, true, true]), (110, [true, true, true, true, true]), (116, [false, false, true, true, false]), (137, [false, false, false, false, false])]) (zorc [(45, [some (2, some 0), some (0, none), none, none, some (0, none)], [], fun xs h => match xs with
  | [a1, a4] => M_runBarrier_45 kr r7 a1 a4 (zhd h)
  | _ => none), (49, [some (2, some 0), some (0, none), none, none, some (0, none)], [], fun xs h => match xs with
  | [a1, a4] => M_runBarrier_49 kr r7 a1 a4 (zhd h)
  | _ => none), (59, [some (2, some 0), some (0, none), some (0, none), some (0, none), some (0, none)], [], fun xs h => match xs with
  | [a1, a2, a3, a4] => M_runBarrier_59 kr r7 a1 a2 a3 a4 (zhd h)
  | _ => none), (68, [some (2, some 0), some (0, none), some (0, none), some (0, none), some (0, none)], [], fun xs h => match xs with
  | [a1, a2, a3, a4] => M_runBarrier_68 kr a1 a2 a3 a4 (zhd h)
  | _ => none)]) (fun v h => kr v (zhd h)) (fun _ _ => none) 400 7 [some (2, 0), some (0, a1), some (0, a2), some (0, a3), some (0, a4)] [] (zM s) := by rfl
set_option maxRecDepth 100000 in
theorem qe_M_runBarrier {ρ : Type} (kr : Int → zD → Option ρ) (a1 : Int) (s : zD) : M_runBarrier a1 s kr = zseg zPP false zfinM (zcal []) (zget (999, 0, 0, 0) zc_M_runBarrier) (zcut [(7, [true, true, true, true, true]), (45, [true, true, false, false, true]), (49, [true, true, false, false, true]), (50, [true, true, false, false, true]), (59, [true, true, true, true, true]), (68, [true, true, true, true, true]), (110, [true, true, true, true, true]), (116, [false, false, true, true, false]), (137, [false, false, false, false, false])]) (zorc [(7, [some (2, some 0), some (0, none), some (0, none), some (0, none), some (0, none)], [], fun xs h => match xs with
  | [a1, a2, a3, a4] => M_runBarrier_7 kr a1 a2 a3 a4 (zhd h)
  | _ => none)]) (fun v h => kr v (zhd h)) (fun _ _ => none) 400 0 [some (2, 0), some (0, a1), none, none, none] [] (zM s) := by rfl
def zc_M_runBlock : List zI := [(0, 0, 0, 0), (17, 0, 5, 0), (999, 0, 0, 0), (11, 0, 5, 0), (999, 0, 0, 0), (1, 16, 0, 0), (999, 0, 0, 0), (69, 72, 79, 0), (999, 0, 0, 0), (999, 0, 0, 0), (14, 0, 0, 0), (80, 12, 176, 71), (999, 0, 0, 0), (999, 0, 0, 0), (11, 0, 5, 0), (999, 0, 0, 0), (0, 0, 0, 0), (95, 0, 0, 0), (14, 0, 0, 0), (80, 12, 179, 72), (999, 0, 0, 0), (999, 0, 0, 0), (11, 0, 5, 0), (999, 0, 0, 0), (1, 114, 0, 0), (999, 0, 0, 0), (97, 0, 0, 0), (14, 0, 0, 0), (80, 12, 182, 73), (999, 0, 0, 0), (999, 0, 0, 0), (11, 0, 5, 0), (999, 0, 0, 0), (0, 0, 0, 0), (95, 0, 0, 0), (14, 0, 0, 0), (80, 12, 170, 69), (999, 0, 0, 0), (999, 0, 0, 0), (11, 0, 5, 0), (999, 0, 0, 0), (0, 0, 0, 0), (95, 0, 0, 0), (0, 0, 0, 0), (17, 0, 6, 0), (999, 0, 0, 0), (11, 0, 6, 0), (999, 0, 0, 0), (1, 8, 0, 0), (999, 0, 0, 0), (69, 23, 73, 0), (999, 0, 0, 0), (999, 0, 0, 0), (14, 0, 0, 0), (80, 12, 173, 70), (999, 0, 0, 0), (999, 0, 0, 0), (1, 8, 0, 0), (999, 0, 0, 0), (11, 0, 5, 0), (999, 0, 0, 0), (32, 0, 0, 0), (11, 0, 6, 0), (999, 0, 0, 0), (30, 0, 0, 0), (0, 0, 0, 0), (95, 0, 0, 0), (22, 1, 6, 0), (999, 0, 0, 0), (999, 0, 0, 0), (72, (-24), 46, 0), (999, 0, 0, 0), (999, 0, 0, 0), (22, 1, 5, 0), (999, 0, 0, 0), (999, 0, 0, 0), (72, (-73), 3, 0), (999, 0, 0, 0), (999, 0, 0, 0), (1, 112, 0, 0), (999, 0, 0, 0), (17, 0, 5, 0), (999, 0, 0, 0), (11, 0, 5, 0), (999, 0, 0, 0), (1, 112, 0, 0), (999, 0, 0, 0), (67, 59, 146, 0), (999, 0, 0, 0), (999, 0, 0, 0), (0, 0, 0, 0), (17, 0, 6, 0), (999, 0, 0, 0), (11, 0, 6, 0), (999, 0, 0, 0), (10, 0, 3, 0), (69, 40, 136, 0), (999, 0, 0, 0), (999, 0, 0, 0), (11, 0, 4, 0), (999, 0, 0, 0), (60, 12, 113, 0), (999, 0, 0, 0), (999, 0, 0, 0), (10, 0, 3, 0), (0, 1, 0, 0), (31, 0, 0, 0), (11, 0, 6, 0), (999, 0, 0, 0), (31, 0, 0, 0), (72, 5, 115, 0), (999, 0, 0, 0), (999, 0, 0, 0), (11, 0, 6, 0), (999, 0, 0, 0), (17, 0, 7, 0), (999, 0, 0, 0), (14, 0, 0, 0), (10, 0, 1, 0), (10, 0, 2, 0), (11, 0, 7, 0), (999, 0, 0, 0), (110, 0, 456, 150), (999, 0, 0, 0), (999, 0, 0, 0), (61, 5, 130, 0), (999, 0, 0, 0), (999, 0, 0, 0), (0, 0, 0, 0), (130, 0, 1, 0), (22, 1, 6, 0), (999, 0, 0, 0), (999, 0, 0, 0), (72, (-40), 93, 0), (999, 0, 0, 0), (999, 0, 0, 0), (14, 0, 0, 0), (10, 0, 3, 0), (110, 0, 459, 151), (999, 0, 0, 0), (999, 0, 0, 0), (17, 0, 5, 0), (999, 0, 0, 0), (72, (-60), 83, 0), (999, 0, 0, 0), (999, 0, 0, 0), (11, 0, 5, 0), (999, 0, 0, 0), (1, 101, 0, 0), (999, 0, 0, 0), (67, 7, 157, 0), (999, 0, 0, 0), (999, 0, 0, 0), (0, 1, 0, 0), (72, 4, 158, 0), (999, 0, 0, 0), (999, 0, 0, 0), (0, 0, 0, 0), (130, 0, 1, 0)]
def M_runBlock_46b {ρ : Type} (kr : Int → zD → Option ρ) (r3 : Int → Int → Int → Int → Int → zD → Option ρ) (r46 : Int → Int → Int → Int → Int → Int → zD → Option ρ) (a1 a2 a3 a4 a5 a6 : Int) (s : zD) : Option ρ :=
if a6 < 8 then (zix 128 (wr ((wr (8 * a5)) + a6)) fun j1 =>
zlet (zup s 53 j1 0) fun s2 =>
r46 a1 a2 a3 a4 a5 (wr (a6 + 1)) s2)
else r3 a1 a2 a3 a4 (wr (a5 + 1)) s
def M_runBlock_46 {ρ : Type} (kr : Int → zD → Option ρ) (r3 : Int → Int → Int → Int → Int → zD → Option ρ) : Int → Int → Int → Int → Int → Int → zD → Option ρ := zit (fun _ _ _ _ _ _ _ => none) (M_runBlock_46b kr r3) zN
def M_runBlock_115 {ρ : Type} (kr : Int → zD → Option ρ) (r83 : Int → Int → Int → Int → Int → zD → Option ρ) (r93 : Int → Int → Int → Int → Int → zD → Option ρ) (a1 a2 a3 a4 a6 t0 : Int) (s : zD) : Option ρ :=
M_runThread a1 a2 t0 s  fun v1 s2 =>
if v1 = 0 then kr 0 s2
else r93 a1 a2 a3 a4 (wr (a6 + 1)) s2
def M_runBlock_93b {ρ : Type} (kr : Int → zD → Option ρ) (r83 : Int → Int → Int → Int → Int → zD → Option ρ) (r93 : Int → Int → Int → Int → Int → zD → Option ρ) (a1 a2 a3 a4 a6 : Int) (s : zD) : Option ρ :=
if a6 < a3 then (if a4 = 0 then M_runBlock_115 kr r83 r93 a1 a2 a3 a4 a6 a6 s
else M_runBlock_115 kr r83 r93 a1 a2 a3 a4 a6 (wr ((wr (a3 - 1)) - a6)) s)
else M_runBarrier a3 s  fun v1 s2 =>
r83 a1 a2 a3 a4 v1 s2
def M_runBlock_93 {ρ : Type} (kr : Int → zD → Option ρ) (r83 : Int → Int → Int → Int → Int → zD → Option ρ) : Int → Int → Int → Int → Int → zD → Option ρ := zit (fun _ _ _ _ _ _ => none) (M_runBlock_93b kr r83) zN
def M_runBlock_158 {ρ : Type} (kr : Int → zD → Option ρ) (t0 : Int) (s : zD) : Option ρ :=
znar 1 t0 fun x1 => kr x1 s
def M_runBlock_83b {ρ : Type} (kr : Int → zD → Option ρ) (r83 : Int → Int → Int → Int → Int → zD → Option ρ) (a1 a2 a3 a4 a5 : Int) (s : zD) : Option ρ :=
if a5 = 112 then M_runBlock_93 kr r83 a1 a2 a3 a4 0 s
else if a5 = 101 then M_runBlock_158 kr 1 s
else M_runBlock_158 kr 0 s
def M_runBlock_83 {ρ : Type} (kr : Int → zD → Option ρ) : Int → Int → Int → Int → Int → zD → Option ρ := zit (fun _ _ _ _ _ _ => none) (M_runBlock_83b kr) zN
def M_runBlock_3b {ρ : Type} (kr : Int → zD → Option ρ) (r3 : Int → Int → Int → Int → Int → zD → Option ρ) (a1 a2 a3 a4 a5 : Int) (s : zD) : Option ρ :=
if a5 < 16 then (zix 16 a5 fun j1 =>
zlet (zup s 54 j1 0) fun s2 =>
zix 16 a5 fun j3 =>
zlet (zup s2 55 j3 114) fun s4 =>
zix 16 a5 fun j5 =>
zlet (zup s4 56 j5 0) fun s6 =>
zix 16 a5 fun j7 =>
zlet (zup s6 52 j7 0) fun s8 =>
M_runBlock_46 kr r3 a1 a2 a3 a4 a5 0 s8)
else M_runBlock_83 kr a1 a2 a3 a4 112 s
def M_runBlock_3 {ρ : Type} (kr : Int → zD → Option ρ) : Int → Int → Int → Int → Int → zD → Option ρ := zit (fun _ _ _ _ _ _ => none) (M_runBlock_3b kr) zN
def M_runBlock {ρ : Type} (a1 a2 a3 a4 : Int) (s : zD) (kr : Int → zD → Option ρ) : Option ρ :=
M_runBlock_3 kr a1 a2 a3 a4 0 s
set_option maxRecDepth 100000 in
theorem qe_M_runBlock_46b {ρ : Type} (kr : Int → zD → Option ρ) (r3 : Int → Int → Int → Int → Int → zD → Option ρ) (r46 : Int → Int → Int → Int → Int → Int → zD → Option ρ) (a1 a2 a3 a4 a5 a6 : Int) (s : zD) : M_runBlock_46b kr r3 r46 a1 a2 a3 a4 a5 a6 s = zseg zPP false zfinM (zcal []) (zget (999, 0, 0, 0) zc_M_runBlock) (zcut [(3, [true, true, true, true, true, true, false, false]), (46, [true, true, true, true, true, true, true, false]), (83, [true, true, true, true, true, true, false, false]), (93, [true, true, true, true, true, false, true, false]), (115, [true, true, true, true, true, false, true, false]), (158, [false, false, false, false, false, false, false, false])]) (zorc [(3, [some (2, some 0), some (0, none), some (0, none), some (0, none), some (0, none), some (0, none), none, none], [], fun xs h => match xs with
  | [a1, a2, a3, a4, a5] => r3 a1 a2 a3 a4 a5 (zhd h)
  | _ => none), (46, [some (2, some 0), some (0, none), some (0, none), some (0, none), some (0, none), some (0, none), some (0, none), none], [], fun xs h => match xs with
  | [a1, a2, a3, a4, a5, a6] => r46 a1 a2 a3 a4 a5 a6 (zhd h)
  | _ => none)]) (fun v h => kr v (zhd h)) (fun _ _ => none) 400 46 [some (2, 0), some (0, a1), some (0, a2), some (0, a3), some (0, a4), some (0, a5), some (0, a6), none] [] (zM s) := by rfl
set_option maxRecDepth 100000 in
theorem qe_M_runBlock_115 {ρ : Type} (kr : Int → zD → Option ρ) (r83 : Int → Int → Int → Int → Int → zD → Option ρ) (r93 : Int → Int → Int → Int → Int → zD → Option ρ) (a1 a2 a3 a4 a6 t0 : Int) (s : zD) : M_runBlock_115 kr r83 r93 a1 a2 a3 a4 a6 t0 s = zseg zPP false zfinM (zcal [(150, [some 0, none, none, none], fun xs h kr kt => match xs with
  | [x0, x1, x2] => M_runThread x0 x1 x2 (zhd h) (fun v s => kr v (zM s))
  | _ => none)]) (zget (999, 0, 0, 0) zc_M_runBlock) (zcut [(3, [true, true, true, true, true, true, false, false]), (46, [true, true, true, true, true, true, true, false]), (83, [true, true, true, true, true, true, false, false]), (93, [true, true, true, true, true, false, true, false]), (115, [true, true, true, true, true, false, true, false]), (158, [false, false, false, false, false, false, false, false])]) (zorc [(93, [some (2, some 0), some (0, none), some (0, none), some (0, none), some (0, none), none, some (0, none), none], [], fun xs h => match xs with
  | [a1, a2, a3, a4, a6] => r93 a1 a2 a3 a4 a6 (zhd h)
  | _ => none)]) (fun v h => kr v (zhd h)) (fun _ _ => none) 400 115 [some (2, 0), some (0, a1), some (0, a2), some (0, a3), some (0, a4), none, some (0, a6), none] [(0, t0)] (zM s) := by rfl
set_option maxRecDepth 100000 in
theorem qe_M_runBlock_93b {ρ : Type} (kr : Int → zD → Option ρ) (r83 : Int → Int → Int → Int → Int → zD → Option ρ) (r93 : Int → Int → Int → Int → Int → zD → Option ρ) (a1 a2 a3 a4 a6 : Int) (s : zD) : M_runBlock_93b kr r83 r93 a1 a2 a3 a4 a6 s = zseg zPP false zfinM (zcal [(151, [some 0, none], fun xs h kr kt => match xs with
  | [x0] => M_runBarrier x0 (zhd h) (fun v s => kr v (zM s))
  | _ => none)]) (zget (999, 0, 0, 0) zc_M_runBlock) (zcut [(3, [true, true, true, true, true, true, false, false]), (46, [true, true, true, true, true, true, true, false]), (83, [true, true, true, true, true, true, false, false]), (93, [true, true, true, true, true, false, true, false]), (115, [true, true, true, true, true, false, true, false]), (158, [false, false, false, false, false, false, false, false])]) (zorc [(83, [some (2, some 0), some (0, none), some (0, none), some (0, none), some (0, none), some (0, none), none, none], [], fun xs h => match xs with
  | [a1, a2, a3, a4, a5] => r83 a1 a2 a3 a4 a5 (zhd h)
  | _ => none), (115, [some (2, some 0), some (0, none), some (0, none), some (0, none), some (0, none), none, some (0, none), none], [(0, none)], fun xs h => match xs with
  | [a1, a2, a3, a4, a6, t0] => M_runBlock_115 kr r83 r93 a1 a2 a3 a4 a6 t0 (zhd h)
  | _ => none)]) (fun v h => kr v (zhd h)) (fun _ _ => none) 400 93 [some (2, 0), some (0, a1), some (0, a2), some (0, a3), some (0, a4), none, some (0, a6), none] [] (zM s) := by rfl
set_option maxRecDepth 100000 in
theorem qe_M_runBlock_158 {ρ : Type} (kr : Int → zD → Option ρ) (t0 : Int) (s : zD) : M_runBlock_158 kr t0 s = zseg zPP false zfinM (zcal []) (zget (999, 0, 0, 0) zc_M_runBlock) (zcut [(3, [true, true, true, true, true, true, false, false]), (46, [true, true, true, true, true, true, true, false]), (83, [true, true, true, true, true, true, false, false]), (93, [true, true, true, true, true, false, true, false]), (115, [true, true, true, true, true, false, true, false]), (158, [false, false, false, false, false, false, false, false])]) (zorc []) (fun v h => kr v (zhd h)) (fun _ _ => none) 400 158 [none, none, none, none, none, none, none, none] [(0, t0)] (zM s) := by rfl
set_option maxRecDepth 100000 in
theorem qe_M_runBlock_83b {ρ : Type} (kr : Int → zD → Option ρ) (r83 : Int → Int → Int → Int → Int → zD → Option ρ) (a1 a2 a3 a4 a5 : Int) (s : zD) : M_runBlock_83b kr r83 a1 a2 a3 a4 a5 s = zseg zPP false zfinM (zcal []) (zget (999, 0, 0, 0) zc_M_runBlock) (zcut [(3, [true, true, true, true, true, true, false, false]), (46, [true, true, true, true, true, true, true, false]), (83, [true, true, true, true, true, true, false, false]), (93, [true, true, true, true, true, false, true, false]), (115, [true, true, true, true, true, false, true, false]), (158, [false, false, false, false, false, false, false, false])]) (zorc [(93, [some (2, some 0), some (0, none), some (0, none), some (0, none), some (0, none), none, some (0, none), none], [], fun xs h => match xs with
  | [a1, a2, a3, a4, a6] => M_runBlock_93 kr r83 a1 a2 a3 a4 a6 (zhd h)
  | _ => none), (158, [none, none, none, none, none, none, none, none], [(0, none)], fun xs h => match xs with
  | [t0] => M_runBlock_158 kr t0 (zhd h)
  | _ => none)]) (fun v h => kr v (zhd h)) (fun _ _ => none) 400 83 [some (2, 0), some (0, a1), some (0, a2), some (0, a3), some (0, a4), some (0, a5), none, none] [] (zM s) := by rfl
set_option maxRecDepth 100000 in
theorem qe_M_runBlock_3b {ρ : Type} (kr : Int → zD → Option ρ) (r3 : Int → Int → Int → Int → Int → zD → Option ρ) (a1 a2 a3 a4 a5 : Int) (s : zD) : M_runBlock_3b kr r3 a1 a2 a3 a4 a5 s = zseg zPP false zfinM (zcal []) (zget (999, 0, 0, 0) zc_M_runBlock) (zcut [(3, [true, true, true, true, true, true, false, false]), (46, [true, true, true, true, true, true, true, false]), (83, [true, true, true, true, true, true, false, false]), (93, [true, true, true, true, true, false, true, false]), (115, [true, true, true, true, true, false, true, false]), (158, [false, false, false, false, false, false, false, false])]) (zorc [(46, [some (2, some 0), some (0, none), some (0, none), some (0, none), some (0, none), some (0, none), some (0, none), none], [], fun xs h => match xs with
  | [a1, a2, a3, a4, a5, a6] => M_runBlock_46 kr r3 a1 a2 a3 a4 a5 a6 (zhd h)
  | _ => none), (83, [some (2, some 0), some (0, none), some (0, none), some (0, none), some (0, none), some (0, none), none, none], [], fun xs h => match xs with
  | [a1, a2, a3, a4, a5] => M_runBlock_83 kr a1 a2 a3 a4 a5 (zhd h)
  | _ => none)]) (fun v h => kr v (zhd h)) (fun _ _ => none) 400 3 [some (2, 0), some (0, a1), some (0, a2), some (0, a3), some (0, a4), some (0, a5), none, none] [] (zM s) := by rfl
set_option maxRecDepth 100000 in
theorem qe_M_runBlock {ρ : Type} (kr : Int → zD → Option ρ) (a1 a2 a3 a4 : Int) (s : zD) : M_runBlock a1 a2 a3 a4 s kr = zseg zPP false zfinM (zcal []) (zget (999, 0, 0, 0) zc_M_runBlock) (zcut [(3, [true, true, true, true, true, true, false, false]), (46, [true, true, true, true, true, true, true, false]), (83, [true, true, true, true, true, true, false, false]), (93, [true, true, true, true, true, false, true, false]), (115, [true, true, true, true, true, false, true, false]), (158, [false, false, false, false, false, false, false, false])]) (zorc [(3, [some (2, some 0), some (0, none), some (0, none), some (0, none), some (0, none), some (0, none), none, none], [], fun xs h => match xs with
  | [a1, a2, a3, a4, a5] => M_runBlock_3 kr a1 a2 a3 a4 a5 (zhd h)
  | _ => none)]) (fun v h => kr v (zhd h)) (fun _ _ => none) 400 0 [some (2, 0), some (0, a1), some (0, a2), some (0, a3), some (0, a4), none, none, none] [] (zM s) := by rfl
def zc_M_serial : List zI := [(14, 0, 0, 0), (0, 0, 0, 0), (82, 12, 185, 0), (999, 0, 0, 0), (999, 0, 0, 0), (14, 0, 0, 0), (14, 0, 0, 0), (10, 0, 1, 0), (110, 0, 203, 59), (999, 0, 0, 0), (999, 0, 0, 0), (61, 11, 22, 0), (999, 0, 0, 0), (999, 0, 0, 0), (11, 0, 5, 0), (999, 0, 0, 0), (113, 0, 222, 61), (999, 0, 0, 0), (999, 0, 0, 0), (60, 7, 26, 0), (999, 0, 0, 0), (999, 0, 0, 0), (0, 1, 0, 0), (72, 4, 27, 0), (999, 0, 0, 0), (999, 0, 0, 0), (0, 0, 0, 0), (0, 1, 0, 0), (110, 0, 199, 58), (999, 0, 0, 0), (999, 0, 0, 0), (61, 36, 67, 0), (999, 0, 0, 0), (999, 0, 0, 0), (14, 0, 0, 0), (10, 0, 2, 0), (0, 1, 0, 0), (1, 6, 0, 0), (999, 0, 0, 0), (113, 0, 192, 57), (999, 0, 0, 0), (999, 0, 0, 0), (60, 13, 55, 0), (999, 0, 0, 0), (999, 0, 0, 0), (10, 0, 3, 0), (0, 1, 0, 0), (1, 16, 0, 0), (999, 0, 0, 0), (113, 0, 192, 57), (999, 0, 0, 0), (999, 0, 0, 0), (61, 7, 59, 0), (999, 0, 0, 0), (999, 0, 0, 0), (0, 1, 0, 0), (72, 4, 60, 0), (999, 0, 0, 0), (999, 0, 0, 0), (0, 0, 0, 0), (0, 2, 0, 0), (110, 0, 199, 58), (999, 0, 0, 0), (999, 0, 0, 0), (60, 5, 69, 0), (999, 0, 0, 0), (999, 0, 0, 0), (0, 0, 0, 0), (130, 0, 0, 0), (0, 0, 0, 0), (17, 0, 6, 0), (999, 0, 0, 0), (1, 40, 0, 0), (999, 0, 0, 0), (10, 0, 1, 0), (32, 0, 0, 0), (17, 0, 7, 0), (999, 0, 0, 0), (11, 0, 7, 0), (999, 0, 0, 0), (1, 40, 0, 0), (999, 0, 0, 0), (10, 0, 1, 0), (32, 0, 0, 0), (14, 0, 0, 0), (80, 12, 23, 7), (999, 0, 0, 0), (999, 0, 0, 0), (10, 0, 1, 0), (90, 0, 0, 0), (30, 0, 0, 0), (69, 57, 148, 0), (999, 0, 0, 0), (999, 0, 0, 0), (11, 0, 6, 0), (999, 0, 0, 0), (61, 39, 135, 0), (999, 0, 0, 0), (999, 0, 0, 0), (14, 0, 0, 0), (80, 12, 30, 9), (999, 0, 0, 0), (999, 0, 0, 0), (11, 0, 7, 0), (999, 0, 0, 0), (92, 0, 0, 0), (1, 118, 0, 0), (999, 0, 0, 0), (66, 27, 135, 0), (999, 0, 0, 0), (999, 0, 0, 0), (14, 0, 0, 0), (80, 12, 30, 9), (999, 0, 0, 0), (999, 0, 0, 0), (11, 0, 7, 0), (999, 0, 0, 0), (92, 0, 0, 0), (1, 115, 0, 0), (999, 0, 0, 0), (66, 15, 135, 0), (999, 0, 0, 0), (999, 0, 0, 0), (14, 0, 0, 0), (80, 12, 30, 9), (999, 0, 0, 0), (999, 0, 0, 0), (11, 0, 7, 0), (999, 0, 0, 0), (92, 0, 0, 0), (1, 99, 0, 0), (999, 0, 0, 0), (67, 7, 139, 0), (999, 0, 0, 0), (999, 0, 0, 0), (0, 1, 0, 0), (72, 4, 140, 0), (999, 0, 0, 0), (999, 0, 0, 0), (0, 0, 0, 0), (17, 0, 6, 0), (999, 0, 0, 0), (22, 1, 7, 0), (999, 0, 0, 0), (999, 0, 0, 0), (72, (-67), 78, 0), (999, 0, 0, 0), (999, 0, 0, 0), (14, 0, 0, 0), (11, 0, 6, 0), (999, 0, 0, 0), (0, 3, 0, 0), (110, 0, 199, 58), (999, 0, 0, 0), (999, 0, 0, 0), (60, 5, 160, 0), (999, 0, 0, 0), (999, 0, 0, 0), (0, 0, 0, 0), (130, 0, 0, 0), (0, 0, 0, 0), (17, 0, 7, 0), (999, 0, 0, 0), (11, 0, 7, 0), (999, 0, 0, 0), (1, 64, 0, 0), (999, 0, 0, 0), (69, 23, 190, 0), (999, 0, 0, 0), (999, 0, 0, 0), (14, 0, 0, 0), (80, 12, 167, 68), (999, 0, 0, 0), (999, 0, 0, 0), (11, 0, 7, 0), (999, 0, 0, 0), (14, 0, 0, 0), (80, 12, 13, 3), (999, 0, 0, 0), (999, 0, 0, 0), (11, 0, 7, 0), (999, 0, 0, 0), (90, 0, 0, 0), (95, 0, 0, 0), (22, 1, 7, 0), (999, 0, 0, 0), (999, 0, 0, 0), (72, (-24), 163, 0), (999, 0, 0, 0), (999, 0, 0, 0), (0, 1, 0, 0), (17, 0, 7, 0), (999, 0, 0, 0), (0, 0, 0, 0), (17, 0, 8, 0), (999, 0, 0, 0), (11, 0, 8, 0), (999, 0, 0, 0), (10, 0, 2, 0), (69, 40, 239, 0), (999, 0, 0, 0), (999, 0, 0, 0), (11, 0, 7, 0), (999, 0, 0, 0), (60, 35, 239, 0), (999, 0, 0, 0), (999, 0, 0, 0), (14, 0, 0, 0), (10, 0, 1, 0), (11, 0, 4, 0), (999, 0, 0, 0), (60, 12, 223, 0), (999, 0, 0, 0), (999, 0, 0, 0), (10, 0, 2, 0), (0, 1, 0, 0), (31, 0, 0, 0), (11, 0, 8, 0), (999, 0, 0, 0), (31, 0, 0, 0), (72, 5, 225, 0), (999, 0, 0, 0), (999, 0, 0, 0), (11, 0, 8, 0), (999, 0, 0, 0), (10, 0, 3, 0), (11, 0, 4, 0), (999, 0, 0, 0), (110, 0, 463, 152), (999, 0, 0, 0), (999, 0, 0, 0), (17, 0, 7, 0), (999, 0, 0, 0), (22, 1, 8, 0), (999, 0, 0, 0), (999, 0, 0, 0), (72, (-40), 196, 0), (999, 0, 0, 0), (999, 0, 0, 0), (14, 0, 0, 0), (11, 0, 7, 0), (999, 0, 0, 0), (61, 7, 249, 0), (999, 0, 0, 0), (999, 0, 0, 0), (0, 1, 0, 0), (72, 4, 250, 0), (999, 0, 0, 0), (999, 0, 0, 0), (0, 0, 0, 0), (0, 4, 0, 0), (110, 0, 199, 58), (999, 0, 0, 0), (999, 0, 0, 0), (60, 7, 261, 0), (999, 0, 0, 0), (999, 0, 0, 0), (0, 0, 0, 0), (72, 10, 268, 0), (999, 0, 0, 0), (999, 0, 0, 0), (14, 0, 0, 0), (80, 12, 167, 68), (999, 0, 0, 0), (999, 0, 0, 0), (11, 0, 5, 0), (999, 0, 0, 0), (90, 0, 0, 0), (130, 0, 0, 0)]
def M_serial_67 {ρ : Type} (kr : Int → zD → Option ρ) (s : zD) : Option ρ :=
kr 0 s
def M_serial_140 {ρ : Type} (kr : Int → zD → Option ρ) (r78 : Int → Int → Int → Int → Int → Int → Int → zD → Option ρ) (a1 a2 a3 a4 a5 a7 t0 : Int) (s : zD) : Option ρ :=
r78 a1 a2 a3 a4 a5 t0 (wr (a7 + 1)) s
def M_serial_135 {ρ : Type} (kr : Int → zD → Option ρ) (r78 : Int → Int → Int → Int → Int → Int → Int → zD → Option ρ) (a1 a2 a3 a4 a5 a7 : Int) (s : zD) : Option ρ :=
M_serial_140 kr r78 a1 a2 a3 a4 a5 a7 1 s
def M_serial_225 {ρ : Type} (kr : Int → zD → Option ρ) (r196 : Int → Int → Int → Int → Int → Int → Int → zD → Option ρ) (a1 a2 a3 a4 a5 a8 t0 t1 : Int) (s : zD) : Option ρ :=
M_runBlock t1 t0 a3 a4 s  fun v1 s2 =>
r196 a1 a2 a3 a4 a5 v1 (wr (a8 + 1)) s2
def M_serial_268 {ρ : Type} (kr : Int → zD → Option ρ) (t0 : Int) (s : zD) : Option ρ :=
kr t0 s
def M_serial_250 {ρ : Type} (kr : Int → zD → Option ρ) (a5 t0 : Int) (s : zD) : Option ρ :=
M_fails t0 4 s  fun v1 s2 =>
if v1 = 0 then (zix 64 a5 fun j3 =>
M_serial_268 kr (s2 51 j3) s2)
else M_serial_268 kr 0 s2
def M_serial_239 {ρ : Type} (kr : Int → zD → Option ρ) (a5 a7 : Int) (s : zD) : Option ρ :=
if a7 = 0 then M_serial_250 kr a5 1 s
else M_serial_250 kr a5 0 s
def M_serial_196b {ρ : Type} (kr : Int → zD → Option ρ) (r196 : Int → Int → Int → Int → Int → Int → Int → zD → Option ρ) (a1 a2 a3 a4 a5 a7 a8 : Int) (s : zD) : Option ρ :=
if a8 < a2 then (if a7 = 0 then M_serial_239 kr a5 a7 s
else if a4 = 0 then M_serial_225 kr r196 a1 a2 a3 a4 a5 a8 a8 a1 s
else M_serial_225 kr r196 a1 a2 a3 a4 a5 a8 (wr ((wr (a2 - 1)) - a8)) a1 s)
else M_serial_239 kr a5 a7 s
def M_serial_196 {ρ : Type} (kr : Int → zD → Option ρ) : Int → Int → Int → Int → Int → Int → Int → zD → Option ρ := zit (fun _ _ _ _ _ _ _ _ => none) (M_serial_196b kr) zN
def M_serial_163b {ρ : Type} (kr : Int → zD → Option ρ) (r163 : Int → Int → Int → Int → Int → Int → zD → Option ρ) (a1 a2 a3 a4 a5 a7 : Int) (s : zD) : Option ρ :=
if a7 < 64 then (zix 64 a7 fun j1 =>
zix 64 a7 fun j2 =>
zlet (zup s 51 j2 (s 1 j1)) fun s3 =>
r163 a1 a2 a3 a4 a5 (wr (a7 + 1)) s3)
else M_serial_196 kr a1 a2 a3 a4 a5 1 0 s
def M_serial_163 {ρ : Type} (kr : Int → zD → Option ρ) : Int → Int → Int → Int → Int → Int → zD → Option ρ := zit (fun _ _ _ _ _ _ _ => none) (M_serial_163b kr) zN
def M_serial_78b {ρ : Type} (kr : Int → zD → Option ρ) (r78 : Int → Int → Int → Int → Int → Int → Int → zD → Option ρ) (a1 a2 a3 a4 a5 a6 a7 : Int) (s : zD) : Option ρ :=
zix 4 a1 fun j1 =>
if a7 < (wr ((wr (40 * a1)) + (s 4 j1))) then (if a6 = 0 then (zix 160 a7 fun j4 =>
if (s 6 j4) = 118 then M_serial_135 kr r78 a1 a2 a3 a4 a5 a7 s
else zix 160 a7 fun j5 =>
if (s 6 j5) = 115 then M_serial_135 kr r78 a1 a2 a3 a4 a5 a7 s
else zix 160 a7 fun j6 =>
if (s 6 j6) = 99 then M_serial_135 kr r78 a1 a2 a3 a4 a5 a7 s
else M_serial_140 kr r78 a1 a2 a3 a4 a5 a7 0 s)
else M_serial_135 kr r78 a1 a2 a3 a4 a5 a7 s)
else M_fails a6 3 s  fun v2 s3 =>
if v2 = 0 then M_serial_163 kr a1 a2 a3 a4 a5 0 s3
else kr 0 s3
def M_serial_78 {ρ : Type} (kr : Int → zD → Option ρ) : Int → Int → Int → Int → Int → Int → Int → zD → Option ρ := zit (fun _ _ _ _ _ _ _ _ => none) (M_serial_78b kr) zN
def M_serial_60 {ρ : Type} (kr : Int → zD → Option ρ) (a1 a2 a3 a4 a5 t0 : Int) (s : zD) : Option ρ :=
M_fails t0 2 s  fun v1 s2 =>
if v1 = 0 then M_serial_78 kr a1 a2 a3 a4 a5 0 (wr (40 * a1)) s2
else M_serial_67 kr s2
def M_serial_55 {ρ : Type} (kr : Int → zD → Option ρ) (a1 a2 a3 a4 a5 : Int) (s : zD) : Option ρ :=
M_serial_60 kr a1 a2 a3 a4 a5 1 s
def M_serial_27 {ρ : Type} (kr : Int → zD → Option ρ) (a1 a2 a3 a4 a5 t0 : Int) (s : zD) : Option ρ :=
M_fails t0 1 s  fun v1 s2 =>
if v1 = 0 then (M_in a2 1 6 s2  fun v3 s4 =>
if v3 = 0 then M_serial_55 kr a1 a2 a3 a4 a5 s4
else M_in a3 1 16 s4  fun v5 s6 =>
if v5 = 0 then M_serial_55 kr a1 a2 a3 a4 a5 s6
else M_serial_60 kr a1 a2 a3 a4 a5 0 s6)
else M_serial_67 kr s2
def M_serial_22 {ρ : Type} (kr : Int → zD → Option ρ) (a1 a2 a3 a4 a5 : Int) (s : zD) : Option ρ :=
M_serial_27 kr a1 a2 a3 a4 a5 1 s
def M_serial {ρ : Type} (a1 a2 a3 a4 a5 : Int) (s : zD) (kr : Int → zD → Option ρ) : Option ρ :=
zlet (zup s 0 0 0) fun s1 =>
M_noKernel a1 s1  fun v2 s3 =>
if v2 = 0 then (M_noCell a5 s3  fun v4 s5 =>
if v4 = 0 then M_serial_27 kr a1 a2 a3 a4 a5 0 s5
else M_serial_22 kr a1 a2 a3 a4 a5 s5)
else M_serial_22 kr a1 a2 a3 a4 a5 s3
set_option maxRecDepth 100000 in
theorem qe_M_serial_67 {ρ : Type} (kr : Int → zD → Option ρ) (s : zD) : M_serial_67 kr s = zseg zPP false zfinM (zcal []) (zget (999, 0, 0, 0) zc_M_serial) (zcut [(22, [true, true, true, true, true, true, false, false, false]), (27, [true, true, true, true, true, true, false, false, false]), (55, [true, true, true, true, true, true, false, false, false]), (60, [true, true, true, true, true, true, false, false, false]), (67, [false, false, false, false, false, false, false, false, false]), (78, [true, true, true, true, true, true, true, true, false]), (135, [true, true, true, true, true, true, false, true, false]), (140, [true, true, true, true, true, true, false, true, false]), (163, [true, true, true, true, true, true, false, true, false]), (196, [true, true, true, true, true, true, false, true, true]), (225, [true, true, true, true, true, true, false, false, true]), (239, [true, false, false, false, false, true, false, true, false]), (250, [true, false, false, false, false, true, false, false, false]), (268, [false, false, false, false, false, false, false, false, false])]) (zorc []) (fun v h => kr v (zhd h)) (fun _ _ => none) 400 67 [none, none, none, none, none, none, none, none, none] [] (zM s) := by rfl
set_option maxRecDepth 100000 in
theorem qe_M_serial_140 {ρ : Type} (kr : Int → zD → Option ρ) (r78 : Int → Int → Int → Int → Int → Int → Int → zD → Option ρ) (a1 a2 a3 a4 a5 a7 t0 : Int) (s : zD) : M_serial_140 kr r78 a1 a2 a3 a4 a5 a7 t0 s = zseg zPP false zfinM (zcal []) (zget (999, 0, 0, 0) zc_M_serial) (zcut [(22, [true, true, true, true, true, true, false, false, false]), (27, [true, true, true, true, true, true, false, false, false]), (55, [true, true, true, true, true, true, false, false, false]), (60, [true, true, true, true, true, true, false, false, false]), (67, [false, false, false, false, false, false, false, false, false]), (78, [true, true, true, true, true, true, true, true, false]), (135, [true, true, true, true, true, true, false, true, false]), (140, [true, true, true, true, true, true, false, true, false]), (163, [true, true, true, true, true, true, false, true, false]), (196, [true, true, true, true, true, true, false, true, true]), (225, [true, true, true, true, true, true, false, false, true]), (239, [true, false, false, false, false, true, false, true, false]), (250, [true, false, false, false, false, true, false, false, false]), (268, [false, false, false, false, false, false, false, false, false])]) (zorc [(78, [some (2, some 0), some (0, none), some (0, none), some (0, none), some (0, none), some (0, none), some (0, none), some (0, none), none], [], fun xs h => match xs with
  | [a1, a2, a3, a4, a5, a6, a7] => r78 a1 a2 a3 a4 a5 a6 a7 (zhd h)
  | _ => none)]) (fun v h => kr v (zhd h)) (fun _ _ => none) 400 140 [some (2, 0), some (0, a1), some (0, a2), some (0, a3), some (0, a4), some (0, a5), none, some (0, a7), none] [(0, t0)] (zM s) := by rfl
set_option maxRecDepth 100000 in
theorem qe_M_serial_135 {ρ : Type} (kr : Int → zD → Option ρ) (r78 : Int → Int → Int → Int → Int → Int → Int → zD → Option ρ) (a1 a2 a3 a4 a5 a7 : Int) (s : zD) : M_serial_135 kr r78 a1 a2 a3 a4 a5 a7 s = zseg zPP false zfinM (zcal []) (zget (999, 0, 0, 0) zc_M_serial) (zcut [(22, [true, true, true, true, true, true, false, false, false]), (27, [true, true, true, true, true, true, false, false, false]), (55, [true, true, true, true, true, true, false, false, false]), (60, [true, true, true, true, true, true, false, false, false]), (67, [false, false, false, false, false, false, false, false, false]), (78, [true, true, true, true, true, true, true, true, false]), (135, [true, true, true, true, true, true, false, true, false]), (140, [true, true, true, true, true, true, false, true, false]), (163, [true, true, true, true, true, true, false, true, false]), (196, [true, true, true, true, true, true, false, true, true]), (225, [true, true, true, true, true, true, false, false, true]), (239, [true, false, false, false, false, true, false, true, false]), (250, [true, false, false, false, false, true, false, false, false]), (268, [false, false, false, false, false, false, false, false, false])]) (zorc [(140, [some (2, some 0), some (0, none), some (0, none), some (0, none), some (0, none), some (0, none), none, some (0, none), none], [(0, none)], fun xs h => match xs with
  | [a1, a2, a3, a4, a5, a7, t0] => M_serial_140 kr r78 a1 a2 a3 a4 a5 a7 t0 (zhd h)
  | _ => none)]) (fun v h => kr v (zhd h)) (fun _ _ => none) 400 135 [some (2, 0), some (0, a1), some (0, a2), some (0, a3), some (0, a4), some (0, a5), none, some (0, a7), none] [] (zM s) := by rfl
set_option maxRecDepth 100000 in
theorem qe_M_serial_225 {ρ : Type} (kr : Int → zD → Option ρ) (r196 : Int → Int → Int → Int → Int → Int → Int → zD → Option ρ) (a1 a2 a3 a4 a5 a8 t0 t1 : Int) (s : zD) : M_serial_225 kr r196 a1 a2 a3 a4 a5 a8 t0 t1 s = zseg zPP false zfinM (zcal [(152, [some 0, none, none, none, none], fun xs h kr kt => match xs with
  | [x0, x1, x2, x3] => M_runBlock x0 x1 x2 x3 (zhd h) (fun v s => kr v (zM s))
  | _ => none)]) (zget (999, 0, 0, 0) zc_M_serial) (zcut [(22, [true, true, true, true, true, true, false, false, false]), (27, [true, true, true, true, true, true, false, false, false]), (55, [true, true, true, true, true, true, false, false, false]), (60, [true, true, true, true, true, true, false, false, false]), (67, [false, false, false, false, false, false, false, false, false]), (78, [true, true, true, true, true, true, true, true, false]), (135, [true, true, true, true, true, true, false, true, false]), (140, [true, true, true, true, true, true, false, true, false]), (163, [true, true, true, true, true, true, false, true, false]), (196, [true, true, true, true, true, true, false, true, true]), (225, [true, true, true, true, true, true, false, false, true]), (239, [true, false, false, false, false, true, false, true, false]), (250, [true, false, false, false, false, true, false, false, false]), (268, [false, false, false, false, false, false, false, false, false])]) (zorc [(196, [some (2, some 0), some (0, none), some (0, none), some (0, none), some (0, none), some (0, none), none, some (0, none), some (0, none)], [], fun xs h => match xs with
  | [a1, a2, a3, a4, a5, a7, a8] => r196 a1 a2 a3 a4 a5 a7 a8 (zhd h)
  | _ => none)]) (fun v h => kr v (zhd h)) (fun _ _ => none) 400 225 [some (2, 0), some (0, a1), some (0, a2), some (0, a3), some (0, a4), some (0, a5), none, none, some (0, a8)] [(0, t0), (0, t1), (2, 0)] (zM s) := by rfl
set_option maxRecDepth 100000 in
theorem qe_M_serial_268 {ρ : Type} (kr : Int → zD → Option ρ) (t0 : Int) (s : zD) : M_serial_268 kr t0 s = zseg zPP false zfinM (zcal []) (zget (999, 0, 0, 0) zc_M_serial) (zcut [(22, [true, true, true, true, true, true, false, false, false]), (27, [true, true, true, true, true, true, false, false, false]), (55, [true, true, true, true, true, true, false, false, false]), (60, [true, true, true, true, true, true, false, false, false]), (67, [false, false, false, false, false, false, false, false, false]), (78, [true, true, true, true, true, true, true, true, false]), (135, [true, true, true, true, true, true, false, true, false]), (140, [true, true, true, true, true, true, false, true, false]), (163, [true, true, true, true, true, true, false, true, false]), (196, [true, true, true, true, true, true, false, true, true]), (225, [true, true, true, true, true, true, false, false, true]), (239, [true, false, false, false, false, true, false, true, false]), (250, [true, false, false, false, false, true, false, false, false]), (268, [false, false, false, false, false, false, false, false, false])]) (zorc []) (fun v h => kr v (zhd h)) (fun _ _ => none) 400 268 [none, none, none, none, none, none, none, none, none] [(0, t0)] (zM s) := by rfl
set_option maxRecDepth 100000 in
theorem qe_M_serial_250 {ρ : Type} (kr : Int → zD → Option ρ) (a5 t0 : Int) (s : zD) : M_serial_250 kr a5 t0 s = zseg zPP false zfinM (zcal [(58, [some 0, none, none], fun xs h kr kt => match xs with
  | [x0, x1] => M_fails x0 x1 (zhd h) (fun v s => kr v (zM s))
  | _ => none)]) (zget (999, 0, 0, 0) zc_M_serial) (zcut [(22, [true, true, true, true, true, true, false, false, false]), (27, [true, true, true, true, true, true, false, false, false]), (55, [true, true, true, true, true, true, false, false, false]), (60, [true, true, true, true, true, true, false, false, false]), (67, [false, false, false, false, false, false, false, false, false]), (78, [true, true, true, true, true, true, true, true, false]), (135, [true, true, true, true, true, true, false, true, false]), (140, [true, true, true, true, true, true, false, true, false]), (163, [true, true, true, true, true, true, false, true, false]), (196, [true, true, true, true, true, true, false, true, true]), (225, [true, true, true, true, true, true, false, false, true]), (239, [true, false, false, false, false, true, false, true, false]), (250, [true, false, false, false, false, true, false, false, false]), (268, [false, false, false, false, false, false, false, false, false])]) (zorc [(268, [none, none, none, none, none, none, none, none, none], [(0, none)], fun xs h => match xs with
  | [t0] => M_serial_268 kr t0 (zhd h)
  | _ => none)]) (fun v h => kr v (zhd h)) (fun _ _ => none) 400 250 [some (2, 0), none, none, none, none, some (0, a5), none, none, none] [(0, t0), (2, 0)] (zM s) := by rfl
set_option maxRecDepth 100000 in
theorem qe_M_serial_239 {ρ : Type} (kr : Int → zD → Option ρ) (a5 a7 : Int) (s : zD) : M_serial_239 kr a5 a7 s = zseg zPP false zfinM (zcal []) (zget (999, 0, 0, 0) zc_M_serial) (zcut [(22, [true, true, true, true, true, true, false, false, false]), (27, [true, true, true, true, true, true, false, false, false]), (55, [true, true, true, true, true, true, false, false, false]), (60, [true, true, true, true, true, true, false, false, false]), (67, [false, false, false, false, false, false, false, false, false]), (78, [true, true, true, true, true, true, true, true, false]), (135, [true, true, true, true, true, true, false, true, false]), (140, [true, true, true, true, true, true, false, true, false]), (163, [true, true, true, true, true, true, false, true, false]), (196, [true, true, true, true, true, true, false, true, true]), (225, [true, true, true, true, true, true, false, false, true]), (239, [true, false, false, false, false, true, false, true, false]), (250, [true, false, false, false, false, true, false, false, false]), (268, [false, false, false, false, false, false, false, false, false])]) (zorc [(250, [some (2, some 0), none, none, none, none, some (0, none), none, none, none], [(0, none), (2, some 0)], fun xs h => match xs with
  | [a5, t0] => M_serial_250 kr a5 t0 (zhd h)
  | _ => none)]) (fun v h => kr v (zhd h)) (fun _ _ => none) 400 239 [some (2, 0), none, none, none, none, some (0, a5), none, some (0, a7), none] [] (zM s) := by rfl
set_option maxRecDepth 100000 in
theorem qe_M_serial_196b {ρ : Type} (kr : Int → zD → Option ρ) (r196 : Int → Int → Int → Int → Int → Int → Int → zD → Option ρ) (a1 a2 a3 a4 a5 a7 a8 : Int) (s : zD) : M_serial_196b kr r196 a1 a2 a3 a4 a5 a7 a8 s = zseg zPP false zfinM (zcal []) (zget (999, 0, 0, 0) zc_M_serial) (zcut [(22, [true, true, true, true, true, true, false, false, false]), (27, [true, true, true, true, true, true, false, false, false]), (55, [true, true, true, true, true, true, false, false, false]), (60, [true, true, true, true, true, true, false, false, false]), (67, [false, false, false, false, false, false, false, false, false]), (78, [true, true, true, true, true, true, true, true, false]), (135, [true, true, true, true, true, true, false, true, false]), (140, [true, true, true, true, true, true, false, true, false]), (163, [true, true, true, true, true, true, false, true, false]), (196, [true, true, true, true, true, true, false, true, true]), (225, [true, true, true, true, true, true, false, false, true]), (239, [true, false, false, false, false, true, false, true, false]), (250, [true, false, false, false, false, true, false, false, false]), (268, [false, false, false, false, false, false, false, false, false])]) (zorc [(225, [some (2, some 0), some (0, none), some (0, none), some (0, none), some (0, none), some (0, none), none, none, some (0, none)], [(0, none), (0, none), (2, some 0)], fun xs h => match xs with
  | [a1, a2, a3, a4, a5, a8, t0, t1] => M_serial_225 kr r196 a1 a2 a3 a4 a5 a8 t0 t1 (zhd h)
  | _ => none), (239, [some (2, some 0), none, none, none, none, some (0, none), none, some (0, none), none], [], fun xs h => match xs with
  | [a5, a7] => M_serial_239 kr a5 a7 (zhd h)
  | _ => none)]) (fun v h => kr v (zhd h)) (fun _ _ => none) 400 196 [some (2, 0), some (0, a1), some (0, a2), some (0, a3), some (0, a4), some (0, a5), none, some (0, a7), some (0, a8)] [] (zM s) := by rfl
set_option maxRecDepth 100000 in
theorem qe_M_serial_163b {ρ : Type} (kr : Int → zD → Option ρ) (r163 : Int → Int → Int → Int → Int → Int → zD → Option ρ) (a1 a2 a3 a4 a5 a7 : Int) (s : zD) : M_serial_163b kr r163 a1 a2 a3 a4 a5 a7 s = zseg zPP false zfinM (zcal []) (zget (999, 0, 0, 0) zc_M_serial) (zcut [(22, [true, true, true, true, true, true, false, false, false]), (27, [true, true, true, true, true, true, false, false, false]), (55, [true, true, true, true, true, true, false, false, false]), (60, [true, true, true, true, true, true, false, false, false]), (67, [false, false, false, false, false, false, false, false, false]), (78, [true, true, true, true, true, true, true, true, false]), (135, [true, true, true, true, true, true, false, true, false]), (140, [true, true, true, true, true, true, false, true, false]), (163, [true, true, true, true, true, true, false, true, false]), (196, [true, true, true, true, true, true, false, true, true]), (225, [true, true, true, true, true, true, false, false, true]), (239, [true, false, false, false, false, true, false, true, false]), (250, [true, false, false, false, false, true, false, false, false]), (268, [false, false, false, false, false, false, false, false, false])]) (zorc [(163, [some (2, some 0), some (0, none), some (0, none), some (0, none), some (0, none), some (0, none), none, some (0, none), none], [], fun xs h => match xs with
  | [a1, a2, a3, a4, a5, a7] => r163 a1 a2 a3 a4 a5 a7 (zhd h)
  | _ => none), (196, [some (2, some 0), some (0, none), some (0, none), some (0, none), some (0, none), some (0, none), none, some (0, none), some (0, none)], [], fun xs h => match xs with
  | [a1, a2, a3, a4, a5, a7, a8] => M_serial_196 kr a1 a2 a3 a4 a5 a7 a8 (zhd h)
  | _ => none)]) (fun v h => kr v (zhd h)) (fun _ _ => none) 400 163 [some (2, 0), some (0, a1), some (0, a2), some (0, a3), some (0, a4), some (0, a5), none, some (0, a7), none] [] (zM s) := by rfl
set_option maxRecDepth 100000 in
theorem qe_M_serial_78b {ρ : Type} (kr : Int → zD → Option ρ) (r78 : Int → Int → Int → Int → Int → Int → Int → zD → Option ρ) (a1 a2 a3 a4 a5 a6 a7 : Int) (s : zD) : M_serial_78b kr r78 a1 a2 a3 a4 a5 a6 a7 s = zseg zPP false zfinM (zcal [(58, [some 0, none, none], fun xs h kr kt => match xs with
  | [x0, x1] => M_fails x0 x1 (zhd h) (fun v s => kr v (zM s))
  | _ => none)]) (zget (999, 0, 0, 0) zc_M_serial) (zcut [(22, [true, true, true, true, true, true, false, false, false]), (27, [true, true, true, true, true, true, false, false, false]), (55, [true, true, true, true, true, true, false, false, false]), (60, [true, true, true, true, true, true, false, false, false]), (67, [false, false, false, false, false, false, false, false, false]), (78, [true, true, true, true, true, true, true, true, false]), (135, [true, true, true, true, true, true, false, true, false]), (140, [true, true, true, true, true, true, false, true, false]), (163, [true, true, true, true, true, true, false, true, false]), (196, [true, true, true, true, true, true, false, true, true]), (225, [true, true, true, true, true, true, false, false, true]), (239, [true, false, false, false, false, true, false, true, false]), (250, [true, false, false, false, false, true, false, false, false]), (268, [false, false, false, false, false, false, false, false, false])]) (zorc [(135, [some (2, some 0), some (0, none), some (0, none), some (0, none), some (0, none), some (0, none), none, some (0, none), none], [], fun xs h => match xs with
  | [a1, a2, a3, a4, a5, a7] => M_serial_135 kr r78 a1 a2 a3 a4 a5 a7 (zhd h)
  | _ => none), (140, [some (2, some 0), some (0, none), some (0, none), some (0, none), some (0, none), some (0, none), none, some (0, none), none], [(0, none)], fun xs h => match xs with
  | [a1, a2, a3, a4, a5, a7, t0] => M_serial_140 kr r78 a1 a2 a3 a4 a5 a7 t0 (zhd h)
  | _ => none), (163, [some (2, some 0), some (0, none), some (0, none), some (0, none), some (0, none), some (0, none), none, some (0, none), none], [], fun xs h => match xs with
  | [a1, a2, a3, a4, a5, a7] => M_serial_163 kr a1 a2 a3 a4 a5 a7 (zhd h)
  | _ => none)]) (fun v h => kr v (zhd h)) (fun _ _ => none) 400 78 [some (2, 0), some (0, a1), some (0, a2), some (0, a3), some (0, a4), some (0, a5), some (0, a6), some (0, a7), none] [] (zM s) := by rfl
set_option maxRecDepth 100000 in
theorem qe_M_serial_60 {ρ : Type} (kr : Int → zD → Option ρ) (a1 a2 a3 a4 a5 t0 : Int) (s : zD) : M_serial_60 kr a1 a2 a3 a4 a5 t0 s = zseg zPP false zfinM (zcal [(58, [some 0, none, none], fun xs h kr kt => match xs with
  | [x0, x1] => M_fails x0 x1 (zhd h) (fun v s => kr v (zM s))
  | _ => none)]) (zget (999, 0, 0, 0) zc_M_serial) (zcut [(22, [true, true, true, true, true, true, false, false, false]), (27, [true, true, true, true, true, true, false, false, false]), (55, [true, true, true, true, true, true, false, false, false]), (60, [true, true, true, true, true, true, false, false, false]), (67, [false, false, false, false, false, false, false, false, false]), (78, [true, true, true, true, true, true, true, true, false]), (135, [true, true, true, true, true, true, false, true, false]), (140, [true, true, true, true, true, true, false, true, false]), (163, [true, true, true, true, true, true, false, true, false]), (196, [true, true, true, true, true, true, false, true, true]), (225, [true, true, true, true, true, true, false, false, true]), (239, [true, false, false, false, false, true, false, true, false]), (250, [true, false, false, false, false, true, false, false, false]), (268, [false, false, false, false, false, false, false, false, false])]) (zorc [(67, [none, none, none, none, none, none, none, none, none], [], fun xs h => match xs with
  | [] => M_serial_67 kr  (zhd h)
  | _ => none), (78, [some (2, some 0), some (0, none), some (0, none), some (0, none), some (0, none), some (0, none), some (0, none), some (0, none), none], [], fun xs h => match xs with
  | [a1, a2, a3, a4, a5, a6, a7] => M_serial_78 kr a1 a2 a3 a4 a5 a6 a7 (zhd h)
  | _ => none)]) (fun v h => kr v (zhd h)) (fun _ _ => none) 400 60 [some (2, 0), some (0, a1), some (0, a2), some (0, a3), some (0, a4), some (0, a5), none, none, none] [(0, t0), (2, 0)] (zM s) := by rfl
set_option maxRecDepth 100000 in
theorem qe_M_serial_55 {ρ : Type} (kr : Int → zD → Option ρ) (a1 a2 a3 a4 a5 : Int) (s : zD) : M_serial_55 kr a1 a2 a3 a4 a5 s = zseg zPP false zfinM (zcal []) (zget (999, 0, 0, 0) zc_M_serial) (zcut [(22, [true, true, true, true, true, true, false, false, false]), (27, [true, true, true, true, true, true, false, false, false]), (55, [true, true, true, true, true, true, false, false, false]), (60, [true, true, true, true, true, true, false, false, false]), (67, [false, false, false, false, false, false, false, false, false]), (78, [true, true, true, true, true, true, true, true, false]), (135, [true, true, true, true, true, true, false, true, false]), (140, [true, true, true, true, true, true, false, true, false]), (163, [true, true, true, true, true, true, false, true, false]), (196, [true, true, true, true, true, true, false, true, true]), (225, [true, true, true, true, true, true, false, false, true]), (239, [true, false, false, false, false, true, false, true, false]), (250, [true, false, false, false, false, true, false, false, false]), (268, [false, false, false, false, false, false, false, false, false])]) (zorc [(60, [some (2, some 0), some (0, none), some (0, none), some (0, none), some (0, none), some (0, none), none, none, none], [(0, none), (2, some 0)], fun xs h => match xs with
  | [a1, a2, a3, a4, a5, t0] => M_serial_60 kr a1 a2 a3 a4 a5 t0 (zhd h)
  | _ => none)]) (fun v h => kr v (zhd h)) (fun _ _ => none) 400 55 [some (2, 0), some (0, a1), some (0, a2), some (0, a3), some (0, a4), some (0, a5), none, none, none] [(2, 0)] (zM s) := by rfl
set_option maxRecDepth 100000 in
theorem qe_M_serial_27 {ρ : Type} (kr : Int → zD → Option ρ) (a1 a2 a3 a4 a5 t0 : Int) (s : zD) : M_serial_27 kr a1 a2 a3 a4 a5 t0 s = zseg zPP false zfinM (zcal [(57, [none, none, none], fun xs h kr kt => match xs with
  | [x0, x1, x2] => M_in x0 x1 x2 (zhd h) (fun v s => kr v (zM s))
  | _ => none), (58, [some 0, none, none], fun xs h kr kt => match xs with
  | [x0, x1] => M_fails x0 x1 (zhd h) (fun v s => kr v (zM s))
  | _ => none)]) (zget (999, 0, 0, 0) zc_M_serial) (zcut [(22, [true, true, true, true, true, true, false, false, false]), (27, [true, true, true, true, true, true, false, false, false]), (55, [true, true, true, true, true, true, false, false, false]), (60, [true, true, true, true, true, true, false, false, false]), (67, [false, false, false, false, false, false, false, false, false]), (78, [true, true, true, true, true, true, true, true, false]), (135, [true, true, true, true, true, true, false, true, false]), (140, [true, true, true, true, true, true, false, true, false]), (163, [true, true, true, true, true, true, false, true, false]), (196, [true, true, true, true, true, true, false, true, true]), (225, [true, true, true, true, true, true, false, false, true]), (239, [true, false, false, false, false, true, false, true, false]), (250, [true, false, false, false, false, true, false, false, false]), (268, [false, false, false, false, false, false, false, false, false])]) (zorc [(55, [some (2, some 0), some (0, none), some (0, none), some (0, none), some (0, none), some (0, none), none, none, none], [(2, some 0)], fun xs h => match xs with
  | [a1, a2, a3, a4, a5] => M_serial_55 kr a1 a2 a3 a4 a5 (zhd h)
  | _ => none), (60, [some (2, some 0), some (0, none), some (0, none), some (0, none), some (0, none), some (0, none), none, none, none], [(0, none), (2, some 0)], fun xs h => match xs with
  | [a1, a2, a3, a4, a5, t0] => M_serial_60 kr a1 a2 a3 a4 a5 t0 (zhd h)
  | _ => none), (67, [none, none, none, none, none, none, none, none, none], [], fun xs h => match xs with
  | [] => M_serial_67 kr  (zhd h)
  | _ => none)]) (fun v h => kr v (zhd h)) (fun _ _ => none) 400 27 [some (2, 0), some (0, a1), some (0, a2), some (0, a3), some (0, a4), some (0, a5), none, none, none] [(0, t0), (2, 0)] (zM s) := by rfl
set_option maxRecDepth 100000 in
theorem qe_M_serial_22 {ρ : Type} (kr : Int → zD → Option ρ) (a1 a2 a3 a4 a5 : Int) (s : zD) : M_serial_22 kr a1 a2 a3 a4 a5 s = zseg zPP false zfinM (zcal []) (zget (999, 0, 0, 0) zc_M_serial) (zcut [(22, [true, true, true, true, true, true, false, false, false]), (27, [true, true, true, true, true, true, false, false, false]), (55, [true, true, true, true, true, true, false, false, false]), (60, [true, true, true, true, true, true, false, false, false]), (67, [false, false, false, false, false, false, false, false, false]), (78, [true, true, true, true, true, true, true, true, false]), (135, [true, true, true, true, true, true, false, true, false]), (140, [true, true, true, true, true, true, false, true, false]), (163, [true, true, true, true, true, true, false, true, false]), (196, [true, true, true, true, true, true, false, true, true]), (225, [true, true, true, true, true, true, false, false, true]), (239, [true, false, false, false, false, true, false, true, false]), (250, [true, false, false, false, false, true, false, false, false]), (268, [false, false, false, false, false, false, false, false, false])]) (zorc [(27, [some (2, some 0), some (0, none), some (0, none), some (0, none), some (0, none), some (0, none), none, none, none], [(0, none), (2, some 0)], fun xs h => match xs with
  | [a1, a2, a3, a4, a5, t0] => M_serial_27 kr a1 a2 a3 a4 a5 t0 (zhd h)
  | _ => none)]) (fun v h => kr v (zhd h)) (fun _ _ => none) 400 22 [some (2, 0), some (0, a1), some (0, a2), some (0, a3), some (0, a4), some (0, a5), none, none, none] [(2, 0)] (zM s) := by rfl
set_option maxRecDepth 100000 in
theorem qe_M_serial {ρ : Type} (kr : Int → zD → Option ρ) (a1 a2 a3 a4 a5 : Int) (s : zD) : M_serial a1 a2 a3 a4 a5 s kr = zseg zPP false zfinM (zcal [(59, [some 0, none], fun xs h kr kt => match xs with
  | [x0] => M_noKernel x0 (zhd h) (fun v s => kr v (zM s))
  | _ => none), (61, [none], fun xs h kr kt => match xs with
  | [x0] => M_noCell x0 (zhd h) (fun v s => kr v (zM s))
  | _ => none)]) (zget (999, 0, 0, 0) zc_M_serial) (zcut [(22, [true, true, true, true, true, true, false, false, false]), (27, [true, true, true, true, true, true, false, false, false]), (55, [true, true, true, true, true, true, false, false, false]), (60, [true, true, true, true, true, true, false, false, false]), (67, [false, false, false, false, false, false, false, false, false]), (78, [true, true, true, true, true, true, true, true, false]), (135, [true, true, true, true, true, true, false, true, false]), (140, [true, true, true, true, true, true, false, true, false]), (163, [true, true, true, true, true, true, false, true, false]), (196, [true, true, true, true, true, true, false, true, true]), (225, [true, true, true, true, true, true, false, false, true]), (239, [true, false, false, false, false, true, false, true, false]), (250, [true, false, false, false, false, true, false, false, false]), (268, [false, false, false, false, false, false, false, false, false])]) (zorc [(22, [some (2, some 0), some (0, none), some (0, none), some (0, none), some (0, none), some (0, none), none, none, none], [(2, some 0)], fun xs h => match xs with
  | [a1, a2, a3, a4, a5] => M_serial_22 kr a1 a2 a3 a4 a5 (zhd h)
  | _ => none), (27, [some (2, some 0), some (0, none), some (0, none), some (0, none), some (0, none), some (0, none), none, none, none], [(0, none), (2, some 0)], fun xs h => match xs with
  | [a1, a2, a3, a4, a5, t0] => M_serial_27 kr a1 a2 a3 a4 a5 t0 (zhd h)
  | _ => none)]) (fun v h => kr v (zhd h)) (fun _ _ => none) 400 0 [some (2, 0), some (0, a1), some (0, a2), some (0, a3), some (0, a4), some (0, a5), none, none, none] [] (zM s) := by rfl
def zc_M_lanes : List zI := [(14, 0, 0, 0), (0, 0, 0, 0), (82, 12, 185, 0), (999, 0, 0, 0), (999, 0, 0, 0), (14, 0, 0, 0), (80, 12, 373, 54), (999, 0, 0, 0), (999, 0, 0, 0), (131, 0, 0, 0)]
def M_lanes {ρ : Type} (s : zD) (kr : Int → zD → Option ρ) : Option ρ :=
zlet (zup s 0 0 0) fun s1 =>
kr (s1 0 54) s1
set_option maxRecDepth 100000 in
theorem qe_M_lanes {ρ : Type} (kr : Int → zD → Option ρ) (s : zD) : M_lanes  s kr = zseg zPP false zfinM (zcal []) (zget (999, 0, 0, 0) zc_M_lanes) (zcut []) (zorc []) (fun v h => kr v (zhd h)) (fun _ _ => none) 400 0 [some (2, 0)] [] (zM s) := by rfl
def zc_M_misses : List zI := [(14, 0, 0, 0), (0, 0, 0, 0), (82, 12, 185, 0), (999, 0, 0, 0), (999, 0, 0, 0), (14, 0, 0, 0), (80, 12, 341, 58), (999, 0, 0, 0), (999, 0, 0, 0), (130, 0, 0, 0)]
def M_misses {ρ : Type} (s : zD) (kr : Int → zD → Option ρ) : Option ρ :=
zlet (zup s 0 0 0) fun s1 =>
kr (s1 0 58) s1
set_option maxRecDepth 100000 in
theorem qe_M_misses {ρ : Type} (kr : Int → zD → Option ρ) (s : zD) : M_misses  s kr = zseg zPP false zfinM (zcal []) (zget (999, 0, 0, 0) zc_M_misses) (zcut []) (zorc []) (fun v h => kr v (zhd h)) (fun _ _ => none) 400 0 [some (2, 0)] [] (zM s) := by rfl
def zc_M_lost : List zI := [(14, 0, 0, 0), (0, 0, 0, 0), (82, 12, 185, 0), (999, 0, 0, 0), (999, 0, 0, 0), (14, 0, 0, 0), (80, 12, 387, 59), (999, 0, 0, 0), (999, 0, 0, 0), (130, 0, 0, 0)]
def M_lost {ρ : Type} (s : zD) (kr : Int → zD → Option ρ) : Option ρ :=
zlet (zup s 0 0 0) fun s1 =>
kr (s1 0 59) s1
set_option maxRecDepth 100000 in
theorem qe_M_lost {ρ : Type} (kr : Int → zD → Option ρ) (s : zD) : M_lost  s kr = zseg zPP false zfinM (zcal []) (zget (999, 0, 0, 0) zc_M_lost) (zcut []) (zorc []) (fun v h => kr v (zhd h)) (fun _ _ => none) 400 0 [some (2, 0)] [] (zM s) := by rfl
def zc_M_barriers : List zI := [(14, 0, 0, 0), (0, 0, 0, 0), (82, 12, 185, 0), (999, 0, 0, 0), (999, 0, 0, 0), (14, 0, 0, 0), (80, 12, 260, 60), (999, 0, 0, 0), (999, 0, 0, 0), (130, 0, 0, 0)]
def M_barriers {ρ : Type} (s : zD) (kr : Int → zD → Option ρ) : Option ρ :=
zlet (zup s 0 0 0) fun s1 =>
kr (s1 0 60) s1
set_option maxRecDepth 100000 in
theorem qe_M_barriers {ρ : Type} (kr : Int → zD → Option ρ) (s : zD) : M_barriers  s kr = zseg zPP false zfinM (zcal []) (zget (999, 0, 0, 0) zc_M_barriers) (zcut []) (zorc []) (fun v h => kr v (zhd h)) (fun _ _ => none) 400 0 [some (2, 0)] [] (zM s) := by rfl
def zc_M_refused : List zI := [(14, 0, 0, 0), (0, 0, 0, 0), (82, 12, 185, 0), (999, 0, 0, 0), (999, 0, 0, 0), (14, 0, 0, 0), (80, 12, 235, 61), (999, 0, 0, 0), (999, 0, 0, 0), (130, 0, 0, 0)]
def M_refused {ρ : Type} (s : zD) (kr : Int → zD → Option ρ) : Option ρ :=
zlet (zup s 0 0 0) fun s1 =>
kr (s1 0 61) s1
set_option maxRecDepth 100000 in
theorem qe_M_refused {ρ : Type} (kr : Int → zD → Option ρ) (s : zD) : M_refused  s kr = zseg zPP false zfinM (zcal []) (zget (999, 0, 0, 0) zc_M_refused) (zcut []) (zorc []) (fun v h => kr v (zhd h)) (fun _ _ => none) 400 0 [some (2, 0)] [] (zM s) := by rfl
def zc_M_isSound : List zI := [(14, 0, 0, 0), (0, 0, 0, 0), (82, 12, 185, 0), (999, 0, 0, 0), (999, 0, 0, 0), (0, 1, 0, 0), (130, 0, 1, 0)]
def M_isSound {ρ : Type} (s : zD) (kr : Int → zD → Option ρ) : Option ρ :=
zlet (zup s 0 0 0) fun s1 =>
kr 1 s1
set_option maxRecDepth 100000 in
theorem qe_M_isSound {ρ : Type} (kr : Int → zD → Option ρ) (s : zD) : M_isSound  s kr = zseg zPP false zfinM (zcal []) (zget (999, 0, 0, 0) zc_M_isSound) (zcut []) (zorc []) (fun v h => kr v (zhd h)) (fun _ _ => none) 400 0 [some (2, 0)] [] (zM s) := by rfl
