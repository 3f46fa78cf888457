def zc_M_finish : List zI := [(0, 0, 0, 0), (16, 0, 1, 0), (10, 0, 1, 0), (0, 3, 0, 0), (69, 136, 140, 0), (999, 0, 0, 0), (999, 0, 0, 0), (0, 0, 0, 0), (16, 0, 2, 0), (10, 0, 2, 0), (14, 0, 0, 0), (80, 12, 196, 13), (999, 0, 0, 0), (999, 0, 0, 0), (69, 120, 134, 0), (999, 0, 0, 0), (999, 0, 0, 0), (14, 0, 0, 0), (80, 12, 43, 14), (999, 0, 0, 0), (999, 0, 0, 0), (10, 0, 2, 0), (92, 0, 0, 0), (1, 114, 0, 0), (999, 0, 0, 0), (67, 32, 57, 0), (999, 0, 0, 0), (999, 0, 0, 0), (14, 0, 0, 0), (80, 12, 46, 15), (999, 0, 0, 0), (999, 0, 0, 0), (10, 0, 2, 0), (90, 0, 0, 0), (0, (-1), 0, 0), (66, 22, 57, 0), (999, 0, 0, 0), (999, 0, 0, 0), (14, 0, 0, 0), (80, 12, 73, 24), (999, 0, 0, 0), (999, 0, 0, 0), (10, 0, 2, 0), (90, 0, 0, 0), (14, 0, 0, 0), (80, 12, 52, 17), (999, 0, 0, 0), (999, 0, 0, 0), (10, 0, 2, 0), (90, 0, 0, 0), (67, 7, 57, 0), (999, 0, 0, 0), (999, 0, 0, 0), (0, 1, 0, 0), (72, 4, 58, 0), (999, 0, 0, 0), (999, 0, 0, 0), (0, 0, 0, 0), (16, 0, 3, 0), (0, 0, 0, 0), (17, 0, 4, 0), (999, 0, 0, 0), (11, 0, 4, 0), (999, 0, 0, 0), (14, 0, 0, 0), (80, 12, 196, 13), (999, 0, 0, 0), (999, 0, 0, 0), (69, 39, 107, 0), (999, 0, 0, 0), (999, 0, 0, 0), (10, 0, 3, 0), (60, 27, 99, 0), (999, 0, 0, 0), (999, 0, 0, 0), (14, 0, 0, 0), (80, 12, 64, 21), (999, 0, 0, 0), (999, 0, 0, 0), (11, 0, 4, 0), (999, 0, 0, 0), (90, 0, 0, 0), (10, 0, 2, 0), (67, 12, 95, 0), (999, 0, 0, 0), (999, 0, 0, 0), (14, 0, 0, 0), (11, 0, 4, 0), (999, 0, 0, 0), (110, 0, 225, 71), (999, 0, 0, 0), (999, 0, 0, 0), (60, 7, 99, 0), (999, 0, 0, 0), (999, 0, 0, 0), (0, 1, 0, 0), (72, 4, 100, 0), (999, 0, 0, 0), (999, 0, 0, 0), (0, 0, 0, 0), (16, 0, 3, 0), (22, 1, 4, 0), (999, 0, 0, 0), (999, 0, 0, 0), (72, (-42), 62, 0), (999, 0, 0, 0), (999, 0, 0, 0), (14, 0, 0, 0), (80, 12, 43, 14), (999, 0, 0, 0), (999, 0, 0, 0), (10, 0, 2, 0), (10, 0, 3, 0), (60, 8, 121, 0), (999, 0, 0, 0), (999, 0, 0, 0), (1, 100, 0, 0), (999, 0, 0, 0), (72, 9, 127, 0), (999, 0, 0, 0), (999, 0, 0, 0), (14, 0, 0, 0), (80, 12, 43, 14), (999, 0, 0, 0), (999, 0, 0, 0), (10, 0, 2, 0), (92, 0, 0, 0), (97, 0, 0, 0), (22, 1, 2, 0), (999, 0, 0, 0), (999, 0, 0, 0), (72, (-122), 9, 0), (999, 0, 0, 0), (999, 0, 0, 0), (22, 1, 1, 0), (999, 0, 0, 0), (999, 0, 0, 0), (72, (-135), 2, 0), (999, 0, 0, 0), (999, 0, 0, 0), (133, 0, 0, 0)]
def M_finish_100 {ρ : Type} (kr : Int → zD → Option ρ) (r2 : Int → zD → Option ρ) (r9 : Int → Int → zD → Option ρ) (r62 : Int → Int → Int → Int → zD → Option ρ) (a1 a2 a4 t0 : Int) (s : zD) : Option ρ :=
r62 a1 a2 t0 (wr (a4 + 1)) s
def M_finish_95 {ρ : Type} (kr : Int → zD → Option ρ) (r2 : Int → zD → Option ρ) (r9 : Int → Int → zD → Option ρ) (r62 : Int → Int → Int → Int → zD → Option ρ) (a1 a2 a4 : Int) (s : zD) : Option ρ :=
M_finish_100 kr r2 r9 r62 a1 a2 a4 1 s
def M_finish_99 {ρ : Type} (kr : Int → zD → Option ρ) (r2 : Int → zD → Option ρ) (r9 : Int → Int → zD → Option ρ) (r62 : Int → Int → Int → Int → zD → Option ρ) (a1 a2 a4 : Int) (s : zD) : Option ρ :=
M_finish_100 kr r2 r9 r62 a1 a2 a4 0 s
def M_finish_127 {ρ : Type} (kr : Int → zD → Option ρ) (r2 : Int → zD → Option ρ) (r9 : Int → Int → zD → Option ρ) (a1 a2 t0 t1 : Int) (s : zD) : Option ρ :=
zix 12 t1 fun j1 =>
znar 2 t0 fun x2 =>
zlet (zup s 10 j1 x2) fun s3 =>
r9 a1 (wr (a2 + 1)) s3
def M_finish_62b {ρ : Type} (kr : Int → zD → Option ρ) (r2 : Int → zD → Option ρ) (r9 : Int → Int → zD → Option ρ) (r62 : Int → Int → Int → Int → zD → Option ρ) (a1 a2 a3 a4 : Int) (s : zD) : Option ρ :=
if a4 < (s 0 13) then (if a3 = 0 then M_finish_99 kr r2 r9 r62 a1 a2 a4 s
else zix 12 a4 fun j2 =>
if (s 17 j2) = a2 then (M_isOver a4 s  fun v3 s4 =>
if v3 = 0 then M_finish_99 kr r2 r9 r62 a1 a2 a4 s4
else M_finish_95 kr r2 r9 r62 a1 a2 a4 s4)
else M_finish_95 kr r2 r9 r62 a1 a2 a4 s)
else if a3 = 0 then (zix 12 a2 fun j1 =>
M_finish_127 kr r2 r9 a1 a2 (s 10 j1) a2 s)
else M_finish_127 kr r2 r9 a1 a2 100 a2 s
def M_finish_62 {ρ : Type} (kr : Int → zD → Option ρ) (r2 : Int → zD → Option ρ) (r9 : Int → Int → zD → Option ρ) : Int → Int → Int → Int → zD → Option ρ := zit (fun _ _ _ _ _ => none) (M_finish_62b kr r2 r9) zN
def M_finish_58 {ρ : Type} (kr : Int → zD → Option ρ) (r2 : Int → zD → Option ρ) (r9 : Int → Int → zD → Option ρ) (a1 a2 t0 : Int) (s : zD) : Option ρ :=
M_finish_62 kr r2 r9 a1 a2 t0 0 s
def M_finish_57 {ρ : Type} (kr : Int → zD → Option ρ) (r2 : Int → zD → Option ρ) (r9 : Int → Int → zD → Option ρ) (a1 a2 : Int) (s : zD) : Option ρ :=
M_finish_58 kr r2 r9 a1 a2 0 s
def M_finish_9b {ρ : Type} (kr : Int → zD → Option ρ) (r2 : Int → zD → Option ρ) (r9 : Int → Int → zD → Option ρ) (a1 a2 : Int) (s : zD) : Option ρ :=
if a2 < (s 0 13) then (zix 12 a2 fun j1 =>
if (s 10 j1) = 114 then (zix 12 a2 fun j2 =>
if (s 11 j2) = (-1) then M_finish_57 kr r2 r9 a1 a2 s
else zix 12 a2 fun j3 =>
zix 12 a2 fun j4 =>
if (s 20 j3) = (s 13 j4) then M_finish_58 kr r2 r9 a1 a2 1 s
else M_finish_57 kr r2 r9 a1 a2 s)
else M_finish_57 kr r2 r9 a1 a2 s)
else r2 (wr (a1 + 1)) s
def M_finish_9 {ρ : Type} (kr : Int → zD → Option ρ) (r2 : Int → zD → Option ρ) : Int → Int → zD → Option ρ := zit (fun _ _ _ => none) (M_finish_9b kr r2) zN
def M_finish_2b {ρ : Type} (kr : Int → zD → Option ρ) (r2 : Int → zD → Option ρ) (a1 : Int) (s : zD) : Option ρ :=
if a1 < 3 then M_finish_9 kr r2 a1 0 s
else kr 0 s
def M_finish_2 {ρ : Type} (kr : Int → zD → Option ρ) : Int → zD → Option ρ := zit (fun _ _ => none) (M_finish_2b kr) zN
def M_finish {ρ : Type} (s : zD) (kr : Int → zD → Option ρ) : Option ρ :=
M_finish_2 kr 0 s
set_option maxRecDepth 100000 in
theorem qe_M_finish_100 {ρ : Type} (kr : Int → zD → Option ρ) (r2 : Int → zD → Option ρ) (r9 : Int → Int → zD → Option ρ) (r62 : Int → Int → Int → Int → zD → Option ρ) (a1 a2 a4 t0 : Int) (s : zD) : M_finish_100 kr r2 r9 r62 a1 a2 a4 t0 s = zseg zPP false zfinM (zcal []) (zget (999, 0, 0, 0) zc_M_finish) (zcut [(2, [true, true, false, false, false]), (9, [true, true, true, false, false]), (57, [true, true, true, false, false]), (58, [true, true, true, false, false]), (62, [true, true, true, true, true]), (95, [true, true, true, false, true]), (99, [true, true, true, false, true]), (100, [true, true, true, false, true]), (127, [true, true, true, false, false])]) (zorc [(62, [some (2, some 0), some (0, none), some (0, none), some (0, none), some (0, none)], [], fun xs h => match xs with
  | [a1, a2, a3, a4] => r62 a1 a2 a3 a4 (zhd h)
  | _ => none)]) (fun v h => kr v (zhd h)) (fun _ _ => none) 400 100 [some (2, 0), some (0, a1), some (0, a2), none, some (0, a4)] [(0, t0)] (zM s) := by rfl
set_option maxRecDepth 100000 in
theorem qe_M_finish_95 {ρ : Type} (kr : Int → zD → Option ρ) (r2 : Int → zD → Option ρ) (r9 : Int → Int → zD → Option ρ) (r62 : Int → Int → Int → Int → zD → Option ρ) (a1 a2 a4 : Int) (s : zD) : M_finish_95 kr r2 r9 r62 a1 a2 a4 s = zseg zPP false zfinM (zcal []) (zget (999, 0, 0, 0) zc_M_finish) (zcut [(2, [true, true, false, false, false]), (9, [true, true, true, false, false]), (57, [true, true, true, false, false]), (58, [true, true, true, false, false]), (62, [true, true, true, true, true]), (95, [true, true, true, false, true]), (99, [true, true, true, false, true]), (100, [true, true, true, false, true]), (127, [true, true, true, false, false])]) (zorc [(100, [some (2, some 0), some (0, none), some (0, none), none, some (0, none)], [(0, none)], fun xs h => match xs with
  | [a1, a2, a4, t0] => M_finish_100 kr r2 r9 r62 a1 a2 a4 t0 (zhd h)
  | _ => none)]) (fun v h => kr v (zhd h)) (fun _ _ => none) 400 95 [some (2, 0), some (0, a1), some (0, a2), none, some (0, a4)] [] (zM s) := by rfl
set_option maxRecDepth 100000 in
theorem qe_M_finish_99 {ρ : Type} (kr : Int → zD → Option ρ) (r2 : Int → zD → Option ρ) (r9 : Int → Int → zD → Option ρ) (r62 : Int → Int → Int → Int → zD → Option ρ) (a1 a2 a4 : Int) (s : zD) : M_finish_99 kr r2 r9 r62 a1 a2 a4 s = zseg zPP false zfinM (zcal []) (zget (999, 0, 0, 0) zc_M_finish) (zcut [(2, [true, true, false, false, false]), (9, [true, true, true, false, false]), (57, [true, true, true, false, false]), (58, [true, true, true, false, false]), (62, [true, true, true, true, true]), (95, [true, true, true, false, true]), (99, [true, true, true, false, true]), (100, [true, true, true, false, true]), (127, [true, true, true, false, false])]) (zorc [(100, [some (2, some 0), some (0, none), some (0, none), none, some (0, none)], [(0, none)], fun xs h => match xs with
  | [a1, a2, a4, t0] => M_finish_100 kr r2 r9 r62 a1 a2 a4 t0 (zhd h)
  | _ => none)]) (fun v h => kr v (zhd h)) (fun _ _ => none) 400 99 [some (2, 0), some (0, a1), some (0, a2), none, some (0, a4)] [] (zM s) := by rfl
set_option maxRecDepth 100000 in
theorem qe_M_finish_127 {ρ : Type} (kr : Int → zD → Option ρ) (r2 : Int → zD → Option ρ) (r9 : Int → Int → zD → Option ρ) (a1 a2 t0 t1 : Int) (s : zD) : M_finish_127 kr r2 r9 a1 a2 t0 t1 s = zseg zPP false zfinM (zcal []) (zget (999, 0, 0, 0) zc_M_finish) (zcut [(2, [true, true, false, false, false]), (9, [true, true, true, false, false]), (57, [true, true, true, false, false]), (58, [true, true, true, false, false]), (62, [true, true, true, true, true]), (95, [true, true, true, false, true]), (99, [true, true, true, false, true]), (100, [true, true, true, false, true]), (127, [true, true, true, false, false])]) (zorc [(9, [some (2, some 0), some (0, none), some (0, none), none, none], [], fun xs h => match xs with
  | [a1, a2] => r9 a1 a2 (zhd h)
  | _ => none)]) (fun v h => kr v (zhd h)) (fun _ _ => none) 400 127 [some (2, 0), some (0, a1), some (0, a2), none, none] [(0, t0), (0, t1), (2, 10)] (zM s) := by rfl
set_option maxRecDepth 100000 in
theorem qe_M_finish_62b {ρ : Type} (kr : Int → zD → Option ρ) (r2 : Int → zD → Option ρ) (r9 : Int → Int → zD → Option ρ) (r62 : Int → Int → Int → Int → zD → Option ρ) (a1 a2 a3 a4 : Int) (s : zD) : M_finish_62b kr r2 r9 r62 a1 a2 a3 a4 s = zseg zPP false zfinM (zcal [(71, [some 0, none], fun xs h kr kt => match xs with
  | [x0] => M_isOver x0 (zhd h) (fun v s => kr v (zM s))
  | _ => none)]) (zget (999, 0, 0, 0) zc_M_finish) (zcut [(2, [true, true, false, false, false]), (9, [true, true, true, false, false]), (57, [true, true, true, false, false]), (58, [true, true, true, false, false]), (62, [true, true, true, true, true]), (95, [true, true, true, false, true]), (99, [true, true, true, false, true]), (100, [true, true, true, false, true]), (127, [true, true, true, false, false])]) (zorc [(95, [some (2, some 0), some (0, none), some (0, none), none, some (0, none)], [], fun xs h => match xs with
  | [a1, a2, a4] => M_finish_95 kr r2 r9 r62 a1 a2 a4 (zhd h)
  | _ => none), (99, [some (2, some 0), some (0, none), some (0, none), none, some (0, none)], [], fun xs h => match xs with
  | [a1, a2, a4] => M_finish_99 kr r2 r9 r62 a1 a2 a4 (zhd h)
  | _ => none), (127, [some (2, some 0), some (0, none), some (0, none), none, none], [(0, none), (0, none), (2, some 10)], fun xs h => match xs with
  | [a1, a2, t0, t1] => M_finish_127 kr r2 r9 a1 a2 t0 t1 (zhd h)
  | _ => none)]) (fun v h => kr v (zhd h)) (fun _ _ => none) 400 62 [some (2, 0), some (0, a1), some (0, a2), some (0, a3), some (0, a4)] [] (zM s) := by rfl
set_option maxRecDepth 100000 in
theorem qe_M_finish_58 {ρ : Type} (kr : Int → zD → Option ρ) (r2 : Int → zD → Option ρ) (r9 : Int → Int → zD → Option ρ) (a1 a2 t0 : Int) (s : zD) : M_finish_58 kr r2 r9 a1 a2 t0 s = zseg zPP false zfinM (zcal []) (zget (999, 0, 0, 0) zc_M_finish) (zcut [(2, [true, true, false, false, false]), (9, [true, true, true, false, false]), (57, [true, true, true, false, false]), (58, [true, true, true, false, false]), (62, [true, true, true, true, true]), (95, [true, true, true, false, true]), (99, [true, true, true, false, true]), (100, [true, true, true, false, true]), (127, [true, true, true, false, false])]) (zorc [(62, [some (2, some 0), some (0, none), some (0, none), some (0, none), some (0, none)], [], fun xs h => match xs with
  | [a1, a2, a3, a4] => M_finish_62 kr r2 r9 a1 a2 a3 a4 (zhd h)
  | _ => none)]) (fun v h => kr v (zhd h)) (fun _ _ => none) 400 58 [some (2, 0), some (0, a1), some (0, a2), none, none] [(0, t0)] (zM s) := by rfl
set_option maxRecDepth 100000 in
theorem qe_M_finish_57 {ρ : Type} (kr : Int → zD → Option ρ) (r2 : Int → zD → Option ρ) (r9 : Int → Int → zD → Option ρ) (a1 a2 : Int) (s : zD) : M_finish_57 kr r2 r9 a1 a2 s = zseg zPP false zfinM (zcal []) (zget (999, 0, 0, 0) zc_M_finish) (zcut [(2, [true, true, false, false, false]), (9, [true, true, true, false, false]), (57, [true, true, true, false, false]), (58, [true, true, true, false, false]), (62, [true, true, true, true, true]), (95, [true, true, true, false, true]), (99, [true, true, true, false, true]), (100, [true, true, true, false, true]), (127, [true, true, true, false, false])]) (zorc [(58, [some (2, some 0), some (0, none), some (0, none), none, none], [(0, none)], fun xs h => match xs with
  | [a1, a2, t0] => M_finish_58 kr r2 r9 a1 a2 t0 (zhd h)
  | _ => none)]) (fun v h => kr v (zhd h)) (fun _ _ => none) 400 57 [some (2, 0), some (0, a1), some (0, a2), none, none] [] (zM s) := by rfl
set_option maxRecDepth 100000 in
theorem qe_M_finish_9b {ρ : Type} (kr : Int → zD → Option ρ) (r2 : Int → zD → Option ρ) (r9 : Int → Int → zD → Option ρ) (a1 a2 : Int) (s : zD) : M_finish_9b kr r2 r9 a1 a2 s = zseg zPP false zfinM (zcal []) (zget (999, 0, 0, 0) zc_M_finish) (zcut [(2, [true, true, false, false, false]), (9, [true, true, true, false, false]), (57, [true, true, true, false, false]), (58, [true, true, true, false, false]), (62, [true, true, true, true, true]), (95, [true, true, true, false, true]), (99, [true, true, true, false, true]), (100, [true, true, true, false, true]), (127, [true, true, true, false, false])]) (zorc [(2, [some (2, some 0), some (0, none), none, none, none], [], fun xs h => match xs with
  | [a1] => r2 a1 (zhd h)
  | _ => none), (57, [some (2, some 0), some (0, none), some (0, none), none, none], [], fun xs h => match xs with
  | [a1, a2] => M_finish_57 kr r2 r9 a1 a2 (zhd h)
  | _ => none), (58, [some (2, some 0), some (0, none), some (0, none), none, none], [(0, none)], fun xs h => match xs with
  | [a1, a2, t0] => M_finish_58 kr r2 r9 a1 a2 t0 (zhd h)
  | _ => none)]) (fun v h => kr v (zhd h)) (fun _ _ => none) 400 9 [some (2, 0), some (0, a1), some (0, a2), none, none] [] (zM s) := by rfl
set_option maxRecDepth 100000 in
theorem qe_M_finish_2b {ρ : Type} (kr : Int → zD → Option ρ) (r2 : Int → zD → Option ρ) (a1 : Int) (s : zD) : M_finish_2b kr r2 a1 s = zseg zPP false zfinM (zcal []) (zget (999, 0, 0, 0) zc_M_finish) (zcut [(2, [true, true, false, false, false]), (9, [true, true, true, false, false]), (57, [true, true, true, false, false]), (58, [true, true, true, false, false]), (62, [true, true, true, true, true]), (95, [true, true, true, false, true]), (99, [true, true, true, false, true]), (100, [true, true, true, false, true]), (127, [true, true, true, false, false])]) (zorc [(9, [some (2, some 0), some (0, none), some (0, none), none, none], [], fun xs h => match xs with
  | [a1, a2] => M_finish_9 kr r2 a1 a2 (zhd h)
  | _ => none)]) (fun v h => kr v (zhd h)) (fun _ _ => none) 400 2 [some (2, 0), some (0, a1), none, none, none] [] (zM s) := by rfl
set_option maxRecDepth 100000 in
theorem qe_M_finish {ρ : Type} (kr : Int → zD → Option ρ) (s : zD) : M_finish  s kr = zseg zPP false zfinM (zcal []) (zget (999, 0, 0, 0) zc_M_finish) (zcut [(2, [true, true, false, false, false]), (9, [true, true, true, false, false]), (57, [true, true, true, false, false]), (58, [true, true, true, false, false]), (62, [true, true, true, true, true]), (95, [true, true, true, false, true]), (99, [true, true, true, false, true]), (100, [true, true, true, false, true]), (127, [true, true, true, false, false])]) (zorc [(2, [some (2, some 0), some (0, none), none, none, none], [], fun xs h => match xs with
  | [a1] => M_finish_2 kr a1 (zhd h)
  | _ => none)]) (fun v h => kr v (zhd h)) (fun _ _ => none) 400 0 [some (2, 0), none, none, none, none] [] (zM s) := by rfl
def zc_M_blockOf : List zI := [(1, 6, 0, 0), (999, 0, 0, 0), (10, 0, 0, 0), (32, 0, 0, 0), (10, 0, 1, 0), (30, 0, 0, 0), (130, 0, 0, 0)]
def M_blockOf {ρ : Type} (a0 a1 : Int) (s : zD) (kr : Int → zD → Option ρ) : Option ρ :=
kr (wr ((wr (6 * a0)) + a1)) s
set_option maxRecDepth 100000 in
theorem qe_M_blockOf {ρ : Type} (kr : Int → zD → Option ρ) (a0 a1 : Int) (s : zD) : M_blockOf a0 a1 s kr = zseg zPP false zfinM (zcal []) (zget (999, 0, 0, 0) zc_M_blockOf) (zcut []) (zorc []) (fun v h => kr v (zhd h)) (fun _ _ => none) 400 0 [some (0, a0), some (0, a1)] [] (zM s) := by rfl
def zc_M_groupsOf : List zI := [(14, 0, 0, 0), (80, 12, 55, 18), (999, 0, 0, 0), (999, 0, 0, 0), (10, 0, 1, 0), (90, 0, 0, 0), (113, 0, 211, 65), (999, 0, 0, 0), (999, 0, 0, 0), (130, 0, 0, 0)]
def M_groupsOf {ρ : Type} (a1 : Int) (s : zD) (kr : Int → zD → Option ρ) : Option ρ :=
zix 12 a1 fun j1 =>
M_groupsFor (s 14 j1) s  fun v2 s3 =>
kr v2 s3
set_option maxRecDepth 100000 in
theorem qe_M_groupsOf {ρ : Type} (kr : Int → zD → Option ρ) (a1 : Int) (s : zD) : M_groupsOf a1 s kr = zseg zPP false zfinM (zcal [(65, [none], fun xs h kr kt => match xs with
  | [x0] => M_groupsFor x0 (zhd h) (fun v s => kr v (zM s))
  | _ => none)]) (zget (999, 0, 0, 0) zc_M_groupsOf) (zcut []) (zorc []) (fun v h => kr v (zhd h)) (fun _ _ => none) 400 0 [some (2, 0), some (0, a1)] [] (zM s) := by rfl
def zc_M_removeGroup : List zI := [(14, 0, 0, 0), (80, 12, 115, 38), (999, 0, 0, 0), (999, 0, 0, 0), (10, 0, 1, 0), (51, 0, 0, 0), (90, 0, 0, 0), (0, 1, 0, 0), (31, 0, 0, 0), (95, 0, 0, 0), (0, 4, 0, 0), (10, 0, 1, 0), (32, 0, 0, 0), (10, 0, 2, 0), (30, 0, 0, 0), (16, 0, 3, 0), (10, 0, 3, 0), (0, 4, 0, 0), (10, 0, 1, 0), (32, 0, 0, 0), (14, 0, 0, 0), (80, 12, 115, 38), (999, 0, 0, 0), (999, 0, 0, 0), (10, 0, 1, 0), (90, 0, 0, 0), (30, 0, 0, 0), (69, 128, 155, 0), (999, 0, 0, 0), (999, 0, 0, 0), (14, 0, 0, 0), (80, 12, 118, 39), (999, 0, 0, 0), (999, 0, 0, 0), (10, 0, 3, 0), (14, 0, 0, 0), (80, 12, 118, 39), (999, 0, 0, 0), (999, 0, 0, 0), (10, 0, 3, 0), (0, 1, 0, 0), (30, 0, 0, 0), (90, 0, 0, 0), (95, 0, 0, 0), (14, 0, 0, 0), (80, 12, 121, 40), (999, 0, 0, 0), (999, 0, 0, 0), (10, 0, 3, 0), (14, 0, 0, 0), (80, 12, 121, 40), (999, 0, 0, 0), (999, 0, 0, 0), (10, 0, 3, 0), (0, 1, 0, 0), (30, 0, 0, 0), (90, 0, 0, 0), (95, 0, 0, 0), (14, 0, 0, 0), (80, 12, 124, 41), (999, 0, 0, 0), (999, 0, 0, 0), (10, 0, 3, 0), (14, 0, 0, 0), (80, 12, 124, 41), (999, 0, 0, 0), (999, 0, 0, 0), (10, 0, 3, 0), (0, 1, 0, 0), (30, 0, 0, 0), (90, 0, 0, 0), (95, 0, 0, 0), (14, 0, 0, 0), (80, 12, 127, 42), (999, 0, 0, 0), (999, 0, 0, 0), (10, 0, 3, 0), (14, 0, 0, 0), (80, 12, 127, 42), (999, 0, 0, 0), (999, 0, 0, 0), (10, 0, 3, 0), (0, 1, 0, 0), (30, 0, 0, 0), (90, 0, 0, 0), (95, 0, 0, 0), (0, 0, 0, 0), (17, 0, 4, 0), (999, 0, 0, 0), (11, 0, 4, 0), (999, 0, 0, 0), (0, 4, 0, 0), (69, 57, 149, 0), (999, 0, 0, 0), (999, 0, 0, 0), (14, 0, 0, 0), (80, 12, 130, 43), (999, 0, 0, 0), (999, 0, 0, 0), (0, 4, 0, 0), (10, 0, 3, 0), (32, 0, 0, 0), (11, 0, 4, 0), (999, 0, 0, 0), (30, 0, 0, 0), (14, 0, 0, 0), (80, 12, 130, 43), (999, 0, 0, 0), (999, 0, 0, 0), (0, 4, 0, 0), (10, 0, 3, 0), (32, 0, 0, 0), (0, 4, 0, 0), (30, 0, 0, 0), (11, 0, 4, 0), (999, 0, 0, 0), (30, 0, 0, 0), (90, 0, 0, 0), (95, 0, 0, 0), (14, 0, 0, 0), (80, 12, 133, 44), (999, 0, 0, 0), (999, 0, 0, 0), (0, 4, 0, 0), (10, 0, 3, 0), (32, 0, 0, 0), (11, 0, 4, 0), (999, 0, 0, 0), (30, 0, 0, 0), (14, 0, 0, 0), (80, 12, 133, 44), (999, 0, 0, 0), (999, 0, 0, 0), (0, 4, 0, 0), (10, 0, 3, 0), (32, 0, 0, 0), (0, 4, 0, 0), (30, 0, 0, 0), (11, 0, 4, 0), (999, 0, 0, 0), (30, 0, 0, 0), (90, 0, 0, 0), (95, 0, 0, 0), (22, 1, 4, 0), (999, 0, 0, 0), (999, 0, 0, 0), (72, (-57), 89, 0), (999, 0, 0, 0), (999, 0, 0, 0), (22, 1, 3, 0), (999, 0, 0, 0), (999, 0, 0, 0), (72, (-136), 16, 0), (999, 0, 0, 0), (999, 0, 0, 0), (133, 0, 0, 0)]
def M_removeGroup_89b {ρ : Type} (kr : Int → zD → Option ρ) (r16 : Int → Int → zD → Option ρ) (r89 : Int → Int → Int → zD → Option ρ) (a1 a3 a4 : Int) (s : zD) : Option ρ :=
if a4 < 4 then (zix 32 (wr ((wr ((wr (4 * a3)) + 4)) + a4)) fun j1 =>
zix 32 (wr ((wr (4 * a3)) + a4)) fun j2 =>
zlet (zup s 39 j2 (s 39 j1)) fun s3 =>
zix 32 (wr ((wr ((wr (4 * a3)) + 4)) + a4)) fun j4 =>
zix 32 (wr ((wr (4 * a3)) + a4)) fun j5 =>
zlet (zup s3 40 j5 (s3 40 j4)) fun s6 =>
r89 a1 a3 (wr (a4 + 1)) s6)
else r16 a1 (wr (a3 + 1)) s
def M_removeGroup_89 {ρ : Type} (kr : Int → zD → Option ρ) (r16 : Int → Int → zD → Option ρ) : Int → Int → Int → zD → Option ρ := zit (fun _ _ _ _ => none) (M_removeGroup_89b kr r16) zN
def M_removeGroup_16b {ρ : Type} (kr : Int → zD → Option ρ) (r16 : Int → Int → zD → Option ρ) (a1 a3 : Int) (s : zD) : Option ρ :=
zix 2 a1 fun j1 =>
if a3 < (wr ((wr (4 * a1)) + (s 34 j1))) then (zix 8 (wr (a3 + 1)) fun j2 =>
zix 8 a3 fun j3 =>
zlet (zup s 35 j3 (s 35 j2)) fun s4 =>
zix 8 (wr (a3 + 1)) fun j5 =>
zix 8 a3 fun j6 =>
zlet (zup s4 36 j6 (s4 36 j5)) fun s7 =>
zix 8 (wr (a3 + 1)) fun j8 =>
zix 8 a3 fun j9 =>
zlet (zup s7 37 j9 (s7 37 j8)) fun s10 =>
zix 8 (wr (a3 + 1)) fun j11 =>
zix 8 a3 fun j12 =>
zlet (zup s10 38 j12 (s10 38 j11)) fun s13 =>
M_removeGroup_89 kr r16 a1 a3 0 s13)
else kr 0 s
def M_removeGroup_16 {ρ : Type} (kr : Int → zD → Option ρ) : Int → Int → zD → Option ρ := zit (fun _ _ _ => none) (M_removeGroup_16b kr) zN
def M_removeGroup {ρ : Type} (a1 a2 : Int) (s : zD) (kr : Int → zD → Option ρ) : Option ρ :=
zix 2 a1 fun j1 =>
zix 2 a1 fun j2 =>
zlet (zup s 34 j2 (wr ((s 34 j1) - 1))) fun s3 =>
M_removeGroup_16 kr a1 (wr ((wr (4 * a1)) + a2)) s3
set_option maxRecDepth 100000 in
theorem qe_M_removeGroup_89b {ρ : Type} (kr : Int → zD → Option ρ) (r16 : Int → Int → zD → Option ρ) (r89 : Int → Int → Int → zD → Option ρ) (a1 a3 a4 : Int) (s : zD) : M_removeGroup_89b kr r16 r89 a1 a3 a4 s = zseg zPP false zfinM (zcal []) (zget (999, 0, 0, 0) zc_M_removeGroup) (zcut [(16, [true, true, false, true, false]), (89, [true, true, false, true, true])]) (zorc [(16, [some (2, some 0), some (0, none), none, some (0, none), none], [], fun xs h => match xs with
  | [a1, a3] => r16 a1 a3 (zhd h)
  | _ => none), (89, [some (2, some 0), some (0, none), none, some (0, none), some (0, none)], [], fun xs h => match xs with
  | [a1, a3, a4] => r89 a1 a3 a4 (zhd h)
  | _ => none)]) (fun v h => kr v (zhd h)) (fun _ _ => none) 400 89 [some (2, 0), some (0, a1), none, some (0, a3), some (0, a4)] [] (zM s) := by rfl
set_option maxRecDepth 100000 in
theorem qe_M_removeGroup_16b {ρ : Type} (kr : Int → zD → Option ρ) (r16 : Int → Int → zD → Option ρ) (a1 a3 : Int) (s : zD) : M_removeGroup_16b kr r16 a1 a3 s = zseg zPP false zfinM (zcal []) (zget (999, 0, 0, 0) zc_M_removeGroup) (zcut [(16, [true, true, false, true, false]), (89, [true, true, false, true, true])]) (zorc [(89, [some (2, some 0), some (0, none), none, some (0, none), some (0, none)], [], fun xs h => match xs with
  | [a1, a3, a4] => M_removeGroup_89 kr r16 a1 a3 a4 (zhd h)
  | _ => none)]) (fun v h => kr v (zhd h)) (fun _ _ => none) 400 16 [some (2, 0), some (0, a1), none, some (0, a3), none] [] (zM s) := by rfl
set_option maxRecDepth 100000 in
theorem qe_M_removeGroup {ρ : Type} (kr : Int → zD → Option ρ) (a1 a2 : Int) (s : zD) : M_removeGroup a1 a2 s kr = zseg zPP false zfinM (zcal []) (zget (999, 0, 0, 0) zc_M_removeGroup) (zcut [(16, [true, true, false, true, false]), (89, [true, true, false, true, true])]) (zorc [(16, [some (2, some 0), some (0, none), none, some (0, none), none], [], fun xs h => match xs with
  | [a1, a3] => M_removeGroup_16 kr a1 a3 (zhd h)
  | _ => none)]) (fun v h => kr v (zhd h)) (fun _ _ => none) 400 0 [some (2, 0), some (0, a1), some (0, a2), none, none] [] (zM s) := by rfl
def zc_M_leave : List zI := [(14, 0, 0, 0), (80, 12, 100, 33), (999, 0, 0, 0), (999, 0, 0, 0), (10, 0, 1, 0), (90, 0, 0, 0), (16, 0, 2, 0), (14, 0, 0, 0), (80, 12, 115, 38), (999, 0, 0, 0), (999, 0, 0, 0), (10, 0, 2, 0), (90, 0, 0, 0), (0, 1, 0, 0), (31, 0, 0, 0), (16, 0, 3, 0), (10, 0, 3, 0), (62, 29, 46, 0), (999, 0, 0, 0), (999, 0, 0, 0), (14, 0, 0, 0), (80, 12, 118, 39), (999, 0, 0, 0), (999, 0, 0, 0), (0, 4, 0, 0), (10, 0, 2, 0), (32, 0, 0, 0), (10, 0, 3, 0), (30, 0, 0, 0), (90, 0, 0, 0), (10, 0, 1, 0), (67, 9, 40, 0), (999, 0, 0, 0), (999, 0, 0, 0), (14, 0, 0, 0), (10, 0, 2, 0), (10, 0, 3, 0), (110, 0, 238, 83), (999, 0, 0, 0), (999, 0, 0, 0), (22, (-1), 3, 0), (999, 0, 0, 0), (999, 0, 0, 0), (72, (-27), 16, 0), (999, 0, 0, 0), (999, 0, 0, 0), (14, 0, 0, 0), (80, 12, 136, 45), (999, 0, 0, 0), (999, 0, 0, 0), (10, 0, 2, 0), (90, 0, 0, 0), (10, 0, 1, 0), (67, 10, 63, 0), (999, 0, 0, 0), (999, 0, 0, 0), (14, 0, 0, 0), (80, 12, 136, 45), (999, 0, 0, 0), (999, 0, 0, 0), (10, 0, 2, 0), (0, (-1), 0, 0), (95, 0, 0, 0), (14, 0, 0, 0), (80, 12, 97, 32), (999, 0, 0, 0), (999, 0, 0, 0), (10, 0, 1, 0), (0, 0, 0, 0), (96, 0, 0, 0), (133, 0, 0, 0)]
def M_leave_40 {ρ : Type} (kr : Int → zD → Option ρ) (r16 : Int → Int → Int → zD → Option ρ) (a1 a2 a3 : Int) (s : zD) : Option ρ :=
r16 a1 a2 (wr (a3 + (-1))) s
def M_leave_63 {ρ : Type} (kr : Int → zD → Option ρ) (a1 : Int) (s : zD) : Option ρ :=
zix 72 a1 fun j1 =>
zlet (zup s 28 j1 0) fun s2 =>
kr 0 s2
def M_leave_16b {ρ : Type} (kr : Int → zD → Option ρ) (r16 : Int → Int → Int → zD → Option ρ) (a1 a2 a3 : Int) (s : zD) : Option ρ :=
if a3 < 0 then (zix 2 a2 fun j1 =>
if (s 41 j1) = a1 then (zix 2 a2 fun j2 =>
zlet (zup s 41 j2 (-1)) fun s3 =>
M_leave_63 kr a1 s3)
else M_leave_63 kr a1 s)
else zix 8 (wr ((wr (4 * a2)) + a3)) fun j4 =>
if (s 35 j4) = a1 then (M_removeGroup a2 a3 s  fun _ s6 =>
M_leave_40 kr r16 a1 a2 a3 s6)
else M_leave_40 kr r16 a1 a2 a3 s
def M_leave_16 {ρ : Type} (kr : Int → zD → Option ρ) : Int → Int → Int → zD → Option ρ := zit (fun _ _ _ _ => none) (M_leave_16b kr) zN
def M_leave {ρ : Type} (a1 : Int) (s : zD) (kr : Int → zD → Option ρ) : Option ρ :=
zix 72 a1 fun j1 =>
zix 2 (s 29 j1) fun j2 =>
M_leave_16 kr a1 (s 29 j1) (wr ((s 34 j2) - 1)) s
set_option maxRecDepth 100000 in
theorem qe_M_leave_40 {ρ : Type} (kr : Int → zD → Option ρ) (r16 : Int → Int → Int → zD → Option ρ) (a1 a2 a3 : Int) (s : zD) : M_leave_40 kr r16 a1 a2 a3 s = zseg zPP false zfinM (zcal []) (zget (999, 0, 0, 0) zc_M_leave) (zcut [(16, [true, true, true, true]), (40, [true, true, true, true]), (63, [true, true, false, false])]) (zorc [(16, [some (2, some 0), some (0, none), some (0, none), some (0, none)], [], fun xs h => match xs with
  | [a1, a2, a3] => r16 a1 a2 a3 (zhd h)
  | _ => none)]) (fun v h => kr v (zhd h)) (fun _ _ => none) 400 40 [some (2, 0), some (0, a1), some (0, a2), some (0, a3)] [] (zM s) := by rfl
set_option maxRecDepth 100000 in
theorem qe_M_leave_63 {ρ : Type} (kr : Int → zD → Option ρ) (a1 : Int) (s : zD) : M_leave_63 kr a1 s = zseg zPP false zfinM (zcal []) (zget (999, 0, 0, 0) zc_M_leave) (zcut [(16, [true, true, true, true]), (40, [true, true, true, true]), (63, [true, true, false, false])]) (zorc []) (fun v h => kr v (zhd h)) (fun _ _ => none) 400 63 [some (2, 0), some (0, a1), none, none] [] (zM s) := by rfl
set_option maxRecDepth 100000 in
theorem qe_M_leave_16b {ρ : Type} (kr : Int → zD → Option ρ) (r16 : Int → Int → Int → zD → Option ρ) (a1 a2 a3 : Int) (s : zD) : M_leave_16b kr r16 a1 a2 a3 s = zseg zPP false zfinM (zcal [(83, [some 0, none, none], fun xs h kr kt => match xs with
  | [x0, x1] => M_removeGroup x0 x1 (zhd h) (fun v s => kr v (zM s))
  | _ => none)]) (zget (999, 0, 0, 0) zc_M_leave) (zcut [(16, [true, true, true, true]), (40, [true, true, true, true]), (63, [true, true, false, false])]) (zorc [(40, [some (2, some 0), some (0, none), some (0, none), some (0, none)], [], fun xs h => match xs with
  | [a1, a2, a3] => M_leave_40 kr r16 a1 a2 a3 (zhd h)
  | _ => none), (63, [some (2, some 0), some (0, none), none, none], [], fun xs h => match xs with
  | [a1] => M_leave_63 kr a1 (zhd h)
  | _ => none)]) (fun v h => kr v (zhd h)) (fun _ _ => none) 400 16 [some (2, 0), some (0, a1), some (0, a2), some (0, a3)] [] (zM s) := by rfl
set_option maxRecDepth 100000 in
theorem qe_M_leave {ρ : Type} (kr : Int → zD → Option ρ) (a1 : Int) (s : zD) : M_leave a1 s kr = zseg zPP false zfinM (zcal []) (zget (999, 0, 0, 0) zc_M_leave) (zcut [(16, [true, true, true, true]), (40, [true, true, true, true]), (63, [true, true, false, false])]) (zorc [(16, [some (2, some 0), some (0, none), some (0, none), some (0, none)], [], fun xs h => match xs with
  | [a1, a2, a3] => M_leave_16 kr a1 a2 a3 (zhd h)
  | _ => none)]) (fun v h => kr v (zhd h)) (fun _ _ => none) 400 0 [some (2, 0), some (0, a1), none, none] [] (zM s) := by rfl
def zc_M_fail : List zI := [(14, 0, 0, 0), (80, 12, 43, 14), (999, 0, 0, 0), (999, 0, 0, 0), (10, 0, 1, 0), (92, 0, 0, 0), (1, 114, 0, 0), (999, 0, 0, 0), (66, 4, 12, 0), (999, 0, 0, 0), (999, 0, 0, 0), (133, 0, 0, 0), (14, 0, 0, 0), (80, 12, 43, 14), (999, 0, 0, 0), (999, 0, 0, 0), (10, 0, 1, 0), (1, 102, 0, 0), (999, 0, 0, 0), (97, 0, 0, 0), (14, 0, 0, 0), (80, 12, 88, 29), (999, 0, 0, 0), (999, 0, 0, 0), (10, 0, 1, 0), (10, 0, 2, 0), (97, 0, 0, 0), (14, 0, 0, 0), (80, 12, 91, 30), (999, 0, 0, 0), (999, 0, 0, 0), (10, 0, 1, 0), (2, 10000, 0, 0), (999, 0, 0, 0), (999, 0, 0, 0), (10, 0, 3, 0), (32, 0, 0, 0), (1, 100, 0, 0), (999, 0, 0, 0), (11, 0, 4, 0), (999, 0, 0, 0), (32, 0, 0, 0), (30, 0, 0, 0), (11, 0, 5, 0), (999, 0, 0, 0), (30, 0, 0, 0), (95, 0, 0, 0), (0, 0, 0, 0), (17, 0, 6, 0), (999, 0, 0, 0), (11, 0, 6, 0), (999, 0, 0, 0), (14, 0, 0, 0), (80, 12, 52, 17), (999, 0, 0, 0), (999, 0, 0, 0), (10, 0, 1, 0), (90, 0, 0, 0), (69, 33, 91, 0), (999, 0, 0, 0), (999, 0, 0, 0), (14, 0, 0, 0), (80, 12, 97, 32), (999, 0, 0, 0), (999, 0, 0, 0), (10, 0, 1, 0), (11, 0, 6, 0), (999, 0, 0, 0), (113, 0, 242, 81), (999, 0, 0, 0), (999, 0, 0, 0), (91, 0, 0, 0), (60, 13, 85, 0), (999, 0, 0, 0), (999, 0, 0, 0), (14, 0, 0, 0), (10, 0, 1, 0), (11, 0, 6, 0), (999, 0, 0, 0), (113, 0, 242, 81), (999, 0, 0, 0), (999, 0, 0, 0), (110, 0, 245, 84), (999, 0, 0, 0), (999, 0, 0, 0), (22, 1, 6, 0), (999, 0, 0, 0), (999, 0, 0, 0), (72, (-38), 50, 0), (999, 0, 0, 0), (999, 0, 0, 0), (133, 0, 0, 0)]
def M_fail_85 {ρ : Type} (kr : Int → zD → Option ρ) (r50 : Int → Int → zD → Option ρ) (a1 a6 : Int) (s : zD) : Option ρ :=
r50 a1 (wr (a6 + 1)) s
def M_fail_50b {ρ : Type} (kr : Int → zD → Option ρ) (r50 : Int → Int → zD → Option ρ) (a1 a6 : Int) (s : zD) : Option ρ :=
zix 12 a1 fun j1 =>
if a6 < (s 13 j1) then (M_blockOf a1 a6 s  fun v2 s3 =>
zix 72 v2 fun j4 =>
if (s3 28 j4) = 0 then M_fail_85 kr r50 a1 a6 s3
else M_blockOf a1 a6 s3  fun v5 s6 =>
M_leave v5 s6  fun _ s8 =>
M_fail_85 kr r50 a1 a6 s8)
else kr 0 s
def M_fail_50 {ρ : Type} (kr : Int → zD → Option ρ) : Int → Int → zD → Option ρ := zit (fun _ _ _ => none) (M_fail_50b kr) zN
def M_fail {ρ : Type} (a1 a2 a3 a4 a5 : Int) (s : zD) (kr : Int → zD → Option ρ) : Option ρ :=
zix 12 a1 fun j1 =>
if (s 10 j1) = 114 then (zix 12 a1 fun j2 =>
zlet (zup s 10 j2 102) fun s3 =>
zix 12 a1 fun j4 =>
znar 2 a2 fun x5 =>
zlet (zup s3 25 j4 x5) fun s6 =>
zix 12 a1 fun j7 =>
zlet (zup s6 26 j7 (wr ((wr ((wr (10000 * a3)) + (wr (100 * a4)))) + a5))) fun s8 =>
M_fail_50 kr a1 0 s8)
else kr 0 s
set_option maxRecDepth 100000 in
theorem qe_M_fail_85 {ρ : Type} (kr : Int → zD → Option ρ) (r50 : Int → Int → zD → Option ρ) (a1 a6 : Int) (s : zD) : M_fail_85 kr r50 a1 a6 s = zseg zPP false zfinM (zcal []) (zget (999, 0, 0, 0) zc_M_fail) (zcut [(50, [true, true, false, false, false, false, true]), (85, [true, true, false, false, false, false, true])]) (zorc [(50, [some (2, some 0), some (0, none), none, none, none, none, some (0, none)], [], fun xs h => match xs with
  | [a1, a6] => r50 a1 a6 (zhd h)
  | _ => none)]) (fun v h => kr v (zhd h)) (fun _ _ => none) 400 85 [some (2, 0), some (0, a1), none, none, none, none, some (0, a6)] [] (zM s) := by rfl
set_option maxRecDepth 100000 in
theorem qe_M_fail_50b {ρ : Type} (kr : Int → zD → Option ρ) (r50 : Int → Int → zD → Option ρ) (a1 a6 : Int) (s : zD) : M_fail_50b kr r50 a1 a6 s = zseg zPP false zfinM (zcal [(81, [none, none], fun xs h kr kt => match xs with
  | [x0, x1] => M_blockOf x0 x1 (zhd h) (fun v s => kr v (zM s))
  | _ => none), (84, [some 0, none], fun xs h kr kt => match xs with
  | [x0] => M_leave x0 (zhd h) (fun v s => kr v (zM s))
  | _ => none)]) (zget (999, 0, 0, 0) zc_M_fail) (zcut [(50, [true, true, false, false, false, false, true]), (85, [true, true, false, false, false, false, true])]) (zorc [(85, [some (2, some 0), some (0, none), none, none, none, none, some (0, none)], [], fun xs h => match xs with
  | [a1, a6] => M_fail_85 kr r50 a1 a6 (zhd h)
  | _ => none)]) (fun v h => kr v (zhd h)) (fun _ _ => none) 400 50 [some (2, 0), some (0, a1), none, none, none, none, some (0, a6)] [] (zM s) := by rfl
set_option maxRecDepth 100000 in
theorem qe_M_fail {ρ : Type} (kr : Int → zD → Option ρ) (a1 a2 a3 a4 a5 : Int) (s : zD) : M_fail a1 a2 a3 a4 a5 s kr = zseg zPP false zfinM (zcal []) (zget (999, 0, 0, 0) zc_M_fail) (zcut [(50, [true, true, false, false, false, false, true]), (85, [true, true, false, false, false, false, true])]) (zorc [(50, [some (2, some 0), some (0, none), none, none, none, none, some (0, none)], [], fun xs h => match xs with
  | [a1, a6] => M_fail_50 kr a1 a6 (zhd h)
  | _ => none)]) (fun v h => kr v (zhd h)) (fun _ _ => none) 400 0 [some (2, 0), some (0, a1), some (0, a2), some (0, a3), some (0, a4), some (0, a5), none] [] (zM s) := by rfl
def zc_M_threadCell : List zI := [(1, 16, 0, 0), (999, 0, 0, 0), (10, 0, 1, 0), (32, 0, 0, 0), (10, 0, 2, 0), (30, 0, 0, 0), (130, 0, 0, 0)]
def M_threadCell {ρ : Type} (a1 a2 : Int) (s : zD) (kr : Int → zD → Option ρ) : Option ρ :=
kr (wr ((wr (16 * a1)) + a2)) s
set_option maxRecDepth 100000 in
theorem qe_M_threadCell {ρ : Type} (kr : Int → zD → Option ρ) (a1 a2 : Int) (s : zD) : M_threadCell a1 a2 s kr = zseg zPP false zfinM (zcal []) (zget (999, 0, 0, 0) zc_M_threadCell) (zcut []) (zorc []) (fun v h => kr v (zhd h)) (fun _ _ => none) 400 0 [some (2, 0), some (0, a1), some (0, a2)] [] (zM s) := by rfl
def zc_M_count : List zI := [(0, 0, 0, 0), (16, 0, 3, 0), (0, 0, 0, 0), (17, 0, 4, 0), (999, 0, 0, 0), (11, 0, 4, 0), (999, 0, 0, 0), (14, 0, 0, 0), (80, 12, 55, 18), (999, 0, 0, 0), (999, 0, 0, 0), (10, 0, 1, 0), (1, 6, 0, 0), (999, 0, 0, 0), (33, 0, 0, 0), (90, 0, 0, 0), (69, 33, 49, 0), (999, 0, 0, 0), (999, 0, 0, 0), (10, 0, 3, 0), (14, 0, 0, 0), (80, 12, 103, 34), (999, 0, 0, 0), (999, 0, 0, 0), (14, 0, 0, 0), (10, 0, 1, 0), (11, 0, 4, 0), (999, 0, 0, 0), (110, 0, 249, 86), (999, 0, 0, 0), (999, 0, 0, 0), (92, 0, 0, 0), (10, 0, 2, 0), (67, 7, 40, 0), (999, 0, 0, 0), (999, 0, 0, 0), (0, 1, 0, 0), (72, 4, 41, 0), (999, 0, 0, 0), (999, 0, 0, 0), (0, 0, 0, 0), (30, 0, 0, 0), (16, 0, 3, 0), (22, 1, 4, 0), (999, 0, 0, 0), (999, 0, 0, 0), (72, (-41), 5, 0), (999, 0, 0, 0), (999, 0, 0, 0), (10, 0, 3, 0), (130, 0, 0, 0)]
def M_count_41 {ρ : Type} (kr : Int → zD → Option ρ) (r5 : Int → Int → Int → Int → zD → Option ρ) (a1 a2 a4 t0 t1 : Int) (s : zD) : Option ρ :=
r5 a1 a2 (wr (t1 + t0)) (wr (a4 + 1)) s
def M_count_5b {ρ : Type} (kr : Int → zD → Option ρ) (r5 : Int → Int → Int → Int → zD → Option ρ) (a1 a2 a3 a4 : Int) (s : zD) : Option ρ :=
zix 12 (wr (Int.tdiv a1 6)) fun j1 =>
if a4 < (s 14 j1) then (M_threadCell a1 a4 s  fun v2 s3 =>
zix 1152 v2 fun j4 =>
if (s3 30 j4) = a2 then M_count_41 kr r5 a1 a2 a4 1 a3 s3
else M_count_41 kr r5 a1 a2 a4 0 a3 s3)
else kr a3 s
def M_count_5 {ρ : Type} (kr : Int → zD → Option ρ) : Int → Int → Int → Int → zD → Option ρ := zit (fun _ _ _ _ _ => none) (M_count_5b kr) zN
def M_count {ρ : Type} (a1 a2 : Int) (s : zD) (kr : Int → zD → Option ρ) : Option ρ :=
M_count_5 kr a1 a2 0 0 s
set_option maxRecDepth 100000 in
theorem qe_M_count_41 {ρ : Type} (kr : Int → zD → Option ρ) (r5 : Int → Int → Int → Int → zD → Option ρ) (a1 a2 a4 t0 t1 : Int) (s : zD) : M_count_41 kr r5 a1 a2 a4 t0 t1 s = zseg zPP false zfinM (zcal []) (zget (999, 0, 0, 0) zc_M_count) (zcut [(5, [true, true, true, true, true]), (41, [true, true, true, false, true])]) (zorc [(5, [some (2, some 0), some (0, none), some (0, none), some (0, none), some (0, none)], [], fun xs h => match xs with
  | [a1, a2, a3, a4] => r5 a1 a2 a3 a4 (zhd h)
  | _ => none)]) (fun v h => kr v (zhd h)) (fun _ _ => none) 400 41 [some (2, 0), some (0, a1), some (0, a2), none, some (0, a4)] [(0, t0), (0, t1)] (zM s) := by rfl
set_option maxRecDepth 100000 in
theorem qe_M_count_5b {ρ : Type} (kr : Int → zD → Option ρ) (r5 : Int → Int → Int → Int → zD → Option ρ) (a1 a2 a3 a4 : Int) (s : zD) : M_count_5b kr r5 a1 a2 a3 a4 s = zseg zPP false zfinM (zcal [(86, [some 0, none, none], fun xs h kr kt => match xs with
  | [x0, x1] => M_threadCell x0 x1 (zhd h) (fun v s => kr v (zM s))
  | _ => none)]) (zget (999, 0, 0, 0) zc_M_count) (zcut [(5, [true, true, true, true, true]), (41, [true, true, true, false, true])]) (zorc [(41, [some (2, some 0), some (0, none), some (0, none), none, some (0, none)], [(0, none), (0, none)], fun xs h => match xs with
  | [a1, a2, a4, t0, t1] => M_count_41 kr r5 a1 a2 a4 t0 t1 (zhd h)
  | _ => none)]) (fun v h => kr v (zhd h)) (fun _ _ => none) 400 5 [some (2, 0), some (0, a1), some (0, a2), some (0, a3), some (0, a4)] [] (zM s) := by rfl
set_option maxRecDepth 100000 in
theorem qe_M_count {ρ : Type} (kr : Int → zD → Option ρ) (a1 a2 : Int) (s : zD) : M_count a1 a2 s kr = zseg zPP false zfinM (zcal []) (zget (999, 0, 0, 0) zc_M_count) (zcut [(5, [true, true, true, true, true]), (41, [true, true, true, false, true])]) (zorc [(5, [some (2, some 0), some (0, none), some (0, none), some (0, none), some (0, none)], [], fun xs h => match xs with
  | [a1, a2, a3, a4] => M_count_5 kr a1 a2 a3 a4 (zhd h)
  | _ => none)]) (fun v h => kr v (zhd h)) (fun _ _ => none) 400 0 [some (2, 0), some (0, a1), some (0, a2), none, none] [] (zM s) := by rfl
def zc_M_lookAt : List zI := [(10, 0, 1, 0), (1, 6, 0, 0), (999, 0, 0, 0), (33, 0, 0, 0), (16, 0, 2, 0), (14, 0, 0, 0), (80, 12, 97, 32), (999, 0, 0, 0), (999, 0, 0, 0), (10, 0, 1, 0), (91, 0, 0, 0), (60, 13, 24, 0), (999, 0, 0, 0), (999, 0, 0, 0), (14, 0, 0, 0), (10, 0, 1, 0), (1, 114, 0, 0), (999, 0, 0, 0), (110, 0, 252, 87), (999, 0, 0, 0), (999, 0, 0, 0), (65, 4, 25, 0), (999, 0, 0, 0), (999, 0, 0, 0), (133, 0, 0, 0), (14, 0, 0, 0), (10, 0, 1, 0), (1, 119, 0, 0), (999, 0, 0, 0), (110, 0, 252, 87), (999, 0, 0, 0), (999, 0, 0, 0), (61, 19, 51, 0), (999, 0, 0, 0), (999, 0, 0, 0), (14, 0, 0, 0), (80, 12, 73, 24), (999, 0, 0, 0), (999, 0, 0, 0), (10, 0, 2, 0), (51, 0, 0, 0), (90, 0, 0, 0), (0, 1, 0, 0), (30, 0, 0, 0), (95, 0, 0, 0), (14, 0, 0, 0), (10, 0, 1, 0), (110, 0, 245, 84), (999, 0, 0, 0), (999, 0, 0, 0), (133, 0, 0, 0), (0, (-1), 0, 0), (16, 0, 3, 0), (0, 1, 0, 0), (17, 0, 4, 0), (999, 0, 0, 0), (14, 0, 0, 0), (80, 12, 55, 18), (999, 0, 0, 0), (999, 0, 0, 0), (10, 0, 2, 0), (90, 0, 0, 0), (0, 1, 0, 0), (31, 0, 0, 0), (17, 0, 5, 0), (999, 0, 0, 0), (11, 0, 5, 0), (999, 0, 0, 0), (62, 71, 139, 0), (999, 0, 0, 0), (999, 0, 0, 0), (14, 0, 0, 0), (10, 0, 1, 0), (11, 0, 5, 0), (999, 0, 0, 0), (110, 0, 249, 86), (999, 0, 0, 0), (999, 0, 0, 0), (17, 0, 6, 0), (999, 0, 0, 0), (14, 0, 0, 0), (80, 12, 103, 34), (999, 0, 0, 0), (999, 0, 0, 0), (11, 0, 6, 0), (999, 0, 0, 0), (92, 0, 0, 0), (1, 119, 0, 0), (999, 0, 0, 0), (67, 44, 133, 0), (999, 0, 0, 0), (999, 0, 0, 0), (11, 0, 4, 0), (999, 0, 0, 0), (60, 33, 127, 0), (999, 0, 0, 0), (999, 0, 0, 0), (10, 0, 3, 0), (0, (-1), 0, 0), (66, 24, 123, 0), (999, 0, 0, 0), (999, 0, 0, 0), (14, 0, 0, 0), (80, 12, 106, 35), (999, 0, 0, 0), (999, 0, 0, 0), (11, 0, 6, 0), (999, 0, 0, 0), (90, 0, 0, 0), (14, 0, 0, 0), (80, 12, 106, 35), (999, 0, 0, 0), (999, 0, 0, 0), (14, 0, 0, 0), (10, 0, 1, 0), (10, 0, 3, 0), (110, 0, 249, 86), (999, 0, 0, 0), (999, 0, 0, 0), (90, 0, 0, 0), (67, 7, 127, 0), (999, 0, 0, 0), (999, 0, 0, 0), (0, 1, 0, 0), (72, 4, 128, 0), (999, 0, 0, 0), (999, 0, 0, 0), (0, 0, 0, 0), (17, 0, 4, 0), (999, 0, 0, 0), (11, 0, 5, 0), (999, 0, 0, 0), (16, 0, 3, 0), (22, (-1), 5, 0), (999, 0, 0, 0), (999, 0, 0, 0), (72, (-70), 66, 0), (999, 0, 0, 0), (999, 0, 0, 0), (11, 0, 4, 0), (999, 0, 0, 0), (61, 27, 168, 0), (999, 0, 0, 0), (999, 0, 0, 0), (14, 0, 0, 0), (10, 0, 2, 0), (1, 98, 0, 0), (999, 0, 0, 0), (10, 0, 1, 0), (1, 6, 0, 0), (999, 0, 0, 0), (34, 0, 0, 0), (10, 0, 3, 0), (14, 0, 0, 0), (80, 12, 106, 35), (999, 0, 0, 0), (999, 0, 0, 0), (14, 0, 0, 0), (10, 0, 1, 0), (10, 0, 3, 0), (110, 0, 249, 86), (999, 0, 0, 0), (999, 0, 0, 0), (90, 0, 0, 0), (110, 0, 256, 85), (999, 0, 0, 0), (999, 0, 0, 0), (133, 0, 0, 0), (14, 0, 0, 0), (50, 0, 0, 0), (80, 12, 260, 60), (999, 0, 0, 0), (999, 0, 0, 0), (0, 1, 0, 0), (30, 0, 0, 0), (82, 12, 260, 60), (999, 0, 0, 0), (999, 0, 0, 0), (14, 0, 0, 0), (80, 12, 94, 31), (999, 0, 0, 0), (999, 0, 0, 0), (10, 0, 1, 0), (51, 0, 0, 0), (90, 0, 0, 0), (0, 1, 0, 0), (30, 0, 0, 0), (95, 0, 0, 0), (0, 0, 0, 0), (17, 0, 5, 0), (999, 0, 0, 0), (11, 0, 5, 0), (999, 0, 0, 0), (14, 0, 0, 0), (80, 12, 55, 18), (999, 0, 0, 0), (999, 0, 0, 0), (10, 0, 2, 0), (90, 0, 0, 0), (69, 85, 284, 0), (999, 0, 0, 0), (999, 0, 0, 0), (14, 0, 0, 0), (10, 0, 1, 0), (11, 0, 5, 0), (999, 0, 0, 0), (110, 0, 249, 86), (999, 0, 0, 0), (999, 0, 0, 0), (17, 0, 6, 0), (999, 0, 0, 0), (14, 0, 0, 0), (80, 12, 103, 34), (999, 0, 0, 0), (999, 0, 0, 0), (11, 0, 6, 0), (999, 0, 0, 0), (92, 0, 0, 0), (1, 119, 0, 0), (999, 0, 0, 0), (67, 58, 278, 0), (999, 0, 0, 0), (999, 0, 0, 0), (14, 0, 0, 0), (80, 12, 103, 34), (999, 0, 0, 0), (999, 0, 0, 0), (11, 0, 6, 0), (999, 0, 0, 0), (1, 114, 0, 0), (999, 0, 0, 0), (97, 0, 0, 0), (14, 0, 0, 0), (80, 12, 106, 35), (999, 0, 0, 0), (999, 0, 0, 0), (11, 0, 6, 0), (999, 0, 0, 0), (51, 0, 0, 0), (90, 0, 0, 0), (0, 1, 0, 0), (30, 0, 0, 0), (95, 0, 0, 0), (14, 0, 0, 0), (80, 12, 103, 34), (999, 0, 0, 0), (999, 0, 0, 0), (11, 0, 6, 0), (999, 0, 0, 0), (14, 0, 0, 0), (80, 12, 106, 35), (999, 0, 0, 0), (999, 0, 0, 0), (11, 0, 6, 0), (999, 0, 0, 0), (90, 0, 0, 0), (14, 0, 0, 0), (80, 12, 23, 7), (999, 0, 0, 0), (999, 0, 0, 0), (14, 0, 0, 0), (80, 12, 46, 15), (999, 0, 0, 0), (999, 0, 0, 0), (10, 0, 2, 0), (90, 0, 0, 0), (90, 0, 0, 0), (68, 8, 275, 0), (999, 0, 0, 0), (999, 0, 0, 0), (1, 101, 0, 0), (999, 0, 0, 0), (72, 5, 277, 0), (999, 0, 0, 0), (999, 0, 0, 0), (1, 114, 0, 0), (999, 0, 0, 0), (97, 0, 0, 0), (22, 1, 5, 0), (999, 0, 0, 0), (999, 0, 0, 0), (72, (-90), 191, 0), (999, 0, 0, 0), (999, 0, 0, 0), (133, 0, 0, 0)]
def M_lookAt_24 {ρ : Type} (kr : Int → zD → Option ρ) (s : zD) : Option ρ :=
kr 0 s
def M_lookAt_133 {ρ : Type} (kr : Int → zD → Option ρ) (r66 : Int → Int → Int → Int → Int → zD → Option ρ) (a1 a2 a3 a4 a5 : Int) (s : zD) : Option ρ :=
r66 a1 a2 a3 a4 (wr (a5 + (-1))) s
def M_lookAt_128 {ρ : Type} (kr : Int → zD → Option ρ) (r66 : Int → Int → Int → Int → Int → zD → Option ρ) (a1 a2 a5 t0 : Int) (s : zD) : Option ρ :=
M_lookAt_133 kr r66 a1 a2 a5 t0 a5 s
def M_lookAt_123 {ρ : Type} (kr : Int → zD → Option ρ) (r66 : Int → Int → Int → Int → Int → zD → Option ρ) (a1 a2 a5 : Int) (s : zD) : Option ρ :=
M_lookAt_128 kr r66 a1 a2 a5 1 s
def M_lookAt_127 {ρ : Type} (kr : Int → zD → Option ρ) (r66 : Int → Int → Int → Int → Int → zD → Option ρ) (a1 a2 a5 : Int) (s : zD) : Option ρ :=
M_lookAt_128 kr r66 a1 a2 a5 0 s
def M_lookAt_278 {ρ : Type} (kr : Int → zD → Option ρ) (r191 : Int → Int → Int → zD → Option ρ) (a1 a2 a5 : Int) (s : zD) : Option ρ :=
r191 a1 a2 (wr (a5 + 1)) s
def M_lookAt_277 {ρ : Type} (kr : Int → zD → Option ρ) (r191 : Int → Int → Int → zD → Option ρ) (a1 a2 a5 t0 t1 : Int) (s : zD) : Option ρ :=
zix 1152 t1 fun j1 =>
znar 2 t0 fun x2 =>
zlet (zup s 30 j1 x2) fun s3 =>
M_lookAt_278 kr r191 a1 a2 a5 s3
def M_lookAt_191b {ρ : Type} (kr : Int → zD → Option ρ) (r191 : Int → Int → Int → zD → Option ρ) (a1 a2 a5 : Int) (s : zD) : Option ρ :=
zix 12 a2 fun j1 =>
if a5 < (s 14 j1) then (M_threadCell a1 a5 s  fun v2 s3 =>
zix 1152 v2 fun j4 =>
if (s3 30 j4) = 119 then (zix 1152 v2 fun j5 =>
zlet (zup s3 30 j5 114) fun s6 =>
zix 1152 v2 fun j7 =>
zix 1152 v2 fun j8 =>
zlet (zup s6 31 j8 (wr ((s6 31 j7) + 1))) fun s9 =>
zix 1152 v2 fun j10 =>
zix 12 a2 fun j11 =>
zix 4 (s9 11 j11) fun j12 =>
if (s9 31 j10) < (s9 4 j12) then M_lookAt_277 kr r191 a1 a2 a5 114 v2 s9
else M_lookAt_277 kr r191 a1 a2 a5 101 v2 s9)
else M_lookAt_278 kr r191 a1 a2 a5 s3)
else kr 0 s
def M_lookAt_191 {ρ : Type} (kr : Int → zD → Option ρ) : Int → Int → Int → zD → Option ρ := zit (fun _ _ _ _ => none) (M_lookAt_191b kr) zN
def M_lookAt_66b {ρ : Type} (kr : Int → zD → Option ρ) (r66 : Int → Int → Int → Int → Int → zD → Option ρ) (a1 a2 a3 a4 a5 : Int) (s : zD) : Option ρ :=
if a5 < 0 then (if a4 = 0 then (M_threadCell a1 a3 s  fun v5 s6 =>
zix 1152 v5 fun j7 =>
M_fail a2 98 (Int.tmod a1 6) a3 (s6 31 j7) s6  fun _ s9 =>
kr 0 s9)
else zlet (zup s 0 60 (wr ((s 0 60) + 1))) fun s1 =>
zix 72 a1 fun j2 =>
zix 72 a1 fun j3 =>
zlet (zup s1 27 j3 (wr ((s1 27 j2) + 1))) fun s4 =>
M_lookAt_191 kr a1 a2 0 s4)
else M_threadCell a1 a5 s  fun v10 s11 =>
zix 1152 v10 fun j12 =>
if (s11 30 j12) = 119 then (if a4 = 0 then M_lookAt_127 kr r66 a1 a2 a5 s11
else if a3 = (-1) then M_lookAt_123 kr r66 a1 a2 a5 s11
else zix 1152 v10 fun j13 =>
M_threadCell a1 a3 s11  fun v14 s15 =>
zix 1152 v14 fun j16 =>
if (s11 31 j13) = (s15 31 j16) then M_lookAt_123 kr r66 a1 a2 a5 s15
else M_lookAt_127 kr r66 a1 a2 a5 s15)
else M_lookAt_133 kr r66 a1 a2 a3 a4 a5 s11
def M_lookAt_66 {ρ : Type} (kr : Int → zD → Option ρ) : Int → Int → Int → Int → Int → zD → Option ρ := zit (fun _ _ _ _ _ _ => none) (M_lookAt_66b kr) zN
def M_lookAt {ρ : Type} (a1 : Int) (s : zD) (kr : Int → zD → Option ρ) : Option ρ :=
zix 72 a1 fun j1 =>
if (s 28 j1) = 0 then M_lookAt_24 kr s
else M_count a1 114 s  fun v2 s3 =>
if 0 < v2 then M_lookAt_24 kr s3
else M_count a1 119 s3  fun v4 s5 =>
if v4 = 0 then (zix 12 (wr (Int.tdiv a1 6)) fun j7 =>
zix 12 (wr (Int.tdiv a1 6)) fun j8 =>
zlet (zup s5 20 j8 (wr ((s5 20 j7) + 1))) fun s9 =>
M_leave a1 s9  fun _ s11 =>
kr 0 s11)
else zix 12 (wr (Int.tdiv a1 6)) fun j6 =>
M_lookAt_66 kr a1 (wr (Int.tdiv a1 6)) (-1) 1 (wr ((s5 14 j6) - 1)) s5
set_option maxRecDepth 100000 in
theorem qe_M_lookAt_24 {ρ : Type} (kr : Int → zD → Option ρ) (s : zD) : M_lookAt_24 kr s = zseg zPP false zfinM (zcal []) (zget (999, 0, 0, 0) zc_M_lookAt) (zcut [(24, [false, false, false, false, false, false, false]), (66, [true, true, true, true, true, true, false]), (123, [true, true, true, false, false, true, false]), (127, [true, true, true, false, false, true, false]), (128, [true, true, true, false, false, true, false]), (133, [true, true, true, true, true, true, false]), (191, [true, true, true, false, false, true, false]), (277, [true, true, true, false, false, true, false]), (278, [true, true, true, false, false, true, false])]) (zorc []) (fun v h => kr v (zhd h)) (fun _ _ => none) 400 24 [none, none, none, none, none, none, none] [] (zM s) := by rfl
set_option maxRecDepth 100000 in
theorem qe_M_lookAt_133 {ρ : Type} (kr : Int → zD → Option ρ) (r66 : Int → Int → Int → Int → Int → zD → Option ρ) (a1 a2 a3 a4 a5 : Int) (s : zD) : M_lookAt_133 kr r66 a1 a2 a3 a4 a5 s = zseg zPP false zfinM (zcal []) (zget (999, 0, 0, 0) zc_M_lookAt) (zcut [(24, [false, false, false, false, false, false, false]), (66, [true, true, true, true, true, true, false]), (123, [true, true, true, false, false, true, false]), (127, [true, true, true, false, false, true, false]), (128, [true, true, true, false, false, true, false]), (133, [true, true, true, true, true, true, false]), (191, [true, true, true, false, false, true, false]), (277, [true, true, true, false, false, true, false]), (278, [true, true, true, false, false, true, false])]) (zorc [(66, [some (2, some 0), some (0, none), some (0, none), some (0, none), some (0, none), some (0, none), none], [], fun xs h => match xs with
  | [a1, a2, a3, a4, a5] => r66 a1 a2 a3 a4 a5 (zhd h)
  | _ => none)]) (fun v h => kr v (zhd h)) (fun _ _ => none) 400 133 [some (2, 0), some (0, a1), some (0, a2), some (0, a3), some (0, a4), some (0, a5), none] [] (zM s) := by rfl
set_option maxRecDepth 100000 in
theorem qe_M_lookAt_128 {ρ : Type} (kr : Int → zD → Option ρ) (r66 : Int → Int → Int → Int → Int → zD → Option ρ) (a1 a2 a5 t0 : Int) (s : zD) : M_lookAt_128 kr r66 a1 a2 a5 t0 s = zseg zPP false zfinM (zcal []) (zget (999, 0, 0, 0) zc_M_lookAt) (zcut [(24, [false, false, false, false, false, false, false]), (66, [true, true, true, true, true, true, false]), (123, [true, true, true, false, false, true, false]), (127, [true, true, true, false, false, true, false]), (128, [true, true, true, false, false, true, false]), (133, [true, true, true, true, true, true, false]), (191, [true, true, true, false, false, true, false]), (277, [true, true, true, false, false, true, false]), (278, [true, true, true, false, false, true, false])]) (zorc [(133, [some (2, some 0), some (0, none), some (0, none), some (0, none), some (0, none), some (0, none), none], [], fun xs h => match xs with
  | [a1, a2, a3, a4, a5] => M_lookAt_133 kr r66 a1 a2 a3 a4 a5 (zhd h)
  | _ => none)]) (fun v h => kr v (zhd h)) (fun _ _ => none) 400 128 [some (2, 0), some (0, a1), some (0, a2), none, none, some (0, a5), none] [(0, t0)] (zM s) := by rfl
set_option maxRecDepth 100000 in
theorem qe_M_lookAt_123 {ρ : Type} (kr : Int → zD → Option ρ) (r66 : Int → Int → Int → Int → Int → zD → Option ρ) (a1 a2 a5 : Int) (s : zD) : M_lookAt_123 kr r66 a1 a2 a5 s = zseg zPP false zfinM (zcal []) (zget (999, 0, 0, 0) zc_M_lookAt) (zcut [(24, [false, false, false, false, false, false, false]), (66, [true, true, true, true, true, true, false]), (123, [true, true, true, false, false, true, false]), (127, [true, true, true, false, false, true, false]), (128, [true, true, true, false, false, true, false]), (133, [true, true, true, true, true, true, false]), (191, [true, true, true, false, false, true, false]), (277, [true, true, true, false, false, true, false]), (278, [true, true, true, false, false, true, false])]) (zorc [(128, [some (2, some 0), some (0, none), some (0, none), none, none, some (0, none), none], [(0, none)], fun xs h => match xs with
  | [a1, a2, a5, t0] => M_lookAt_128 kr r66 a1 a2 a5 t0 (zhd h)
  | _ => none)]) (fun v h => kr v (zhd h)) (fun _ _ => none) 400 123 [some (2, 0), some (0, a1), some (0, a2), none, none, some (0, a5), none] [] (zM s) := by rfl
set_option maxRecDepth 100000 in
theorem qe_M_lookAt_127 {ρ : Type} (kr : Int → zD → Option ρ) (r66 : Int → Int → Int → Int → Int → zD → Option ρ) (a1 a2 a5 : Int) (s : zD) : M_lookAt_127 kr r66 a1 a2 a5 s = zseg zPP false zfinM (zcal []) (zget (999, 0, 0, 0) zc_M_lookAt) (zcut [(24, [false, false, false, false, false, false, false]), (66, [true, true, true, true, true, true, false]), (123, [true, true, true, false, false, true, false]), (127, [true, true, true, false, false, true, false]), (128, [true, true, true, false, false, true, false]), (133, [true, true, true, true, true, true, false]), (191, [true, true, true, false, false, true, false]), (277, [true, true, true, false, false, true, false]), (278, [true, true, true, false, false, true, false])]) (zorc [(128, [some (2, some 0), some (0, none), some (0, none), none, none, some (0, none), none], [(0, none)], fun xs h => match xs with
  | [a1, a2, a5, t0] => M_lookAt_128 kr r66 a1 a2 a5 t0 (zhd h)
  | _ => none)]) (fun v h => kr v (zhd h)) (fun _ _ => none) 400 127 [some (2, 0), some (0, a1), some (0, a2), none, none, some (0, a5), none] [] (zM s) := by rfl
set_option maxRecDepth 100000 in
theorem qe_M_lookAt_278 {ρ : Type} (kr : Int → zD → Option ρ) (r191 : Int → Int → Int → zD → Option ρ) (a1 a2 a5 : Int) (s : zD) : M_lookAt_278 kr r191 a1 a2 a5 s = zseg zPP false zfinM (zcal []) (zget (999, 0, 0, 0) zc_M_lookAt) (zcut [(24, [false, false, false, false, false, false, false]), (66, [true, true, true, true, true, true, false]), (123, [true, true, true, false, false, true, false]), (127, [true, true, true, false, false, true, false]), (128, [true, true, true, false, false, true, false]), (133, [true, true, true, true, true, true, false]), (191, [true, true, true, false, false, true, false]), (277, [true, true, true, false, false, true, false]), (278, [true, true, true, false, false, true, false])]) (zorc [(191, [some (2, some 0), some (0, none), some (0, none), none, none, some (0, none), none], [], fun xs h => match xs with
  | [a1, a2, a5] => r191 a1 a2 a5 (zhd h)
  | _ => none)]) (fun v h => kr v (zhd h)) (fun _ _ => none) 400 278 [some (2, 0), some (0, a1), some (0, a2), none, none, some (0, a5), none] [] (zM s) := by rfl
set_option maxRecDepth 100000 in
theorem qe_M_lookAt_277 {ρ : Type} (kr : Int → zD → Option ρ) (r191 : Int → Int → Int → zD → Option ρ) (a1 a2 a5 t0 t1 : Int) (s : zD) : M_lookAt_277 kr r191 a1 a2 a5 t0 t1 s = zseg zPP false zfinM (zcal []) (zget (999, 0, 0, 0) zc_M_lookAt) (zcut [(24, [false, false, false, false, false, false, false]), (66, [true, true, true, true, true, true, false]), (123, [true, true, true, false, false, true, false]), (127, [true, true, true, false, false, true, false]), (128, [true, true, true, false, false, true, false]), (133, [true, true, true, true, true, true, false]), (191, [true, true, true, false, false, true, false]), (277, [true, true, true, false, false, true, false]), (278, [true, true, true, false, false, true, false])]) (zorc [(278, [some (2, some 0), some (0, none), some (0, none), none, none, some (0, none), none], [], fun xs h => match xs with
  | [a1, a2, a5] => M_lookAt_278 kr r191 a1 a2 a5 (zhd h)
  | _ => none)]) (fun v h => kr v (zhd h)) (fun _ _ => none) 400 277 [some (2, 0), some (0, a1), some (0, a2), none, none, some (0, a5), none] [(0, t0), (0, t1), (2, 30)] (zM s) := by rfl
set_option maxRecDepth 100000 in
theorem qe_M_lookAt_191b {ρ : Type} (kr : Int → zD → Option ρ) (r191 : Int → Int → Int → zD → Option ρ) (a1 a2 a5 : Int) (s : zD) : M_lookAt_191b kr r191 a1 a2 a5 s = zseg zPP false zfinM (zcal [(86, [some 0, none, none], fun xs h kr kt => match xs with
  | [x0, x1] => M_threadCell x0 x1 (zhd h) (fun v s => kr v (zM s))
  | _ => none)]) (zget (999, 0, 0, 0) zc_M_lookAt) (zcut [(24, [false, false, false, false, false, false, false]), (66, [true, true, true, true, true, true, false]), (123, [true, true, true, false, false, true, false]), (127, [true, true, true, false, false, true, false]), (128, [true, true, true, false, false, true, false]), (133, [true, true, true, true, true, true, false]), (191, [true, true, true, false, false, true, false]), (277, [true, true, true, false, false, true, false]), (278, [true, true, true, false, false, true, false])]) (zorc [(277, [some (2, some 0), some (0, none), some (0, none), none, none, some (0, none), none], [(0, none), (0, none), (2, some 30)], fun xs h => match xs with
  | [a1, a2, a5, t0, t1] => M_lookAt_277 kr r191 a1 a2 a5 t0 t1 (zhd h)
  | _ => none), (278, [some (2, some 0), some (0, none), some (0, none), none, none, some (0, none), none], [], fun xs h => match xs with
  | [a1, a2, a5] => M_lookAt_278 kr r191 a1 a2 a5 (zhd h)
  | _ => none)]) (fun v h => kr v (zhd h)) (fun _ _ => none) 400 191 [some (2, 0), some (0, a1), some (0, a2), none, none, some (0, a5), none] [] (zM s) := by rfl
set_option maxRecDepth 100000 in
theorem qe_M_lookAt_66b {ρ : Type} (kr : Int → zD → Option ρ) (r66 : Int → Int → Int → Int → Int → zD → Option ρ) (a1 a2 a3 a4 a5 : Int) (s : zD) : M_lookAt_66b kr r66 a1 a2 a3 a4 a5 s = zseg zPP false zfinM (zcal [(85, [some 0, none, none, none, none, none], fun xs h kr kt => match xs with
  | [x0, x1, x2, x3, x4] => M_fail x0 x1 x2 x3 x4 (zhd h) (fun v s => kr v (zM s))
  | _ => none), (86, [some 0, none, none], fun xs h kr kt => match xs with
  | [x0, x1] => M_threadCell x0 x1 (zhd h) (fun v s => kr v (zM s))
  | _ => none)]) (zget (999, 0, 0, 0) zc_M_lookAt) (zcut [(24, [false, false, false, false, false, false, false]), (66, [true, true, true, true, true, true, false]), (123, [true, true, true, false, false, true, false]), (127, [true, true, true, false, false, true, false]), (128, [true, true, true, false, false, true, false]), (133, [true, true, true, true, true, true, false]), (191, [true, true, true, false, false, true, false]), (277, [true, true, true, false, false, true, false]), (278, [true, true, true, false, false, true, false])]) (zorc [(123, [some (2, some 0), some (0, none), some (0, none), none, none, some (0, none), none], [], fun xs h => match xs with
  | [a1, a2, a5] => M_lookAt_123 kr r66 a1 a2 a5 (zhd h)
  | _ => none), (127, [some (2, some 0), some (0, none), some (0, none), none, none, some (0, none), none], [], fun xs h => match xs with
  | [a1, a2, a5] => M_lookAt_127 kr r66 a1 a2 a5 (zhd h)
  | _ => none), (133, [some (2, some 0), some (0, none), some (0, none), some (0, none), some (0, none), some (0, none), none], [], fun xs h => match xs with
  | [a1, a2, a3, a4, a5] => M_lookAt_133 kr r66 a1 a2 a3 a4 a5 (zhd h)
  | _ => none), (191, [some (2, some 0), some (0, none), some (0, none), none, none, some (0, none), none], [], fun xs h => match xs with
  | [a1, a2, a5] => M_lookAt_191 kr a1 a2 a5 (zhd h)
  | _ => none)]) (fun v h => kr v (zhd h)) (fun _ _ => none) 400 66 [some (2, 0), some (0, a1), some (0, a2), some (0, a3), some (0, a4), some (0, a5), none] [] (zM s) := by rfl
set_option maxRecDepth 100000 in
theorem qe_M_lookAt {ρ : Type} (kr : Int → zD → Option ρ) (a1 : Int) (s : zD) : M_lookAt a1 s kr = zseg zPP false zfinM (zcal [(84, [some 0, none], fun xs h kr kt => match xs with
  | [x0] => M_leave x0 (zhd h) (fun v s => kr v (zM s))
  | _ => none), (87, [some 0, none, none], fun xs h kr kt => match xs with
  | [x0, x1] => M_count x0 x1 (zhd h) (fun v s => kr v (zM s))
  | _ => none)]) (zget (999, 0, 0, 0) zc_M_lookAt) (zcut [(24, [false, false, false, false, false, false, false]), (66, [true, true, true, true, true, true, false]), (123, [true, true, true, false, false, true, false]), (127, [true, true, true, false, false, true, false]), (128, [true, true, true, false, false, true, false]), (133, [true, true, true, true, true, true, false]), (191, [true, true, true, false, false, true, false]), (277, [true, true, true, false, false, true, false]), (278, [true, true, true, false, false, true, false])]) (zorc [(24, [none, none, none, none, none, none, none], [], fun xs h => match xs with
  | [] => M_lookAt_24 kr  (zhd h)
  | _ => none), (66, [some (2, some 0), some (0, none), some (0, none), some (0, none), some (0, none), some (0, none), none], [], fun xs h => match xs with
  | [a1, a2, a3, a4, a5] => M_lookAt_66 kr a1 a2 a3 a4 a5 (zhd h)
  | _ => none)]) (fun v h => kr v (zhd h)) (fun _ _ => none) 400 0 [some (2, 0), some (0, a1), none, none, none, none, none] [] (zM s) := by rfl
def zc_M_hasEnded : List zI := [(14, 0, 0, 0), (80, 12, 118, 39), (999, 0, 0, 0), (999, 0, 0, 0), (10, 0, 1, 0), (90, 0, 0, 0), (16, 0, 2, 0), (0, 1, 0, 0), (16, 0, 3, 0), (0, 4, 0, 0), (14, 0, 0, 0), (80, 12, 121, 40), (999, 0, 0, 0), (999, 0, 0, 0), (10, 0, 1, 0), (90, 0, 0, 0), (32, 0, 0, 0), (17, 0, 4, 0), (999, 0, 0, 0), (11, 0, 4, 0), (999, 0, 0, 0), (0, 4, 0, 0), (14, 0, 0, 0), (80, 12, 121, 40), (999, 0, 0, 0), (999, 0, 0, 0), (10, 0, 1, 0), (90, 0, 0, 0), (32, 0, 0, 0), (0, 4, 0, 0), (30, 0, 0, 0), (69, 50, 81, 0), (999, 0, 0, 0), (999, 0, 0, 0), (11, 0, 4, 0), (999, 0, 0, 0), (14, 0, 0, 0), (80, 12, 55, 18), (999, 0, 0, 0), (999, 0, 0, 0), (10, 0, 2, 0), (1, 6, 0, 0), (999, 0, 0, 0), (33, 0, 0, 0), (90, 0, 0, 0), (69, 36, 81, 0), (999, 0, 0, 0), (999, 0, 0, 0), (10, 0, 3, 0), (60, 24, 73, 0), (999, 0, 0, 0), (999, 0, 0, 0), (14, 0, 0, 0), (80, 12, 103, 34), (999, 0, 0, 0), (999, 0, 0, 0), (14, 0, 0, 0), (10, 0, 2, 0), (11, 0, 4, 0), (999, 0, 0, 0), (110, 0, 249, 86), (999, 0, 0, 0), (999, 0, 0, 0), (92, 0, 0, 0), (1, 101, 0, 0), (999, 0, 0, 0), (67, 7, 73, 0), (999, 0, 0, 0), (999, 0, 0, 0), (0, 1, 0, 0), (72, 4, 74, 0), (999, 0, 0, 0), (999, 0, 0, 0), (0, 0, 0, 0), (16, 0, 3, 0), (22, 1, 4, 0), (999, 0, 0, 0), (999, 0, 0, 0), (72, (-59), 19, 0), (999, 0, 0, 0), (999, 0, 0, 0), (10, 0, 3, 0), (130, 0, 1, 0)]
def M_hasEnded_74 {ρ : Type} (kr : Int → zD → Option ρ) (r19 : Int → Int → Int → Int → zD → Option ρ) (a1 a2 a4 t0 : Int) (s : zD) : Option ρ :=
r19 a1 a2 t0 (wr (a4 + 1)) s
def M_hasEnded_73 {ρ : Type} (kr : Int → zD → Option ρ) (r19 : Int → Int → Int → Int → zD → Option ρ) (a1 a2 a4 : Int) (s : zD) : Option ρ :=
M_hasEnded_74 kr r19 a1 a2 a4 0 s
def M_hasEnded_81 {ρ : Type} (kr : Int → zD → Option ρ) (a3 : Int) (s : zD) : Option ρ :=
znar 1 a3 fun x1 => kr x1 s
def M_hasEnded_19b {ρ : Type} (kr : Int → zD → Option ρ) (r19 : Int → Int → Int → Int → zD → Option ρ) (a1 a2 a3 a4 : Int) (s : zD) : Option ρ :=
zix 8 a1 fun j1 =>
if a4 < (wr ((wr (4 * (s 36 j1))) + 4)) then (zix 12 (wr (Int.tdiv a2 6)) fun j2 =>
if a4 < (s 14 j2) then (if a3 = 0 then M_hasEnded_73 kr r19 a1 a2 a4 s
else M_threadCell a2 a4 s  fun v3 s4 =>
zix 1152 v3 fun j5 =>
if (s4 30 j5) = 101 then M_hasEnded_74 kr r19 a1 a2 a4 1 s4
else M_hasEnded_73 kr r19 a1 a2 a4 s4)
else M_hasEnded_81 kr a3 s)
else M_hasEnded_81 kr a3 s
def M_hasEnded_19 {ρ : Type} (kr : Int → zD → Option ρ) : Int → Int → Int → Int → zD → Option ρ := zit (fun _ _ _ _ _ => none) (M_hasEnded_19b kr) zN
def M_hasEnded {ρ : Type} (a1 : Int) (s : zD) (kr : Int → zD → Option ρ) : Option ρ :=
zix 8 a1 fun j1 =>
zix 8 a1 fun j2 =>
M_hasEnded_19 kr a1 (s 35 j1) 1 (wr (4 * (s 36 j2))) s
set_option maxRecDepth 100000 in
theorem qe_M_hasEnded_74 {ρ : Type} (kr : Int → zD → Option ρ) (r19 : Int → Int → Int → Int → zD → Option ρ) (a1 a2 a4 t0 : Int) (s : zD) : M_hasEnded_74 kr r19 a1 a2 a4 t0 s = zseg zPP false zfinM (zcal []) (zget (999, 0, 0, 0) zc_M_hasEnded) (zcut [(19, [true, true, true, true, true]), (73, [true, true, true, false, true]), (74, [true, true, true, false, true]), (81, [false, false, false, true, false])]) (zorc [(19, [some (2, some 0), some (0, none), some (0, none), some (0, none), some (0, none)], [], fun xs h => match xs with
  | [a1, a2, a3, a4] => r19 a1 a2 a3 a4 (zhd h)
  | _ => none)]) (fun v h => kr v (zhd h)) (fun _ _ => none) 400 74 [some (2, 0), some (0, a1), some (0, a2), none, some (0, a4)] [(0, t0)] (zM s) := by rfl
set_option maxRecDepth 100000 in
theorem qe_M_hasEnded_73 {ρ : Type} (kr : Int → zD → Option ρ) (r19 : Int → Int → Int → Int → zD → Option ρ) (a1 a2 a4 : Int) (s : zD) : M_hasEnded_73 kr r19 a1 a2 a4 s = zseg zPP false zfinM (zcal []) (zget (999, 0, 0, 0) zc_M_hasEnded) (zcut [(19, [true, true, true, true, true]), (73, [true, true, true, false, true]), (74, [true, true, true, false, true]), (81, [false, false, false, true, false])]) (zorc [(74, [some (2, some 0), some (0, none), some (0, none), none, some (0, none)], [(0, none)], fun xs h => match xs with
  | [a1, a2, a4, t0] => M_hasEnded_74 kr r19 a1 a2 a4 t0 (zhd h)
  | _ => none)]) (fun v h => kr v (zhd h)) (fun _ _ => none) 400 73 [some (2, 0), some (0, a1), some (0, a2), none, some (0, a4)] [] (zM s) := by rfl
set_option maxRecDepth 100000 in
theorem qe_M_hasEnded_81 {ρ : Type} (kr : Int → zD → Option ρ) (a3 : Int) (s : zD) : M_hasEnded_81 kr a3 s = zseg zPP false zfinM (zcal []) (zget (999, 0, 0, 0) zc_M_hasEnded) (zcut [(19, [true, true, true, true, true]), (73, [true, true, true, false, true]), (74, [true, true, true, false, true]), (81, [false, false, false, true, false])]) (zorc []) (fun v h => kr v (zhd h)) (fun _ _ => none) 400 81 [none, none, none, some (0, a3), none] [] (zM s) := by rfl
set_option maxRecDepth 100000 in
theorem qe_M_hasEnded_19b {ρ : Type} (kr : Int → zD → Option ρ) (r19 : Int → Int → Int → Int → zD → Option ρ) (a1 a2 a3 a4 : Int) (s : zD) : M_hasEnded_19b kr r19 a1 a2 a3 a4 s = zseg zPP false zfinM (zcal [(86, [some 0, none, none], fun xs h kr kt => match xs with
  | [x0, x1] => M_threadCell x0 x1 (zhd h) (fun v s => kr v (zM s))
  | _ => none)]) (zget (999, 0, 0, 0) zc_M_hasEnded) (zcut [(19, [true, true, true, true, true]), (73, [true, true, true, false, true]), (74, [true, true, true, false, true]), (81, [false, false, false, true, false])]) (zorc [(73, [some (2, some 0), some (0, none), some (0, none), none, some (0, none)], [], fun xs h => match xs with
  | [a1, a2, a4] => M_hasEnded_73 kr r19 a1 a2 a4 (zhd h)
  | _ => none), (74, [some (2, some 0), some (0, none), some (0, none), none, some (0, none)], [(0, none)], fun xs h => match xs with
  | [a1, a2, a4, t0] => M_hasEnded_74 kr r19 a1 a2 a4 t0 (zhd h)
  | _ => none), (81, [none, none, none, some (0, none), none], [], fun xs h => match xs with
  | [a3] => M_hasEnded_81 kr a3 (zhd h)
  | _ => none)]) (fun v h => kr v (zhd h)) (fun _ _ => none) 400 19 [some (2, 0), some (0, a1), some (0, a2), some (0, a3), some (0, a4)] [] (zM s) := by rfl
set_option maxRecDepth 100000 in
theorem qe_M_hasEnded {ρ : Type} (kr : Int → zD → Option ρ) (a1 : Int) (s : zD) : M_hasEnded a1 s kr = zseg zPP false zfinM (zcal []) (zget (999, 0, 0, 0) zc_M_hasEnded) (zcut [(19, [true, true, true, true, true]), (73, [true, true, true, false, true]), (74, [true, true, true, false, true]), (81, [false, false, false, true, false])]) (zorc [(19, [some (2, some 0), some (0, none), some (0, none), some (0, none), some (0, none)], [], fun xs h => match xs with
  | [a1, a2, a3, a4] => M_hasEnded_19 kr a1 a2 a3 a4 (zhd h)
  | _ => none)]) (fun v h => kr v (zhd h)) (fun _ _ => none) 400 0 [some (2, 0), some (0, a1), none, none, none] [] (zM s) := by rfl
def zc_M_writeFirst : List zI := [(14, 0, 0, 0), (80, 12, 13, 3), (999, 0, 0, 0), (999, 0, 0, 0), (14, 0, 0, 0), (80, 12, 130, 43), (999, 0, 0, 0), (999, 0, 0, 0), (0, 4, 0, 0), (10, 0, 1, 0), (32, 0, 0, 0), (90, 0, 0, 0), (14, 0, 0, 0), (80, 12, 133, 44), (999, 0, 0, 0), (999, 0, 0, 0), (0, 4, 0, 0), (10, 0, 1, 0), (32, 0, 0, 0), (90, 0, 0, 0), (95, 0, 0, 0), (14, 0, 0, 0), (80, 12, 127, 42), (999, 0, 0, 0), (999, 0, 0, 0), (10, 0, 1, 0), (51, 0, 0, 0), (90, 0, 0, 0), (0, 1, 0, 0), (31, 0, 0, 0), (95, 0, 0, 0), (0, 4, 0, 0), (10, 0, 1, 0), (32, 0, 0, 0), (16, 0, 2, 0), (10, 0, 2, 0), (0, 4, 0, 0), (10, 0, 1, 0), (32, 0, 0, 0), (14, 0, 0, 0), (80, 12, 127, 42), (999, 0, 0, 0), (999, 0, 0, 0), (10, 0, 1, 0), (90, 0, 0, 0), (30, 0, 0, 0), (69, 37, 83, 0), (999, 0, 0, 0), (999, 0, 0, 0), (14, 0, 0, 0), (80, 12, 130, 43), (999, 0, 0, 0), (999, 0, 0, 0), (10, 0, 2, 0), (14, 0, 0, 0), (80, 12, 130, 43), (999, 0, 0, 0), (999, 0, 0, 0), (10, 0, 2, 0), (0, 1, 0, 0), (30, 0, 0, 0), (90, 0, 0, 0), (95, 0, 0, 0), (14, 0, 0, 0), (80, 12, 133, 44), (999, 0, 0, 0), (999, 0, 0, 0), (10, 0, 2, 0), (14, 0, 0, 0), (80, 12, 133, 44), (999, 0, 0, 0), (999, 0, 0, 0), (10, 0, 2, 0), (0, 1, 0, 0), (30, 0, 0, 0), (90, 0, 0, 0), (95, 0, 0, 0), (22, 1, 2, 0), (999, 0, 0, 0), (999, 0, 0, 0), (72, (-45), 35, 0), (999, 0, 0, 0), (999, 0, 0, 0), (133, 0, 0, 0)]
def M_writeFirst_35b {ρ : Type} (kr : Int → zD → Option ρ) (r35 : Int → Int → zD → Option ρ) (a1 a2 : Int) (s : zD) : Option ρ :=
zix 8 a1 fun j1 =>
if a2 < (wr ((wr (4 * a1)) + (s 38 j1))) then (zix 32 (wr (a2 + 1)) fun j2 =>
zix 32 a2 fun j3 =>
zlet (zup s 39 j3 (s 39 j2)) fun s4 =>
zix 32 (wr (a2 + 1)) fun j5 =>
zix 32 a2 fun j6 =>
zlet (zup s4 40 j6 (s4 40 j5)) fun s7 =>
r35 a1 (wr (a2 + 1)) s7)
else kr 0 s
def M_writeFirst_35 {ρ : Type} (kr : Int → zD → Option ρ) : Int → Int → zD → Option ρ := zit (fun _ _ _ => none) (M_writeFirst_35b kr) zN
def M_writeFirst {ρ : Type} (a1 : Int) (s : zD) (kr : Int → zD → Option ρ) : Option ρ :=
zix 32 (wr (4 * a1)) fun j1 =>
zix 32 (wr (4 * a1)) fun j2 =>
zix 64 (s 39 j1) fun j3 =>
zlet (zup s 1 j3 (s 40 j2)) fun s4 =>
zix 8 a1 fun j5 =>
zix 8 a1 fun j6 =>
zlet (zup s4 38 j6 (wr ((s4 38 j5) - 1))) fun s7 =>
M_writeFirst_35 kr a1 (wr (4 * a1)) s7
set_option maxRecDepth 100000 in
theorem qe_M_writeFirst_35b {ρ : Type} (kr : Int → zD → Option ρ) (r35 : Int → Int → zD → Option ρ) (a1 a2 : Int) (s : zD) : M_writeFirst_35b kr r35 a1 a2 s = zseg zPP false zfinM (zcal []) (zget (999, 0, 0, 0) zc_M_writeFirst) (zcut [(35, [true, true, true])]) (zorc [(35, [some (2, some 0), some (0, none), some (0, none)], [], fun xs h => match xs with
  | [a1, a2] => r35 a1 a2 (zhd h)
  | _ => none)]) (fun v h => kr v (zhd h)) (fun _ _ => none) 400 35 [some (2, 0), some (0, a1), some (0, a2)] [] (zM s) := by rfl
set_option maxRecDepth 100000 in
theorem qe_M_writeFirst {ρ : Type} (kr : Int → zD → Option ρ) (a1 : Int) (s : zD) : M_writeFirst a1 s kr = zseg zPP false zfinM (zcal []) (zget (999, 0, 0, 0) zc_M_writeFirst) (zcut [(35, [true, true, true])]) (zorc [(35, [some (2, some 0), some (0, none), some (0, none)], [], fun xs h => match xs with
  | [a1, a2] => M_writeFirst_35 kr a1 a2 (zhd h)
  | _ => none)]) (fun v h => kr v (zhd h)) (fun _ _ => none) 400 0 [some (2, 0), some (0, a1), none] [] (zM s) := by rfl
def zc_M_writeAll : List zI := [(14, 0, 0, 0), (80, 12, 127, 42), (999, 0, 0, 0), (999, 0, 0, 0), (10, 0, 1, 0), (90, 0, 0, 0), (16, 0, 2, 0), (14, 0, 0, 0), (80, 12, 127, 42), (999, 0, 0, 0), (999, 0, 0, 0), (10, 0, 1, 0), (90, 0, 0, 0), (65, 11, 24, 0), (999, 0, 0, 0), (999, 0, 0, 0), (14, 0, 0, 0), (10, 0, 1, 0), (110, 0, 263, 90), (999, 0, 0, 0), (999, 0, 0, 0), (72, (-14), 7, 0), (999, 0, 0, 0), (999, 0, 0, 0), (10, 0, 2, 0), (130, 0, 0, 0)]
def M_writeAll_7b {ρ : Type} (kr : Int → zD → Option ρ) (r7 : Int → Int → zD → Option ρ) (a1 a2 : Int) (s : zD) : Option ρ :=
zix 8 a1 fun j1 =>
if 0 < (s 38 j1) then (M_writeFirst a1 s  fun _ s3 =>
r7 a1 a2 s3)
else kr a2 s
def M_writeAll_7 {ρ : Type} (kr : Int → zD → Option ρ) : Int → Int → zD → Option ρ := zit (fun _ _ _ => none) (M_writeAll_7b kr) zN
def M_writeAll {ρ : Type} (a1 : Int) (s : zD) (kr : Int → zD → Option ρ) : Option ρ :=
zix 8 a1 fun j1 =>
M_writeAll_7 kr a1 (s 38 j1) s
set_option maxRecDepth 100000 in
theorem qe_M_writeAll_7b {ρ : Type} (kr : Int → zD → Option ρ) (r7 : Int → Int → zD → Option ρ) (a1 a2 : Int) (s : zD) : M_writeAll_7b kr r7 a1 a2 s = zseg zPP false zfinM (zcal [(90, [some 0, none], fun xs h kr kt => match xs with
  | [x0] => M_writeFirst x0 (zhd h) (fun v s => kr v (zM s))
  | _ => none)]) (zget (999, 0, 0, 0) zc_M_writeAll) (zcut [(7, [true, true, true])]) (zorc [(7, [some (2, some 0), some (0, none), some (0, none)], [], fun xs h => match xs with
  | [a1, a2] => r7 a1 a2 (zhd h)
  | _ => none)]) (fun v h => kr v (zhd h)) (fun _ _ => none) 400 7 [some (2, 0), some (0, a1), some (0, a2)] [] (zM s) := by rfl
set_option maxRecDepth 100000 in
theorem qe_M_writeAll {ρ : Type} (kr : Int → zD → Option ρ) (a1 : Int) (s : zD) : M_writeAll a1 s kr = zseg zPP false zfinM (zcal []) (zget (999, 0, 0, 0) zc_M_writeAll) (zcut [(7, [true, true, true])]) (zorc [(7, [some (2, some 0), some (0, none), some (0, none)], [], fun xs h => match xs with
  | [a1, a2] => M_writeAll_7 kr a1 a2 (zhd h)
  | _ => none)]) (fun v h => kr v (zhd h)) (fun _ _ => none) 400 0 [some (2, 0), some (0, a1), none] [] (zM s) := by rfl
def zc_M_writeEnded : List zI := [(14, 0, 0, 0), (80, 12, 100, 33), (999, 0, 0, 0), (999, 0, 0, 0), (10, 0, 1, 0), (90, 0, 0, 0), (16, 0, 2, 0), (0, 0, 0, 0), (16, 0, 3, 0), (10, 0, 3, 0), (14, 0, 0, 0), (80, 12, 115, 38), (999, 0, 0, 0), (999, 0, 0, 0), (10, 0, 2, 0), (90, 0, 0, 0), (69, 43, 59, 0), (999, 0, 0, 0), (999, 0, 0, 0), (0, 4, 0, 0), (10, 0, 2, 0), (32, 0, 0, 0), (10, 0, 3, 0), (30, 0, 0, 0), (17, 0, 4, 0), (999, 0, 0, 0), (14, 0, 0, 0), (80, 12, 118, 39), (999, 0, 0, 0), (999, 0, 0, 0), (11, 0, 4, 0), (999, 0, 0, 0), (90, 0, 0, 0), (10, 0, 1, 0), (67, 19, 53, 0), (999, 0, 0, 0), (999, 0, 0, 0), (14, 0, 0, 0), (11, 0, 4, 0), (999, 0, 0, 0), (110, 0, 266, 89), (999, 0, 0, 0), (999, 0, 0, 0), (60, 10, 53, 0), (999, 0, 0, 0), (999, 0, 0, 0), (14, 0, 0, 0), (11, 0, 4, 0), (999, 0, 0, 0), (110, 0, 269, 91), (999, 0, 0, 0), (999, 0, 0, 0), (52, 0, 0, 0), (22, 1, 3, 0), (999, 0, 0, 0), (999, 0, 0, 0), (72, (-47), 9, 0), (999, 0, 0, 0), (999, 0, 0, 0), (133, 0, 0, 0)]
def M_writeEnded_53 {ρ : Type} (kr : Int → zD → Option ρ) (r9 : Int → Int → Int → zD → Option ρ) (a1 a2 a3 : Int) (s : zD) : Option ρ :=
r9 a1 a2 (wr (a3 + 1)) s
def M_writeEnded_9b {ρ : Type} (kr : Int → zD → Option ρ) (r9 : Int → Int → Int → zD → Option ρ) (a1 a2 a3 : Int) (s : zD) : Option ρ :=
zix 2 a2 fun j1 =>
if a3 < (s 34 j1) then (zix 8 (wr ((wr (4 * a2)) + a3)) fun j2 =>
if (s 35 j2) = a1 then (M_hasEnded (wr ((wr (4 * a2)) + a3)) s  fun v3 s4 =>
if v3 = 0 then M_writeEnded_53 kr r9 a1 a2 a3 s4
else M_writeAll (wr ((wr (4 * a2)) + a3)) s4  fun v5 s6 =>
M_writeEnded_53 kr r9 a1 a2 a3 s6)
else M_writeEnded_53 kr r9 a1 a2 a3 s)
else kr 0 s
def M_writeEnded_9 {ρ : Type} (kr : Int → zD → Option ρ) : Int → Int → Int → zD → Option ρ := zit (fun _ _ _ _ => none) (M_writeEnded_9b kr) zN
def M_writeEnded {ρ : Type} (a1 : Int) (s : zD) (kr : Int → zD → Option ρ) : Option ρ :=
zix 72 a1 fun j1 =>
M_writeEnded_9 kr a1 (s 29 j1) 0 s
set_option maxRecDepth 100000 in
theorem qe_M_writeEnded_53 {ρ : Type} (kr : Int → zD → Option ρ) (r9 : Int → Int → Int → zD → Option ρ) (a1 a2 a3 : Int) (s : zD) : M_writeEnded_53 kr r9 a1 a2 a3 s = zseg zPP false zfinM (zcal []) (zget (999, 0, 0, 0) zc_M_writeEnded) (zcut [(9, [true, true, true, true, false]), (53, [true, true, true, true, false])]) (zorc [(9, [some (2, some 0), some (0, none), some (0, none), some (0, none), none], [], fun xs h => match xs with
  | [a1, a2, a3] => r9 a1 a2 a3 (zhd h)
  | _ => none)]) (fun v h => kr v (zhd h)) (fun _ _ => none) 400 53 [some (2, 0), some (0, a1), some (0, a2), some (0, a3), none] [] (zM s) := by rfl
set_option maxRecDepth 100000 in
theorem qe_M_writeEnded_9b {ρ : Type} (kr : Int → zD → Option ρ) (r9 : Int → Int → Int → zD → Option ρ) (a1 a2 a3 : Int) (s : zD) : M_writeEnded_9b kr r9 a1 a2 a3 s = zseg zPP false zfinM (zcal [(89, [some 0, none], fun xs h kr kt => match xs with
  | [x0] => M_hasEnded x0 (zhd h) (fun v s => kr v (zM s))
  | _ => none), (91, [some 0, none], fun xs h kr kt => match xs with
  | [x0] => M_writeAll x0 (zhd h) (fun v s => kr v (zM s))
  | _ => none)]) (zget (999, 0, 0, 0) zc_M_writeEnded) (zcut [(9, [true, true, true, true, false]), (53, [true, true, true, true, false])]) (zorc [(53, [some (2, some 0), some (0, none), some (0, none), some (0, none), none], [], fun xs h => match xs with
  | [a1, a2, a3] => M_writeEnded_53 kr r9 a1 a2 a3 (zhd h)
  | _ => none)]) (fun v h => kr v (zhd h)) (fun _ _ => none) 400 9 [some (2, 0), some (0, a1), some (0, a2), some (0, a3), none] [] (zM s) := by rfl
set_option maxRecDepth 100000 in
theorem qe_M_writeEnded {ρ : Type} (kr : Int → zD → Option ρ) (a1 : Int) (s : zD) : M_writeEnded a1 s kr = zseg zPP false zfinM (zcal []) (zget (999, 0, 0, 0) zc_M_writeEnded) (zcut [(9, [true, true, true, true, false]), (53, [true, true, true, true, false])]) (zorc [(9, [some (2, some 0), some (0, none), some (0, none), some (0, none), none], [], fun xs h => match xs with
  | [a1, a2, a3] => M_writeEnded_9 kr a1 a2 a3 (zhd h)
  | _ => none)]) (fun v h => kr v (zhd h)) (fun _ _ => none) 400 0 [some (2, 0), some (0, a1), none, none, none] [] (zM s) := by rfl
def zc_M_settle : List zI := [(0, (-1), 0, 0), (16, 0, 2, 0), (14, 0, 0, 0), (80, 12, 97, 32), (999, 0, 0, 0), (999, 0, 0, 0), (10, 0, 1, 0), (91, 0, 0, 0), (60, 29, 37, 0), (999, 0, 0, 0), (999, 0, 0, 0), (10, 0, 2, 0), (14, 0, 0, 0), (80, 12, 260, 60), (999, 0, 0, 0), (999, 0, 0, 0), (66, 21, 37, 0), (999, 0, 0, 0), (999, 0, 0, 0), (14, 0, 0, 0), (80, 12, 260, 60), (999, 0, 0, 0), (999, 0, 0, 0), (16, 0, 2, 0), (14, 0, 0, 0), (10, 0, 1, 0), (110, 0, 272, 92), (999, 0, 0, 0), (999, 0, 0, 0), (14, 0, 0, 0), (10, 0, 1, 0), (110, 0, 275, 88), (999, 0, 0, 0), (999, 0, 0, 0), (72, (-32), 2, 0), (999, 0, 0, 0), (999, 0, 0, 0), (133, 0, 0, 0)]
def M_settle_37 {ρ : Type} (kr : Int → zD → Option ρ) (s : zD) : Option ρ :=
kr 0 s
def M_settle_2b {ρ : Type} (kr : Int → zD → Option ρ) (r2 : Int → Int → zD → Option ρ) (a1 a2 : Int) (s : zD) : Option ρ :=
zix 72 a1 fun j1 =>
if (s 28 j1) = 0 then M_settle_37 kr s
else if a2 = (s 0 60) then M_settle_37 kr s
else M_writeEnded a1 s  fun _ s3 =>
M_lookAt a1 s3  fun _ s5 =>
r2 a1 (s 0 60) s5
def M_settle_2 {ρ : Type} (kr : Int → zD → Option ρ) : Int → Int → zD → Option ρ := zit (fun _ _ _ => none) (M_settle_2b kr) zN
def M_settle {ρ : Type} (a1 : Int) (s : zD) (kr : Int → zD → Option ρ) : Option ρ :=
M_settle_2 kr a1 (-1) s
set_option maxRecDepth 100000 in
theorem qe_M_settle_37 {ρ : Type} (kr : Int → zD → Option ρ) (s : zD) : M_settle_37 kr s = zseg zPP false zfinM (zcal []) (zget (999, 0, 0, 0) zc_M_settle) (zcut [(2, [true, true, true]), (37, [false, false, false])]) (zorc []) (fun v h => kr v (zhd h)) (fun _ _ => none) 400 37 [none, none, none] [] (zM s) := by rfl
set_option maxRecDepth 100000 in
theorem qe_M_settle_2b {ρ : Type} (kr : Int → zD → Option ρ) (r2 : Int → Int → zD → Option ρ) (a1 a2 : Int) (s : zD) : M_settle_2b kr r2 a1 a2 s = zseg zPP false zfinM (zcal [(88, [some 0, none], fun xs h kr kt => match xs with
  | [x0] => M_lookAt x0 (zhd h) (fun v s => kr v (zM s))
  | _ => none), (92, [some 0, none], fun xs h kr kt => match xs with
  | [x0] => M_writeEnded x0 (zhd h) (fun v s => kr v (zM s))
  | _ => none)]) (zget (999, 0, 0, 0) zc_M_settle) (zcut [(2, [true, true, true]), (37, [false, false, false])]) (zorc [(2, [some (2, some 0), some (0, none), some (0, none)], [], fun xs h => match xs with
  | [a1, a2] => r2 a1 a2 (zhd h)
  | _ => none), (37, [none, none, none], [], fun xs h => match xs with
  | [] => M_settle_37 kr  (zhd h)
  | _ => none)]) (fun v h => kr v (zhd h)) (fun _ _ => none) 400 2 [some (2, 0), some (0, a1), some (0, a2)] [] (zM s) := by rfl
set_option maxRecDepth 100000 in
theorem qe_M_settle {ρ : Type} (kr : Int → zD → Option ρ) (a1 : Int) (s : zD) : M_settle a1 s kr = zseg zPP false zfinM (zcal []) (zget (999, 0, 0, 0) zc_M_settle) (zcut [(2, [true, true, true]), (37, [false, false, false])]) (zorc [(2, [some (2, some 0), some (0, none), some (0, none)], [], fun xs h => match xs with
  | [a1, a2] => M_settle_2 kr a1 a2 (zhd h)
  | _ => none)]) (fun v h => kr v (zhd h)) (fun _ _ => none) 400 0 [some (2, 0), some (0, a1), none] [] (zM s) := by rfl
def zc_M_access : List zI := [(10, 0, 1, 0), (1, 6, 0, 0), (999, 0, 0, 0), (33, 0, 0, 0), (17, 0, 5, 0), (999, 0, 0, 0), (1, 96, 0, 0), (999, 0, 0, 0), (1, 64, 0, 0), (999, 0, 0, 0), (11, 0, 5, 0), (999, 0, 0, 0), (32, 0, 0, 0), (10, 0, 3, 0), (30, 0, 0, 0), (32, 0, 0, 0), (17, 0, 6, 0), (999, 0, 0, 0), (0, 0, 0, 0), (17, 0, 7, 0), (999, 0, 0, 0), (11, 0, 7, 0), (999, 0, 0, 0), (14, 0, 0, 0), (80, 12, 52, 17), (999, 0, 0, 0), (999, 0, 0, 0), (11, 0, 5, 0), (999, 0, 0, 0), (90, 0, 0, 0), (69, 169, 199, 0), (999, 0, 0, 0), (999, 0, 0, 0), (0, 0, 0, 0), (17, 0, 8, 0), (999, 0, 0, 0), (11, 0, 8, 0), (999, 0, 0, 0), (14, 0, 0, 0), (80, 12, 55, 18), (999, 0, 0, 0), (999, 0, 0, 0), (11, 0, 5, 0), (999, 0, 0, 0), (90, 0, 0, 0), (69, 148, 193, 0), (999, 0, 0, 0), (999, 0, 0, 0), (11, 0, 6, 0), (999, 0, 0, 0), (1, 16, 0, 0), (999, 0, 0, 0), (11, 0, 7, 0), (999, 0, 0, 0), (32, 0, 0, 0), (30, 0, 0, 0), (11, 0, 8, 0), (999, 0, 0, 0), (30, 0, 0, 0), (17, 0, 9, 0), (999, 0, 0, 0), (11, 0, 7, 0), (999, 0, 0, 0), (10, 0, 1, 0), (1, 6, 0, 0), (999, 0, 0, 0), (34, 0, 0, 0), (67, 13, 80, 0), (999, 0, 0, 0), (999, 0, 0, 0), (11, 0, 8, 0), (999, 0, 0, 0), (10, 0, 2, 0), (67, 7, 80, 0), (999, 0, 0, 0), (999, 0, 0, 0), (0, 1, 0, 0), (72, 4, 81, 0), (999, 0, 0, 0), (999, 0, 0, 0), (0, 0, 0, 0), (17, 0, 10, 0), (999, 0, 0, 0), (11, 0, 7, 0), (999, 0, 0, 0), (10, 0, 1, 0), (1, 6, 0, 0), (999, 0, 0, 0), (34, 0, 0, 0), (67, 14, 103, 0), (999, 0, 0, 0), (999, 0, 0, 0), (14, 0, 0, 0), (80, 12, 94, 31), (999, 0, 0, 0), (999, 0, 0, 0), (10, 0, 1, 0), (90, 0, 0, 0), (0, 1, 0, 0), (30, 0, 0, 0), (72, 4, 104, 0), (999, 0, 0, 0), (999, 0, 0, 0), (0, 1, 0, 0), (17, 0, 11, 0), (999, 0, 0, 0), (11, 0, 10, 0), (999, 0, 0, 0), (61, 39, 147, 0), (999, 0, 0, 0), (999, 0, 0, 0), (11, 0, 4, 0), (999, 0, 0, 0), (60, 18, 131, 0), (999, 0, 0, 0), (999, 0, 0, 0), (14, 0, 0, 0), (80, 12, 146, 48), (999, 0, 0, 0), (999, 0, 0, 0), (11, 0, 9, 0), (999, 0, 0, 0), (90, 0, 0, 0), (11, 0, 11, 0), (999, 0, 0, 0), (68, 22, 147, 0), (999, 0, 0, 0), (999, 0, 0, 0), (72, 15, 143, 0), (999, 0, 0, 0), (999, 0, 0, 0), (14, 0, 0, 0), (80, 12, 149, 49), (999, 0, 0, 0), (999, 0, 0, 0), (11, 0, 9, 0), (999, 0, 0, 0), (90, 0, 0, 0), (11, 0, 11, 0), (999, 0, 0, 0), (68, 7, 147, 0), (999, 0, 0, 0), (999, 0, 0, 0), (0, 1, 0, 0), (72, 4, 148, 0), (999, 0, 0, 0), (999, 0, 0, 0), (0, 0, 0, 0), (17, 0, 12, 0), (999, 0, 0, 0), (14, 0, 0, 0), (80, 12, 152, 50), (999, 0, 0, 0), (999, 0, 0, 0), (1, 64, 0, 0), (999, 0, 0, 0), (11, 0, 5, 0), (999, 0, 0, 0), (32, 0, 0, 0), (10, 0, 3, 0), (30, 0, 0, 0), (14, 0, 0, 0), (80, 12, 152, 50), (999, 0, 0, 0), (999, 0, 0, 0), (1, 64, 0, 0), (999, 0, 0, 0), (11, 0, 5, 0), (999, 0, 0, 0), (32, 0, 0, 0), (10, 0, 3, 0), (30, 0, 0, 0), (91, 0, 0, 0), (61, 8, 181, 0), (999, 0, 0, 0), (999, 0, 0, 0), (11, 0, 12, 0), (999, 0, 0, 0), (60, 7, 185, 0), (999, 0, 0, 0), (999, 0, 0, 0), (0, 1, 0, 0), (72, 4, 186, 0), (999, 0, 0, 0), (999, 0, 0, 0), (0, 0, 0, 0), (96, 0, 0, 0), (22, 1, 8, 0), (999, 0, 0, 0), (999, 0, 0, 0), (72, (-154), 36, 0), (999, 0, 0, 0), (999, 0, 0, 0), (22, 1, 7, 0), (999, 0, 0, 0), (999, 0, 0, 0), (72, (-175), 21, 0), (999, 0, 0, 0), (999, 0, 0, 0), (11, 0, 6, 0), (999, 0, 0, 0), (1, 16, 0, 0), (999, 0, 0, 0), (10, 0, 1, 0), (1, 6, 0, 0), (999, 0, 0, 0), (34, 0, 0, 0), (32, 0, 0, 0), (30, 0, 0, 0), (10, 0, 2, 0), (30, 0, 0, 0), (17, 0, 7, 0), (999, 0, 0, 0), (14, 0, 0, 0), (80, 12, 146, 48), (999, 0, 0, 0), (999, 0, 0, 0), (11, 0, 7, 0), (999, 0, 0, 0), (14, 0, 0, 0), (80, 12, 94, 31), (999, 0, 0, 0), (999, 0, 0, 0), (10, 0, 1, 0), (90, 0, 0, 0), (0, 1, 0, 0), (30, 0, 0, 0), (95, 0, 0, 0), (14, 0, 0, 0), (80, 12, 149, 49), (999, 0, 0, 0), (999, 0, 0, 0), (11, 0, 7, 0), (999, 0, 0, 0), (11, 0, 4, 0), (999, 0, 0, 0), (60, 14, 250, 0), (999, 0, 0, 0), (999, 0, 0, 0), (14, 0, 0, 0), (80, 12, 94, 31), (999, 0, 0, 0), (999, 0, 0, 0), (10, 0, 1, 0), (90, 0, 0, 0), (0, 1, 0, 0), (30, 0, 0, 0), (72, 10, 257, 0), (999, 0, 0, 0), (999, 0, 0, 0), (14, 0, 0, 0), (80, 12, 149, 49), (999, 0, 0, 0), (999, 0, 0, 0), (11, 0, 7, 0), (999, 0, 0, 0), (90, 0, 0, 0), (95, 0, 0, 0), (133, 0, 0, 0)]
def M_access_186 {ρ : Type} (kr : Int → zD → Option ρ) (r21 : Int → Int → Int → Int → Int → Int → Int → zD → Option ρ) (r36 : Int → Int → Int → Int → Int → Int → Int → Int → zD → Option ρ) (a1 a2 a3 a4 a5 a6 a7 a8 t0 t1 : Int) (s : zD) : Option ρ :=
zix 768 t1 fun j1 =>
znar 1 t0 fun x2 =>
zlet (zup s 46 j1 x2) fun s3 =>
r36 a1 a2 a3 a4 a5 a6 a7 (wr (a8 + 1)) s3
def M_access_181 {ρ : Type} (kr : Int → zD → Option ρ) (r21 : Int → Int → Int → Int → Int → Int → Int → zD → Option ρ) (r36 : Int → Int → Int → Int → Int → Int → Int → Int → zD → Option ρ) (a1 a2 a3 a4 a5 a6 a7 a8 t0 : Int) (s : zD) : Option ρ :=
M_access_186 kr r21 r36 a1 a2 a3 a4 a5 a6 a7 a8 1 t0 s
def M_access_148 {ρ : Type} (kr : Int → zD → Option ρ) (r21 : Int → Int → Int → Int → Int → Int → Int → zD → Option ρ) (r36 : Int → Int → Int → Int → Int → Int → Int → Int → zD → Option ρ) (a1 a2 a3 a4 a5 a6 a7 a8 t0 : Int) (s : zD) : Option ρ :=
zix 768 (wr ((wr (64 * a5)) + a3)) fun j1 =>
if (s 46 j1) = 0 then (if t0 = 0 then M_access_186 kr r21 r36 a1 a2 a3 a4 a5 a6 a7 a8 0 (wr ((wr (64 * a5)) + a3)) s
else M_access_181 kr r21 r36 a1 a2 a3 a4 a5 a6 a7 a8 (wr ((wr (64 * a5)) + a3)) s)
else M_access_181 kr r21 r36 a1 a2 a3 a4 a5 a6 a7 a8 (wr ((wr (64 * a5)) + a3)) s
def M_access_143 {ρ : Type} (kr : Int → zD → Option ρ) (r21 : Int → Int → Int → Int → Int → Int → Int → zD → Option ρ) (r36 : Int → Int → Int → Int → Int → Int → Int → Int → zD → Option ρ) (a1 a2 a3 a4 a5 a6 a7 a8 : Int) (s : zD) : Option ρ :=
M_access_148 kr r21 r36 a1 a2 a3 a4 a5 a6 a7 a8 1 s
def M_access_147 {ρ : Type} (kr : Int → zD → Option ρ) (r21 : Int → Int → Int → Int → Int → Int → Int → zD → Option ρ) (r36 : Int → Int → Int → Int → Int → Int → Int → Int → zD → Option ρ) (a1 a2 a3 a4 a5 a6 a7 a8 : Int) (s : zD) : Option ρ :=
M_access_148 kr r21 r36 a1 a2 a3 a4 a5 a6 a7 a8 0 s
def M_access_104 {ρ : Type} (kr : Int → zD → Option ρ) (r21 : Int → Int → Int → Int → Int → Int → Int → zD → Option ρ) (r36 : Int → Int → Int → Int → Int → Int → Int → Int → zD → Option ρ) (a1 a2 a3 a4 a5 a6 a7 a8 a9 a10 t0 : Int) (s : zD) : Option ρ :=
if a10 = 0 then (if a4 = 0 then (zix 73728 a9 fun j1 =>
if (s 45 j1) < t0 then M_access_147 kr r21 r36 a1 a2 a3 a4 a5 a6 a7 a8 s
else M_access_143 kr r21 r36 a1 a2 a3 a4 a5 a6 a7 a8 s)
else zix 73728 a9 fun j2 =>
if (s 44 j2) < t0 then M_access_147 kr r21 r36 a1 a2 a3 a4 a5 a6 a7 a8 s
else M_access_143 kr r21 r36 a1 a2 a3 a4 a5 a6 a7 a8 s)
else M_access_147 kr r21 r36 a1 a2 a3 a4 a5 a6 a7 a8 s
def M_access_81 {ρ : Type} (kr : Int → zD → Option ρ) (r21 : Int → Int → Int → Int → Int → Int → Int → zD → Option ρ) (r36 : Int → Int → Int → Int → Int → Int → Int → Int → zD → Option ρ) (a1 a2 a3 a4 a5 a6 a7 a8 a9 t0 : Int) (s : zD) : Option ρ :=
if a7 = (Int.tmod a1 6) then (zix 72 a1 fun j1 =>
M_access_104 kr r21 r36 a1 a2 a3 a4 a5 a6 a7 a8 a9 t0 (wr ((s 27 j1) + 1)) s)
else M_access_104 kr r21 r36 a1 a2 a3 a4 a5 a6 a7 a8 a9 t0 1 s
def M_access_80 {ρ : Type} (kr : Int → zD → Option ρ) (r21 : Int → Int → Int → Int → Int → Int → Int → zD → Option ρ) (r36 : Int → Int → Int → Int → Int → Int → Int → Int → zD → Option ρ) (a1 a2 a3 a4 a5 a6 a7 a8 a9 : Int) (s : zD) : Option ρ :=
M_access_81 kr r21 r36 a1 a2 a3 a4 a5 a6 a7 a8 a9 0 s
def M_access_36b {ρ : Type} (kr : Int → zD → Option ρ) (r21 : Int → Int → Int → Int → Int → Int → Int → zD → Option ρ) (r36 : Int → Int → Int → Int → Int → Int → Int → Int → zD → Option ρ) (a1 a2 a3 a4 a5 a6 a7 a8 : Int) (s : zD) : Option ρ :=
zix 12 a5 fun j1 =>
if a8 < (s 14 j1) then (if a7 = (Int.tmod a1 6) then (if a8 = a2 then M_access_81 kr r21 r36 a1 a2 a3 a4 a5 a6 a7 a8 (wr ((wr (a6 + (wr (16 * a7)))) + a8)) 1 s
else M_access_80 kr r21 r36 a1 a2 a3 a4 a5 a6 a7 a8 (wr ((wr (a6 + (wr (16 * a7)))) + a8)) s)
else M_access_80 kr r21 r36 a1 a2 a3 a4 a5 a6 a7 a8 (wr ((wr (a6 + (wr (16 * a7)))) + a8)) s)
else r21 a1 a2 a3 a4 a5 a6 (wr (a7 + 1)) s
def M_access_36 {ρ : Type} (kr : Int → zD → Option ρ) (r21 : Int → Int → Int → Int → Int → Int → Int → zD → Option ρ) : Int → Int → Int → Int → Int → Int → Int → Int → zD → Option ρ := zit (fun _ _ _ _ _ _ _ _ _ => none) (M_access_36b kr r21) zN
def M_access_257 {ρ : Type} (kr : Int → zD → Option ρ) (t0 t1 : Int) (s : zD) : Option ρ :=
zix 73728 t1 fun j1 =>
zlet (zup s 45 j1 t0) fun s2 =>
kr 0 s2
def M_access_21b {ρ : Type} (kr : Int → zD → Option ρ) (r21 : Int → Int → Int → Int → Int → Int → Int → zD → Option ρ) (a1 a2 a3 a4 a5 a6 a7 : Int) (s : zD) : Option ρ :=
zix 12 a5 fun j1 =>
if a7 < (s 13 j1) then M_access_36 kr r21 a1 a2 a3 a4 a5 a6 a7 0 s
else zix 72 a1 fun j2 =>
zix 73728 (wr ((wr (a6 + (wr (16 * (Int.tmod a1 6))))) + a2)) fun j3 =>
zlet (zup s 44 j3 (wr ((s 27 j2) + 1))) fun s4 =>
if a4 = 0 then (zix 73728 (wr ((wr (a6 + (wr (16 * (Int.tmod a1 6))))) + a2)) fun j5 =>
M_access_257 kr (s4 45 j5) (wr ((wr (a6 + (wr (16 * (Int.tmod a1 6))))) + a2)) s4)
else zix 72 a1 fun j6 =>
M_access_257 kr (wr ((s4 27 j6) + 1)) (wr ((wr (a6 + (wr (16 * (Int.tmod a1 6))))) + a2)) s4
def M_access_21 {ρ : Type} (kr : Int → zD → Option ρ) : Int → Int → Int → Int → Int → Int → Int → zD → Option ρ := zit (fun _ _ _ _ _ _ _ _ => none) (M_access_21b kr) zN
def M_access {ρ : Type} (a1 a2 a3 a4 : Int) (s : zD) (kr : Int → zD → Option ρ) : Option ρ :=
M_access_21 kr a1 a2 a3 a4 (wr (Int.tdiv a1 6)) (wr (96 * (wr ((wr (64 * (wr (Int.tdiv a1 6)))) + a3)))) 0 s
set_option maxRecDepth 100000 in
theorem qe_M_access_186 {ρ : Type} (kr : Int → zD → Option ρ) (r21 : Int → Int → Int → Int → Int → Int → Int → zD → Option ρ) (r36 : Int → Int → Int → Int → Int → Int → Int → Int → zD → Option ρ) (a1 a2 a3 a4 a5 a6 a7 a8 t0 t1 : Int) (s : zD) : M_access_186 kr r21 r36 a1 a2 a3 a4 a5 a6 a7 a8 t0 t1 s = zseg zPP false zfinM (zcal []) (zget (999, 0, 0, 0) zc_M_access) (zcut [(21, [true, true, true, true, true, true, true, true, false, false, false, false, false]), (36, [true, true, true, true, true, true, true, true, true, false, false, false, false]), (80, [true, true, true, true, true, true, true, true, true, true, false, false, false]), (81, [true, true, true, true, true, true, true, true, true, true, false, false, false]), (104, [true, true, true, true, true, true, true, true, true, true, true, false, false]), (143, [true, true, true, true, true, true, true, true, true, false, false, false, false]), (147, [true, true, true, true, true, true, true, true, true, false, false, false, false]), (148, [true, true, true, true, true, true, true, true, true, false, false, false, false]), (181, [true, true, true, true, true, true, true, true, true, false, false, false, false]), (186, [true, true, true, true, true, true, true, true, true, false, false, false, false]), (257, [false, false, false, false, false, false, false, false, false, false, false, false, false])]) (zorc [(36, [some (2, some 0), some (0, none), some (0, none), some (0, none), some (0, none), some (0, none), some (0, none), some (0, none), some (0, none), none, none, none, none], [], fun xs h => match xs with
  | [a1, a2, a3, a4, a5, a6, a7, a8] => r36 a1 a2 a3 a4 a5 a6 a7 a8 (zhd h)
  | _ => none)]) (fun v h => kr v (zhd h)) (fun _ _ => none) 400 186 [some (2, 0), some (0, a1), some (0, a2), some (0, a3), some (0, a4), some (0, a5), some (0, a6), some (0, a7), some (0, a8), none, none, none, none] [(0, t0), (0, t1), (2, 46)] (zM s) := by rfl
set_option maxRecDepth 100000 in
theorem qe_M_access_181 {ρ : Type} (kr : Int → zD → Option ρ) (r21 : Int → Int → Int → Int → Int → Int → Int → zD → Option ρ) (r36 : Int → Int → Int → Int → Int → Int → Int → Int → zD → Option ρ) (a1 a2 a3 a4 a5 a6 a7 a8 t0 : Int) (s : zD) : M_access_181 kr r21 r36 a1 a2 a3 a4 a5 a6 a7 a8 t0 s = zseg zPP false zfinM (zcal []) (zget (999, 0, 0, 0) zc_M_access) (zcut [(21, [true, true, true, true, true, true, true, true, false, false, false, false, false]), (36, [true, true, true, true, true, true, true, true, true, false, false, false, false]), (80, [true, true, true, true, true, true, true, true, true, true, false, false, false]), (81, [true, true, true, true, true, true, true, true, true, true, false, false, false]), (104, [true, true, true, true, true, true, true, true, true, true, true, false, false]), (143, [true, true, true, true, true, true, true, true, true, false, false, false, false]), (147, [true, true, true, true, true, true, true, true, true, false, false, false, false]), (148, [true, true, true, true, true, true, true, true, true, false, false, false, false]), (181, [true, true, true, true, true, true, true, true, true, false, false, false, false]), (186, [true, true, true, true, true, true, true, true, true, false, false, false, false]), (257, [false, false, false, false, false, false, false, false, false, false, false, false, false])]) (zorc [(186, [some (2, some 0), some (0, none), some (0, none), some (0, none), some (0, none), some (0, none), some (0, none), some (0, none), some (0, none), none, none, none, none], [(0, none), (0, none), (2, some 46)], fun xs h => match xs with
  | [a1, a2, a3, a4, a5, a6, a7, a8, t0, t1] => M_access_186 kr r21 r36 a1 a2 a3 a4 a5 a6 a7 a8 t0 t1 (zhd h)
  | _ => none)]) (fun v h => kr v (zhd h)) (fun _ _ => none) 400 181 [some (2, 0), some (0, a1), some (0, a2), some (0, a3), some (0, a4), some (0, a5), some (0, a6), some (0, a7), some (0, a8), none, none, none, none] [(0, t0), (2, 46)] (zM s) := by rfl
set_option maxRecDepth 100000 in
theorem qe_M_access_148 {ρ : Type} (kr : Int → zD → Option ρ) (r21 : Int → Int → Int → Int → Int → Int → Int → zD → Option ρ) (r36 : Int → Int → Int → Int → Int → Int → Int → Int → zD → Option ρ) (a1 a2 a3 a4 a5 a6 a7 a8 t0 : Int) (s : zD) : M_access_148 kr r21 r36 a1 a2 a3 a4 a5 a6 a7 a8 t0 s = zseg zPP false zfinM (zcal []) (zget (999, 0, 0, 0) zc_M_access) (zcut [(21, [true, true, true, true, true, true, true, true, false, false, false, false, false]), (36, [true, true, true, true, true, true, true, true, true, false, false, false, false]), (80, [true, true, true, true, true, true, true, true, true, true, false, false, false]), (81, [true, true, true, true, true, true, true, true, true, true, false, false, false]), (104, [true, true, true, true, true, true, true, true, true, true, true, false, false]), (143, [true, true, true, true, true, true, true, true, true, false, false, false, false]), (147, [true, true, true, true, true, true, true, true, true, false, false, false, false]), (148, [true, true, true, true, true, true, true, true, true, false, false, false, false]), (181, [true, true, true, true, true, true, true, true, true, false, false, false, false]), (186, [true, true, true, true, true, true, true, true, true, false, false, false, false]), (257, [false, false, false, false, false, false, false, false, false, false, false, false, false])]) (zorc [(181, [some (2, some 0), some (0, none), some (0, none), some (0, none), some (0, none), some (0, none), some (0, none), some (0, none), some (0, none), none, none, none, none], [(0, none), (2, some 46)], fun xs h => match xs with
  | [a1, a2, a3, a4, a5, a6, a7, a8, t0] => M_access_181 kr r21 r36 a1 a2 a3 a4 a5 a6 a7 a8 t0 (zhd h)
  | _ => none), (186, [some (2, some 0), some (0, none), some (0, none), some (0, none), some (0, none), some (0, none), some (0, none), some (0, none), some (0, none), none, none, none, none], [(0, none), (0, none), (2, some 46)], fun xs h => match xs with
  | [a1, a2, a3, a4, a5, a6, a7, a8, t0, t1] => M_access_186 kr r21 r36 a1 a2 a3 a4 a5 a6 a7 a8 t0 t1 (zhd h)
  | _ => none)]) (fun v h => kr v (zhd h)) (fun _ _ => none) 400 148 [some (2, 0), some (0, a1), some (0, a2), some (0, a3), some (0, a4), some (0, a5), some (0, a6), some (0, a7), some (0, a8), none, none, none, none] [(0, t0)] (zM s) := by rfl
set_option maxRecDepth 100000 in
theorem qe_M_access_143 {ρ : Type} (kr : Int → zD → Option ρ) (r21 : Int → Int → Int → Int → Int → Int → Int → zD → Option ρ) (r36 : Int → Int → Int → Int → Int → Int → Int → Int → zD → Option ρ) (a1 a2 a3 a4 a5 a6 a7 a8 : Int) (s : zD) : M_access_143 kr r21 r36 a1 a2 a3 a4 a5 a6 a7 a8 s = zseg zPP false zfinM (zcal []) (zget (999, 0, 0, 0) zc_M_access) (zcut [(21, [true, true, true, true, true, true, true, true, false, false, false, false, false]), (36, [true, true, true, true, true, true, true, true, true, false, false, false, false]), (80, [true, true, true, true, true, true, true, true, true, true, false, false, false]), (81, [true, true, true, true, true, true, true, true, true, true, false, false, false]), (104, [true, true, true, true, true, true, true, true, true, true, true, false, false]), (143, [true, true, true, true, true, true, true, true, true, false, false, false, false]), (147, [true, true, true, true, true, true, true, true, true, false, false, false, false]), (148, [true, true, true, true, true, true, true, true, true, false, false, false, false]), (181, [true, true, true, true, true, true, true, true, true, false, false, false, false]), (186, [true, true, true, true, true, true, true, true, true, false, false, false, false]), (257, [false, false, false, false, false, false, false, false, false, false, false, false, false])]) (zorc [(148, [some (2, some 0), some (0, none), some (0, none), some (0, none), some (0, none), some (0, none), some (0, none), some (0, none), some (0, none), none, none, none, none], [(0, none)], fun xs h => match xs with
  | [a1, a2, a3, a4, a5, a6, a7, a8, t0] => M_access_148 kr r21 r36 a1 a2 a3 a4 a5 a6 a7 a8 t0 (zhd h)
  | _ => none)]) (fun v h => kr v (zhd h)) (fun _ _ => none) 400 143 [some (2, 0), some (0, a1), some (0, a2), some (0, a3), some (0, a4), some (0, a5), some (0, a6), some (0, a7), some (0, a8), none, none, none, none] [] (zM s) := by rfl
set_option maxRecDepth 100000 in
theorem qe_M_access_147 {ρ : Type} (kr : Int → zD → Option ρ) (r21 : Int → Int → Int → Int → Int → Int → Int → zD → Option ρ) (r36 : Int → Int → Int → Int → Int → Int → Int → Int → zD → Option ρ) (a1 a2 a3 a4 a5 a6 a7 a8 : Int) (s : zD) : M_access_147 kr r21 r36 a1 a2 a3 a4 a5 a6 a7 a8 s = zseg zPP false zfinM (zcal []) (zget (999, 0, 0, 0) zc_M_access) (zcut [(21, [true, true, true, true, true, true, true, true, false, false, false, false, false]), (36, [true, true, true, true, true, true, true, true, true, false, false, false, false]), (80, [true, true, true, true, true, true, true, true, true, true, false, false, false]), (81, [true, true, true, true, true, true, true, true, true, true, false, false, false]), (104, [true, true, true, true, true, true, true, true, true, true, true, false, false]), (143, [true, true, true, true, true, true, true, true, true, false, false, false, false]), (147, [true, true, true, true, true, true, true, true, true, false, false, false, false]), (148, [true, true, true, true, true, true, true, true, true, false, false, false, false]), (181, [true, true, true, true, true, true, true, true, true, false, false, false, false]), (186, [true, true, true, true, true, true, true, true, true, false, false, false, false]), (257, [false, false, false, false, false, false, false, false, false, false, false, false, false])]) (zorc [(148, [some (2, some 0), some (0, none), some (0, none), some (0, none), some (0, none), some (0, none), some (0, none), some (0, none), some (0, none), none, none, none, none], [(0, none)], fun xs h => match xs with
  | [a1, a2, a3, a4, a5, a6, a7, a8, t0] => M_access_148 kr r21 r36 a1 a2 a3 a4 a5 a6 a7 a8 t0 (zhd h)
  | _ => none)]) (fun v h => kr v (zhd h)) (fun _ _ => none) 400 147 [some (2, 0), some (0, a1), some (0, a2), some (0, a3), some (0, a4), some (0, a5), some (0, a6), some (0, a7), some (0, a8), none, none, none, none] [] (zM s) := by rfl
set_option maxRecDepth 100000 in
theorem qe_M_access_104 {ρ : Type} (kr : Int → zD → Option ρ) (r21 : Int → Int → Int → Int → Int → Int → Int → zD → Option ρ) (r36 : Int → Int → Int → Int → Int → Int → Int → Int → zD → Option ρ) (a1 a2 a3 a4 a5 a6 a7 a8 a9 a10 t0 : Int) (s : zD) : M_access_104 kr r21 r36 a1 a2 a3 a4 a5 a6 a7 a8 a9 a10 t0 s = zseg zPP false zfinM (zcal []) (zget (999, 0, 0, 0) zc_M_access) (zcut [(21, [true, true, true, true, true, true, true, true, false, false, false, false, false]), (36, [true, true, true, true, true, true, true, true, true, false, false, false, false]), (80, [true, true, true, true, true, true, true, true, true, true, false, false, false]), (81, [true, true, true, true, true, true, true, true, true, true, false, false, false]), (104, [true, true, true, true, true, true, true, true, true, true, true, false, false]), (143, [true, true, true, true, true, true, true, true, true, false, false, false, false]), (147, [true, true, true, true, true, true, true, true, true, false, false, false, false]), (148, [true, true, true, true, true, true, true, true, true, false, false, false, false]), (181, [true, true, true, true, true, true, true, true, true, false, false, false, false]), (186, [true, true, true, true, true, true, true, true, true, false, false, false, false]), (257, [false, false, false, false, false, false, false, false, false, false, false, false, false])]) (zorc [(143, [some (2, some 0), some (0, none), some (0, none), some (0, none), some (0, none), some (0, none), some (0, none), some (0, none), some (0, none), none, none, none, none], [], fun xs h => match xs with
  | [a1, a2, a3, a4, a5, a6, a7, a8] => M_access_143 kr r21 r36 a1 a2 a3 a4 a5 a6 a7 a8 (zhd h)
  | _ => none), (147, [some (2, some 0), some (0, none), some (0, none), some (0, none), some (0, none), some (0, none), some (0, none), some (0, none), some (0, none), none, none, none, none], [], fun xs h => match xs with
  | [a1, a2, a3, a4, a5, a6, a7, a8] => M_access_147 kr r21 r36 a1 a2 a3 a4 a5 a6 a7 a8 (zhd h)
  | _ => none)]) (fun v h => kr v (zhd h)) (fun _ _ => none) 400 104 [some (2, 0), some (0, a1), some (0, a2), some (0, a3), some (0, a4), some (0, a5), some (0, a6), some (0, a7), some (0, a8), some (0, a9), some (0, a10), none, none] [(0, t0)] (zM s) := by rfl
set_option maxRecDepth 100000 in
theorem qe_M_access_81 {ρ : Type} (kr : Int → zD → Option ρ) (r21 : Int → Int → Int → Int → Int → Int → Int → zD → Option ρ) (r36 : Int → Int → Int → Int → Int → Int → Int → Int → zD → Option ρ) (a1 a2 a3 a4 a5 a6 a7 a8 a9 t0 : Int) (s : zD) : M_access_81 kr r21 r36 a1 a2 a3 a4 a5 a6 a7 a8 a9 t0 s = zseg zPP false zfinM (zcal []) (zget (999, 0, 0, 0) zc_M_access) (zcut [(21, [true, true, true, true, true, true, true, true, false, false, false, false, false]), (36, [true, true, true, true, true, true, true, true, true, false, false, false, false]), (80, [true, true, true, true, true, true, true, true, true, true, false, false, false]), (81, [true, true, true, true, true, true, true, true, true, true, false, false, false]), (104, [true, true, true, true, true, true, true, true, true, true, true, false, false]), (143, [true, true, true, true, true, true, true, true, true, false, false, false, false]), (147, [true, true, true, true, true, true, true, true, true, false, false, false, false]), (148, [true, true, true, true, true, true, true, true, true, false, false, false, false]), (181, [true, true, true, true, true, true, true, true, true, false, false, false, false]), (186, [true, true, true, true, true, true, true, true, true, false, false, false, false]), (257, [false, false, false, false, false, false, false, false, false, false, false, false, false])]) (zorc [(104, [some (2, some 0), some (0, none), some (0, none), some (0, none), some (0, none), some (0, none), some (0, none), some (0, none), some (0, none), some (0, none), some (0, none), none, none], [(0, none)], fun xs h => match xs with
  | [a1, a2, a3, a4, a5, a6, a7, a8, a9, a10, t0] => M_access_104 kr r21 r36 a1 a2 a3 a4 a5 a6 a7 a8 a9 a10 t0 (zhd h)
  | _ => none)]) (fun v h => kr v (zhd h)) (fun _ _ => none) 400 81 [some (2, 0), some (0, a1), some (0, a2), some (0, a3), some (0, a4), some (0, a5), some (0, a6), some (0, a7), some (0, a8), some (0, a9), none, none, none] [(0, t0)] (zM s) := by rfl
set_option maxRecDepth 100000 in
theorem qe_M_access_80 {ρ : Type} (kr : Int → zD → Option ρ) (r21 : Int → Int → Int → Int → Int → Int → Int → zD → Option ρ) (r36 : Int → Int → Int → Int → Int → Int → Int → Int → zD → Option ρ) (a1 a2 a3 a4 a5 a6 a7 a8 a9 : Int) (s : zD) : M_access_80 kr r21 r36 a1 a2 a3 a4 a5 a6 a7 a8 a9 s = zseg zPP false zfinM (zcal []) (zget (999, 0, 0, 0) zc_M_access) (zcut [(21, [true, true, true, true, true, true, true, true, false, false, false, false, false]), (36, [true, true, true, true, true, true, true, true, true, false, false, false, false]), (80, [true, true, true, true, true, true, true, true, true, true, false, false, false]), (81, [true, true, true, true, true, true, true, true, true, true, false, false, false]), (104, [true, true, true, true, true, true, true, true, true, true, true, false, false]), (143, [true, true, true, true, true, true, true, true, true, false, false, false, false]), (147, [true, true, true, true, true, true, true, true, true, false, false, false, false]), (148, [true, true, true, true, true, true, true, true, true, false, false, false, false]), (181, [true, true, true, true, true, true, true, true, true, false, false, false, false]), (186, [true, true, true, true, true, true, true, true, true, false, false, false, false]), (257, [false, false, false, false, false, false, false, false, false, false, false, false, false])]) (zorc [(81, [some (2, some 0), some (0, none), some (0, none), some (0, none), some (0, none), some (0, none), some (0, none), some (0, none), some (0, none), some (0, none), none, none, none], [(0, none)], fun xs h => match xs with
  | [a1, a2, a3, a4, a5, a6, a7, a8, a9, t0] => M_access_81 kr r21 r36 a1 a2 a3 a4 a5 a6 a7 a8 a9 t0 (zhd h)
  | _ => none)]) (fun v h => kr v (zhd h)) (fun _ _ => none) 400 80 [some (2, 0), some (0, a1), some (0, a2), some (0, a3), some (0, a4), some (0, a5), some (0, a6), some (0, a7), some (0, a8), some (0, a9), none, none, none] [] (zM s) := by rfl
set_option maxRecDepth 100000 in
theorem qe_M_access_36b {ρ : Type} (kr : Int → zD → Option ρ) (r21 : Int → Int → Int → Int → Int → Int → Int → zD → Option ρ) (r36 : Int → Int → Int → Int → Int → Int → Int → Int → zD → Option ρ) (a1 a2 a3 a4 a5 a6 a7 a8 : Int) (s : zD) : M_access_36b kr r21 r36 a1 a2 a3 a4 a5 a6 a7 a8 s = zseg zPP false zfinM (zcal []) (zget (999, 0, 0, 0) zc_M_access) (zcut [(21, [true, true, true, true, true, true, true, true, false, false, false, false, false]), (36, [true, true, true, true, true, true, true, true, true, false, false, false, false]), (80, [true, true, true, true, true, true, true, true, true, true, false, false, false]), (81, [true, true, true, true, true, true, true, true, true, true, false, false, false]), (104, [true, true, true, true, true, true, true, true, true, true, true, false, false]), (143, [true, true, true, true, true, true, true, true, true, false, false, false, false]), (147, [true, true, true, true, true, true, true, true, true, false, false, false, false]), (148, [true, true, true, true, true, true, true, true, true, false, false, false, false]), (181, [true, true, true, true, true, true, true, true, true, false, false, false, false]), (186, [true, true, true, true, true, true, true, true, true, false, false, false, false]), (257, [false, false, false, false, false, false, false, false, false, false, false, false, false])]) (zorc [(21, [some (2, some 0), some (0, none), some (0, none), some (0, none), some (0, none), some (0, none), some (0, none), some (0, none), none, none, none, none, none], [], fun xs h => match xs with
  | [a1, a2, a3, a4, a5, a6, a7] => r21 a1 a2 a3 a4 a5 a6 a7 (zhd h)
  | _ => none), (80, [some (2, some 0), some (0, none), some (0, none), some (0, none), some (0, none), some (0, none), some (0, none), some (0, none), some (0, none), some (0, none), none, none, none], [], fun xs h => match xs with
  | [a1, a2, a3, a4, a5, a6, a7, a8, a9] => M_access_80 kr r21 r36 a1 a2 a3 a4 a5 a6 a7 a8 a9 (zhd h)
  | _ => none), (81, [some (2, some 0), some (0, none), some (0, none), some (0, none), some (0, none), some (0, none), some (0, none), some (0, none), some (0, none), some (0, none), none, none, none], [(0, none)], fun xs h => match xs with
  | [a1, a2, a3, a4, a5, a6, a7, a8, a9, t0] => M_access_81 kr r21 r36 a1 a2 a3 a4 a5 a6 a7 a8 a9 t0 (zhd h)
  | _ => none)]) (fun v h => kr v (zhd h)) (fun _ _ => none) 400 36 [some (2, 0), some (0, a1), some (0, a2), some (0, a3), some (0, a4), some (0, a5), some (0, a6), some (0, a7), some (0, a8), none, none, none, none] [] (zM s) := by rfl
set_option maxRecDepth 100000 in
theorem qe_M_access_257 {ρ : Type} (kr : Int → zD → Option ρ) (t0 t1 : Int) (s : zD) : M_access_257 kr t0 t1 s = zseg zPP false zfinM (zcal []) (zget (999, 0, 0, 0) zc_M_access) (zcut [(21, [true, true, true, true, true, true, true, true, false, false, false, false, false]), (36, [true, true, true, true, true, true, true, true, true, false, false, false, false]), (80, [true, true, true, true, true, true, true, true, true, true, false, false, false]), (81, [true, true, true, true, true, true, true, true, true, true, false, false, false]), (104, [true, true, true, true, true, true, true, true, true, true, true, false, false]), (143, [true, true, true, true, true, true, true, true, true, false, false, false, false]), (147, [true, true, true, true, true, true, true, true, true, false, false, false, false]), (148, [true, true, true, true, true, true, true, true, true, false, false, false, false]), (181, [true, true, true, true, true, true, true, true, true, false, false, false, false]), (186, [true, true, true, true, true, true, true, true, true, false, false, false, false]), (257, [false, false, false, false, false, false, false, false, false, false, false, false, false])]) (zorc []) (fun v h => kr v (zhd h)) (fun _ _ => none) 400 257 [none, none, none, none, none, none, none, none, none, none, none, none, none] [(0, t0), (0, t1), (2, 45)] (zM s) := by rfl
set_option maxRecDepth 100000 in
theorem qe_M_access_21b {ρ : Type} (kr : Int → zD → Option ρ) (r21 : Int → Int → Int → Int → Int → Int → Int → zD → Option ρ) (a1 a2 a3 a4 a5 a6 a7 : Int) (s : zD) : M_access_21b kr r21 a1 a2 a3 a4 a5 a6 a7 s = zseg zPP false zfinM (zcal []) (zget (999, 0, 0, 0) zc_M_access) (zcut [(21, [true, true, true, true, true, true, true, true, false, false, false, false, false]), (36, [true, true, true, true, true, true, true, true, true, false, false, false, false]), (80, [true, true, true, true, true, true, true, true, true, true, false, false, false]), (81, [true, true, true, true, true, true, true, true, true, true, false, false, false]), (104, [true, true, true, true, true, true, true, true, true, true, true, false, false]), (143, [true, true, true, true, true, true, true, true, true, false, false, false, false]), (147, [true, true, true, true, true, true, true, true, true, false, false, false, false]), (148, [true, true, true, true, true, true, true, true, true, false, false, false, false]), (181, [true, true, true, true, true, true, true, true, true, false, false, false, false]), (186, [true, true, true, true, true, true, true, true, true, false, false, false, false]), (257, [false, false, false, false, false, false, false, false, false, false, false, false, false])]) (zorc [(36, [some (2, some 0), some (0, none), some (0, none), some (0, none), some (0, none), some (0, none), some (0, none), some (0, none), some (0, none), none, none, none, none], [], fun xs h => match xs with
  | [a1, a2, a3, a4, a5, a6, a7, a8] => M_access_36 kr r21 a1 a2 a3 a4 a5 a6 a7 a8 (zhd h)
  | _ => none), (257, [none, none, none, none, none, none, none, none, none, none, none, none, none], [(0, none), (0, none), (2, some 45)], fun xs h => match xs with
  | [t0, t1] => M_access_257 kr t0 t1 (zhd h)
  | _ => none)]) (fun v h => kr v (zhd h)) (fun _ _ => none) 400 21 [some (2, 0), some (0, a1), some (0, a2), some (0, a3), some (0, a4), some (0, a5), some (0, a6), some (0, a7), none, none, none, none, none] [] (zM s) := by rfl
set_option maxRecDepth 100000 in
theorem qe_M_access {ρ : Type} (kr : Int → zD → Option ρ) (a1 a2 a3 a4 : Int) (s : zD) : M_access a1 a2 a3 a4 s kr = zseg zPP false zfinM (zcal []) (zget (999, 0, 0, 0) zc_M_access) (zcut [(21, [true, true, true, true, true, true, true, true, false, false, false, false, false]), (36, [true, true, true, true, true, true, true, true, true, false, false, false, false]), (80, [true, true, true, true, true, true, true, true, true, true, false, false, false]), (81, [true, true, true, true, true, true, true, true, true, true, false, false, false]), (104, [true, true, true, true, true, true, true, true, true, true, true, false, false]), (143, [true, true, true, true, true, true, true, true, true, false, false, false, false]), (147, [true, true, true, true, true, true, true, true, true, false, false, false, false]), (148, [true, true, true, true, true, true, true, true, true, false, false, false, false]), (181, [true, true, true, true, true, true, true, true, true, false, false, false, false]), (186, [true, true, true, true, true, true, true, true, true, false, false, false, false]), (257, [false, false, false, false, false, false, false, false, false, false, false, false, false])]) (zorc [(21, [some (2, some 0), some (0, none), some (0, none), some (0, none), some (0, none), some (0, none), some (0, none), some (0, none), none, none, none, none, none], [], fun xs h => match xs with
  | [a1, a2, a3, a4, a5, a6, a7] => M_access_21 kr a1 a2 a3 a4 a5 a6 a7 (zhd h)
  | _ => none)]) (fun v h => kr v (zhd h)) (fun _ _ => none) 400 0 [some (2, 0), some (0, a1), some (0, a2), some (0, a3), some (0, a4), none, none, none, none, none, none, none, none] [] (zM s) := by rfl
