def zc_M_usedRegisters : List zI := [(0, 0, 0, 0), (16, 0, 2, 0), (0, 0, 0, 0), (16, 0, 3, 0), (10, 0, 3, 0), (1, 72, 0, 0), (999, 0, 0, 0), (69, 59, 66, 0), (999, 0, 0, 0), (999, 0, 0, 0), (10, 0, 2, 0), (14, 0, 0, 0), (80, 12, 97, 32), (999, 0, 0, 0), (999, 0, 0, 0), (10, 0, 3, 0), (91, 0, 0, 0), (60, 40, 57, 0), (999, 0, 0, 0), (999, 0, 0, 0), (14, 0, 0, 0), (80, 12, 100, 33), (999, 0, 0, 0), (999, 0, 0, 0), (10, 0, 3, 0), (90, 0, 0, 0), (10, 0, 1, 0), (67, 30, 57, 0), (999, 0, 0, 0), (999, 0, 0, 0), (14, 0, 0, 0), (80, 12, 55, 18), (999, 0, 0, 0), (999, 0, 0, 0), (10, 0, 3, 0), (1, 6, 0, 0), (999, 0, 0, 0), (33, 0, 0, 0), (90, 0, 0, 0), (14, 0, 0, 0), (80, 12, 17, 5), (999, 0, 0, 0), (999, 0, 0, 0), (14, 0, 0, 0), (80, 12, 46, 15), (999, 0, 0, 0), (999, 0, 0, 0), (10, 0, 3, 0), (1, 6, 0, 0), (999, 0, 0, 0), (33, 0, 0, 0), (90, 0, 0, 0), (90, 0, 0, 0), (32, 0, 0, 0), (72, 4, 58, 0), (999, 0, 0, 0), (999, 0, 0, 0), (0, 0, 0, 0), (30, 0, 0, 0), (16, 0, 2, 0), (22, 1, 3, 0), (999, 0, 0, 0), (999, 0, 0, 0), (72, (-59), 4, 0), (999, 0, 0, 0), (999, 0, 0, 0), (10, 0, 2, 0), (130, 0, 0, 0)]
def M_usedRegisters_58 {ρ : Type} (kr : Int → zD → Option ρ) (r4 : Int → Int → Int → zD → Option ρ) (a1 a3 t0 t1 : Int) (s : zD) : Option ρ :=
r4 a1 (wr (t1 + t0)) (wr (a3 + 1)) s
def M_usedRegisters_57 {ρ : Type} (kr : Int → zD → Option ρ) (r4 : Int → Int → Int → zD → Option ρ) (a1 a3 t0 : Int) (s : zD) : Option ρ :=
M_usedRegisters_58 kr r4 a1 a3 0 t0 s
def M_usedRegisters_4b {ρ : Type} (kr : Int → zD → Option ρ) (r4 : Int → Int → Int → zD → Option ρ) (a1 a2 a3 : Int) (s : zD) : Option ρ :=
if a3 < 72 then (zix 72 a3 fun j1 =>
if (s 28 j1) = 0 then M_usedRegisters_57 kr r4 a1 a3 a2 s
else zix 72 a3 fun j2 =>
if (s 29 j2) = a1 then (zix 12 (wr (Int.tdiv a3 6)) fun j3 =>
zix 12 (wr (Int.tdiv a3 6)) fun j4 =>
zix 4 (s 11 j4) fun j5 =>
M_usedRegisters_58 kr r4 a1 a3 (wr ((s 14 j3) * (s 2 j5))) a2 s)
else M_usedRegisters_57 kr r4 a1 a3 a2 s)
else kr a2 s
def M_usedRegisters_4 {ρ : Type} (kr : Int → zD → Option ρ) : Int → Int → Int → zD → Option ρ := zit (fun _ _ _ _ => none) (M_usedRegisters_4b kr) zN
def M_usedRegisters {ρ : Type} (a1 : Int) (s : zD) (kr : Int → zD → Option ρ) : Option ρ :=
M_usedRegisters_4 kr a1 0 0 s
set_option maxRecDepth 100000 in
theorem qe_M_usedRegisters_58 {ρ : Type} (kr : Int → zD → Option ρ) (r4 : Int → Int → Int → zD → Option ρ) (a1 a3 t0 t1 : Int) (s : zD) : M_usedRegisters_58 kr r4 a1 a3 t0 t1 s = zseg zPP false zfinM (zcal []) (zget (999, 0, 0, 0) zc_M_usedRegisters) (zcut [(4, [true, true, true, true]), (57, [true, true, false, true]), (58, [true, true, false, true])]) (zorc [(4, [some (2, some 0), some (0, none), some (0, none), some (0, none)], [], fun xs h => match xs with
  | [a1, a2, a3] => r4 a1 a2 a3 (zhd h)
  | _ => none)]) (fun v h => kr v (zhd h)) (fun _ _ => none) 400 58 [some (2, 0), some (0, a1), none, some (0, a3)] [(0, t0), (0, t1)] (zM s) := by rfl
set_option maxRecDepth 100000 in
theorem qe_M_usedRegisters_57 {ρ : Type} (kr : Int → zD → Option ρ) (r4 : Int → Int → Int → zD → Option ρ) (a1 a3 t0 : Int) (s : zD) : M_usedRegisters_57 kr r4 a1 a3 t0 s = zseg zPP false zfinM (zcal []) (zget (999, 0, 0, 0) zc_M_usedRegisters) (zcut [(4, [true, true, true, true]), (57, [true, true, false, true]), (58, [true, true, false, true])]) (zorc [(58, [some (2, some 0), some (0, none), none, some (0, none)], [(0, none), (0, none)], fun xs h => match xs with
  | [a1, a3, t0, t1] => M_usedRegisters_58 kr r4 a1 a3 t0 t1 (zhd h)
  | _ => none)]) (fun v h => kr v (zhd h)) (fun _ _ => none) 400 57 [some (2, 0), some (0, a1), none, some (0, a3)] [(0, t0)] (zM s) := by rfl
set_option maxRecDepth 100000 in
theorem qe_M_usedRegisters_4b {ρ : Type} (kr : Int → zD → Option ρ) (r4 : Int → Int → Int → zD → Option ρ) (a1 a2 a3 : Int) (s : zD) : M_usedRegisters_4b kr r4 a1 a2 a3 s = zseg zPP false zfinM (zcal []) (zget (999, 0, 0, 0) zc_M_usedRegisters) (zcut [(4, [true, true, true, true]), (57, [true, true, false, true]), (58, [true, true, false, true])]) (zorc [(57, [some (2, some 0), some (0, none), none, some (0, none)], [(0, none)], fun xs h => match xs with
  | [a1, a3, t0] => M_usedRegisters_57 kr r4 a1 a3 t0 (zhd h)
  | _ => none), (58, [some (2, some 0), some (0, none), none, some (0, none)], [(0, none), (0, none)], fun xs h => match xs with
  | [a1, a3, t0, t1] => M_usedRegisters_58 kr r4 a1 a3 t0 t1 (zhd h)
  | _ => none)]) (fun v h => kr v (zhd h)) (fun _ _ => none) 400 4 [some (2, 0), some (0, a1), some (0, a2), some (0, a3)] [] (zM s) := by rfl
set_option maxRecDepth 100000 in
theorem qe_M_usedRegisters {ρ : Type} (kr : Int → zD → Option ρ) (a1 : Int) (s : zD) : M_usedRegisters a1 s kr = zseg zPP false zfinM (zcal []) (zget (999, 0, 0, 0) zc_M_usedRegisters) (zcut [(4, [true, true, true, true]), (57, [true, true, false, true]), (58, [true, true, false, true])]) (zorc [(4, [some (2, some 0), some (0, none), some (0, none), some (0, none)], [], fun xs h => match xs with
  | [a1, a2, a3] => M_usedRegisters_4 kr a1 a2 a3 (zhd h)
  | _ => none)]) (fun v h => kr v (zhd h)) (fun _ _ => none) 400 0 [some (2, 0), some (0, a1), none, none] [] (zM s) := by rfl
def zc_M_usedShared : List zI := [(0, 0, 0, 0), (16, 0, 2, 0), (0, 0, 0, 0), (16, 0, 3, 0), (10, 0, 3, 0), (1, 72, 0, 0), (999, 0, 0, 0), (69, 49, 56, 0), (999, 0, 0, 0), (999, 0, 0, 0), (10, 0, 2, 0), (14, 0, 0, 0), (80, 12, 97, 32), (999, 0, 0, 0), (999, 0, 0, 0), (10, 0, 3, 0), (91, 0, 0, 0), (60, 30, 47, 0), (999, 0, 0, 0), (999, 0, 0, 0), (14, 0, 0, 0), (80, 12, 100, 33), (999, 0, 0, 0), (999, 0, 0, 0), (10, 0, 3, 0), (90, 0, 0, 0), (10, 0, 1, 0), (67, 20, 47, 0), (999, 0, 0, 0), (999, 0, 0, 0), (14, 0, 0, 0), (80, 12, 20, 6), (999, 0, 0, 0), (999, 0, 0, 0), (14, 0, 0, 0), (80, 12, 46, 15), (999, 0, 0, 0), (999, 0, 0, 0), (10, 0, 3, 0), (1, 6, 0, 0), (999, 0, 0, 0), (33, 0, 0, 0), (90, 0, 0, 0), (90, 0, 0, 0), (72, 4, 48, 0), (999, 0, 0, 0), (999, 0, 0, 0), (0, 0, 0, 0), (30, 0, 0, 0), (16, 0, 2, 0), (22, 1, 3, 0), (999, 0, 0, 0), (999, 0, 0, 0), (72, (-49), 4, 0), (999, 0, 0, 0), (999, 0, 0, 0), (10, 0, 2, 0), (130, 0, 0, 0)]
def M_usedShared_48 {ρ : Type} (kr : Int → zD → Option ρ) (r4 : Int → Int → Int → zD → Option ρ) (a1 a3 t0 t1 : Int) (s : zD) : Option ρ :=
r4 a1 (wr (t1 + t0)) (wr (a3 + 1)) s
def M_usedShared_47 {ρ : Type} (kr : Int → zD → Option ρ) (r4 : Int → Int → Int → zD → Option ρ) (a1 a3 t0 : Int) (s : zD) : Option ρ :=
M_usedShared_48 kr r4 a1 a3 0 t0 s
def M_usedShared_4b {ρ : Type} (kr : Int → zD → Option ρ) (r4 : Int → Int → Int → zD → Option ρ) (a1 a2 a3 : Int) (s : zD) : Option ρ :=
if a3 < 72 then (zix 72 a3 fun j1 =>
if (s 28 j1) = 0 then M_usedShared_47 kr r4 a1 a3 a2 s
else zix 72 a3 fun j2 =>
if (s 29 j2) = a1 then (zix 12 (wr (Int.tdiv a3 6)) fun j3 =>
zix 4 (s 11 j3) fun j4 =>
M_usedShared_48 kr r4 a1 a3 (s 3 j4) a2 s)
else M_usedShared_47 kr r4 a1 a3 a2 s)
else kr a2 s
def M_usedShared_4 {ρ : Type} (kr : Int → zD → Option ρ) : Int → Int → Int → zD → Option ρ := zit (fun _ _ _ _ => none) (M_usedShared_4b kr) zN
def M_usedShared {ρ : Type} (a1 : Int) (s : zD) (kr : Int → zD → Option ρ) : Option ρ :=
M_usedShared_4 kr a1 0 0 s
set_option maxRecDepth 100000 in
theorem qe_M_usedShared_48 {ρ : Type} (kr : Int → zD → Option ρ) (r4 : Int → Int → Int → zD → Option ρ) (a1 a3 t0 t1 : Int) (s : zD) : M_usedShared_48 kr r4 a1 a3 t0 t1 s = zseg zPP false zfinM (zcal []) (zget (999, 0, 0, 0) zc_M_usedShared) (zcut [(4, [true, true, true, true]), (47, [true, true, false, true]), (48, [true, true, false, true])]) (zorc [(4, [some (2, some 0), some (0, none), some (0, none), some (0, none)], [], fun xs h => match xs with
  | [a1, a2, a3] => r4 a1 a2 a3 (zhd h)
  | _ => none)]) (fun v h => kr v (zhd h)) (fun _ _ => none) 400 48 [some (2, 0), some (0, a1), none, some (0, a3)] [(0, t0), (0, t1)] (zM s) := by rfl
set_option maxRecDepth 100000 in
theorem qe_M_usedShared_47 {ρ : Type} (kr : Int → zD → Option ρ) (r4 : Int → Int → Int → zD → Option ρ) (a1 a3 t0 : Int) (s : zD) : M_usedShared_47 kr r4 a1 a3 t0 s = zseg zPP false zfinM (zcal []) (zget (999, 0, 0, 0) zc_M_usedShared) (zcut [(4, [true, true, true, true]), (47, [true, true, false, true]), (48, [true, true, false, true])]) (zorc [(48, [some (2, some 0), some (0, none), none, some (0, none)], [(0, none), (0, none)], fun xs h => match xs with
  | [a1, a3, t0, t1] => M_usedShared_48 kr r4 a1 a3 t0 t1 (zhd h)
  | _ => none)]) (fun v h => kr v (zhd h)) (fun _ _ => none) 400 47 [some (2, 0), some (0, a1), none, some (0, a3)] [(0, t0)] (zM s) := by rfl
set_option maxRecDepth 100000 in
theorem qe_M_usedShared_4b {ρ : Type} (kr : Int → zD → Option ρ) (r4 : Int → Int → Int → zD → Option ρ) (a1 a2 a3 : Int) (s : zD) : M_usedShared_4b kr r4 a1 a2 a3 s = zseg zPP false zfinM (zcal []) (zget (999, 0, 0, 0) zc_M_usedShared) (zcut [(4, [true, true, true, true]), (47, [true, true, false, true]), (48, [true, true, false, true])]) (zorc [(47, [some (2, some 0), some (0, none), none, some (0, none)], [(0, none)], fun xs h => match xs with
  | [a1, a3, t0] => M_usedShared_47 kr r4 a1 a3 t0 (zhd h)
  | _ => none), (48, [some (2, some 0), some (0, none), none, some (0, none)], [(0, none), (0, none)], fun xs h => match xs with
  | [a1, a3, t0, t1] => M_usedShared_48 kr r4 a1 a3 t0 t1 (zhd h)
  | _ => none)]) (fun v h => kr v (zhd h)) (fun _ _ => none) 400 4 [some (2, 0), some (0, a1), some (0, a2), some (0, a3)] [] (zM s) := by rfl
set_option maxRecDepth 100000 in
theorem qe_M_usedShared {ρ : Type} (kr : Int → zD → Option ρ) (a1 : Int) (s : zD) : M_usedShared a1 s kr = zseg zPP false zfinM (zcal []) (zget (999, 0, 0, 0) zc_M_usedShared) (zcut [(4, [true, true, true, true]), (47, [true, true, false, true]), (48, [true, true, false, true])]) (zorc [(4, [some (2, some 0), some (0, none), some (0, none), some (0, none)], [], fun xs h => match xs with
  | [a1, a2, a3] => M_usedShared_4 kr a1 a2 a3 (zhd h)
  | _ => none)]) (fun v h => kr v (zhd h)) (fun _ _ => none) 400 0 [some (2, 0), some (0, a1), none, none] [] (zM s) := by rfl
def zc_M_hasRoom : List zI := [(14, 0, 0, 0), (80, 12, 115, 38), (999, 0, 0, 0), (999, 0, 0, 0), (10, 0, 1, 0), (90, 0, 0, 0), (14, 0, 0, 0), (10, 0, 2, 0), (110, 0, 405, 82), (999, 0, 0, 0), (999, 0, 0, 0), (30, 0, 0, 0), (0, 4, 0, 0), (70, 58, 71, 0), (999, 0, 0, 0), (999, 0, 0, 0), (14, 0, 0, 0), (10, 0, 1, 0), (110, 0, 408, 122), (999, 0, 0, 0), (999, 0, 0, 0), (14, 0, 0, 0), (80, 12, 55, 18), (999, 0, 0, 0), (999, 0, 0, 0), (10, 0, 2, 0), (90, 0, 0, 0), (14, 0, 0, 0), (80, 12, 17, 5), (999, 0, 0, 0), (999, 0, 0, 0), (14, 0, 0, 0), (80, 12, 46, 15), (999, 0, 0, 0), (999, 0, 0, 0), (10, 0, 2, 0), (90, 0, 0, 0), (90, 0, 0, 0), (32, 0, 0, 0), (30, 0, 0, 0), (1, 64, 0, 0), (999, 0, 0, 0), (70, 29, 71, 0), (999, 0, 0, 0), (999, 0, 0, 0), (14, 0, 0, 0), (10, 0, 1, 0), (110, 0, 411, 123), (999, 0, 0, 0), (999, 0, 0, 0), (14, 0, 0, 0), (80, 12, 20, 6), (999, 0, 0, 0), (999, 0, 0, 0), (14, 0, 0, 0), (80, 12, 46, 15), (999, 0, 0, 0), (999, 0, 0, 0), (10, 0, 2, 0), (90, 0, 0, 0), (90, 0, 0, 0), (30, 0, 0, 0), (1, 32, 0, 0), (999, 0, 0, 0), (70, 7, 71, 0), (999, 0, 0, 0), (999, 0, 0, 0), (0, 1, 0, 0), (72, 4, 72, 0), (999, 0, 0, 0), (999, 0, 0, 0), (0, 0, 0, 0), (130, 0, 1, 0)]
def M_hasRoom_72 {ρ : Type} (kr : Int → zD → Option ρ) (t0 : Int) (s : zD) : Option ρ :=
znar 1 t0 fun x1 => kr x1 s
def M_hasRoom_71 {ρ : Type} (kr : Int → zD → Option ρ) (s : zD) : Option ρ :=
M_hasRoom_72 kr 0 s
def M_hasRoom {ρ : Type} (a1 a2 : Int) (s : zD) (kr : Int → zD → Option ρ) : Option ρ :=
zix 2 a1 fun j1 =>
M_groupsOf a2 s  fun v2 s3 =>
if 4 < (wr ((s 34 j1) + v2)) then M_hasRoom_71 kr s3
else M_usedRegisters a1 s3  fun v4 s5 =>
zix 12 a2 fun j6 =>
zix 12 a2 fun j7 =>
zix 4 (s5 11 j7) fun j8 =>
if 64 < (wr (v4 + (wr ((s5 14 j6) * (s5 2 j8))))) then M_hasRoom_71 kr s5
else M_usedShared a1 s5  fun v9 s10 =>
zix 12 a2 fun j11 =>
zix 4 (s10 11 j11) fun j12 =>
if 32 < (wr (v9 + (s10 3 j12))) then M_hasRoom_71 kr s10
else M_hasRoom_72 kr 1 s10
set_option maxRecDepth 100000 in
theorem qe_M_hasRoom_72 {ρ : Type} (kr : Int → zD → Option ρ) (t0 : Int) (s : zD) : M_hasRoom_72 kr t0 s = zseg zPP false zfinM (zcal []) (zget (999, 0, 0, 0) zc_M_hasRoom) (zcut [(71, [false, false, false]), (72, [false, false, false])]) (zorc []) (fun v h => kr v (zhd h)) (fun _ _ => none) 400 72 [none, none, none] [(0, t0)] (zM s) := by rfl
set_option maxRecDepth 100000 in
theorem qe_M_hasRoom_71 {ρ : Type} (kr : Int → zD → Option ρ) (s : zD) : M_hasRoom_71 kr s = zseg zPP false zfinM (zcal []) (zget (999, 0, 0, 0) zc_M_hasRoom) (zcut [(71, [false, false, false]), (72, [false, false, false])]) (zorc [(72, [none, none, none], [(0, none)], fun xs h => match xs with
  | [t0] => M_hasRoom_72 kr t0 (zhd h)
  | _ => none)]) (fun v h => kr v (zhd h)) (fun _ _ => none) 400 71 [none, none, none] [] (zM s) := by rfl
set_option maxRecDepth 100000 in
theorem qe_M_hasRoom {ρ : Type} (kr : Int → zD → Option ρ) (a1 a2 : Int) (s : zD) : M_hasRoom a1 a2 s kr = zseg zPP false zfinM (zcal [(82, [some 0, none], fun xs h kr kt => match xs with
  | [x0] => M_groupsOf x0 (zhd h) (fun v s => kr v (zM s))
  | _ => none), (122, [some 0, none], fun xs h kr kt => match xs with
  | [x0] => M_usedRegisters x0 (zhd h) (fun v s => kr v (zM s))
  | _ => none), (123, [some 0, none], fun xs h kr kt => match xs with
  | [x0] => M_usedShared x0 (zhd h) (fun v s => kr v (zM s))
  | _ => none)]) (zget (999, 0, 0, 0) zc_M_hasRoom) (zcut [(71, [false, false, false]), (72, [false, false, false])]) (zorc [(71, [none, none, none], [], fun xs h => match xs with
  | [] => M_hasRoom_71 kr  (zhd h)
  | _ => none), (72, [none, none, none], [(0, none)], fun xs h => match xs with
  | [t0] => M_hasRoom_72 kr t0 (zhd h)
  | _ => none)]) (fun v h => kr v (zhd h)) (fun _ _ => none) 400 0 [some (2, 0), some (0, a1), some (0, a2)] [] (zM s) := by rfl
def zc_M_unitFor : List zI := [(14, 0, 0, 0), (0, 0, 0, 0), (10, 0, 1, 0), (110, 0, 414, 124), (999, 0, 0, 0), (999, 0, 0, 0), (16, 0, 2, 0), (14, 0, 0, 0), (0, 1, 0, 0), (10, 0, 1, 0), (110, 0, 414, 124), (999, 0, 0, 0), (999, 0, 0, 0), (16, 0, 3, 0), (10, 0, 2, 0), (60, 26, 41, 0), (999, 0, 0, 0), (999, 0, 0, 0), (10, 0, 3, 0), (60, 18, 37, 0), (999, 0, 0, 0), (999, 0, 0, 0), (14, 0, 0, 0), (80, 12, 115, 38), (999, 0, 0, 0), (999, 0, 0, 0), (0, 0, 0, 0), (90, 0, 0, 0), (14, 0, 0, 0), (80, 12, 115, 38), (999, 0, 0, 0), (999, 0, 0, 0), (0, 1, 0, 0), (90, 0, 0, 0), (70, 7, 41, 0), (999, 0, 0, 0), (999, 0, 0, 0), (0, 0, 0, 0), (72, 12, 50, 0), (999, 0, 0, 0), (999, 0, 0, 0), (10, 0, 3, 0), (60, 7, 49, 0), (999, 0, 0, 0), (999, 0, 0, 0), (0, 1, 0, 0), (72, 4, 50, 0), (999, 0, 0, 0), (999, 0, 0, 0), (0, (-1), 0, 0), (130, 0, 0, 0)]
def M_unitFor_50 {ρ : Type} (kr : Int → zD → Option ρ) (t0 : Int) (s : zD) : Option ρ :=
kr t0 s
def M_unitFor_37 {ρ : Type} (kr : Int → zD → Option ρ) (s : zD) : Option ρ :=
M_unitFor_50 kr 0 s
def M_unitFor_41 {ρ : Type} (kr : Int → zD → Option ρ) (a3 : Int) (s : zD) : Option ρ :=
if a3 = 0 then M_unitFor_50 kr (-1) s
else M_unitFor_50 kr 1 s
def M_unitFor {ρ : Type} (a1 : Int) (s : zD) (kr : Int → zD → Option ρ) : Option ρ :=
M_hasRoom 0 a1 s  fun v1 s2 =>
M_hasRoom 1 a1 s2  fun v3 s4 =>
if v1 = 0 then M_unitFor_41 kr v3 s4
else if v3 = 0 then M_unitFor_37 kr s4
else zix 2 0 fun j5 =>
zix 2 1 fun j6 =>
if (s4 34 j6) < (s4 34 j5) then M_unitFor_41 kr v3 s4
else M_unitFor_37 kr s4
set_option maxRecDepth 100000 in
theorem qe_M_unitFor_50 {ρ : Type} (kr : Int → zD → Option ρ) (t0 : Int) (s : zD) : M_unitFor_50 kr t0 s = zseg zPP false zfinM (zcal []) (zget (999, 0, 0, 0) zc_M_unitFor) (zcut [(37, [false, false, false, false]), (41, [false, false, false, true]), (50, [false, false, false, false])]) (zorc []) (fun v h => kr v (zhd h)) (fun _ _ => none) 400 50 [none, none, none, none] [(0, t0)] (zM s) := by rfl
set_option maxRecDepth 100000 in
theorem qe_M_unitFor_37 {ρ : Type} (kr : Int → zD → Option ρ) (s : zD) : M_unitFor_37 kr s = zseg zPP false zfinM (zcal []) (zget (999, 0, 0, 0) zc_M_unitFor) (zcut [(37, [false, false, false, false]), (41, [false, false, false, true]), (50, [false, false, false, false])]) (zorc [(50, [none, none, none, none], [(0, none)], fun xs h => match xs with
  | [t0] => M_unitFor_50 kr t0 (zhd h)
  | _ => none)]) (fun v h => kr v (zhd h)) (fun _ _ => none) 400 37 [none, none, none, none] [] (zM s) := by rfl
set_option maxRecDepth 100000 in
theorem qe_M_unitFor_41 {ρ : Type} (kr : Int → zD → Option ρ) (a3 : Int) (s : zD) : M_unitFor_41 kr a3 s = zseg zPP false zfinM (zcal []) (zget (999, 0, 0, 0) zc_M_unitFor) (zcut [(37, [false, false, false, false]), (41, [false, false, false, true]), (50, [false, false, false, false])]) (zorc [(50, [none, none, none, none], [(0, none)], fun xs h => match xs with
  | [t0] => M_unitFor_50 kr t0 (zhd h)
  | _ => none)]) (fun v h => kr v (zhd h)) (fun _ _ => none) 400 41 [none, none, none, some (0, a3)] [] (zM s) := by rfl
set_option maxRecDepth 100000 in
theorem qe_M_unitFor {ρ : Type} (kr : Int → zD → Option ρ) (a1 : Int) (s : zD) : M_unitFor a1 s kr = zseg zPP false zfinM (zcal [(124, [some 0, none, none], fun xs h kr kt => match xs with
  | [x0, x1] => M_hasRoom x0 x1 (zhd h) (fun v s => kr v (zM s))
  | _ => none)]) (zget (999, 0, 0, 0) zc_M_unitFor) (zcut [(37, [false, false, false, false]), (41, [false, false, false, true]), (50, [false, false, false, false])]) (zorc [(37, [none, none, none, none], [], fun xs h => match xs with
  | [] => M_unitFor_37 kr  (zhd h)
  | _ => none), (41, [none, none, none, some (0, none)], [], fun xs h => match xs with
  | [a3] => M_unitFor_41 kr a3 (zhd h)
  | _ => none)]) (fun v h => kr v (zhd h)) (fun _ _ => none) 400 0 [some (2, 0), some (0, a1), none, none] [] (zM s) := by rfl
def zc_M_give : List zI := [(10, 0, 1, 0), (14, 0, 0, 0), (80, 12, 70, 23), (999, 0, 0, 0), (999, 0, 0, 0), (10, 0, 1, 0), (90, 0, 0, 0), (113, 0, 242, 81), (999, 0, 0, 0), (999, 0, 0, 0), (16, 0, 3, 0), (14, 0, 0, 0), (80, 12, 70, 23), (999, 0, 0, 0), (999, 0, 0, 0), (10, 0, 1, 0), (51, 0, 0, 0), (90, 0, 0, 0), (0, 1, 0, 0), (30, 0, 0, 0), (95, 0, 0, 0), (14, 0, 0, 0), (80, 12, 97, 32), (999, 0, 0, 0), (999, 0, 0, 0), (10, 0, 3, 0), (0, 1, 0, 0), (96, 0, 0, 0), (14, 0, 0, 0), (80, 12, 100, 33), (999, 0, 0, 0), (999, 0, 0, 0), (10, 0, 3, 0), (10, 0, 2, 0), (95, 0, 0, 0), (14, 0, 0, 0), (80, 12, 94, 31), (999, 0, 0, 0), (999, 0, 0, 0), (10, 0, 3, 0), (0, 0, 0, 0), (95, 0, 0, 0), (0, 0, 0, 0), (17, 0, 4, 0), (999, 0, 0, 0), (11, 0, 4, 0), (999, 0, 0, 0), (1, 16, 0, 0), (999, 0, 0, 0), (69, 22, 71, 0), (999, 0, 0, 0), (999, 0, 0, 0), (14, 0, 0, 0), (80, 12, 112, 37), (999, 0, 0, 0), (999, 0, 0, 0), (1, 16, 0, 0), (999, 0, 0, 0), (10, 0, 3, 0), (32, 0, 0, 0), (11, 0, 4, 0), (999, 0, 0, 0), (30, 0, 0, 0), (0, 0, 0, 0), (95, 0, 0, 0), (22, 1, 4, 0), (999, 0, 0, 0), (999, 0, 0, 0), (72, (-23), 45, 0), (999, 0, 0, 0), (999, 0, 0, 0), (0, 0, 0, 0), (17, 0, 4, 0), (999, 0, 0, 0), (11, 0, 4, 0), (999, 0, 0, 0), (14, 0, 0, 0), (80, 12, 55, 18), (999, 0, 0, 0), (999, 0, 0, 0), (10, 0, 1, 0), (90, 0, 0, 0), (69, 84, 166, 0), (999, 0, 0, 0), (999, 0, 0, 0), (14, 0, 0, 0), (10, 0, 3, 0), (11, 0, 4, 0), (999, 0, 0, 0), (110, 0, 249, 86), (999, 0, 0, 0), (999, 0, 0, 0), (17, 0, 5, 0), (999, 0, 0, 0), (14, 0, 0, 0), (80, 12, 106, 35), (999, 0, 0, 0), (999, 0, 0, 0), (11, 0, 5, 0), (999, 0, 0, 0), (0, 0, 0, 0), (95, 0, 0, 0), (14, 0, 0, 0), (80, 12, 103, 34), (999, 0, 0, 0), (999, 0, 0, 0), (11, 0, 5, 0), (999, 0, 0, 0), (14, 0, 0, 0), (80, 12, 23, 7), (999, 0, 0, 0), (999, 0, 0, 0), (14, 0, 0, 0), (80, 12, 46, 15), (999, 0, 0, 0), (999, 0, 0, 0), (10, 0, 1, 0), (90, 0, 0, 0), (90, 0, 0, 0), (61, 8, 127, 0), (999, 0, 0, 0), (999, 0, 0, 0), (1, 101, 0, 0), (999, 0, 0, 0), (72, 5, 129, 0), (999, 0, 0, 0), (999, 0, 0, 0), (1, 114, 0, 0), (999, 0, 0, 0), (97, 0, 0, 0), (0, 0, 0, 0), (17, 0, 6, 0), (999, 0, 0, 0), (11, 0, 6, 0), (999, 0, 0, 0), (1, 8, 0, 0), (999, 0, 0, 0), (69, 23, 160, 0), (999, 0, 0, 0), (999, 0, 0, 0), (14, 0, 0, 0), (80, 12, 109, 36), (999, 0, 0, 0), (999, 0, 0, 0), (1, 8, 0, 0), (999, 0, 0, 0), (11, 0, 5, 0), (999, 0, 0, 0), (32, 0, 0, 0), (11, 0, 6, 0), (999, 0, 0, 0), (30, 0, 0, 0), (0, 0, 0, 0), (95, 0, 0, 0), (22, 1, 6, 0), (999, 0, 0, 0), (999, 0, 0, 0), (72, (-24), 133, 0), (999, 0, 0, 0), (999, 0, 0, 0), (22, 1, 4, 0), (999, 0, 0, 0), (999, 0, 0, 0), (72, (-89), 74, 0), (999, 0, 0, 0), (999, 0, 0, 0), (0, 0, 0, 0), (17, 0, 4, 0), (999, 0, 0, 0), (11, 0, 4, 0), (999, 0, 0, 0), (14, 0, 0, 0), (10, 0, 1, 0), (110, 0, 405, 82), (999, 0, 0, 0), (999, 0, 0, 0), (69, 67, 243, 0), (999, 0, 0, 0), (999, 0, 0, 0), (0, 4, 0, 0), (10, 0, 2, 0), (32, 0, 0, 0), (14, 0, 0, 0), (80, 12, 115, 38), (999, 0, 0, 0), (999, 0, 0, 0), (10, 0, 2, 0), (90, 0, 0, 0), (30, 0, 0, 0), (17, 0, 5, 0), (999, 0, 0, 0), (14, 0, 0, 0), (80, 12, 118, 39), (999, 0, 0, 0), (999, 0, 0, 0), (11, 0, 5, 0), (999, 0, 0, 0), (10, 0, 3, 0), (95, 0, 0, 0), (14, 0, 0, 0), (80, 12, 121, 40), (999, 0, 0, 0), (999, 0, 0, 0), (11, 0, 5, 0), (999, 0, 0, 0), (11, 0, 4, 0), (999, 0, 0, 0), (95, 0, 0, 0), (14, 0, 0, 0), (80, 12, 124, 41), (999, 0, 0, 0), (999, 0, 0, 0), (11, 0, 5, 0), (999, 0, 0, 0), (14, 0, 0, 0), (80, 12, 390, 1), (999, 0, 0, 0), (999, 0, 0, 0), (95, 0, 0, 0), (14, 0, 0, 0), (80, 12, 127, 42), (999, 0, 0, 0), (999, 0, 0, 0), (11, 0, 5, 0), (999, 0, 0, 0), (0, 0, 0, 0), (95, 0, 0, 0), (14, 0, 0, 0), (80, 12, 115, 38), (999, 0, 0, 0), (999, 0, 0, 0), (10, 0, 2, 0), (51, 0, 0, 0), (90, 0, 0, 0), (0, 1, 0, 0), (30, 0, 0, 0), (95, 0, 0, 0), (22, 1, 4, 0), (999, 0, 0, 0), (999, 0, 0, 0), (72, (-71), 169, 0), (999, 0, 0, 0), (999, 0, 0, 0), (14, 0, 0, 0), (10, 0, 3, 0), (110, 0, 393, 93), (999, 0, 0, 0), (999, 0, 0, 0), (133, 0, 0, 0)]
def M_give_133b {ρ : Type} (kr : Int → zD → Option ρ) (r74 : Int → Int → Int → Int → zD → Option ρ) (r133 : Int → Int → Int → Int → Int → Int → zD → Option ρ) (a1 a2 a3 a4 a5 a6 : Int) (s : zD) : Option ρ :=
if a6 < 8 then (zix 9216 (wr ((wr (8 * a5)) + a6)) fun j1 =>
zlet (zup s 32 j1 0) fun s2 =>
r133 a1 a2 a3 a4 a5 (wr (a6 + 1)) s2)
else r74 a1 a2 a3 (wr (a4 + 1)) s
def M_give_133 {ρ : Type} (kr : Int → zD → Option ρ) (r74 : Int → Int → Int → Int → zD → Option ρ) : Int → Int → Int → Int → Int → Int → zD → Option ρ := zit (fun _ _ _ _ _ _ _ => none) (M_give_133b kr r74) zN
def M_give_129 {ρ : Type} (kr : Int → zD → Option ρ) (r74 : Int → Int → Int → Int → zD → Option ρ) (a1 a2 a3 a4 a5 t0 t1 : Int) (s : zD) : Option ρ :=
zix 1152 t1 fun j1 =>
znar 2 t0 fun x2 =>
zlet (zup s 30 j1 x2) fun s3 =>
M_give_133 kr r74 a1 a2 a3 a4 a5 0 s3
def M_give_169b {ρ : Type} (kr : Int → zD → Option ρ) (r169 : Int → Int → Int → Int → zD → Option ρ) (a1 a2 a3 a4 : Int) (s : zD) : Option ρ :=
M_groupsOf a1 s  fun v1 s2 =>
if a4 < v1 then (zix 2 a2 fun j5 =>
zix 8 (wr ((wr (4 * a2)) + (s2 34 j5))) fun j6 =>
zlet (zup s2 35 j6 a3) fun s7 =>
zix 8 (wr ((wr (4 * a2)) + (s2 34 j5))) fun j8 =>
zlet (zup s7 36 j8 a4) fun s9 =>
zix 8 (wr ((wr (4 * a2)) + (s2 34 j5))) fun j10 =>
zlet (zup s9 37 j10 (s9 0 1)) fun s11 =>
zix 8 (wr ((wr (4 * a2)) + (s2 34 j5))) fun j12 =>
zlet (zup s11 38 j12 0) fun s13 =>
zix 2 a2 fun j14 =>
zix 2 a2 fun j15 =>
zlet (zup s13 34 j15 (wr ((s13 34 j14) + 1))) fun s16 =>
r169 a1 a2 a3 (wr (a4 + 1)) s16)
else M_settle a3 s2  fun _ s4 =>
kr 0 s4
def M_give_169 {ρ : Type} (kr : Int → zD → Option ρ) : Int → Int → Int → Int → zD → Option ρ := zit (fun _ _ _ _ _ => none) (M_give_169b kr) zN
def M_give_74b {ρ : Type} (kr : Int → zD → Option ρ) (r74 : Int → Int → Int → Int → zD → Option ρ) (a1 a2 a3 a4 : Int) (s : zD) : Option ρ :=
zix 12 a1 fun j1 =>
if a4 < (s 14 j1) then (M_threadCell a3 a4 s  fun v2 s3 =>
zix 1152 v2 fun j4 =>
zlet (zup s3 31 j4 0) fun s5 =>
zix 12 a1 fun j6 =>
zix 4 (s5 11 j6) fun j7 =>
if (s5 4 j7) = 0 then M_give_129 kr r74 a1 a2 a3 a4 v2 101 v2 s5
else M_give_129 kr r74 a1 a2 a3 a4 v2 114 v2 s5)
else M_give_169 kr a1 a2 a3 0 s
def M_give_74 {ρ : Type} (kr : Int → zD → Option ρ) : Int → Int → Int → Int → zD → Option ρ := zit (fun _ _ _ _ _ => none) (M_give_74b kr) zN
def M_give_45b {ρ : Type} (kr : Int → zD → Option ρ) (r45 : Int → Int → Int → Int → zD → Option ρ) (a1 a2 a3 a4 : Int) (s : zD) : Option ρ :=
if a4 < 16 then (zix 1152 (wr ((wr (16 * a3)) + a4)) fun j1 =>
zlet (zup s 33 j1 0) fun s2 =>
r45 a1 a2 a3 (wr (a4 + 1)) s2)
else M_give_74 kr a1 a2 a3 0 s
def M_give_45 {ρ : Type} (kr : Int → zD → Option ρ) : Int → Int → Int → Int → zD → Option ρ := zit (fun _ _ _ _ _ => none) (M_give_45b kr) zN
def M_give {ρ : Type} (a1 a2 : Int) (s : zD) (kr : Int → zD → Option ρ) : Option ρ :=
zix 12 a1 fun j1 =>
M_blockOf a1 (s 19 j1) s  fun v2 s3 =>
zix 12 a1 fun j4 =>
zix 12 a1 fun j5 =>
zlet (zup s3 19 j5 (wr ((s3 19 j4) + 1))) fun s6 =>
zix 72 v2 fun j7 =>
zlet (zup s6 28 j7 1) fun s8 =>
zix 72 v2 fun j9 =>
zlet (zup s8 29 j9 a2) fun s10 =>
zix 72 v2 fun j11 =>
zlet (zup s10 27 j11 0) fun s12 =>
M_give_45 kr a1 a2 v2 0 s12
set_option maxRecDepth 100000 in
theorem qe_M_give_133b {ρ : Type} (kr : Int → zD → Option ρ) (r74 : Int → Int → Int → Int → zD → Option ρ) (r133 : Int → Int → Int → Int → Int → Int → zD → Option ρ) (a1 a2 a3 a4 a5 a6 : Int) (s : zD) : M_give_133b kr r74 r133 a1 a2 a3 a4 a5 a6 s = zseg zPP false zfinM (zcal []) (zget (999, 0, 0, 0) zc_M_give) (zcut [(45, [true, true, true, true, true, false, false]), (74, [true, true, true, true, true, false, false]), (129, [true, true, true, true, true, true, false]), (133, [true, true, true, true, true, true, true]), (169, [true, true, true, true, true, false, false])]) (zorc [(74, [some (2, some 0), some (0, none), some (0, none), some (0, none), some (0, none), none, none], [], fun xs h => match xs with
  | [a1, a2, a3, a4] => r74 a1 a2 a3 a4 (zhd h)
  | _ => none), (133, [some (2, some 0), some (0, none), some (0, none), some (0, none), some (0, none), some (0, none), some (0, none)], [], fun xs h => match xs with
  | [a1, a2, a3, a4, a5, a6] => r133 a1 a2 a3 a4 a5 a6 (zhd h)
  | _ => none)]) (fun v h => kr v (zhd h)) (fun _ _ => none) 400 133 [some (2, 0), some (0, a1), some (0, a2), some (0, a3), some (0, a4), some (0, a5), some (0, a6)] [] (zM s) := by rfl
set_option maxRecDepth 100000 in
theorem qe_M_give_129 {ρ : Type} (kr : Int → zD → Option ρ) (r74 : Int → Int → Int → Int → zD → Option ρ) (a1 a2 a3 a4 a5 t0 t1 : Int) (s : zD) : M_give_129 kr r74 a1 a2 a3 a4 a5 t0 t1 s = zseg zPP false zfinM (zcal []) (zget (999, 0, 0, 0) zc_M_give) (zcut [(45, [true, true, true, true, true, false, false]), (74, [true, true, true, true, true, false, false]), (129, [true, true, true, true, true, true, false]), (133, [true, true, true, true, true, true, true]), (169, [true, true, true, true, true, false, false])]) (zorc [(133, [some (2, some 0), some (0, none), some (0, none), some (0, none), some (0, none), some (0, none), some (0, none)], [], fun xs h => match xs with
  | [a1, a2, a3, a4, a5, a6] => M_give_133 kr r74 a1 a2 a3 a4 a5 a6 (zhd h)
  | _ => none)]) (fun v h => kr v (zhd h)) (fun _ _ => none) 400 129 [some (2, 0), some (0, a1), some (0, a2), some (0, a3), some (0, a4), some (0, a5), none] [(0, t0), (0, t1), (2, 30)] (zM s) := by rfl
set_option maxRecDepth 100000 in
theorem qe_M_give_169b {ρ : Type} (kr : Int → zD → Option ρ) (r169 : Int → Int → Int → Int → zD → Option ρ) (a1 a2 a3 a4 : Int) (s : zD) : M_give_169b kr r169 a1 a2 a3 a4 s = zseg zPP false zfinM (zcal [(82, [some 0, none], fun xs h kr kt => match xs with
  | [x0] => M_groupsOf x0 (zhd h) (fun v s => kr v (zM s))
  | _ => none), (93, [some 0, none], fun xs h kr kt => match xs with
  | [x0] => M_settle x0 (zhd h) (fun v s => kr v (zM s))
  | _ => none)]) (zget (999, 0, 0, 0) zc_M_give) (zcut [(45, [true, true, true, true, true, false, false]), (74, [true, true, true, true, true, false, false]), (129, [true, true, true, true, true, true, false]), (133, [true, true, true, true, true, true, true]), (169, [true, true, true, true, true, false, false])]) (zorc [(169, [some (2, some 0), some (0, none), some (0, none), some (0, none), some (0, none), none, none], [], fun xs h => match xs with
  | [a1, a2, a3, a4] => r169 a1 a2 a3 a4 (zhd h)
  | _ => none)]) (fun v h => kr v (zhd h)) (fun _ _ => none) 400 169 [some (2, 0), some (0, a1), some (0, a2), some (0, a3), some (0, a4), none, none] [] (zM s) := by rfl
set_option maxRecDepth 100000 in
theorem qe_M_give_74b {ρ : Type} (kr : Int → zD → Option ρ) (r74 : Int → Int → Int → Int → zD → Option ρ) (a1 a2 a3 a4 : Int) (s : zD) : M_give_74b kr r74 a1 a2 a3 a4 s = zseg zPP false zfinM (zcal [(86, [some 0, none, none], fun xs h kr kt => match xs with
  | [x0, x1] => M_threadCell x0 x1 (zhd h) (fun v s => kr v (zM s))
  | _ => none)]) (zget (999, 0, 0, 0) zc_M_give) (zcut [(45, [true, true, true, true, true, false, false]), (74, [true, true, true, true, true, false, false]), (129, [true, true, true, true, true, true, false]), (133, [true, true, true, true, true, true, true]), (169, [true, true, true, true, true, false, false])]) (zorc [(129, [some (2, some 0), some (0, none), some (0, none), some (0, none), some (0, none), some (0, none), none], [(0, none), (0, none), (2, some 30)], fun xs h => match xs with
  | [a1, a2, a3, a4, a5, t0, t1] => M_give_129 kr r74 a1 a2 a3 a4 a5 t0 t1 (zhd h)
  | _ => none), (169, [some (2, some 0), some (0, none), some (0, none), some (0, none), some (0, none), none, none], [], fun xs h => match xs with
  | [a1, a2, a3, a4] => M_give_169 kr a1 a2 a3 a4 (zhd h)
  | _ => none)]) (fun v h => kr v (zhd h)) (fun _ _ => none) 400 74 [some (2, 0), some (0, a1), some (0, a2), some (0, a3), some (0, a4), none, none] [] (zM s) := by rfl
set_option maxRecDepth 100000 in
theorem qe_M_give_45b {ρ : Type} (kr : Int → zD → Option ρ) (r45 : Int → Int → Int → Int → zD → Option ρ) (a1 a2 a3 a4 : Int) (s : zD) : M_give_45b kr r45 a1 a2 a3 a4 s = zseg zPP false zfinM (zcal []) (zget (999, 0, 0, 0) zc_M_give) (zcut [(45, [true, true, true, true, true, false, false]), (74, [true, true, true, true, true, false, false]), (129, [true, true, true, true, true, true, false]), (133, [true, true, true, true, true, true, true]), (169, [true, true, true, true, true, false, false])]) (zorc [(45, [some (2, some 0), some (0, none), some (0, none), some (0, none), some (0, none), none, none], [], fun xs h => match xs with
  | [a1, a2, a3, a4] => r45 a1 a2 a3 a4 (zhd h)
  | _ => none), (74, [some (2, some 0), some (0, none), some (0, none), some (0, none), some (0, none), none, none], [], fun xs h => match xs with
  | [a1, a2, a3, a4] => M_give_74 kr a1 a2 a3 a4 (zhd h)
  | _ => none)]) (fun v h => kr v (zhd h)) (fun _ _ => none) 400 45 [some (2, 0), some (0, a1), some (0, a2), some (0, a3), some (0, a4), none, none] [] (zM s) := by rfl
set_option maxRecDepth 100000 in
theorem qe_M_give {ρ : Type} (kr : Int → zD → Option ρ) (a1 a2 : Int) (s : zD) : M_give a1 a2 s kr = zseg zPP false zfinM (zcal [(81, [none, none], fun xs h kr kt => match xs with
  | [x0, x1] => M_blockOf x0 x1 (zhd h) (fun v s => kr v (zM s))
  | _ => none)]) (zget (999, 0, 0, 0) zc_M_give) (zcut [(45, [true, true, true, true, true, false, false]), (74, [true, true, true, true, true, false, false]), (129, [true, true, true, true, true, true, false]), (133, [true, true, true, true, true, true, true]), (169, [true, true, true, true, true, false, false])]) (zorc [(45, [some (2, some 0), some (0, none), some (0, none), some (0, none), some (0, none), none, none], [], fun xs h => match xs with
  | [a1, a2, a3, a4] => M_give_45 kr a1 a2 a3 a4 (zhd h)
  | _ => none)]) (fun v h => kr v (zhd h)) (fun _ _ => none) 400 0 [some (2, 0), some (0, a1), some (0, a2), none, none, none, none] [] (zM s) := by rfl
def zc_M_canGo : List zI := [(14, 0, 0, 0), (10, 0, 1, 0), (110, 0, 278, 96), (999, 0, 0, 0), (999, 0, 0, 0), (0, (-1), 0, 0), (66, 20, 26, 0), (999, 0, 0, 0), (999, 0, 0, 0), (14, 0, 0, 0), (80, 12, 124, 41), (999, 0, 0, 0), (999, 0, 0, 0), (10, 0, 1, 0), (90, 0, 0, 0), (14, 0, 0, 0), (80, 12, 390, 1), (999, 0, 0, 0), (999, 0, 0, 0), (70, 7, 26, 0), (999, 0, 0, 0), (999, 0, 0, 0), (0, 1, 0, 0), (72, 4, 27, 0), (999, 0, 0, 0), (999, 0, 0, 0), (0, 0, 0, 0), (130, 0, 1, 0)]
def M_canGo_27 {ρ : Type} (kr : Int → zD → Option ρ) (t0 : Int) (s : zD) : Option ρ :=
znar 1 t0 fun x1 => kr x1 s
def M_canGo_26 {ρ : Type} (kr : Int → zD → Option ρ) (s : zD) : Option ρ :=
M_canGo_27 kr 0 s
def M_canGo {ρ : Type} (a1 : Int) (s : zD) (kr : Int → zD → Option ρ) : Option ρ :=
M_placeOf a1 s  fun v1 s2 =>
if v1 = (-1) then M_canGo_26 kr s2
else zix 8 a1 fun j3 =>
if (s2 0 1) < (s2 37 j3) then M_canGo_26 kr s2
else M_canGo_27 kr 1 s2
set_option maxRecDepth 100000 in
theorem qe_M_canGo_27 {ρ : Type} (kr : Int → zD → Option ρ) (t0 : Int) (s : zD) : M_canGo_27 kr t0 s = zseg zPP false zfinM (zcal []) (zget (999, 0, 0, 0) zc_M_canGo) (zcut [(26, [false, false]), (27, [false, false])]) (zorc []) (fun v h => kr v (zhd h)) (fun _ _ => none) 400 27 [none, none] [(0, t0)] (zM s) := by rfl
set_option maxRecDepth 100000 in
theorem qe_M_canGo_26 {ρ : Type} (kr : Int → zD → Option ρ) (s : zD) : M_canGo_26 kr s = zseg zPP false zfinM (zcal []) (zget (999, 0, 0, 0) zc_M_canGo) (zcut [(26, [false, false]), (27, [false, false])]) (zorc [(27, [none, none], [(0, none)], fun xs h => match xs with
  | [t0] => M_canGo_27 kr t0 (zhd h)
  | _ => none)]) (fun v h => kr v (zhd h)) (fun _ _ => none) 400 26 [none, none] [] (zM s) := by rfl
set_option maxRecDepth 100000 in
theorem qe_M_canGo {ρ : Type} (kr : Int → zD → Option ρ) (a1 : Int) (s : zD) : M_canGo a1 s kr = zseg zPP false zfinM (zcal [(96, [some 0, none], fun xs h kr kt => match xs with
  | [x0] => M_placeOf x0 (zhd h) (fun v s => kr v (zM s))
  | _ => none)]) (zget (999, 0, 0, 0) zc_M_canGo) (zcut [(26, [false, false]), (27, [false, false])]) (zorc [(26, [none, none], [], fun xs h => match xs with
  | [] => M_canGo_26 kr  (zhd h)
  | _ => none), (27, [none, none], [(0, none)], fun xs h => match xs with
  | [t0] => M_canGo_27 kr t0 (zhd h)
  | _ => none)]) (fun v h => kr v (zhd h)) (fun _ _ => none) 400 0 [some (2, 0), some (0, a1)] [] (zM s) := by rfl
def zc_M_choose : List zI := [(0, 0, 0, 0), (16, 0, 2, 0), (14, 0, 0, 0), (80, 12, 7, 2), (999, 0, 0, 0), (999, 0, 0, 0), (1, 97, 0, 0), (999, 0, 0, 0), (67, 77, 85, 0), (999, 0, 0, 0), (999, 0, 0, 0), (14, 0, 0, 0), (80, 12, 136, 45), (999, 0, 0, 0), (999, 0, 0, 0), (10, 0, 1, 0), (90, 0, 0, 0), (0, (-1), 0, 0), (66, 67, 85, 0), (999, 0, 0, 0), (999, 0, 0, 0), (0, 0, 0, 0), (16, 0, 3, 0), (10, 0, 3, 0), (14, 0, 0, 0), (80, 12, 115, 38), (999, 0, 0, 0), (999, 0, 0, 0), (10, 0, 1, 0), (90, 0, 0, 0), (69, 55, 85, 0), (999, 0, 0, 0), (999, 0, 0, 0), (14, 0, 0, 0), (80, 12, 118, 39), (999, 0, 0, 0), (999, 0, 0, 0), (0, 4, 0, 0), (10, 0, 1, 0), (32, 0, 0, 0), (10, 0, 3, 0), (30, 0, 0, 0), (90, 0, 0, 0), (14, 0, 0, 0), (80, 12, 136, 45), (999, 0, 0, 0), (999, 0, 0, 0), (10, 0, 1, 0), (90, 0, 0, 0), (67, 28, 77, 0), (999, 0, 0, 0), (999, 0, 0, 0), (14, 0, 0, 0), (80, 12, 121, 40), (999, 0, 0, 0), (999, 0, 0, 0), (0, 4, 0, 0), (10, 0, 1, 0), (32, 0, 0, 0), (10, 0, 3, 0), (30, 0, 0, 0), (90, 0, 0, 0), (14, 0, 0, 0), (80, 12, 139, 46), (999, 0, 0, 0), (999, 0, 0, 0), (10, 0, 1, 0), (90, 0, 0, 0), (67, 9, 77, 0), (999, 0, 0, 0), (999, 0, 0, 0), (10, 0, 3, 0), (0, 1, 0, 0), (30, 0, 0, 0), (72, 4, 78, 0), (999, 0, 0, 0), (999, 0, 0, 0), (10, 0, 2, 0), (16, 0, 2, 0), (22, 1, 3, 0), (999, 0, 0, 0), (999, 0, 0, 0), (72, (-59), 23, 0), (999, 0, 0, 0), (999, 0, 0, 0), (0, (-1), 0, 0), (16, 0, 3, 0), (0, 0, 0, 0), (17, 0, 4, 0), (999, 0, 0, 0), (11, 0, 4, 0), (999, 0, 0, 0), (14, 0, 0, 0), (80, 12, 115, 38), (999, 0, 0, 0), (999, 0, 0, 0), (10, 0, 1, 0), (90, 0, 0, 0), (69, 60, 158, 0), (999, 0, 0, 0), (999, 0, 0, 0), (10, 0, 2, 0), (11, 0, 4, 0), (999, 0, 0, 0), (30, 0, 0, 0), (14, 0, 0, 0), (80, 12, 115, 38), (999, 0, 0, 0), (999, 0, 0, 0), (10, 0, 1, 0), (90, 0, 0, 0), (34, 0, 0, 0), (17, 0, 5, 0), (999, 0, 0, 0), (14, 0, 0, 0), (0, 4, 0, 0), (10, 0, 1, 0), (32, 0, 0, 0), (11, 0, 5, 0), (999, 0, 0, 0), (30, 0, 0, 0), (110, 0, 418, 127), (999, 0, 0, 0), (999, 0, 0, 0), (17, 0, 6, 0), (999, 0, 0, 0), (11, 0, 6, 0), (999, 0, 0, 0), (60, 22, 150, 0), (999, 0, 0, 0), (999, 0, 0, 0), (10, 0, 3, 0), (0, (-1), 0, 0), (66, 12, 145, 0), (999, 0, 0, 0), (999, 0, 0, 0), (14, 0, 0, 0), (80, 12, 7, 2), (999, 0, 0, 0), (999, 0, 0, 0), (1, 121, 0, 0), (999, 0, 0, 0), (67, 8, 150, 0), (999, 0, 0, 0), (999, 0, 0, 0), (11, 0, 5, 0), (999, 0, 0, 0), (72, 4, 151, 0), (999, 0, 0, 0), (999, 0, 0, 0), (10, 0, 3, 0), (16, 0, 3, 0), (22, 1, 4, 0), (999, 0, 0, 0), (999, 0, 0, 0), (72, (-65), 90, 0), (999, 0, 0, 0), (999, 0, 0, 0), (10, 0, 3, 0), (130, 0, 0, 0)]
def M_choose_78 {ρ : Type} (kr : Int → zD → Option ρ) (r23 : Int → Int → Int → zD → Option ρ) (a1 a3 t0 : Int) (s : zD) : Option ρ :=
r23 a1 t0 (wr (a3 + 1)) s
def M_choose_77 {ρ : Type} (kr : Int → zD → Option ρ) (r23 : Int → Int → Int → zD → Option ρ) (a1 a2 a3 : Int) (s : zD) : Option ρ :=
M_choose_78 kr r23 a1 a3 a2 s
def M_choose_151 {ρ : Type} (kr : Int → zD → Option ρ) (r90 : Int → Int → Int → Int → zD → Option ρ) (a1 a2 a4 t0 : Int) (s : zD) : Option ρ :=
r90 a1 a2 t0 (wr (a4 + 1)) s
def M_choose_145 {ρ : Type} (kr : Int → zD → Option ρ) (r90 : Int → Int → Int → Int → zD → Option ρ) (a1 a2 a4 a5 : Int) (s : zD) : Option ρ :=
M_choose_151 kr r90 a1 a2 a4 a5 s
def M_choose_150 {ρ : Type} (kr : Int → zD → Option ρ) (r90 : Int → Int → Int → Int → zD → Option ρ) (a1 a2 a3 a4 : Int) (s : zD) : Option ρ :=
M_choose_151 kr r90 a1 a2 a4 a3 s
def M_choose_90b {ρ : Type} (kr : Int → zD → Option ρ) (r90 : Int → Int → Int → Int → zD → Option ρ) (a1 a2 a3 a4 : Int) (s : zD) : Option ρ :=
zix 2 a1 fun j1 =>
if a4 < (s 34 j1) then (zix 2 a1 fun j2 =>
if s 34 j2 = 0 then none else M_canGo (wr ((wr (4 * a1)) + (Int.tmod (wr (a2 + a4)) (s 34 j2)))) s  fun v3 s4 =>
if v3 = 0 then M_choose_150 kr r90 a1 a2 a3 a4 s4
else if a3 = (-1) then M_choose_145 kr r90 a1 a2 a4 (Int.tmod (wr (a2 + a4)) (s 34 j2)) s4
else if (s4 0 2) = 121 then M_choose_145 kr r90 a1 a2 a4 (Int.tmod (wr (a2 + a4)) (s 34 j2)) s4
else M_choose_150 kr r90 a1 a2 a3 a4 s4)
else kr a3 s
def M_choose_90 {ρ : Type} (kr : Int → zD → Option ρ) : Int → Int → Int → Int → zD → Option ρ := zit (fun _ _ _ _ _ => none) (M_choose_90b kr) zN
def M_choose_85 {ρ : Type} (kr : Int → zD → Option ρ) (a1 a2 : Int) (s : zD) : Option ρ :=
M_choose_90 kr a1 a2 (-1) 0 s
def M_choose_23b {ρ : Type} (kr : Int → zD → Option ρ) (r23 : Int → Int → Int → zD → Option ρ) (a1 a2 a3 : Int) (s : zD) : Option ρ :=
zix 2 a1 fun j1 =>
if a3 < (s 34 j1) then (zix 8 (wr ((wr (4 * a1)) + a3)) fun j2 =>
zix 2 a1 fun j3 =>
if (s 35 j2) = (s 41 j3) then (zix 8 (wr ((wr (4 * a1)) + a3)) fun j4 =>
zix 2 a1 fun j5 =>
if (s 36 j4) = (s 42 j5) then M_choose_78 kr r23 a1 a3 (wr (a3 + 1)) s
else M_choose_77 kr r23 a1 a2 a3 s)
else M_choose_77 kr r23 a1 a2 a3 s)
else M_choose_85 kr a1 a2 s
def M_choose_23 {ρ : Type} (kr : Int → zD → Option ρ) : Int → Int → Int → zD → Option ρ := zit (fun _ _ _ _ => none) (M_choose_23b kr) zN
def M_choose {ρ : Type} (a1 : Int) (s : zD) (kr : Int → zD → Option ρ) : Option ρ :=
if (s 0 2) = 97 then (zix 2 a1 fun j1 =>
if (s 41 j1) = (-1) then M_choose_85 kr a1 0 s
else M_choose_23 kr a1 0 0 s)
else M_choose_85 kr a1 0 s
set_option maxRecDepth 100000 in
theorem qe_M_choose_78 {ρ : Type} (kr : Int → zD → Option ρ) (r23 : Int → Int → Int → zD → Option ρ) (a1 a3 t0 : Int) (s : zD) : M_choose_78 kr r23 a1 a3 t0 s = zseg zPP false zfinM (zcal []) (zget (999, 0, 0, 0) zc_M_choose) (zcut [(23, [true, true, true, true, false, false, false]), (77, [true, true, true, true, false, false, false]), (78, [true, true, false, true, false, false, false]), (85, [true, true, true, false, false, false, false]), (90, [true, true, true, true, true, false, false]), (145, [true, true, true, false, true, true, false]), (150, [true, true, true, true, true, false, false]), (151, [true, true, true, false, true, false, false])]) (zorc [(23, [some (2, some 0), some (0, none), some (0, none), some (0, none), none, none, none], [], fun xs h => match xs with
  | [a1, a2, a3] => r23 a1 a2 a3 (zhd h)
  | _ => none)]) (fun v h => kr v (zhd h)) (fun _ _ => none) 400 78 [some (2, 0), some (0, a1), none, some (0, a3), none, none, none] [(0, t0)] (zM s) := by rfl
set_option maxRecDepth 100000 in
theorem qe_M_choose_77 {ρ : Type} (kr : Int → zD → Option ρ) (r23 : Int → Int → Int → zD → Option ρ) (a1 a2 a3 : Int) (s : zD) : M_choose_77 kr r23 a1 a2 a3 s = zseg zPP false zfinM (zcal []) (zget (999, 0, 0, 0) zc_M_choose) (zcut [(23, [true, true, true, true, false, false, false]), (77, [true, true, true, true, false, false, false]), (78, [true, true, false, true, false, false, false]), (85, [true, true, true, false, false, false, false]), (90, [true, true, true, true, true, false, false]), (145, [true, true, true, false, true, true, false]), (150, [true, true, true, true, true, false, false]), (151, [true, true, true, false, true, false, false])]) (zorc [(78, [some (2, some 0), some (0, none), none, some (0, none), none, none, none], [(0, none)], fun xs h => match xs with
  | [a1, a3, t0] => M_choose_78 kr r23 a1 a3 t0 (zhd h)
  | _ => none)]) (fun v h => kr v (zhd h)) (fun _ _ => none) 400 77 [some (2, 0), some (0, a1), some (0, a2), some (0, a3), none, none, none] [] (zM s) := by rfl
set_option maxRecDepth 100000 in
theorem qe_M_choose_151 {ρ : Type} (kr : Int → zD → Option ρ) (r90 : Int → Int → Int → Int → zD → Option ρ) (a1 a2 a4 t0 : Int) (s : zD) : M_choose_151 kr r90 a1 a2 a4 t0 s = zseg zPP false zfinM (zcal []) (zget (999, 0, 0, 0) zc_M_choose) (zcut [(23, [true, true, true, true, false, false, false]), (77, [true, true, true, true, false, false, false]), (78, [true, true, false, true, false, false, false]), (85, [true, true, true, false, false, false, false]), (90, [true, true, true, true, true, false, false]), (145, [true, true, true, false, true, true, false]), (150, [true, true, true, true, true, false, false]), (151, [true, true, true, false, true, false, false])]) (zorc [(90, [some (2, some 0), some (0, none), some (0, none), some (0, none), some (0, none), none, none], [], fun xs h => match xs with
  | [a1, a2, a3, a4] => r90 a1 a2 a3 a4 (zhd h)
  | _ => none)]) (fun v h => kr v (zhd h)) (fun _ _ => none) 400 151 [some (2, 0), some (0, a1), some (0, a2), none, some (0, a4), none, none] [(0, t0)] (zM s) := by rfl
set_option maxRecDepth 100000 in
theorem qe_M_choose_145 {ρ : Type} (kr : Int → zD → Option ρ) (r90 : Int → Int → Int → Int → zD → Option ρ) (a1 a2 a4 a5 : Int) (s : zD) : M_choose_145 kr r90 a1 a2 a4 a5 s = zseg zPP false zfinM (zcal []) (zget (999, 0, 0, 0) zc_M_choose) (zcut [(23, [true, true, true, true, false, false, false]), (77, [true, true, true, true, false, false, false]), (78, [true, true, false, true, false, false, false]), (85, [true, true, true, false, false, false, false]), (90, [true, true, true, true, true, false, false]), (145, [true, true, true, false, true, true, false]), (150, [true, true, true, true, true, false, false]), (151, [true, true, true, false, true, false, false])]) (zorc [(151, [some (2, some 0), some (0, none), some (0, none), none, some (0, none), none, none], [(0, none)], fun xs h => match xs with
  | [a1, a2, a4, t0] => M_choose_151 kr r90 a1 a2 a4 t0 (zhd h)
  | _ => none)]) (fun v h => kr v (zhd h)) (fun _ _ => none) 400 145 [some (2, 0), some (0, a1), some (0, a2), none, some (0, a4), some (0, a5), none] [] (zM s) := by rfl
set_option maxRecDepth 100000 in
theorem qe_M_choose_150 {ρ : Type} (kr : Int → zD → Option ρ) (r90 : Int → Int → Int → Int → zD → Option ρ) (a1 a2 a3 a4 : Int) (s : zD) : M_choose_150 kr r90 a1 a2 a3 a4 s = zseg zPP false zfinM (zcal []) (zget (999, 0, 0, 0) zc_M_choose) (zcut [(23, [true, true, true, true, false, false, false]), (77, [true, true, true, true, false, false, false]), (78, [true, true, false, true, false, false, false]), (85, [true, true, true, false, false, false, false]), (90, [true, true, true, true, true, false, false]), (145, [true, true, true, false, true, true, false]), (150, [true, true, true, true, true, false, false]), (151, [true, true, true, false, true, false, false])]) (zorc [(151, [some (2, some 0), some (0, none), some (0, none), none, some (0, none), none, none], [(0, none)], fun xs h => match xs with
  | [a1, a2, a4, t0] => M_choose_151 kr r90 a1 a2 a4 t0 (zhd h)
  | _ => none)]) (fun v h => kr v (zhd h)) (fun _ _ => none) 400 150 [some (2, 0), some (0, a1), some (0, a2), some (0, a3), some (0, a4), none, none] [] (zM s) := by rfl
set_option maxRecDepth 100000 in
theorem qe_M_choose_90b {ρ : Type} (kr : Int → zD → Option ρ) (r90 : Int → Int → Int → Int → zD → Option ρ) (a1 a2 a3 a4 : Int) (s : zD) : M_choose_90b kr r90 a1 a2 a3 a4 s = zseg zPP false zfinM (zcal [(127, [some 0, none], fun xs h kr kt => match xs with
  | [x0] => M_canGo x0 (zhd h) (fun v s => kr v (zM s))
  | _ => none)]) (zget (999, 0, 0, 0) zc_M_choose) (zcut [(23, [true, true, true, true, false, false, false]), (77, [true, true, true, true, false, false, false]), (78, [true, true, false, true, false, false, false]), (85, [true, true, true, false, false, false, false]), (90, [true, true, true, true, true, false, false]), (145, [true, true, true, false, true, true, false]), (150, [true, true, true, true, true, false, false]), (151, [true, true, true, false, true, false, false])]) (zorc [(145, [some (2, some 0), some (0, none), some (0, none), none, some (0, none), some (0, none), none], [], fun xs h => match xs with
  | [a1, a2, a4, a5] => M_choose_145 kr r90 a1 a2 a4 a5 (zhd h)
  | _ => none), (150, [some (2, some 0), some (0, none), some (0, none), some (0, none), some (0, none), none, none], [], fun xs h => match xs with
  | [a1, a2, a3, a4] => M_choose_150 kr r90 a1 a2 a3 a4 (zhd h)
  | _ => none)]) (fun v h => kr v (zhd h)) (fun _ _ => none) 400 90 [some (2, 0), some (0, a1), some (0, a2), some (0, a3), some (0, a4), none, none] [] (zM s) := by rfl
set_option maxRecDepth 100000 in
theorem qe_M_choose_85 {ρ : Type} (kr : Int → zD → Option ρ) (a1 a2 : Int) (s : zD) : M_choose_85 kr a1 a2 s = zseg zPP false zfinM (zcal []) (zget (999, 0, 0, 0) zc_M_choose) (zcut [(23, [true, true, true, true, false, false, false]), (77, [true, true, true, true, false, false, false]), (78, [true, true, false, true, false, false, false]), (85, [true, true, true, false, false, false, false]), (90, [true, true, true, true, true, false, false]), (145, [true, true, true, false, true, true, false]), (150, [true, true, true, true, true, false, false]), (151, [true, true, true, false, true, false, false])]) (zorc [(90, [some (2, some 0), some (0, none), some (0, none), some (0, none), some (0, none), none, none], [], fun xs h => match xs with
  | [a1, a2, a3, a4] => M_choose_90 kr a1 a2 a3 a4 (zhd h)
  | _ => none)]) (fun v h => kr v (zhd h)) (fun _ _ => none) 400 85 [some (2, 0), some (0, a1), some (0, a2), none, none, none, none] [] (zM s) := by rfl
set_option maxRecDepth 100000 in
theorem qe_M_choose_23b {ρ : Type} (kr : Int → zD → Option ρ) (r23 : Int → Int → Int → zD → Option ρ) (a1 a2 a3 : Int) (s : zD) : M_choose_23b kr r23 a1 a2 a3 s = zseg zPP false zfinM (zcal []) (zget (999, 0, 0, 0) zc_M_choose) (zcut [(23, [true, true, true, true, false, false, false]), (77, [true, true, true, true, false, false, false]), (78, [true, true, false, true, false, false, false]), (85, [true, true, true, false, false, false, false]), (90, [true, true, true, true, true, false, false]), (145, [true, true, true, false, true, true, false]), (150, [true, true, true, true, true, false, false]), (151, [true, true, true, false, true, false, false])]) (zorc [(77, [some (2, some 0), some (0, none), some (0, none), some (0, none), none, none, none], [], fun xs h => match xs with
  | [a1, a2, a3] => M_choose_77 kr r23 a1 a2 a3 (zhd h)
  | _ => none), (78, [some (2, some 0), some (0, none), none, some (0, none), none, none, none], [(0, none)], fun xs h => match xs with
  | [a1, a3, t0] => M_choose_78 kr r23 a1 a3 t0 (zhd h)
  | _ => none), (85, [some (2, some 0), some (0, none), some (0, none), none, none, none, none], [], fun xs h => match xs with
  | [a1, a2] => M_choose_85 kr a1 a2 (zhd h)
  | _ => none)]) (fun v h => kr v (zhd h)) (fun _ _ => none) 400 23 [some (2, 0), some (0, a1), some (0, a2), some (0, a3), none, none, none] [] (zM s) := by rfl
set_option maxRecDepth 100000 in
theorem qe_M_choose {ρ : Type} (kr : Int → zD → Option ρ) (a1 : Int) (s : zD) : M_choose a1 s kr = zseg zPP false zfinM (zcal []) (zget (999, 0, 0, 0) zc_M_choose) (zcut [(23, [true, true, true, true, false, false, false]), (77, [true, true, true, true, false, false, false]), (78, [true, true, false, true, false, false, false]), (85, [true, true, true, false, false, false, false]), (90, [true, true, true, true, true, false, false]), (145, [true, true, true, false, true, true, false]), (150, [true, true, true, true, true, false, false]), (151, [true, true, true, false, true, false, false])]) (zorc [(23, [some (2, some 0), some (0, none), some (0, none), some (0, none), none, none, none], [], fun xs h => match xs with
  | [a1, a2, a3] => M_choose_23 kr a1 a2 a3 (zhd h)
  | _ => none), (85, [some (2, some 0), some (0, none), some (0, none), none, none, none, none], [], fun xs h => match xs with
  | [a1, a2] => M_choose_85 kr a1 a2 (zhd h)
  | _ => none)]) (fun v h => kr v (zhd h)) (fun _ _ => none) 400 0 [some (2, 0), some (0, a1), none, none, none, none, none] [] (zM s) := by rfl
def zc_M_comeOne : List zI := [(14, 0, 0, 0), (80, 12, 370, 55), (999, 0, 0, 0), (999, 0, 0, 0), (16, 0, 1, 0), (14, 0, 0, 0), (0, 0, 0, 0), (110, 0, 421, 120), (999, 0, 0, 0), (999, 0, 0, 0), (14, 0, 0, 0), (0, 1, 0, 0), (110, 0, 421, 120), (999, 0, 0, 0), (999, 0, 0, 0), (0, 0, 0, 0), (16, 0, 2, 0), (10, 0, 2, 0), (14, 0, 0, 0), (80, 12, 196, 13), (999, 0, 0, 0), (999, 0, 0, 0), (69, 35, 57, 0), (999, 0, 0, 0), (999, 0, 0, 0), (14, 0, 0, 0), (80, 12, 43, 14), (999, 0, 0, 0), (999, 0, 0, 0), (10, 0, 2, 0), (92, 0, 0, 0), (1, 113, 0, 0), (999, 0, 0, 0), (67, 18, 51, 0), (999, 0, 0, 0), (999, 0, 0, 0), (14, 0, 0, 0), (80, 12, 64, 21), (999, 0, 0, 0), (999, 0, 0, 0), (10, 0, 2, 0), (90, 0, 0, 0), (0, (-1), 0, 0), (66, 8, 51, 0), (999, 0, 0, 0), (999, 0, 0, 0), (14, 0, 0, 0), (10, 0, 2, 0), (110, 0, 402, 117), (999, 0, 0, 0), (999, 0, 0, 0), (22, 1, 2, 0), (999, 0, 0, 0), (999, 0, 0, 0), (72, (-37), 17, 0), (999, 0, 0, 0), (999, 0, 0, 0), (0, 0, 0, 0), (16, 0, 2, 0), (10, 0, 2, 0), (14, 0, 0, 0), (80, 12, 196, 13), (999, 0, 0, 0), (999, 0, 0, 0), (69, 35, 99, 0), (999, 0, 0, 0), (999, 0, 0, 0), (14, 0, 0, 0), (80, 12, 43, 14), (999, 0, 0, 0), (999, 0, 0, 0), (10, 0, 2, 0), (92, 0, 0, 0), (1, 114, 0, 0), (999, 0, 0, 0), (67, 18, 93, 0), (999, 0, 0, 0), (999, 0, 0, 0), (14, 0, 0, 0), (80, 12, 46, 15), (999, 0, 0, 0), (999, 0, 0, 0), (10, 0, 2, 0), (90, 0, 0, 0), (0, (-1), 0, 0), (67, 8, 93, 0), (999, 0, 0, 0), (999, 0, 0, 0), (14, 0, 0, 0), (10, 0, 2, 0), (110, 0, 424, 121), (999, 0, 0, 0), (999, 0, 0, 0), (22, 1, 2, 0), (999, 0, 0, 0), (999, 0, 0, 0), (72, (-37), 59, 0), (999, 0, 0, 0), (999, 0, 0, 0), (0, 0, 0, 0), (16, 0, 2, 0), (10, 0, 2, 0), (14, 0, 0, 0), (80, 12, 196, 13), (999, 0, 0, 0), (999, 0, 0, 0), (69, 67, 173, 0), (999, 0, 0, 0), (999, 0, 0, 0), (14, 0, 0, 0), (80, 12, 43, 14), (999, 0, 0, 0), (999, 0, 0, 0), (10, 0, 2, 0), (92, 0, 0, 0), (1, 114, 0, 0), (999, 0, 0, 0), (67, 50, 167, 0), (999, 0, 0, 0), (999, 0, 0, 0), (14, 0, 0, 0), (80, 12, 46, 15), (999, 0, 0, 0), (999, 0, 0, 0), (10, 0, 2, 0), (90, 0, 0, 0), (0, (-1), 0, 0), (66, 40, 167, 0), (999, 0, 0, 0), (999, 0, 0, 0), (14, 0, 0, 0), (80, 12, 70, 23), (999, 0, 0, 0), (999, 0, 0, 0), (10, 0, 2, 0), (90, 0, 0, 0), (14, 0, 0, 0), (80, 12, 52, 17), (999, 0, 0, 0), (999, 0, 0, 0), (10, 0, 2, 0), (90, 0, 0, 0), (69, 25, 167, 0), (999, 0, 0, 0), (999, 0, 0, 0), (14, 0, 0, 0), (10, 0, 2, 0), (110, 0, 427, 125), (999, 0, 0, 0), (999, 0, 0, 0), (0, (-1), 0, 0), (66, 16, 167, 0), (999, 0, 0, 0), (999, 0, 0, 0), (14, 0, 0, 0), (10, 0, 2, 0), (14, 0, 0, 0), (10, 0, 2, 0), (110, 0, 427, 125), (999, 0, 0, 0), (999, 0, 0, 0), (110, 0, 430, 126), (999, 0, 0, 0), (999, 0, 0, 0), (72, (-55), 109, 0), (999, 0, 0, 0), (999, 0, 0, 0), (22, 1, 2, 0), (999, 0, 0, 0), (999, 0, 0, 0), (72, (-69), 101, 0), (999, 0, 0, 0), (999, 0, 0, 0), (14, 0, 0, 0), (110, 0, 433, 80), (999, 0, 0, 0), (999, 0, 0, 0), (0, 0, 0, 0), (16, 0, 2, 0), (10, 0, 2, 0), (0, 2, 0, 0), (69, 30, 211, 0), (999, 0, 0, 0), (999, 0, 0, 0), (14, 0, 0, 0), (10, 0, 2, 0), (110, 0, 436, 128), (999, 0, 0, 0), (999, 0, 0, 0), (16, 0, 3, 0), (10, 0, 3, 0), (0, (-1), 0, 0), (66, 13, 205, 0), (999, 0, 0, 0), (999, 0, 0, 0), (14, 0, 0, 0), (10, 0, 2, 0), (10, 0, 3, 0), (110, 0, 439, 116), (999, 0, 0, 0), (999, 0, 0, 0), (14, 0, 0, 0), (110, 0, 433, 80), (999, 0, 0, 0), (999, 0, 0, 0), (22, 1, 2, 0), (999, 0, 0, 0), (999, 0, 0, 0), (72, (-29), 179, 0), (999, 0, 0, 0), (999, 0, 0, 0), (0, 0, 0, 0), (16, 0, 2, 0), (10, 0, 2, 0), (0, 2, 0, 0), (69, 59, 274, 0), (999, 0, 0, 0), (999, 0, 0, 0), (14, 0, 0, 0), (80, 12, 390, 1), (999, 0, 0, 0), (999, 0, 0, 0), (0, 3, 0, 0), (34, 0, 0, 0), (0, 2, 0, 0), (67, 49, 274, 0), (999, 0, 0, 0), (999, 0, 0, 0), (0, 0, 0, 0), (16, 0, 3, 0), (10, 0, 3, 0), (14, 0, 0, 0), (80, 12, 115, 38), (999, 0, 0, 0), (999, 0, 0, 0), (10, 0, 2, 0), (90, 0, 0, 0), (69, 31, 268, 0), (999, 0, 0, 0), (999, 0, 0, 0), (14, 0, 0, 0), (80, 12, 127, 42), (999, 0, 0, 0), (999, 0, 0, 0), (0, 4, 0, 0), (10, 0, 2, 0), (32, 0, 0, 0), (10, 0, 3, 0), (30, 0, 0, 0), (90, 0, 0, 0), (65, 12, 262, 0), (999, 0, 0, 0), (999, 0, 0, 0), (14, 0, 0, 0), (0, 4, 0, 0), (10, 0, 2, 0), (32, 0, 0, 0), (10, 0, 3, 0), (30, 0, 0, 0), (110, 0, 263, 90), (999, 0, 0, 0), (999, 0, 0, 0), (22, 1, 3, 0), (999, 0, 0, 0), (999, 0, 0, 0), (72, (-35), 230, 0), (999, 0, 0, 0), (999, 0, 0, 0), (22, 1, 2, 0), (999, 0, 0, 0), (999, 0, 0, 0), (72, (-58), 213, 0), (999, 0, 0, 0), (999, 0, 0, 0), (14, 0, 0, 0), (50, 0, 0, 0), (80, 12, 390, 1), (999, 0, 0, 0), (999, 0, 0, 0), (0, 1, 0, 0), (30, 0, 0, 0), (82, 12, 390, 1), (999, 0, 0, 0), (999, 0, 0, 0), (14, 0, 0, 0), (80, 12, 370, 55), (999, 0, 0, 0), (999, 0, 0, 0), (10, 0, 1, 0), (31, 0, 0, 0), (130, 0, 0, 0)]
def M_comeOne_51 {ρ : Type} (kr : Int → zD → Option ρ) (r17 : Int → Int → zD → Option ρ) (a1 a2 : Int) (s : zD) : Option ρ :=
r17 a1 (wr (a2 + 1)) s
def M_comeOne_93 {ρ : Type} (kr : Int → zD → Option ρ) (r59 : Int → Int → zD → Option ρ) (a1 a2 : Int) (s : zD) : Option ρ :=
r59 a1 (wr (a2 + 1)) s
def M_comeOne_167 {ρ : Type} (kr : Int → zD → Option ρ) (r101 : Int → Int → zD → Option ρ) (a1 a2 : Int) (s : zD) : Option ρ :=
r101 a1 (wr (a2 + 1)) s
def M_comeOne_109b {ρ : Type} (kr : Int → zD → Option ρ) (r101 : Int → Int → zD → Option ρ) (r109 : Int → Int → zD → Option ρ) (a1 a2 : Int) (s : zD) : Option ρ :=
zix 12 a2 fun j1 =>
if (s 10 j1) = 114 then (zix 12 a2 fun j2 =>
if (s 11 j2) = (-1) then M_comeOne_167 kr r101 a1 a2 s
else zix 12 a2 fun j3 =>
zix 12 a2 fun j4 =>
if (s 19 j3) < (s 13 j4) then (M_unitFor a2 s  fun v5 s6 =>
if v5 = (-1) then M_comeOne_167 kr r101 a1 a2 s6
else M_unitFor a2 s6  fun v7 s8 =>
M_give a2 v7 s8  fun _ s10 =>
r109 a1 a2 s10)
else M_comeOne_167 kr r101 a1 a2 s)
else M_comeOne_167 kr r101 a1 a2 s
def M_comeOne_109 {ρ : Type} (kr : Int → zD → Option ρ) (r101 : Int → Int → zD → Option ρ) : Int → Int → zD → Option ρ := zit (fun _ _ _ => none) (M_comeOne_109b kr r101) zN
def M_comeOne_205 {ρ : Type} (kr : Int → zD → Option ρ) (r179 : Int → Int → zD → Option ρ) (a1 a2 : Int) (s : zD) : Option ρ :=
r179 a1 (wr (a2 + 1)) s
def M_comeOne_262 {ρ : Type} (kr : Int → zD → Option ρ) (r213 : Int → Int → zD → Option ρ) (r230 : Int → Int → Int → zD → Option ρ) (a1 a2 a3 : Int) (s : zD) : Option ρ :=
r230 a1 a2 (wr (a3 + 1)) s
def M_comeOne_230b {ρ : Type} (kr : Int → zD → Option ρ) (r213 : Int → Int → zD → Option ρ) (r230 : Int → Int → Int → zD → Option ρ) (a1 a2 a3 : Int) (s : zD) : Option ρ :=
zix 2 a2 fun j1 =>
if a3 < (s 34 j1) then (zix 8 (wr ((wr (4 * a2)) + a3)) fun j2 =>
if 0 < (s 38 j2) then (M_writeFirst (wr ((wr (4 * a2)) + a3)) s  fun _ s4 =>
M_comeOne_262 kr r213 r230 a1 a2 a3 s4)
else M_comeOne_262 kr r213 r230 a1 a2 a3 s)
else r213 a1 (wr (a2 + 1)) s
def M_comeOne_230 {ρ : Type} (kr : Int → zD → Option ρ) (r213 : Int → Int → zD → Option ρ) : Int → Int → Int → zD → Option ρ := zit (fun _ _ _ _ => none) (M_comeOne_230b kr r213) zN
def M_comeOne_274 {ρ : Type} (kr : Int → zD → Option ρ) (a1 : Int) (s : zD) : Option ρ :=
zlet (zup s 0 1 (wr ((s 0 1) + 1))) fun s1 =>
kr (wr ((s1 0 55) - a1)) s1
def M_comeOne_213b {ρ : Type} (kr : Int → zD → Option ρ) (r213 : Int → Int → zD → Option ρ) (a1 a2 : Int) (s : zD) : Option ρ :=
if a2 < 2 then (if (Int.tmod (s 0 1) 3) = 2 then M_comeOne_230 kr r213 a1 a2 0 s
else M_comeOne_274 kr a1 s)
else M_comeOne_274 kr a1 s
def M_comeOne_213 {ρ : Type} (kr : Int → zD → Option ρ) : Int → Int → zD → Option ρ := zit (fun _ _ _ => none) (M_comeOne_213b kr) zN
def M_comeOne_179b {ρ : Type} (kr : Int → zD → Option ρ) (r179 : Int → Int → zD → Option ρ) (a1 a2 : Int) (s : zD) : Option ρ :=
if a2 < 2 then (M_choose a2 s  fun v1 s2 =>
if v1 = (-1) then M_comeOne_205 kr r179 a1 a2 s2
else M_carryOut a2 v1 s2  fun _ s4 =>
M_finish s4  fun _ s6 =>
M_comeOne_205 kr r179 a1 a2 s6)
else M_comeOne_213 kr a1 0 s
def M_comeOne_179 {ρ : Type} (kr : Int → zD → Option ρ) : Int → Int → zD → Option ρ := zit (fun _ _ _ => none) (M_comeOne_179b kr) zN
def M_comeOne_101b {ρ : Type} (kr : Int → zD → Option ρ) (r101 : Int → Int → zD → Option ρ) (a1 a2 : Int) (s : zD) : Option ρ :=
if a2 < (s 0 13) then M_comeOne_109 kr r101 a1 a2 s
else M_finish s  fun _ s2 =>
M_comeOne_179 kr a1 0 s2
def M_comeOne_101 {ρ : Type} (kr : Int → zD → Option ρ) : Int → Int → zD → Option ρ := zit (fun _ _ _ => none) (M_comeOne_101b kr) zN
def M_comeOne_59b {ρ : Type} (kr : Int → zD → Option ρ) (r59 : Int → Int → zD → Option ρ) (a1 a2 : Int) (s : zD) : Option ρ :=
if a2 < (s 0 13) then (zix 12 a2 fun j1 =>
if (s 10 j1) = 114 then (zix 12 a2 fun j2 =>
if (s 11 j2) = (-1) then (M_copyOne a2 s  fun _ s4 =>
M_comeOne_93 kr r59 a1 a2 s4)
else M_comeOne_93 kr r59 a1 a2 s)
else M_comeOne_93 kr r59 a1 a2 s)
else M_comeOne_101 kr a1 0 s
def M_comeOne_59 {ρ : Type} (kr : Int → zD → Option ρ) : Int → Int → zD → Option ρ := zit (fun _ _ _ => none) (M_comeOne_59b kr) zN
def M_comeOne_17b {ρ : Type} (kr : Int → zD → Option ρ) (r17 : Int → Int → zD → Option ρ) (a1 a2 : Int) (s : zD) : Option ρ :=
if a2 < (s 0 13) then (zix 12 a2 fun j1 =>
if (s 10 j1) = 113 then (zix 12 a2 fun j2 =>
if (s 17 j2) = (-1) then M_comeOne_51 kr r17 a1 a2 s
else M_beginLaunch a2 s  fun _ s4 =>
M_comeOne_51 kr r17 a1 a2 s4)
else M_comeOne_51 kr r17 a1 a2 s)
else M_comeOne_59 kr a1 0 s
def M_comeOne_17 {ρ : Type} (kr : Int → zD → Option ρ) : Int → Int → zD → Option ρ := zit (fun _ _ _ => none) (M_comeOne_17b kr) zN
def M_comeOne {ρ : Type} (s : zD) (kr : Int → zD → Option ρ) : Option ρ :=
M_goThrough 0 s  fun _ s2 =>
M_goThrough 1 s2  fun _ s4 =>
M_comeOne_17 kr (s 0 55) 0 s4
set_option maxRecDepth 100000 in
theorem qe_M_comeOne_51 {ρ : Type} (kr : Int → zD → Option ρ) (r17 : Int → Int → zD → Option ρ) (a1 a2 : Int) (s : zD) : M_comeOne_51 kr r17 a1 a2 s = zseg zPP false zfinM (zcal []) (zget (999, 0, 0, 0) zc_M_comeOne) (zcut [(17, [true, true, true, false]), (51, [true, true, true, false]), (59, [true, true, true, false]), (93, [true, true, true, false]), (101, [true, true, true, false]), (109, [true, true, true, false]), (167, [true, true, true, false]), (179, [true, true, true, false]), (205, [true, true, true, false]), (213, [true, true, true, false]), (230, [true, true, true, true]), (262, [true, true, true, true]), (274, [true, true, false, false])]) (zorc [(17, [some (2, some 0), some (0, none), some (0, none), none], [], fun xs h => match xs with
  | [a1, a2] => r17 a1 a2 (zhd h)
  | _ => none)]) (fun v h => kr v (zhd h)) (fun _ _ => none) 400 51 [some (2, 0), some (0, a1), some (0, a2), none] [] (zM s) := by rfl
set_option maxRecDepth 100000 in
theorem qe_M_comeOne_93 {ρ : Type} (kr : Int → zD → Option ρ) (r59 : Int → Int → zD → Option ρ) (a1 a2 : Int) (s : zD) : M_comeOne_93 kr r59 a1 a2 s = zseg zPP false zfinM (zcal []) (zget (999, 0, 0, 0) zc_M_comeOne) (zcut [(17, [true, true, true, false]), (51, [true, true, true, false]), (59, [true, true, true, false]), (93, [true, true, true, false]), (101, [true, true, true, false]), (109, [true, true, true, false]), (167, [true, true, true, false]), (179, [true, true, true, false]), (205, [true, true, true, false]), (213, [true, true, true, false]), (230, [true, true, true, true]), (262, [true, true, true, true]), (274, [true, true, false, false])]) (zorc [(59, [some (2, some 0), some (0, none), some (0, none), none], [], fun xs h => match xs with
  | [a1, a2] => r59 a1 a2 (zhd h)
  | _ => none)]) (fun v h => kr v (zhd h)) (fun _ _ => none) 400 93 [some (2, 0), some (0, a1), some (0, a2), none] [] (zM s) := by rfl
set_option maxRecDepth 100000 in
theorem qe_M_comeOne_167 {ρ : Type} (kr : Int → zD → Option ρ) (r101 : Int → Int → zD → Option ρ) (a1 a2 : Int) (s : zD) : M_comeOne_167 kr r101 a1 a2 s = zseg zPP false zfinM (zcal []) (zget (999, 0, 0, 0) zc_M_comeOne) (zcut [(17, [true, true, true, false]), (51, [true, true, true, false]), (59, [true, true, true, false]), (93, [true, true, true, false]), (101, [true, true, true, false]), (109, [true, true, true, false]), (167, [true, true, true, false]), (179, [true, true, true, false]), (205, [true, true, true, false]), (213, [true, true, true, false]), (230, [true, true, true, true]), (262, [true, true, true, true]), (274, [true, true, false, false])]) (zorc [(101, [some (2, some 0), some (0, none), some (0, none), none], [], fun xs h => match xs with
  | [a1, a2] => r101 a1 a2 (zhd h)
  | _ => none)]) (fun v h => kr v (zhd h)) (fun _ _ => none) 400 167 [some (2, 0), some (0, a1), some (0, a2), none] [] (zM s) := by rfl
set_option maxRecDepth 100000 in
theorem qe_M_comeOne_109b {ρ : Type} (kr : Int → zD → Option ρ) (r101 : Int → Int → zD → Option ρ) (r109 : Int → Int → zD → Option ρ) (a1 a2 : Int) (s : zD) : M_comeOne_109b kr r101 r109 a1 a2 s = zseg zPP false zfinM (zcal [(125, [some 0, none], fun xs h kr kt => match xs with
  | [x0] => M_unitFor x0 (zhd h) (fun v s => kr v (zM s))
  | _ => none), (126, [some 0, none, none], fun xs h kr kt => match xs with
  | [x0, x1] => M_give x0 x1 (zhd h) (fun v s => kr v (zM s))
  | _ => none)]) (zget (999, 0, 0, 0) zc_M_comeOne) (zcut [(17, [true, true, true, false]), (51, [true, true, true, false]), (59, [true, true, true, false]), (93, [true, true, true, false]), (101, [true, true, true, false]), (109, [true, true, true, false]), (167, [true, true, true, false]), (179, [true, true, true, false]), (205, [true, true, true, false]), (213, [true, true, true, false]), (230, [true, true, true, true]), (262, [true, true, true, true]), (274, [true, true, false, false])]) (zorc [(109, [some (2, some 0), some (0, none), some (0, none), none], [], fun xs h => match xs with
  | [a1, a2] => r109 a1 a2 (zhd h)
  | _ => none), (167, [some (2, some 0), some (0, none), some (0, none), none], [], fun xs h => match xs with
  | [a1, a2] => M_comeOne_167 kr r101 a1 a2 (zhd h)
  | _ => none)]) (fun v h => kr v (zhd h)) (fun _ _ => none) 400 109 [some (2, 0), some (0, a1), some (0, a2), none] [] (zM s) := by rfl
set_option maxRecDepth 100000 in
theorem qe_M_comeOne_205 {ρ : Type} (kr : Int → zD → Option ρ) (r179 : Int → Int → zD → Option ρ) (a1 a2 : Int) (s : zD) : M_comeOne_205 kr r179 a1 a2 s = zseg zPP false zfinM (zcal []) (zget (999, 0, 0, 0) zc_M_comeOne) (zcut [(17, [true, true, true, false]), (51, [true, true, true, false]), (59, [true, true, true, false]), (93, [true, true, true, false]), (101, [true, true, true, false]), (109, [true, true, true, false]), (167, [true, true, true, false]), (179, [true, true, true, false]), (205, [true, true, true, false]), (213, [true, true, true, false]), (230, [true, true, true, true]), (262, [true, true, true, true]), (274, [true, true, false, false])]) (zorc [(179, [some (2, some 0), some (0, none), some (0, none), none], [], fun xs h => match xs with
  | [a1, a2] => r179 a1 a2 (zhd h)
  | _ => none)]) (fun v h => kr v (zhd h)) (fun _ _ => none) 400 205 [some (2, 0), some (0, a1), some (0, a2), none] [] (zM s) := by rfl
set_option maxRecDepth 100000 in
theorem qe_M_comeOne_262 {ρ : Type} (kr : Int → zD → Option ρ) (r213 : Int → Int → zD → Option ρ) (r230 : Int → Int → Int → zD → Option ρ) (a1 a2 a3 : Int) (s : zD) : M_comeOne_262 kr r213 r230 a1 a2 a3 s = zseg zPP false zfinM (zcal []) (zget (999, 0, 0, 0) zc_M_comeOne) (zcut [(17, [true, true, true, false]), (51, [true, true, true, false]), (59, [true, true, true, false]), (93, [true, true, true, false]), (101, [true, true, true, false]), (109, [true, true, true, false]), (167, [true, true, true, false]), (179, [true, true, true, false]), (205, [true, true, true, false]), (213, [true, true, true, false]), (230, [true, true, true, true]), (262, [true, true, true, true]), (274, [true, true, false, false])]) (zorc [(230, [some (2, some 0), some (0, none), some (0, none), some (0, none)], [], fun xs h => match xs with
  | [a1, a2, a3] => r230 a1 a2 a3 (zhd h)
  | _ => none)]) (fun v h => kr v (zhd h)) (fun _ _ => none) 400 262 [some (2, 0), some (0, a1), some (0, a2), some (0, a3)] [] (zM s) := by rfl
set_option maxRecDepth 100000 in
theorem qe_M_comeOne_230b {ρ : Type} (kr : Int → zD → Option ρ) (r213 : Int → Int → zD → Option ρ) (r230 : Int → Int → Int → zD → Option ρ) (a1 a2 a3 : Int) (s : zD) : M_comeOne_230b kr r213 r230 a1 a2 a3 s = zseg zPP false zfinM (zcal [(90, [some 0, none], fun xs h kr kt => match xs with
  | [x0] => M_writeFirst x0 (zhd h) (fun v s => kr v (zM s))
  | _ => none)]) (zget (999, 0, 0, 0) zc_M_comeOne) (zcut [(17, [true, true, true, false]), (51, [true, true, true, false]), (59, [true, true, true, false]), (93, [true, true, true, false]), (101, [true, true, true, false]), (109, [true, true, true, false]), (167, [true, true, true, false]), (179, [true, true, true, false]), (205, [true, true, true, false]), (213, [true, true, true, false]), (230, [true, true, true, true]), (262, [true, true, true, true]), (274, [true, true, false, false])]) (zorc [(213, [some (2, some 0), some (0, none), some (0, none), none], [], fun xs h => match xs with
  | [a1, a2] => r213 a1 a2 (zhd h)
  | _ => none), (262, [some (2, some 0), some (0, none), some (0, none), some (0, none)], [], fun xs h => match xs with
  | [a1, a2, a3] => M_comeOne_262 kr r213 r230 a1 a2 a3 (zhd h)
  | _ => none)]) (fun v h => kr v (zhd h)) (fun _ _ => none) 400 230 [some (2, 0), some (0, a1), some (0, a2), some (0, a3)] [] (zM s) := by rfl
set_option maxRecDepth 100000 in
theorem qe_M_comeOne_274 {ρ : Type} (kr : Int → zD → Option ρ) (a1 : Int) (s : zD) : M_comeOne_274 kr a1 s = zseg zPP false zfinM (zcal []) (zget (999, 0, 0, 0) zc_M_comeOne) (zcut [(17, [true, true, true, false]), (51, [true, true, true, false]), (59, [true, true, true, false]), (93, [true, true, true, false]), (101, [true, true, true, false]), (109, [true, true, true, false]), (167, [true, true, true, false]), (179, [true, true, true, false]), (205, [true, true, true, false]), (213, [true, true, true, false]), (230, [true, true, true, true]), (262, [true, true, true, true]), (274, [true, true, false, false])]) (zorc []) (fun v h => kr v (zhd h)) (fun _ _ => none) 400 274 [some (2, 0), some (0, a1), none, none] [] (zM s) := by rfl
set_option maxRecDepth 100000 in
theorem qe_M_comeOne_213b {ρ : Type} (kr : Int → zD → Option ρ) (r213 : Int → Int → zD → Option ρ) (a1 a2 : Int) (s : zD) : M_comeOne_213b kr r213 a1 a2 s = zseg zPP false zfinM (zcal []) (zget (999, 0, 0, 0) zc_M_comeOne) (zcut [(17, [true, true, true, false]), (51, [true, true, true, false]), (59, [true, true, true, false]), (93, [true, true, true, false]), (101, [true, true, true, false]), (109, [true, true, true, false]), (167, [true, true, true, false]), (179, [true, true, true, false]), (205, [true, true, true, false]), (213, [true, true, true, false]), (230, [true, true, true, true]), (262, [true, true, true, true]), (274, [true, true, false, false])]) (zorc [(230, [some (2, some 0), some (0, none), some (0, none), some (0, none)], [], fun xs h => match xs with
  | [a1, a2, a3] => M_comeOne_230 kr r213 a1 a2 a3 (zhd h)
  | _ => none), (274, [some (2, some 0), some (0, none), none, none], [], fun xs h => match xs with
  | [a1] => M_comeOne_274 kr a1 (zhd h)
  | _ => none)]) (fun v h => kr v (zhd h)) (fun _ _ => none) 400 213 [some (2, 0), some (0, a1), some (0, a2), none] [] (zM s) := by rfl
set_option maxRecDepth 100000 in
theorem qe_M_comeOne_179b {ρ : Type} (kr : Int → zD → Option ρ) (r179 : Int → Int → zD → Option ρ) (a1 a2 : Int) (s : zD) : M_comeOne_179b kr r179 a1 a2 s = zseg zPP false zfinM (zcal [(80, [some 0], fun xs h kr kt => match xs with
  | [] => M_finish  (zhd h) (fun v s => kr v (zM s))
  | _ => none), (116, [some 0, none, none], fun xs h kr kt => match xs with
  | [x0, x1] => M_carryOut x0 x1 (zhd h) (fun v s => kr v (zM s))
  | _ => none), (128, [some 0, none], fun xs h kr kt => match xs with
  | [x0] => M_choose x0 (zhd h) (fun v s => kr v (zM s))
  | _ => none)]) (zget (999, 0, 0, 0) zc_M_comeOne) (zcut [(17, [true, true, true, false]), (51, [true, true, true, false]), (59, [true, true, true, false]), (93, [true, true, true, false]), (101, [true, true, true, false]), (109, [true, true, true, false]), (167, [true, true, true, false]), (179, [true, true, true, false]), (205, [true, true, true, false]), (213, [true, true, true, false]), (230, [true, true, true, true]), (262, [true, true, true, true]), (274, [true, true, false, false])]) (zorc [(205, [some (2, some 0), some (0, none), some (0, none), none], [], fun xs h => match xs with
  | [a1, a2] => M_comeOne_205 kr r179 a1 a2 (zhd h)
  | _ => none), (213, [some (2, some 0), some (0, none), some (0, none), none], [], fun xs h => match xs with
  | [a1, a2] => M_comeOne_213 kr a1 a2 (zhd h)
  | _ => none)]) (fun v h => kr v (zhd h)) (fun _ _ => none) 400 179 [some (2, 0), some (0, a1), some (0, a2), none] [] (zM s) := by rfl
set_option maxRecDepth 100000 in
theorem qe_M_comeOne_101b {ρ : Type} (kr : Int → zD → Option ρ) (r101 : Int → Int → zD → Option ρ) (a1 a2 : Int) (s : zD) : M_comeOne_101b kr r101 a1 a2 s = zseg zPP false zfinM (zcal [(80, [some 0], fun xs h kr kt => match xs with
  | [] => M_finish  (zhd h) (fun v s => kr v (zM s))
  | _ => none)]) (zget (999, 0, 0, 0) zc_M_comeOne) (zcut [(17, [true, true, true, false]), (51, [true, true, true, false]), (59, [true, true, true, false]), (93, [true, true, true, false]), (101, [true, true, true, false]), (109, [true, true, true, false]), (167, [true, true, true, false]), (179, [true, true, true, false]), (205, [true, true, true, false]), (213, [true, true, true, false]), (230, [true, true, true, true]), (262, [true, true, true, true]), (274, [true, true, false, false])]) (zorc [(109, [some (2, some 0), some (0, none), some (0, none), none], [], fun xs h => match xs with
  | [a1, a2] => M_comeOne_109 kr r101 a1 a2 (zhd h)
  | _ => none), (179, [some (2, some 0), some (0, none), some (0, none), none], [], fun xs h => match xs with
  | [a1, a2] => M_comeOne_179 kr a1 a2 (zhd h)
  | _ => none)]) (fun v h => kr v (zhd h)) (fun _ _ => none) 400 101 [some (2, 0), some (0, a1), some (0, a2), none] [] (zM s) := by rfl
set_option maxRecDepth 100000 in
theorem qe_M_comeOne_59b {ρ : Type} (kr : Int → zD → Option ρ) (r59 : Int → Int → zD → Option ρ) (a1 a2 : Int) (s : zD) : M_comeOne_59b kr r59 a1 a2 s = zseg zPP false zfinM (zcal [(121, [some 0, none], fun xs h kr kt => match xs with
  | [x0] => M_copyOne x0 (zhd h) (fun v s => kr v (zM s))
  | _ => none)]) (zget (999, 0, 0, 0) zc_M_comeOne) (zcut [(17, [true, true, true, false]), (51, [true, true, true, false]), (59, [true, true, true, false]), (93, [true, true, true, false]), (101, [true, true, true, false]), (109, [true, true, true, false]), (167, [true, true, true, false]), (179, [true, true, true, false]), (205, [true, true, true, false]), (213, [true, true, true, false]), (230, [true, true, true, true]), (262, [true, true, true, true]), (274, [true, true, false, false])]) (zorc [(93, [some (2, some 0), some (0, none), some (0, none), none], [], fun xs h => match xs with
  | [a1, a2] => M_comeOne_93 kr r59 a1 a2 (zhd h)
  | _ => none), (101, [some (2, some 0), some (0, none), some (0, none), none], [], fun xs h => match xs with
  | [a1, a2] => M_comeOne_101 kr a1 a2 (zhd h)
  | _ => none)]) (fun v h => kr v (zhd h)) (fun _ _ => none) 400 59 [some (2, 0), some (0, a1), some (0, a2), none] [] (zM s) := by rfl
set_option maxRecDepth 100000 in
theorem qe_M_comeOne_17b {ρ : Type} (kr : Int → zD → Option ρ) (r17 : Int → Int → zD → Option ρ) (a1 a2 : Int) (s : zD) : M_comeOne_17b kr r17 a1 a2 s = zseg zPP false zfinM (zcal [(117, [some 0, none], fun xs h kr kt => match xs with
  | [x0] => M_beginLaunch x0 (zhd h) (fun v s => kr v (zM s))
  | _ => none)]) (zget (999, 0, 0, 0) zc_M_comeOne) (zcut [(17, [true, true, true, false]), (51, [true, true, true, false]), (59, [true, true, true, false]), (93, [true, true, true, false]), (101, [true, true, true, false]), (109, [true, true, true, false]), (167, [true, true, true, false]), (179, [true, true, true, false]), (205, [true, true, true, false]), (213, [true, true, true, false]), (230, [true, true, true, true]), (262, [true, true, true, true]), (274, [true, true, false, false])]) (zorc [(51, [some (2, some 0), some (0, none), some (0, none), none], [], fun xs h => match xs with
  | [a1, a2] => M_comeOne_51 kr r17 a1 a2 (zhd h)
  | _ => none), (59, [some (2, some 0), some (0, none), some (0, none), none], [], fun xs h => match xs with
  | [a1, a2] => M_comeOne_59 kr a1 a2 (zhd h)
  | _ => none)]) (fun v h => kr v (zhd h)) (fun _ _ => none) 400 17 [some (2, 0), some (0, a1), some (0, a2), none] [] (zM s) := by rfl
set_option maxRecDepth 100000 in
theorem qe_M_comeOne {ρ : Type} (kr : Int → zD → Option ρ) (s : zD) : M_comeOne  s kr = zseg zPP false zfinM (zcal [(120, [some 0, none], fun xs h kr kt => match xs with
  | [x0] => M_goThrough x0 (zhd h) (fun v s => kr v (zM s))
  | _ => none)]) (zget (999, 0, 0, 0) zc_M_comeOne) (zcut [(17, [true, true, true, false]), (51, [true, true, true, false]), (59, [true, true, true, false]), (93, [true, true, true, false]), (101, [true, true, true, false]), (109, [true, true, true, false]), (167, [true, true, true, false]), (179, [true, true, true, false]), (205, [true, true, true, false]), (213, [true, true, true, false]), (230, [true, true, true, true]), (262, [true, true, true, true]), (274, [true, true, false, false])]) (zorc [(17, [some (2, some 0), some (0, none), some (0, none), none], [], fun xs h => match xs with
  | [a1, a2] => M_comeOne_17 kr a1 a2 (zhd h)
  | _ => none)]) (fun v h => kr v (zhd h)) (fun _ _ => none) 400 0 [some (2, 0), none, none, none] [] (zM s) := by rfl
def zc_M_step : List zI := [(14, 0, 0, 0), (0, 0, 0, 0), (82, 12, 185, 0), (999, 0, 0, 0), (999, 0, 0, 0), (14, 0, 0, 0), (10, 0, 1, 0), (0, 1, 0, 0), (1, 100, 0, 0), (999, 0, 0, 0), (113, 0, 192, 57), (999, 0, 0, 0), (999, 0, 0, 0), (61, 7, 20, 0), (999, 0, 0, 0), (999, 0, 0, 0), (0, 1, 0, 0), (72, 4, 21, 0), (999, 0, 0, 0), (999, 0, 0, 0), (0, 0, 0, 0), (0, 1, 0, 0), (110, 0, 199, 58), (999, 0, 0, 0), (999, 0, 0, 0), (60, 5, 30, 0), (999, 0, 0, 0), (999, 0, 0, 0), (0, 0, 0, 0), (130, 0, 0, 0), (0, 0, 0, 0), (16, 0, 2, 0), (0, 0, 0, 0), (16, 0, 3, 0), (10, 0, 3, 0), (10, 0, 1, 0), (69, 16, 52, 0), (999, 0, 0, 0), (999, 0, 0, 0), (10, 0, 2, 0), (14, 0, 0, 0), (110, 0, 442, 129), (999, 0, 0, 0), (999, 0, 0, 0), (30, 0, 0, 0), (16, 0, 2, 0), (22, 1, 3, 0), (999, 0, 0, 0), (999, 0, 0, 0), (72, (-15), 34, 0), (999, 0, 0, 0), (999, 0, 0, 0), (10, 0, 2, 0), (130, 0, 0, 0)]
def M_step_34b {ρ : Type} (kr : Int → zD → Option ρ) (r34 : Int → Int → Int → zD → Option ρ) (a1 a2 a3 : Int) (s : zD) : Option ρ :=
if a3 < a1 then (M_comeOne s  fun v1 s2 =>
r34 a1 (wr (a2 + v1)) (wr (a3 + 1)) s2)
else kr a2 s
def M_step_34 {ρ : Type} (kr : Int → zD → Option ρ) : Int → Int → Int → zD → Option ρ := zit (fun _ _ _ _ => none) (M_step_34b kr) zN
def M_step_21 {ρ : Type} (kr : Int → zD → Option ρ) (a1 t0 : Int) (s : zD) : Option ρ :=
M_fails t0 1 s  fun v1 s2 =>
if v1 = 0 then M_step_34 kr a1 0 0 s2
else kr 0 s2
def M_step {ρ : Type} (a1 : Int) (s : zD) (kr : Int → zD → Option ρ) : Option ρ :=
zlet (zup s 0 0 0) fun s1 =>
M_in a1 1 100 s1  fun v2 s3 =>
if v2 = 0 then M_step_21 kr a1 1 s3
else M_step_21 kr a1 0 s3
set_option maxRecDepth 100000 in
theorem qe_M_step_34b {ρ : Type} (kr : Int → zD → Option ρ) (r34 : Int → Int → Int → zD → Option ρ) (a1 a2 a3 : Int) (s : zD) : M_step_34b kr r34 a1 a2 a3 s = zseg zPP false zfinM (zcal [(129, [some 0], fun xs h kr kt => match xs with
  | [] => M_comeOne  (zhd h) (fun v s => kr v (zM s))
  | _ => none)]) (zget (999, 0, 0, 0) zc_M_step) (zcut [(21, [true, true, false, false]), (34, [true, true, true, true])]) (zorc [(34, [some (2, some 0), some (0, none), some (0, none), some (0, none)], [], fun xs h => match xs with
  | [a1, a2, a3] => r34 a1 a2 a3 (zhd h)
  | _ => none)]) (fun v h => kr v (zhd h)) (fun _ _ => none) 400 34 [some (2, 0), some (0, a1), some (0, a2), some (0, a3)] [] (zM s) := by rfl
set_option maxRecDepth 100000 in
theorem qe_M_step_21 {ρ : Type} (kr : Int → zD → Option ρ) (a1 t0 : Int) (s : zD) : M_step_21 kr a1 t0 s = zseg zPP false zfinM (zcal [(58, [some 0, none, none], fun xs h kr kt => match xs with
  | [x0, x1] => M_fails x0 x1 (zhd h) (fun v s => kr v (zM s))
  | _ => none)]) (zget (999, 0, 0, 0) zc_M_step) (zcut [(21, [true, true, false, false]), (34, [true, true, true, true])]) (zorc [(34, [some (2, some 0), some (0, none), some (0, none), some (0, none)], [], fun xs h => match xs with
  | [a1, a2, a3] => M_step_34 kr a1 a2 a3 (zhd h)
  | _ => none)]) (fun v h => kr v (zhd h)) (fun _ _ => none) 400 21 [some (2, 0), some (0, a1), none, none] [(0, t0), (2, 0)] (zM s) := by rfl
set_option maxRecDepth 100000 in
theorem qe_M_step {ρ : Type} (kr : Int → zD → Option ρ) (a1 : Int) (s : zD) : M_step a1 s kr = zseg zPP false zfinM (zcal [(57, [none, none, none], fun xs h kr kt => match xs with
  | [x0, x1, x2] => M_in x0 x1 x2 (zhd h) (fun v s => kr v (zM s))
  | _ => none)]) (zget (999, 0, 0, 0) zc_M_step) (zcut [(21, [true, true, false, false]), (34, [true, true, true, true])]) (zorc [(21, [some (2, some 0), some (0, none), none, none], [(0, none), (2, some 0)], fun xs h => match xs with
  | [a1, t0] => M_step_21 kr a1 t0 (zhd h)
  | _ => none)]) (fun v h => kr v (zhd h)) (fun _ _ => none) 400 0 [some (2, 0), some (0, a1), none, none] [] (zM s) := by rfl
def zc_M_areOver : List zI := [(0, 1, 0, 0), (16, 0, 1, 0), (0, 0, 0, 0), (16, 0, 2, 0), (10, 0, 2, 0), (14, 0, 0, 0), (80, 12, 196, 13), (999, 0, 0, 0), (999, 0, 0, 0), (69, 27, 36, 0), (999, 0, 0, 0), (999, 0, 0, 0), (10, 0, 1, 0), (60, 15, 28, 0), (999, 0, 0, 0), (999, 0, 0, 0), (14, 0, 0, 0), (10, 0, 2, 0), (110, 0, 225, 71), (999, 0, 0, 0), (999, 0, 0, 0), (60, 7, 28, 0), (999, 0, 0, 0), (999, 0, 0, 0), (0, 1, 0, 0), (72, 4, 29, 0), (999, 0, 0, 0), (999, 0, 0, 0), (0, 0, 0, 0), (16, 0, 1, 0), (22, 1, 2, 0), (999, 0, 0, 0), (999, 0, 0, 0), (72, (-29), 4, 0), (999, 0, 0, 0), (999, 0, 0, 0), (10, 0, 1, 0), (130, 0, 1, 0)]
def M_areOver_29 {ρ : Type} (kr : Int → zD → Option ρ) (r4 : Int → Int → zD → Option ρ) (a2 t0 : Int) (s : zD) : Option ρ :=
r4 t0 (wr (a2 + 1)) s
def M_areOver_28 {ρ : Type} (kr : Int → zD → Option ρ) (r4 : Int → Int → zD → Option ρ) (a2 : Int) (s : zD) : Option ρ :=
M_areOver_29 kr r4 a2 0 s
def M_areOver_4b {ρ : Type} (kr : Int → zD → Option ρ) (r4 : Int → Int → zD → Option ρ) (a1 a2 : Int) (s : zD) : Option ρ :=
if a2 < (s 0 13) then (if a1 = 0 then M_areOver_28 kr r4 a2 s
else M_isOver a2 s  fun v2 s3 =>
if v2 = 0 then M_areOver_28 kr r4 a2 s3
else M_areOver_29 kr r4 a2 1 s3)
else znar 1 a1 fun x1 => kr x1 s
def M_areOver_4 {ρ : Type} (kr : Int → zD → Option ρ) : Int → Int → zD → Option ρ := zit (fun _ _ _ => none) (M_areOver_4b kr) zN
def M_areOver {ρ : Type} (s : zD) (kr : Int → zD → Option ρ) : Option ρ :=
M_areOver_4 kr 1 0 s
set_option maxRecDepth 100000 in
theorem qe_M_areOver_29 {ρ : Type} (kr : Int → zD → Option ρ) (r4 : Int → Int → zD → Option ρ) (a2 t0 : Int) (s : zD) : M_areOver_29 kr r4 a2 t0 s = zseg zPP false zfinM (zcal []) (zget (999, 0, 0, 0) zc_M_areOver) (zcut [(4, [true, true, true]), (28, [true, false, true]), (29, [true, false, true])]) (zorc [(4, [some (2, some 0), some (0, none), some (0, none)], [], fun xs h => match xs with
  | [a1, a2] => r4 a1 a2 (zhd h)
  | _ => none)]) (fun v h => kr v (zhd h)) (fun _ _ => none) 400 29 [some (2, 0), none, some (0, a2)] [(0, t0)] (zM s) := by rfl
set_option maxRecDepth 100000 in
theorem qe_M_areOver_28 {ρ : Type} (kr : Int → zD → Option ρ) (r4 : Int → Int → zD → Option ρ) (a2 : Int) (s : zD) : M_areOver_28 kr r4 a2 s = zseg zPP false zfinM (zcal []) (zget (999, 0, 0, 0) zc_M_areOver) (zcut [(4, [true, true, true]), (28, [true, false, true]), (29, [true, false, true])]) (zorc [(29, [some (2, some 0), none, some (0, none)], [(0, none)], fun xs h => match xs with
  | [a2, t0] => M_areOver_29 kr r4 a2 t0 (zhd h)
  | _ => none)]) (fun v h => kr v (zhd h)) (fun _ _ => none) 400 28 [some (2, 0), none, some (0, a2)] [] (zM s) := by rfl
set_option maxRecDepth 100000 in
theorem qe_M_areOver_4b {ρ : Type} (kr : Int → zD → Option ρ) (r4 : Int → Int → zD → Option ρ) (a1 a2 : Int) (s : zD) : M_areOver_4b kr r4 a1 a2 s = zseg zPP false zfinM (zcal [(71, [some 0, none], fun xs h kr kt => match xs with
  | [x0] => M_isOver x0 (zhd h) (fun v s => kr v (zM s))
  | _ => none)]) (zget (999, 0, 0, 0) zc_M_areOver) (zcut [(4, [true, true, true]), (28, [true, false, true]), (29, [true, false, true])]) (zorc [(28, [some (2, some 0), none, some (0, none)], [], fun xs h => match xs with
  | [a2] => M_areOver_28 kr r4 a2 (zhd h)
  | _ => none), (29, [some (2, some 0), none, some (0, none)], [(0, none)], fun xs h => match xs with
  | [a2, t0] => M_areOver_29 kr r4 a2 t0 (zhd h)
  | _ => none)]) (fun v h => kr v (zhd h)) (fun _ _ => none) 400 4 [some (2, 0), some (0, a1), some (0, a2)] [] (zM s) := by rfl
set_option maxRecDepth 100000 in
theorem qe_M_areOver {ρ : Type} (kr : Int → zD → Option ρ) (s : zD) : M_areOver  s kr = zseg zPP false zfinM (zcal []) (zget (999, 0, 0, 0) zc_M_areOver) (zcut [(4, [true, true, true]), (28, [true, false, true]), (29, [true, false, true])]) (zorc [(4, [some (2, some 0), some (0, none), some (0, none)], [], fun xs h => match xs with
  | [a1, a2] => M_areOver_4 kr a1 a2 (zhd h)
  | _ => none)]) (fun v h => kr v (zhd h)) (fun _ _ => none) 400 0 [some (2, 0), none, none] [] (zM s) := by rfl
def zc_M_run : List zI := [(14, 0, 0, 0), (0, 0, 0, 0), (82, 12, 185, 0), (999, 0, 0, 0), (999, 0, 0, 0), (14, 0, 0, 0), (10, 0, 1, 0), (0, 1, 0, 0), (2, 500, 0, 0), (999, 0, 0, 0), (999, 0, 0, 0), (113, 0, 192, 57), (999, 0, 0, 0), (999, 0, 0, 0), (61, 7, 21, 0), (999, 0, 0, 0), (999, 0, 0, 0), (0, 1, 0, 0), (72, 4, 22, 0), (999, 0, 0, 0), (999, 0, 0, 0), (0, 0, 0, 0), (0, 1, 0, 0), (110, 0, 199, 58), (999, 0, 0, 0), (999, 0, 0, 0), (60, 5, 31, 0), (999, 0, 0, 0), (999, 0, 0, 0), (0, 0, 0, 0), (130, 0, 0, 0), (0, 0, 0, 0), (16, 0, 2, 0), (10, 0, 2, 0), (10, 0, 1, 0), (69, 21, 56, 0), (999, 0, 0, 0), (999, 0, 0, 0), (14, 0, 0, 0), (110, 0, 446, 131), (999, 0, 0, 0), (999, 0, 0, 0), (61, 14, 56, 0), (999, 0, 0, 0), (999, 0, 0, 0), (14, 0, 0, 0), (110, 0, 442, 129), (999, 0, 0, 0), (999, 0, 0, 0), (52, 0, 0, 0), (22, 1, 2, 0), (999, 0, 0, 0), (999, 0, 0, 0), (72, (-20), 33, 0), (999, 0, 0, 0), (999, 0, 0, 0), (10, 0, 2, 0), (130, 0, 0, 0)]
def M_run_56 {ρ : Type} (kr : Int → zD → Option ρ) (a2 : Int) (s : zD) : Option ρ :=
kr a2 s
def M_run_33b {ρ : Type} (kr : Int → zD → Option ρ) (r33 : Int → Int → zD → Option ρ) (a1 a2 : Int) (s : zD) : Option ρ :=
if a2 < a1 then (M_areOver s  fun v1 s2 =>
if v1 = 0 then (M_comeOne s2  fun v3 s4 =>
r33 a1 (wr (a2 + 1)) s4)
else M_run_56 kr a2 s2)
else M_run_56 kr a2 s
def M_run_33 {ρ : Type} (kr : Int → zD → Option ρ) : Int → Int → zD → Option ρ := zit (fun _ _ _ => none) (M_run_33b kr) zN
def M_run_22 {ρ : Type} (kr : Int → zD → Option ρ) (a1 t0 : Int) (s : zD) : Option ρ :=
M_fails t0 1 s  fun v1 s2 =>
if v1 = 0 then M_run_33 kr a1 0 s2
else kr 0 s2
def M_run {ρ : Type} (a1 : Int) (s : zD) (kr : Int → zD → Option ρ) : Option ρ :=
zlet (zup s 0 0 0) fun s1 =>
M_in a1 1 500 s1  fun v2 s3 =>
if v2 = 0 then M_run_22 kr a1 1 s3
else M_run_22 kr a1 0 s3
set_option maxRecDepth 100000 in
theorem qe_M_run_56 {ρ : Type} (kr : Int → zD → Option ρ) (a2 : Int) (s : zD) : M_run_56 kr a2 s = zseg zPP false zfinM (zcal []) (zget (999, 0, 0, 0) zc_M_run) (zcut [(22, [true, true, false]), (33, [true, true, true]), (56, [false, false, true])]) (zorc []) (fun v h => kr v (zhd h)) (fun _ _ => none) 400 56 [none, none, some (0, a2)] [] (zM s) := by rfl
set_option maxRecDepth 100000 in
theorem qe_M_run_33b {ρ : Type} (kr : Int → zD → Option ρ) (r33 : Int → Int → zD → Option ρ) (a1 a2 : Int) (s : zD) : M_run_33b kr r33 a1 a2 s = zseg zPP false zfinM (zcal [(129, [some 0], fun xs h kr kt => match xs with
  | [] => M_comeOne  (zhd h) (fun v s => kr v (zM s))
  | _ => none), (131, [some 0], fun xs h kr kt => match xs with
  | [] => M_areOver  (zhd h) (fun v s => kr v (zM s))
  | _ => none)]) (zget (999, 0, 0, 0) zc_M_run) (zcut [(22, [true, true, false]), (33, [true, true, true]), (56, [false, false, true])]) (zorc [(33, [some (2, some 0), some (0, none), some (0, none)], [], fun xs h => match xs with
  | [a1, a2] => r33 a1 a2 (zhd h)
  | _ => none), (56, [none, none, some (0, none)], [], fun xs h => match xs with
  | [a2] => M_run_56 kr a2 (zhd h)
  | _ => none)]) (fun v h => kr v (zhd h)) (fun _ _ => none) 400 33 [some (2, 0), some (0, a1), some (0, a2)] [] (zM s) := by rfl
set_option maxRecDepth 100000 in
theorem qe_M_run_22 {ρ : Type} (kr : Int → zD → Option ρ) (a1 t0 : Int) (s : zD) : M_run_22 kr a1 t0 s = zseg zPP false zfinM (zcal [(58, [some 0, none, none], fun xs h kr kt => match xs with
  | [x0, x1] => M_fails x0 x1 (zhd h) (fun v s => kr v (zM s))
  | _ => none)]) (zget (999, 0, 0, 0) zc_M_run) (zcut [(22, [true, true, false]), (33, [true, true, true]), (56, [false, false, true])]) (zorc [(33, [some (2, some 0), some (0, none), some (0, none)], [], fun xs h => match xs with
  | [a1, a2] => M_run_33 kr a1 a2 (zhd h)
  | _ => none)]) (fun v h => kr v (zhd h)) (fun _ _ => none) 400 22 [some (2, 0), some (0, a1), none] [(0, t0), (2, 0)] (zM s) := by rfl
set_option maxRecDepth 100000 in
theorem qe_M_run {ρ : Type} (kr : Int → zD → Option ρ) (a1 : Int) (s : zD) : M_run a1 s kr = zseg zPP false zfinM (zcal [(57, [none, none, none], fun xs h kr kt => match xs with
  | [x0, x1, x2] => M_in x0 x1 x2 (zhd h) (fun v s => kr v (zM s))
  | _ => none)]) (zget (999, 0, 0, 0) zc_M_run) (zcut [(22, [true, true, false]), (33, [true, true, true]), (56, [false, false, true])]) (zorc [(22, [some (2, some 0), some (0, none), none], [(0, none), (2, some 0)], fun xs h => match xs with
  | [a1, t0] => M_run_22 kr a1 t0 (zhd h)
  | _ => none)]) (fun v h => kr v (zhd h)) (fun _ _ => none) 400 0 [some (2, 0), some (0, a1), none] [] (zM s) := by rfl
def zc_M_setOrder : List zI := [(14, 0, 0, 0), (0, 0, 0, 0), (82, 12, 185, 0), (999, 0, 0, 0), (999, 0, 0, 0), (14, 0, 0, 0), (10, 0, 1, 0), (1, 111, 0, 0), (999, 0, 0, 0), (66, 19, 28, 0), (999, 0, 0, 0), (999, 0, 0, 0), (10, 0, 1, 0), (1, 121, 0, 0), (999, 0, 0, 0), (66, 13, 28, 0), (999, 0, 0, 0), (999, 0, 0, 0), (10, 0, 1, 0), (1, 97, 0, 0), (999, 0, 0, 0), (66, 7, 28, 0), (999, 0, 0, 0), (999, 0, 0, 0), (0, 1, 0, 0), (72, 4, 29, 0), (999, 0, 0, 0), (999, 0, 0, 0), (0, 0, 0, 0), (0, 1, 0, 0), (110, 0, 199, 58), (999, 0, 0, 0), (999, 0, 0, 0), (60, 5, 38, 0), (999, 0, 0, 0), (999, 0, 0, 0), (0, 0, 0, 0), (130, 0, 2, 0), (14, 0, 0, 0), (80, 12, 7, 2), (999, 0, 0, 0), (999, 0, 0, 0), (16, 0, 2, 0), (14, 0, 0, 0), (10, 0, 1, 0), (82, 12, 7, 2), (999, 0, 0, 0), (999, 0, 0, 0), (10, 0, 2, 0), (130, 0, 2, 0)]
def M_setOrder_29 {ρ : Type} (kr : Int → zD → Option ρ) (a1 t0 : Int) (s : zD) : Option ρ :=
M_fails t0 1 s  fun v1 s2 =>
if v1 = 0 then (znar 2 a1 fun x3 =>
zlet (zup s2 0 2 x3) fun s4 =>
znar 2 (s2 0 2) fun x5 => kr x5 s4)
else kr 0 s2
def M_setOrder_28 {ρ : Type} (kr : Int → zD → Option ρ) (a1 : Int) (s : zD) : Option ρ :=
M_setOrder_29 kr a1 0 s
def M_setOrder {ρ : Type} (a1 : Int) (s : zD) (kr : Int → zD → Option ρ) : Option ρ :=
zlet (zup s 0 0 0) fun s1 =>
if a1 = 111 then M_setOrder_28 kr a1 s1
else if a1 = 121 then M_setOrder_28 kr a1 s1
else if a1 = 97 then M_setOrder_28 kr a1 s1
else M_setOrder_29 kr a1 1 s1
set_option maxRecDepth 100000 in
theorem qe_M_setOrder_29 {ρ : Type} (kr : Int → zD → Option ρ) (a1 t0 : Int) (s : zD) : M_setOrder_29 kr a1 t0 s = zseg zPP false zfinM (zcal [(58, [some 0, none, none], fun xs h kr kt => match xs with
  | [x0, x1] => M_fails x0 x1 (zhd h) (fun v s => kr v (zM s))
  | _ => none)]) (zget (999, 0, 0, 0) zc_M_setOrder) (zcut [(28, [true, true, false]), (29, [true, true, false])]) (zorc []) (fun v h => kr v (zhd h)) (fun _ _ => none) 400 29 [some (2, 0), some (0, a1), none] [(0, t0), (2, 0)] (zM s) := by rfl
set_option maxRecDepth 100000 in
theorem qe_M_setOrder_28 {ρ : Type} (kr : Int → zD → Option ρ) (a1 : Int) (s : zD) : M_setOrder_28 kr a1 s = zseg zPP false zfinM (zcal []) (zget (999, 0, 0, 0) zc_M_setOrder) (zcut [(28, [true, true, false]), (29, [true, true, false])]) (zorc [(29, [some (2, some 0), some (0, none), none], [(0, none), (2, some 0)], fun xs h => match xs with
  | [a1, t0] => M_setOrder_29 kr a1 t0 (zhd h)
  | _ => none)]) (fun v h => kr v (zhd h)) (fun _ _ => none) 400 28 [some (2, 0), some (0, a1), none] [(2, 0)] (zM s) := by rfl
set_option maxRecDepth 100000 in
theorem qe_M_setOrder {ρ : Type} (kr : Int → zD → Option ρ) (a1 : Int) (s : zD) : M_setOrder a1 s kr = zseg zPP false zfinM (zcal []) (zget (999, 0, 0, 0) zc_M_setOrder) (zcut [(28, [true, true, false]), (29, [true, true, false])]) (zorc [(28, [some (2, some 0), some (0, none), none], [(2, some 0)], fun xs h => match xs with
  | [a1] => M_setOrder_28 kr a1 (zhd h)
  | _ => none), (29, [some (2, some 0), some (0, none), none], [(0, none), (2, some 0)], fun xs h => match xs with
  | [a1, t0] => M_setOrder_29 kr a1 t0 (zhd h)
  | _ => none)]) (fun v h => kr v (zhd h)) (fun _ _ => none) 400 0 [some (2, 0), some (0, a1), none] [] (zM s) := by rfl
