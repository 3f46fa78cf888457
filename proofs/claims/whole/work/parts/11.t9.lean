def zc_M_isNew : List zI := [(14, 0, 0, 0), (10, 0, 3, 0), (110, 0, 287, 101), (999, 0, 0, 0), (999, 0, 0, 0), (17, 0, 4, 0), (999, 0, 0, 0), (0, 0, 0, 0), (17, 0, 5, 0), (999, 0, 0, 0), (11, 0, 5, 0), (999, 0, 0, 0), (10, 0, 3, 0), (69, 48, 61, 0), (999, 0, 0, 0), (999, 0, 0, 0), (11, 0, 4, 0), (999, 0, 0, 0), (60, 34, 52, 0), (999, 0, 0, 0), (999, 0, 0, 0), (14, 0, 0, 0), (11, 0, 5, 0), (999, 0, 0, 0), (110, 0, 287, 101), (999, 0, 0, 0), (999, 0, 0, 0), (60, 21, 48, 0), (999, 0, 0, 0), (999, 0, 0, 0), (14, 0, 0, 0), (10, 0, 1, 0), (10, 0, 2, 0), (11, 0, 5, 0), (999, 0, 0, 0), (110, 0, 293, 105), (999, 0, 0, 0), (999, 0, 0, 0), (14, 0, 0, 0), (10, 0, 1, 0), (10, 0, 2, 0), (10, 0, 3, 0), (110, 0, 293, 105), (999, 0, 0, 0), (999, 0, 0, 0), (66, 7, 52, 0), (999, 0, 0, 0), (999, 0, 0, 0), (0, 1, 0, 0), (72, 4, 53, 0), (999, 0, 0, 0), (999, 0, 0, 0), (0, 0, 0, 0), (17, 0, 4, 0), (999, 0, 0, 0), (22, 1, 5, 0), (999, 0, 0, 0), (999, 0, 0, 0), (72, (-48), 10, 0), (999, 0, 0, 0), (999, 0, 0, 0), (11, 0, 4, 0), (999, 0, 0, 0), (130, 0, 1, 0)]
def M_isNew_53 {ρ : Type} (kr : Int → zD → Option ρ) (r10 : Int → Int → Int → Int → Int → zD → Option ρ) (a1 a2 a3 a5 t0 : Int) (s : zD) : Option ρ :=
r10 a1 a2 a3 t0 (wr (a5 + 1)) s
def M_isNew_48 {ρ : Type} (kr : Int → zD → Option ρ) (r10 : Int → Int → Int → Int → Int → zD → Option ρ) (a1 a2 a3 a5 : Int) (s : zD) : Option ρ :=
M_isNew_53 kr r10 a1 a2 a3 a5 1 s
def M_isNew_52 {ρ : Type} (kr : Int → zD → Option ρ) (r10 : Int → Int → Int → Int → Int → zD → Option ρ) (a1 a2 a3 a5 : Int) (s : zD) : Option ρ :=
M_isNew_53 kr r10 a1 a2 a3 a5 0 s
def M_isNew_10b {ρ : Type} (kr : Int → zD → Option ρ) (r10 : Int → Int → Int → Int → Int → zD → Option ρ) (a1 a2 a3 a4 a5 : Int) (s : zD) : Option ρ :=
if a5 < a3 then (if a4 = 0 then M_isNew_52 kr r10 a1 a2 a3 a5 s
else M_isUnder a5 s  fun v2 s3 =>
if v2 = 0 then M_isNew_48 kr r10 a1 a2 a3 a5 s3
else M_cellOf a1 a2 a5 s3  fun v4 s5 =>
M_cellOf a1 a2 a3 s5  fun v6 s7 =>
if v4 = v6 then M_isNew_52 kr r10 a1 a2 a3 a5 s7
else M_isNew_48 kr r10 a1 a2 a3 a5 s7)
else znar 1 a4 fun x1 => kr x1 s
def M_isNew_10 {ρ : Type} (kr : Int → zD → Option ρ) : Int → Int → Int → Int → Int → zD → Option ρ := zit (fun _ _ _ _ _ _ => none) (M_isNew_10b kr) zN
def M_isNew {ρ : Type} (a1 a2 a3 : Int) (s : zD) (kr : Int → zD → Option ρ) : Option ρ :=
M_isUnder a3 s  fun v1 s2 =>
M_isNew_10 kr a1 a2 a3 v1 0 s2
set_option maxRecDepth 100000 in
theorem qe_M_isNew_53 {ρ : Type} (kr : Int → zD → Option ρ) (r10 : Int → Int → Int → Int → Int → zD → Option ρ) (a1 a2 a3 a5 t0 : Int) (s : zD) : M_isNew_53 kr r10 a1 a2 a3 a5 t0 s = zseg zPP false zfinM (zcal []) (zget (999, 0, 0, 0) zc_M_isNew) (zcut [(10, [true, true, true, true, true, true]), (48, [true, true, true, true, false, true]), (52, [true, true, true, true, false, true]), (53, [true, true, true, true, false, true])]) (zorc [(10, [some (2, some 0), some (0, none), some (0, none), some (0, none), some (0, none), some (0, none)], [], fun xs h => match xs with
  | [a1, a2, a3, a4, a5] => r10 a1 a2 a3 a4 a5 (zhd h)
  | _ => none)]) (fun v h => kr v (zhd h)) (fun _ _ => none) 400 53 [some (2, 0), some (0, a1), some (0, a2), some (0, a3), none, some (0, a5)] [(0, t0)] (zM s) := by rfl
set_option maxRecDepth 100000 in
theorem qe_M_isNew_48 {ρ : Type} (kr : Int → zD → Option ρ) (r10 : Int → Int → Int → Int → Int → zD → Option ρ) (a1 a2 a3 a5 : Int) (s : zD) : M_isNew_48 kr r10 a1 a2 a3 a5 s = zseg zPP false zfinM (zcal []) (zget (999, 0, 0, 0) zc_M_isNew) (zcut [(10, [true, true, true, true, true, true]), (48, [true, true, true, true, false, true]), (52, [true, true, true, true, false, true]), (53, [true, true, true, true, false, true])]) (zorc [(53, [some (2, some 0), some (0, none), some (0, none), some (0, none), none, some (0, none)], [(0, none)], fun xs h => match xs with
  | [a1, a2, a3, a5, t0] => M_isNew_53 kr r10 a1 a2 a3 a5 t0 (zhd h)
  | _ => none)]) (fun v h => kr v (zhd h)) (fun _ _ => none) 400 48 [some (2, 0), some (0, a1), some (0, a2), some (0, a3), none, some (0, a5)] [] (zM s) := by rfl
set_option maxRecDepth 100000 in
theorem qe_M_isNew_52 {ρ : Type} (kr : Int → zD → Option ρ) (r10 : Int → Int → Int → Int → Int → zD → Option ρ) (a1 a2 a3 a5 : Int) (s : zD) : M_isNew_52 kr r10 a1 a2 a3 a5 s = zseg zPP false zfinM (zcal []) (zget (999, 0, 0, 0) zc_M_isNew) (zcut [(10, [true, true, true, true, true, true]), (48, [true, true, true, true, false, true]), (52, [true, true, true, true, false, true]), (53, [true, true, true, true, false, true])]) (zorc [(53, [some (2, some 0), some (0, none), some (0, none), some (0, none), none, some (0, none)], [(0, none)], fun xs h => match xs with
  | [a1, a2, a3, a5, t0] => M_isNew_53 kr r10 a1 a2 a3 a5 t0 (zhd h)
  | _ => none)]) (fun v h => kr v (zhd h)) (fun _ _ => none) 400 52 [some (2, 0), some (0, a1), some (0, a2), some (0, a3), none, some (0, a5)] [] (zM s) := by rfl
set_option maxRecDepth 100000 in
theorem qe_M_isNew_10b {ρ : Type} (kr : Int → zD → Option ρ) (r10 : Int → Int → Int → Int → Int → zD → Option ρ) (a1 a2 a3 a4 a5 : Int) (s : zD) : M_isNew_10b kr r10 a1 a2 a3 a4 a5 s = zseg zPP false zfinM (zcal [(101, [some 0, none], fun xs h kr kt => match xs with
  | [x0] => M_isUnder x0 (zhd h) (fun v s => kr v (zM s))
  | _ => none), (105, [some 0, none, none, none], fun xs h kr kt => match xs with
  | [x0, x1, x2] => M_cellOf x0 x1 x2 (zhd h) (fun v s => kr v (zM s))
  | _ => none)]) (zget (999, 0, 0, 0) zc_M_isNew) (zcut [(10, [true, true, true, true, true, true]), (48, [true, true, true, true, false, true]), (52, [true, true, true, true, false, true]), (53, [true, true, true, true, false, true])]) (zorc [(48, [some (2, some 0), some (0, none), some (0, none), some (0, none), none, some (0, none)], [], fun xs h => match xs with
  | [a1, a2, a3, a5] => M_isNew_48 kr r10 a1 a2 a3 a5 (zhd h)
  | _ => none), (52, [some (2, some 0), some (0, none), some (0, none), some (0, none), none, some (0, none)], [], fun xs h => match xs with
  | [a1, a2, a3, a5] => M_isNew_52 kr r10 a1 a2 a3 a5 (zhd h)
  | _ => none)]) (fun v h => kr v (zhd h)) (fun _ _ => none) 400 10 [some (2, 0), some (0, a1), some (0, a2), some (0, a3), some (0, a4), some (0, a5)] [] (zM s) := by rfl
set_option maxRecDepth 100000 in
theorem qe_M_isNew {ρ : Type} (kr : Int → zD → Option ρ) (a1 a2 a3 : Int) (s : zD) : M_isNew a1 a2 a3 s kr = zseg zPP false zfinM (zcal [(101, [some 0, none], fun xs h kr kt => match xs with
  | [x0] => M_isUnder x0 (zhd h) (fun v s => kr v (zM s))
  | _ => none)]) (zget (999, 0, 0, 0) zc_M_isNew) (zcut [(10, [true, true, true, true, true, true]), (48, [true, true, true, true, false, true]), (52, [true, true, true, true, false, true]), (53, [true, true, true, true, false, true])]) (zorc [(10, [some (2, some 0), some (0, none), some (0, none), some (0, none), some (0, none), some (0, none)], [], fun xs h => match xs with
  | [a1, a2, a3, a4, a5] => M_isNew_10 kr a1 a2 a3 a4 a5 (zhd h)
  | _ => none)]) (fun v h => kr v (zhd h)) (fun _ _ => none) 400 0 [some (2, 0), some (0, a1), some (0, a2), some (0, a3), none, none] [] (zM s) := by rfl
def zc_M_banks : List zI := [(0, 0, 0, 0), (16, 0, 3, 0), (0, 0, 0, 0), (17, 0, 4, 0), (999, 0, 0, 0), (11, 0, 4, 0), (999, 0, 0, 0), (0, 4, 0, 0), (69, 76, 84, 0), (999, 0, 0, 0), (999, 0, 0, 0), (0, 0, 0, 0), (17, 0, 5, 0), (999, 0, 0, 0), (0, 0, 0, 0), (17, 0, 6, 0), (999, 0, 0, 0), (11, 0, 6, 0), (999, 0, 0, 0), (0, 4, 0, 0), (69, 45, 65, 0), (999, 0, 0, 0), (999, 0, 0, 0), (11, 0, 5, 0), (999, 0, 0, 0), (14, 0, 0, 0), (10, 0, 1, 0), (10, 0, 2, 0), (11, 0, 6, 0), (999, 0, 0, 0), (110, 0, 337, 112), (999, 0, 0, 0), (999, 0, 0, 0), (60, 22, 55, 0), (999, 0, 0, 0), (999, 0, 0, 0), (14, 0, 0, 0), (10, 0, 1, 0), (10, 0, 2, 0), (11, 0, 6, 0), (999, 0, 0, 0), (110, 0, 293, 105), (999, 0, 0, 0), (999, 0, 0, 0), (0, 4, 0, 0), (34, 0, 0, 0), (11, 0, 4, 0), (999, 0, 0, 0), (67, 7, 55, 0), (999, 0, 0, 0), (999, 0, 0, 0), (0, 1, 0, 0), (72, 4, 56, 0), (999, 0, 0, 0), (999, 0, 0, 0), (0, 0, 0, 0), (30, 0, 0, 0), (17, 0, 5, 0), (999, 0, 0, 0), (22, 1, 6, 0), (999, 0, 0, 0), (999, 0, 0, 0), (72, (-45), 17, 0), (999, 0, 0, 0), (999, 0, 0, 0), (11, 0, 5, 0), (999, 0, 0, 0), (10, 0, 3, 0), (71, 8, 76, 0), (999, 0, 0, 0), (999, 0, 0, 0), (11, 0, 5, 0), (999, 0, 0, 0), (72, 4, 77, 0), (999, 0, 0, 0), (999, 0, 0, 0), (10, 0, 3, 0), (16, 0, 3, 0), (22, 1, 4, 0), (999, 0, 0, 0), (999, 0, 0, 0), (72, (-76), 5, 0), (999, 0, 0, 0), (999, 0, 0, 0), (10, 0, 3, 0), (130, 0, 0, 0)]
def M_banks_56 {ρ : Type} (kr : Int → zD → Option ρ) (r5 : Int → Int → Int → Int → zD → Option ρ) (r17 : Int → Int → Int → Int → Int → Int → zD → Option ρ) (a1 a2 a3 a4 a6 t0 t1 : Int) (s : zD) : Option ρ :=
r17 a1 a2 a3 a4 (wr (t1 + t0)) (wr (a6 + 1)) s
def M_banks_55 {ρ : Type} (kr : Int → zD → Option ρ) (r5 : Int → Int → Int → Int → zD → Option ρ) (r17 : Int → Int → Int → Int → Int → Int → zD → Option ρ) (a1 a2 a3 a4 a6 t0 : Int) (s : zD) : Option ρ :=
M_banks_56 kr r5 r17 a1 a2 a3 a4 a6 0 t0 s
def M_banks_77 {ρ : Type} (kr : Int → zD → Option ρ) (r5 : Int → Int → Int → Int → zD → Option ρ) (a1 a2 a4 t0 : Int) (s : zD) : Option ρ :=
r5 a1 a2 t0 (wr (a4 + 1)) s
def M_banks_17b {ρ : Type} (kr : Int → zD → Option ρ) (r5 : Int → Int → Int → Int → zD → Option ρ) (r17 : Int → Int → Int → Int → Int → Int → zD → Option ρ) (a1 a2 a3 a4 a5 a6 : Int) (s : zD) : Option ρ :=
if a6 < 4 then (M_isNew a1 a2 a6 s  fun v1 s2 =>
if v1 = 0 then M_banks_55 kr r5 r17 a1 a2 a3 a4 a6 a5 s2
else M_cellOf a1 a2 a6 s2  fun v3 s4 =>
if (Int.tmod v3 4) = a4 then M_banks_56 kr r5 r17 a1 a2 a3 a4 a6 1 a5 s4
else M_banks_55 kr r5 r17 a1 a2 a3 a4 a6 a5 s4)
else if a3 < a5 then M_banks_77 kr r5 a1 a2 a4 a5 s
else M_banks_77 kr r5 a1 a2 a4 a3 s
def M_banks_17 {ρ : Type} (kr : Int → zD → Option ρ) (r5 : Int → Int → Int → Int → zD → Option ρ) : Int → Int → Int → Int → Int → Int → zD → Option ρ := zit (fun _ _ _ _ _ _ _ => none) (M_banks_17b kr r5) zN
def M_banks_5b {ρ : Type} (kr : Int → zD → Option ρ) (r5 : Int → Int → Int → Int → zD → Option ρ) (a1 a2 a3 a4 : Int) (s : zD) : Option ρ :=
if a4 < 4 then M_banks_17 kr r5 a1 a2 a3 a4 0 0 s
else kr a3 s
def M_banks_5 {ρ : Type} (kr : Int → zD → Option ρ) : Int → Int → Int → Int → zD → Option ρ := zit (fun _ _ _ _ _ => none) (M_banks_5b kr) zN
def M_banks {ρ : Type} (a1 a2 : Int) (s : zD) (kr : Int → zD → Option ρ) : Option ρ :=
M_banks_5 kr a1 a2 0 0 s
set_option maxRecDepth 100000 in
theorem qe_M_banks_56 {ρ : Type} (kr : Int → zD → Option ρ) (r5 : Int → Int → Int → Int → zD → Option ρ) (r17 : Int → Int → Int → Int → Int → Int → zD → Option ρ) (a1 a2 a3 a4 a6 t0 t1 : Int) (s : zD) : M_banks_56 kr r5 r17 a1 a2 a3 a4 a6 t0 t1 s = zseg zPP false zfinM (zcal []) (zget (999, 0, 0, 0) zc_M_banks) (zcut [(5, [true, true, true, true, true, false, false]), (17, [true, true, true, true, true, true, true]), (55, [true, true, true, true, true, false, true]), (56, [true, true, true, true, true, false, true]), (77, [true, true, true, false, true, false, false])]) (zorc [(17, [some (2, some 0), some (0, none), some (0, none), some (0, none), some (0, none), some (0, none), some (0, none)], [], fun xs h => match xs with
  | [a1, a2, a3, a4, a5, a6] => r17 a1 a2 a3 a4 a5 a6 (zhd h)
  | _ => none)]) (fun v h => kr v (zhd h)) (fun _ _ => none) 400 56 [some (2, 0), some (0, a1), some (0, a2), some (0, a3), some (0, a4), none, some (0, a6)] [(0, t0), (0, t1)] (zM s) := by rfl
set_option maxRecDepth 100000 in
theorem qe_M_banks_55 {ρ : Type} (kr : Int → zD → Option ρ) (r5 : Int → Int → Int → Int → zD → Option ρ) (r17 : Int → Int → Int → Int → Int → Int → zD → Option ρ) (a1 a2 a3 a4 a6 t0 : Int) (s : zD) : M_banks_55 kr r5 r17 a1 a2 a3 a4 a6 t0 s = zseg zPP false zfinM (zcal []) (zget (999, 0, 0, 0) zc_M_banks) (zcut [(5, [true, true, true, true, true, false, false]), (17, [true, true, true, true, true, true, true]), (55, [true, true, true, true, true, false, true]), (56, [true, true, true, true, true, false, true]), (77, [true, true, true, false, true, false, false])]) (zorc [(56, [some (2, some 0), some (0, none), some (0, none), some (0, none), some (0, none), none, some (0, none)], [(0, none), (0, none)], fun xs h => match xs with
  | [a1, a2, a3, a4, a6, t0, t1] => M_banks_56 kr r5 r17 a1 a2 a3 a4 a6 t0 t1 (zhd h)
  | _ => none)]) (fun v h => kr v (zhd h)) (fun _ _ => none) 400 55 [some (2, 0), some (0, a1), some (0, a2), some (0, a3), some (0, a4), none, some (0, a6)] [(0, t0)] (zM s) := by rfl
set_option maxRecDepth 100000 in
theorem qe_M_banks_77 {ρ : Type} (kr : Int → zD → Option ρ) (r5 : Int → Int → Int → Int → zD → Option ρ) (a1 a2 a4 t0 : Int) (s : zD) : M_banks_77 kr r5 a1 a2 a4 t0 s = zseg zPP false zfinM (zcal []) (zget (999, 0, 0, 0) zc_M_banks) (zcut [(5, [true, true, true, true, true, false, false]), (17, [true, true, true, true, true, true, true]), (55, [true, true, true, true, true, false, true]), (56, [true, true, true, true, true, false, true]), (77, [true, true, true, false, true, false, false])]) (zorc [(5, [some (2, some 0), some (0, none), some (0, none), some (0, none), some (0, none), none, none], [], fun xs h => match xs with
  | [a1, a2, a3, a4] => r5 a1 a2 a3 a4 (zhd h)
  | _ => none)]) (fun v h => kr v (zhd h)) (fun _ _ => none) 400 77 [some (2, 0), some (0, a1), some (0, a2), none, some (0, a4), none, none] [(0, t0)] (zM s) := by rfl
set_option maxRecDepth 100000 in
theorem qe_M_banks_17b {ρ : Type} (kr : Int → zD → Option ρ) (r5 : Int → Int → Int → Int → zD → Option ρ) (r17 : Int → Int → Int → Int → Int → Int → zD → Option ρ) (a1 a2 a3 a4 a5 a6 : Int) (s : zD) : M_banks_17b kr r5 r17 a1 a2 a3 a4 a5 a6 s = zseg zPP false zfinM (zcal [(105, [some 0, none, none, none], fun xs h kr kt => match xs with
  | [x0, x1, x2] => M_cellOf x0 x1 x2 (zhd h) (fun v s => kr v (zM s))
  | _ => none), (112, [some 0, none, none, none], fun xs h kr kt => match xs with
  | [x0, x1, x2] => M_isNew x0 x1 x2 (zhd h) (fun v s => kr v (zM s))
  | _ => none)]) (zget (999, 0, 0, 0) zc_M_banks) (zcut [(5, [true, true, true, true, true, false, false]), (17, [true, true, true, true, true, true, true]), (55, [true, true, true, true, true, false, true]), (56, [true, true, true, true, true, false, true]), (77, [true, true, true, false, true, false, false])]) (zorc [(55, [some (2, some 0), some (0, none), some (0, none), some (0, none), some (0, none), none, some (0, none)], [(0, none)], fun xs h => match xs with
  | [a1, a2, a3, a4, a6, t0] => M_banks_55 kr r5 r17 a1 a2 a3 a4 a6 t0 (zhd h)
  | _ => none), (56, [some (2, some 0), some (0, none), some (0, none), some (0, none), some (0, none), none, some (0, none)], [(0, none), (0, none)], fun xs h => match xs with
  | [a1, a2, a3, a4, a6, t0, t1] => M_banks_56 kr r5 r17 a1 a2 a3 a4 a6 t0 t1 (zhd h)
  | _ => none), (77, [some (2, some 0), some (0, none), some (0, none), none, some (0, none), none, none], [(0, none)], fun xs h => match xs with
  | [a1, a2, a4, t0] => M_banks_77 kr r5 a1 a2 a4 t0 (zhd h)
  | _ => none)]) (fun v h => kr v (zhd h)) (fun _ _ => none) 400 17 [some (2, 0), some (0, a1), some (0, a2), some (0, a3), some (0, a4), some (0, a5), some (0, a6)] [] (zM s) := by rfl
set_option maxRecDepth 100000 in
theorem qe_M_banks_5b {ρ : Type} (kr : Int → zD → Option ρ) (r5 : Int → Int → Int → Int → zD → Option ρ) (a1 a2 a3 a4 : Int) (s : zD) : M_banks_5b kr r5 a1 a2 a3 a4 s = zseg zPP false zfinM (zcal []) (zget (999, 0, 0, 0) zc_M_banks) (zcut [(5, [true, true, true, true, true, false, false]), (17, [true, true, true, true, true, true, true]), (55, [true, true, true, true, true, false, true]), (56, [true, true, true, true, true, false, true]), (77, [true, true, true, false, true, false, false])]) (zorc [(17, [some (2, some 0), some (0, none), some (0, none), some (0, none), some (0, none), some (0, none), some (0, none)], [], fun xs h => match xs with
  | [a1, a2, a3, a4, a5, a6] => M_banks_17 kr r5 a1 a2 a3 a4 a5 a6 (zhd h)
  | _ => none)]) (fun v h => kr v (zhd h)) (fun _ _ => none) 400 5 [some (2, 0), some (0, a1), some (0, a2), some (0, a3), some (0, a4), none, none] [] (zM s) := by rfl
set_option maxRecDepth 100000 in
theorem qe_M_banks {ρ : Type} (kr : Int → zD → Option ρ) (a1 a2 : Int) (s : zD) : M_banks a1 a2 s kr = zseg zPP false zfinM (zcal []) (zget (999, 0, 0, 0) zc_M_banks) (zcut [(5, [true, true, true, true, true, false, false]), (17, [true, true, true, true, true, true, true]), (55, [true, true, true, true, true, false, true]), (56, [true, true, true, true, true, false, true]), (77, [true, true, true, false, true, false, false])]) (zorc [(5, [some (2, some 0), some (0, none), some (0, none), some (0, none), some (0, none), none, none], [], fun xs h => match xs with
  | [a1, a2, a3, a4] => M_banks_5 kr a1 a2 a3 a4 (zhd h)
  | _ => none)]) (fun v h => kr v (zhd h)) (fun _ _ => none) 400 0 [some (2, 0), some (0, a1), some (0, a2), none, none, none, none] [] (zM s) := by rfl
def zc_M_lines : List zI := [(0, 0, 0, 0), (16, 0, 3, 0), (0, 0, 0, 0), (17, 0, 4, 0), (999, 0, 0, 0), (0, 0, 0, 0), (17, 0, 5, 0), (999, 0, 0, 0), (11, 0, 5, 0), (999, 0, 0, 0), (0, 4, 0, 0), (69, 137, 148, 0), (999, 0, 0, 0), (999, 0, 0, 0), (14, 0, 0, 0), (11, 0, 5, 0), (999, 0, 0, 0), (110, 0, 287, 101), (999, 0, 0, 0), (999, 0, 0, 0), (60, 21, 41, 0), (999, 0, 0, 0), (999, 0, 0, 0), (14, 0, 0, 0), (11, 0, 5, 0), (999, 0, 0, 0), (14, 0, 0, 0), (80, 12, 37, 11), (999, 0, 0, 0), (999, 0, 0, 0), (10, 0, 2, 0), (90, 0, 0, 0), (110, 0, 290, 99), (999, 0, 0, 0), (999, 0, 0, 0), (1, 8, 0, 0), (999, 0, 0, 0), (33, 0, 0, 0), (72, 4, 42, 0), (999, 0, 0, 0), (999, 0, 0, 0), (0, (-1), 0, 0), (17, 0, 6, 0), (999, 0, 0, 0), (11, 0, 6, 0), (999, 0, 0, 0), (0, (-1), 0, 0), (66, 95, 142, 0), (999, 0, 0, 0), (999, 0, 0, 0), (11, 0, 4, 0), (999, 0, 0, 0), (11, 0, 6, 0), (999, 0, 0, 0), (40, 0, 0, 0), (0, 1, 0, 0), (36, 0, 0, 0), (61, 85, 142, 0), (999, 0, 0, 0), (999, 0, 0, 0), (11, 0, 4, 0), (999, 0, 0, 0), (0, 1, 0, 0), (11, 0, 6, 0), (999, 0, 0, 0), (39, 0, 0, 0), (37, 0, 0, 0), (17, 0, 4, 0), (999, 0, 0, 0), (14, 0, 0, 0), (80, 12, 142, 47), (999, 0, 0, 0), (999, 0, 0, 0), (0, 2, 0, 0), (10, 0, 1, 0), (32, 0, 0, 0), (11, 0, 6, 0), (999, 0, 0, 0), (0, 2, 0, 0), (34, 0, 0, 0), (30, 0, 0, 0), (90, 0, 0, 0), (11, 0, 6, 0), (999, 0, 0, 0), (67, 7, 91, 0), (999, 0, 0, 0), (999, 0, 0, 0), (0, 1, 0, 0), (72, 4, 92, 0), (999, 0, 0, 0), (999, 0, 0, 0), (0, 0, 0, 0), (17, 0, 7, 0), (999, 0, 0, 0), (10, 0, 3, 0), (11, 0, 7, 0), (999, 0, 0, 0), (60, 7, 104, 0), (999, 0, 0, 0), (999, 0, 0, 0), (0, 2, 0, 0), (72, 5, 106, 0), (999, 0, 0, 0), (999, 0, 0, 0), (1, 6, 0, 0), (999, 0, 0, 0), (30, 0, 0, 0), (16, 0, 3, 0), (14, 0, 0, 0), (50, 0, 0, 0), (80, 12, 341, 58), (999, 0, 0, 0), (999, 0, 0, 0), (11, 0, 7, 0), (999, 0, 0, 0), (60, 7, 122, 0), (999, 0, 0, 0), (999, 0, 0, 0), (0, 0, 0, 0), (72, 4, 123, 0), (999, 0, 0, 0), (999, 0, 0, 0), (0, 1, 0, 0), (30, 0, 0, 0), (82, 12, 341, 58), (999, 0, 0, 0), (999, 0, 0, 0), (14, 0, 0, 0), (80, 12, 142, 47), (999, 0, 0, 0), (999, 0, 0, 0), (0, 2, 0, 0), (10, 0, 1, 0), (32, 0, 0, 0), (11, 0, 6, 0), (999, 0, 0, 0), (0, 2, 0, 0), (34, 0, 0, 0), (30, 0, 0, 0), (11, 0, 6, 0), (999, 0, 0, 0), (95, 0, 0, 0), (22, 1, 5, 0), (999, 0, 0, 0), (999, 0, 0, 0), (72, (-137), 8, 0), (999, 0, 0, 0), (999, 0, 0, 0), (10, 0, 3, 0), (130, 0, 0, 0)]
def M_lines_142 {ρ : Type} (kr : Int → zD → Option ρ) (r8 : Int → Int → Int → Int → Int → zD → Option ρ) (a1 a2 a3 a4 a5 : Int) (s : zD) : Option ρ :=
r8 a1 a2 a3 a4 (wr (a5 + 1)) s
def M_lines_123 {ρ : Type} (kr : Int → zD → Option ρ) (r8 : Int → Int → Int → Int → Int → zD → Option ρ) (a1 a2 a3 a4 a5 a6 t0 t1 : Int) (s : zD) : Option ρ :=
zlet (zup s 0 58 (wr (t1 + t0))) fun s1 =>
zix 4 (wr ((wr (2 * a1)) + (Int.tmod a6 2))) fun j2 =>
zlet (zup s1 43 j2 a6) fun s3 =>
M_lines_142 kr r8 a1 a2 a3 a4 a5 s3
def M_lines_106 {ρ : Type} (kr : Int → zD → Option ρ) (r8 : Int → Int → Int → Int → Int → zD → Option ρ) (a1 a2 a4 a5 a6 a7 t0 t1 : Int) (s : zD) : Option ρ :=
if a7 = 0 then M_lines_123 kr r8 a1 a2 (wr (t1 + t0)) a4 a5 a6 1 (s 0 58) s
else M_lines_123 kr r8 a1 a2 (wr (t1 + t0)) a4 a5 a6 0 (s 0 58) s
def M_lines_92 {ρ : Type} (kr : Int → zD → Option ρ) (r8 : Int → Int → Int → Int → Int → zD → Option ρ) (a1 a2 a3 a4 a5 a6 t0 : Int) (s : zD) : Option ρ :=
if t0 = 0 then M_lines_106 kr r8 a1 a2 a4 a5 a6 t0 6 a3 s
else M_lines_106 kr r8 a1 a2 a4 a5 a6 t0 2 a3 s
def M_lines_42 {ρ : Type} (kr : Int → zD → Option ρ) (r8 : Int → Int → Int → Int → Int → zD → Option ρ) (a1 a2 a3 a4 a5 t0 : Int) (s : zD) : Option ρ :=
if t0 = (-1) then M_lines_142 kr r8 a1 a2 a3 a4 a5 s
else if (zand (zshr a4 t0) 1) = 0 then (zix 4 (wr ((wr (2 * a1)) + (Int.tmod t0 2))) fun j1 =>
if (s 43 j1) = t0 then M_lines_92 kr r8 a1 a2 a3 (zor a4 (zshl 1 t0)) a5 t0 1 s
else M_lines_92 kr r8 a1 a2 a3 (zor a4 (zshl 1 t0)) a5 t0 0 s)
else M_lines_142 kr r8 a1 a2 a3 a4 a5 s
def M_lines_8b {ρ : Type} (kr : Int → zD → Option ρ) (r8 : Int → Int → Int → Int → Int → zD → Option ρ) (a1 a2 a3 a4 a5 : Int) (s : zD) : Option ρ :=
if a5 < 4 then (M_isUnder a5 s  fun v1 s2 =>
if v1 = 0 then M_lines_42 kr r8 a1 a2 a3 a4 a5 (-1) s2
else zix 160 a2 fun j3 =>
M_lane a5 (s2 8 j3) s2  fun v4 s5 =>
M_lines_42 kr r8 a1 a2 a3 a4 a5 (wr (Int.tdiv v4 8)) s5)
else kr a3 s
def M_lines_8 {ρ : Type} (kr : Int → zD → Option ρ) : Int → Int → Int → Int → Int → zD → Option ρ := zit (fun _ _ _ _ _ _ => none) (M_lines_8b kr) zN
def M_lines {ρ : Type} (a1 a2 : Int) (s : zD) (kr : Int → zD → Option ρ) : Option ρ :=
M_lines_8 kr a1 a2 0 0 0 s
set_option maxRecDepth 100000 in
theorem qe_M_lines_142 {ρ : Type} (kr : Int → zD → Option ρ) (r8 : Int → Int → Int → Int → Int → zD → Option ρ) (a1 a2 a3 a4 a5 : Int) (s : zD) : M_lines_142 kr r8 a1 a2 a3 a4 a5 s = zseg zPP false zfinM (zcal []) (zget (999, 0, 0, 0) zc_M_lines) (zcut [(8, [true, true, true, true, true, true, false, false]), (42, [true, true, true, true, true, true, false, false]), (92, [true, true, true, true, true, true, true, false]), (106, [true, true, true, false, true, true, true, true]), (123, [true, true, true, true, true, true, true, false]), (142, [true, true, true, true, true, true, false, false])]) (zorc [(8, [some (2, some 0), some (0, none), some (0, none), some (0, none), some (0, none), some (0, none), none, none], [], fun xs h => match xs with
  | [a1, a2, a3, a4, a5] => r8 a1 a2 a3 a4 a5 (zhd h)
  | _ => none)]) (fun v h => kr v (zhd h)) (fun _ _ => none) 400 142 [some (2, 0), some (0, a1), some (0, a2), some (0, a3), some (0, a4), some (0, a5), none, none] [] (zM s) := by rfl
set_option maxRecDepth 100000 in
theorem qe_M_lines_123 {ρ : Type} (kr : Int → zD → Option ρ) (r8 : Int → Int → Int → Int → Int → zD → Option ρ) (a1 a2 a3 a4 a5 a6 t0 t1 : Int) (s : zD) : M_lines_123 kr r8 a1 a2 a3 a4 a5 a6 t0 t1 s = zseg zPP false zfinM (zcal []) (zget (999, 0, 0, 0) zc_M_lines) (zcut [(8, [true, true, true, true, true, true, false, false]), (42, [true, true, true, true, true, true, false, false]), (92, [true, true, true, true, true, true, true, false]), (106, [true, true, true, false, true, true, true, true]), (123, [true, true, true, true, true, true, true, false]), (142, [true, true, true, true, true, true, false, false])]) (zorc [(142, [some (2, some 0), some (0, none), some (0, none), some (0, none), some (0, none), some (0, none), none, none], [], fun xs h => match xs with
  | [a1, a2, a3, a4, a5] => M_lines_142 kr r8 a1 a2 a3 a4 a5 (zhd h)
  | _ => none)]) (fun v h => kr v (zhd h)) (fun _ _ => none) 400 123 [some (2, 0), some (0, a1), some (0, a2), some (0, a3), some (0, a4), some (0, a5), some (0, a6), none] [(0, t0), (0, t1), (2, 0)] (zM s) := by rfl
set_option maxRecDepth 100000 in
theorem qe_M_lines_106 {ρ : Type} (kr : Int → zD → Option ρ) (r8 : Int → Int → Int → Int → Int → zD → Option ρ) (a1 a2 a4 a5 a6 a7 t0 t1 : Int) (s : zD) : M_lines_106 kr r8 a1 a2 a4 a5 a6 a7 t0 t1 s = zseg zPP false zfinM (zcal []) (zget (999, 0, 0, 0) zc_M_lines) (zcut [(8, [true, true, true, true, true, true, false, false]), (42, [true, true, true, true, true, true, false, false]), (92, [true, true, true, true, true, true, true, false]), (106, [true, true, true, false, true, true, true, true]), (123, [true, true, true, true, true, true, true, false]), (142, [true, true, true, true, true, true, false, false])]) (zorc [(123, [some (2, some 0), some (0, none), some (0, none), some (0, none), some (0, none), some (0, none), some (0, none), none], [(0, none), (0, none), (2, some 0)], fun xs h => match xs with
  | [a1, a2, a3, a4, a5, a6, t0, t1] => M_lines_123 kr r8 a1 a2 a3 a4 a5 a6 t0 t1 (zhd h)
  | _ => none)]) (fun v h => kr v (zhd h)) (fun _ _ => none) 400 106 [some (2, 0), some (0, a1), some (0, a2), none, some (0, a4), some (0, a5), some (0, a6), some (0, a7)] [(0, t0), (0, t1)] (zM s) := by rfl
set_option maxRecDepth 100000 in
theorem qe_M_lines_92 {ρ : Type} (kr : Int → zD → Option ρ) (r8 : Int → Int → Int → Int → Int → zD → Option ρ) (a1 a2 a3 a4 a5 a6 t0 : Int) (s : zD) : M_lines_92 kr r8 a1 a2 a3 a4 a5 a6 t0 s = zseg zPP false zfinM (zcal []) (zget (999, 0, 0, 0) zc_M_lines) (zcut [(8, [true, true, true, true, true, true, false, false]), (42, [true, true, true, true, true, true, false, false]), (92, [true, true, true, true, true, true, true, false]), (106, [true, true, true, false, true, true, true, true]), (123, [true, true, true, true, true, true, true, false]), (142, [true, true, true, true, true, true, false, false])]) (zorc [(106, [some (2, some 0), some (0, none), some (0, none), none, some (0, none), some (0, none), some (0, none), some (0, none)], [(0, none), (0, none)], fun xs h => match xs with
  | [a1, a2, a4, a5, a6, a7, t0, t1] => M_lines_106 kr r8 a1 a2 a4 a5 a6 a7 t0 t1 (zhd h)
  | _ => none)]) (fun v h => kr v (zhd h)) (fun _ _ => none) 400 92 [some (2, 0), some (0, a1), some (0, a2), some (0, a3), some (0, a4), some (0, a5), some (0, a6), none] [(0, t0)] (zM s) := by rfl
set_option maxRecDepth 100000 in
theorem qe_M_lines_42 {ρ : Type} (kr : Int → zD → Option ρ) (r8 : Int → Int → Int → Int → Int → zD → Option ρ) (a1 a2 a3 a4 a5 t0 : Int) (s : zD) : M_lines_42 kr r8 a1 a2 a3 a4 a5 t0 s = zseg zPP false zfinM (zcal []) (zget (999, 0, 0, 0) zc_M_lines) (zcut [(8, [true, true, true, true, true, true, false, false]), (42, [true, true, true, true, true, true, false, false]), (92, [true, true, true, true, true, true, true, false]), (106, [true, true, true, false, true, true, true, true]), (123, [true, true, true, true, true, true, true, false]), (142, [true, true, true, true, true, true, false, false])]) (zorc [(92, [some (2, some 0), some (0, none), some (0, none), some (0, none), some (0, none), some (0, none), some (0, none), none], [(0, none)], fun xs h => match xs with
  | [a1, a2, a3, a4, a5, a6, t0] => M_lines_92 kr r8 a1 a2 a3 a4 a5 a6 t0 (zhd h)
  | _ => none), (142, [some (2, some 0), some (0, none), some (0, none), some (0, none), some (0, none), some (0, none), none, none], [], fun xs h => match xs with
  | [a1, a2, a3, a4, a5] => M_lines_142 kr r8 a1 a2 a3 a4 a5 (zhd h)
  | _ => none)]) (fun v h => kr v (zhd h)) (fun _ _ => none) 400 42 [some (2, 0), some (0, a1), some (0, a2), some (0, a3), some (0, a4), some (0, a5), none, none] [(0, t0)] (zM s) := by rfl
set_option maxRecDepth 100000 in
theorem qe_M_lines_8b {ρ : Type} (kr : Int → zD → Option ρ) (r8 : Int → Int → Int → Int → Int → zD → Option ρ) (a1 a2 a3 a4 a5 : Int) (s : zD) : M_lines_8b kr r8 a1 a2 a3 a4 a5 s = zseg zPP false zfinM (zcal [(99, [some 0, none, none], fun xs h kr kt => match xs with
  | [x0, x1] => M_lane x0 x1 (zhd h) (fun v s => kr v (zM s))
  | _ => none), (101, [some 0, none], fun xs h kr kt => match xs with
  | [x0] => M_isUnder x0 (zhd h) (fun v s => kr v (zM s))
  | _ => none)]) (zget (999, 0, 0, 0) zc_M_lines) (zcut [(8, [true, true, true, true, true, true, false, false]), (42, [true, true, true, true, true, true, false, false]), (92, [true, true, true, true, true, true, true, false]), (106, [true, true, true, false, true, true, true, true]), (123, [true, true, true, true, true, true, true, false]), (142, [true, true, true, true, true, true, false, false])]) (zorc [(42, [some (2, some 0), some (0, none), some (0, none), some (0, none), some (0, none), some (0, none), none, none], [(0, none)], fun xs h => match xs with
  | [a1, a2, a3, a4, a5, t0] => M_lines_42 kr r8 a1 a2 a3 a4 a5 t0 (zhd h)
  | _ => none)]) (fun v h => kr v (zhd h)) (fun _ _ => none) 400 8 [some (2, 0), some (0, a1), some (0, a2), some (0, a3), some (0, a4), some (0, a5), none, none] [] (zM s) := by rfl
set_option maxRecDepth 100000 in
theorem qe_M_lines {ρ : Type} (kr : Int → zD → Option ρ) (a1 a2 : Int) (s : zD) : M_lines a1 a2 s kr = zseg zPP false zfinM (zcal []) (zget (999, 0, 0, 0) zc_M_lines) (zcut [(8, [true, true, true, true, true, true, false, false]), (42, [true, true, true, true, true, true, false, false]), (92, [true, true, true, true, true, true, true, false]), (106, [true, true, true, false, true, true, true, true]), (123, [true, true, true, true, true, true, true, false]), (142, [true, true, true, true, true, true, false, false])]) (zorc [(8, [some (2, some 0), some (0, none), some (0, none), some (0, none), some (0, none), some (0, none), none, none], [], fun xs h => match xs with
  | [a1, a2, a3, a4, a5] => M_lines_8 kr a1 a2 a3 a4 a5 (zhd h)
  | _ => none)]) (fun v h => kr v (zhd h)) (fun _ _ => none) 400 0 [some (2, 0), some (0, a1), some (0, a2), none, none, none, none, none] [] (zM s) := by rfl
def zc_M_delayOf : List zI := [(14, 0, 0, 0), (80, 12, 284, 63), (999, 0, 0, 0), (999, 0, 0, 0), (0, 1, 0, 0), (36, 0, 0, 0), (14, 0, 0, 0), (80, 12, 284, 63), (999, 0, 0, 0), (999, 0, 0, 0), (0, 1, 0, 0), (40, 0, 0, 0), (0, 1, 0, 0), (36, 0, 0, 0), (30, 0, 0, 0), (14, 0, 0, 0), (80, 12, 284, 63), (999, 0, 0, 0), (999, 0, 0, 0), (0, 2, 0, 0), (40, 0, 0, 0), (0, 1, 0, 0), (36, 0, 0, 0), (30, 0, 0, 0), (14, 0, 0, 0), (80, 12, 284, 63), (999, 0, 0, 0), (999, 0, 0, 0), (0, 3, 0, 0), (40, 0, 0, 0), (0, 1, 0, 0), (36, 0, 0, 0), (30, 0, 0, 0), (17, 0, 4, 0), (999, 0, 0, 0), (10, 0, 2, 0), (1, 42, 0, 0), (999, 0, 0, 0), (67, 5, 43, 0), (999, 0, 0, 0), (999, 0, 0, 0), (0, 2, 0, 0), (130, 0, 0, 0), (10, 0, 2, 0), (1, 97, 0, 0), (999, 0, 0, 0), (66, 9, 55, 0), (999, 0, 0, 0), (999, 0, 0, 0), (10, 0, 2, 0), (1, 120, 0, 0), (999, 0, 0, 0), (67, 8, 60, 0), (999, 0, 0, 0), (999, 0, 0, 0), (0, 2, 0, 0), (11, 0, 4, 0), (999, 0, 0, 0), (32, 0, 0, 0), (130, 0, 0, 0), (10, 0, 2, 0), (1, 99, 0, 0), (999, 0, 0, 0), (67, 8, 71, 0), (999, 0, 0, 0), (999, 0, 0, 0), (0, 4, 0, 0), (11, 0, 4, 0), (999, 0, 0, 0), (32, 0, 0, 0), (130, 0, 0, 0), (10, 0, 2, 0), (113, 0, 297, 107), (999, 0, 0, 0), (999, 0, 0, 0), (60, 10, 85, 0), (999, 0, 0, 0), (999, 0, 0, 0), (14, 0, 0, 0), (10, 0, 2, 0), (10, 0, 3, 0), (110, 0, 330, 113), (999, 0, 0, 0), (999, 0, 0, 0), (130, 0, 0, 0), (10, 0, 2, 0), (1, 114, 0, 0), (999, 0, 0, 0), (67, 12, 100, 0), (999, 0, 0, 0), (999, 0, 0, 0), (14, 0, 0, 0), (10, 0, 1, 0), (10, 0, 3, 0), (110, 0, 334, 114), (999, 0, 0, 0), (999, 0, 0, 0), (72, 9, 106, 0), (999, 0, 0, 0), (999, 0, 0, 0), (0, 1, 0, 0), (14, 0, 0, 0), (80, 12, 315, 65), (999, 0, 0, 0), (999, 0, 0, 0), (30, 0, 0, 0), (130, 0, 0, 0)]
def M_delayOf_55 {ρ : Type} (kr : Int → zD → Option ρ) (a4 : Int) (s : zD) : Option ρ :=
kr (wr (2 * a4)) s
def M_delayOf_106 {ρ : Type} (kr : Int → zD → Option ρ) (t0 : Int) (s : zD) : Option ρ :=
kr t0 s
def M_delayOf {ρ : Type} (a1 a2 a3 : Int) (s : zD) (kr : Int → zD → Option ρ) : Option ρ :=
if a2 = 42 then kr 2 s
else if a2 = 97 then M_delayOf_55 kr (wr ((wr ((wr ((zand (s 0 63) 1) + (zand (zshr (s 0 63) 1) 1))) + (zand (zshr (s 0 63) 2) 1))) + (zand (zshr (s 0 63) 3) 1))) s
else if a2 = 120 then M_delayOf_55 kr (wr ((wr ((wr ((zand (s 0 63) 1) + (zand (zshr (s 0 63) 1) 1))) + (zand (zshr (s 0 63) 2) 1))) + (zand (zshr (s 0 63) 3) 1))) s
else if a2 = 99 then kr (wr (4 * (wr ((wr ((wr ((zand (s 0 63) 1) + (zand (zshr (s 0 63) 1) 1))) + (zand (zshr (s 0 63) 2) 1))) + (zand (zshr (s 0 63) 3) 1))))) s
else M_isShared a2 s  fun v1 s2 =>
if v1 = 0 then (if a2 = 114 then (M_lines a1 a3 s2  fun v3 s4 =>
M_delayOf_106 kr v3 s4)
else M_delayOf_106 kr (wr (1 + (s2 0 65))) s2)
else M_banks a2 a3 s2  fun v5 s6 =>
kr v5 s6
set_option maxRecDepth 100000 in
theorem qe_M_delayOf_55 {ρ : Type} (kr : Int → zD → Option ρ) (a4 : Int) (s : zD) : M_delayOf_55 kr a4 s = zseg zPP false zfinM (zcal []) (zget (999, 0, 0, 0) zc_M_delayOf) (zcut [(55, [false, false, false, false, true]), (106, [false, false, false, false, false])]) (zorc []) (fun v h => kr v (zhd h)) (fun _ _ => none) 400 55 [none, none, none, none, some (0, a4)] [] (zM s) := by rfl
set_option maxRecDepth 100000 in
theorem qe_M_delayOf_106 {ρ : Type} (kr : Int → zD → Option ρ) (t0 : Int) (s : zD) : M_delayOf_106 kr t0 s = zseg zPP false zfinM (zcal []) (zget (999, 0, 0, 0) zc_M_delayOf) (zcut [(55, [false, false, false, false, true]), (106, [false, false, false, false, false])]) (zorc []) (fun v h => kr v (zhd h)) (fun _ _ => none) 400 106 [none, none, none, none, none] [(0, t0)] (zM s) := by rfl
set_option maxRecDepth 100000 in
theorem qe_M_delayOf {ρ : Type} (kr : Int → zD → Option ρ) (a1 a2 a3 : Int) (s : zD) : M_delayOf a1 a2 a3 s kr = zseg zPP false zfinM (zcal [(107, [none], fun xs h kr kt => match xs with
  | [x0] => M_isShared x0 (zhd h) (fun v s => kr v (zM s))
  | _ => none), (113, [some 0, none, none], fun xs h kr kt => match xs with
  | [x0, x1] => M_banks x0 x1 (zhd h) (fun v s => kr v (zM s))
  | _ => none), (114, [some 0, none, none], fun xs h kr kt => match xs with
  | [x0, x1] => M_lines x0 x1 (zhd h) (fun v s => kr v (zM s))
  | _ => none)]) (zget (999, 0, 0, 0) zc_M_delayOf) (zcut [(55, [false, false, false, false, true]), (106, [false, false, false, false, false])]) (zorc [(55, [none, none, none, none, some (0, none)], [], fun xs h => match xs with
  | [a4] => M_delayOf_55 kr a4 (zhd h)
  | _ => none), (106, [none, none, none, none, none], [(0, none)], fun xs h => match xs with
  | [t0] => M_delayOf_106 kr t0 (zhd h)
  | _ => none)]) (fun v h => kr v (zhd h)) (fun _ _ => none) 400 0 [some (2, 0), some (0, a1), some (0, a2), some (0, a3), none] [] (zM s) := by rfl
def zc_M_doLanes : List zI := [(14, 0, 0, 0), (80, 12, 46, 15), (999, 0, 0, 0), (999, 0, 0, 0), (14, 0, 0, 0), (80, 12, 118, 39), (999, 0, 0, 0), (999, 0, 0, 0), (10, 0, 1, 0), (90, 0, 0, 0), (1, 6, 0, 0), (999, 0, 0, 0), (33, 0, 0, 0), (90, 0, 0, 0), (17, 0, 4, 0), (999, 0, 0, 0), (0, 0, 0, 0), (17, 0, 5, 0), (999, 0, 0, 0), (11, 0, 5, 0), (999, 0, 0, 0), (0, 4, 0, 0), (69, 160, 182, 0), (999, 0, 0, 0), (999, 0, 0, 0), (14, 0, 0, 0), (80, 12, 344, 66), (999, 0, 0, 0), (999, 0, 0, 0), (1, 45, 0, 0), (999, 0, 0, 0), (67, 151, 182, 0), (999, 0, 0, 0), (999, 0, 0, 0), (14, 0, 0, 0), (11, 0, 5, 0), (999, 0, 0, 0), (110, 0, 287, 101), (999, 0, 0, 0), (999, 0, 0, 0), (60, 136, 176, 0), (999, 0, 0, 0), (999, 0, 0, 0), (10, 0, 2, 0), (113, 0, 347, 106), (999, 0, 0, 0), (999, 0, 0, 0), (60, 17, 64, 0), (999, 0, 0, 0), (999, 0, 0, 0), (14, 0, 0, 0), (10, 0, 2, 0), (10, 0, 3, 0), (11, 0, 5, 0), (999, 0, 0, 0), (110, 0, 293, 105), (999, 0, 0, 0), (999, 0, 0, 0), (113, 0, 222, 61), (999, 0, 0, 0), (999, 0, 0, 0), (61, 34, 95, 0), (999, 0, 0, 0), (999, 0, 0, 0), (10, 0, 2, 0), (113, 0, 297, 107), (999, 0, 0, 0), (999, 0, 0, 0), (60, 31, 99, 0), (999, 0, 0, 0), (999, 0, 0, 0), (14, 0, 0, 0), (10, 0, 2, 0), (10, 0, 3, 0), (11, 0, 5, 0), (999, 0, 0, 0), (110, 0, 293, 105), (999, 0, 0, 0), (999, 0, 0, 0), (0, 0, 0, 0), (14, 0, 0, 0), (80, 12, 20, 6), (999, 0, 0, 0), (999, 0, 0, 0), (11, 0, 4, 0), (999, 0, 0, 0), (90, 0, 0, 0), (0, 1, 0, 0), (31, 0, 0, 0), (113, 0, 192, 57), (999, 0, 0, 0), (999, 0, 0, 0), (61, 7, 99, 0), (999, 0, 0, 0), (999, 0, 0, 0), (0, 1, 0, 0), (72, 4, 100, 0), (999, 0, 0, 0), (999, 0, 0, 0), (0, 0, 0, 0), (17, 0, 6, 0), (999, 0, 0, 0), (11, 0, 6, 0), (999, 0, 0, 0), (60, 30, 134, 0), (999, 0, 0, 0), (999, 0, 0, 0), (14, 0, 0, 0), (10, 0, 2, 0), (113, 0, 347, 106), (999, 0, 0, 0), (999, 0, 0, 0), (60, 8, 120, 0), (999, 0, 0, 0), (999, 0, 0, 0), (1, 103, 0, 0), (999, 0, 0, 0), (72, 5, 122, 0), (999, 0, 0, 0), (999, 0, 0, 0), (1, 115, 0, 0), (999, 0, 0, 0), (82, 12, 344, 66), (999, 0, 0, 0), (999, 0, 0, 0), (14, 0, 0, 0), (11, 0, 5, 0), (999, 0, 0, 0), (82, 12, 350, 67), (999, 0, 0, 0), (999, 0, 0, 0), (72, 45, 176, 0), (999, 0, 0, 0), (999, 0, 0, 0), (10, 0, 2, 0), (113, 0, 347, 106), (999, 0, 0, 0), (999, 0, 0, 0), (61, 10, 148, 0), (999, 0, 0, 0), (999, 0, 0, 0), (10, 0, 2, 0), (113, 0, 297, 107), (999, 0, 0, 0), (999, 0, 0, 0), (60, 12, 157, 0), (999, 0, 0, 0), (999, 0, 0, 0), (14, 0, 0, 0), (10, 0, 1, 0), (11, 0, 5, 0), (999, 0, 0, 0), (10, 0, 2, 0), (10, 0, 3, 0), (110, 0, 353, 109), (999, 0, 0, 0), (999, 0, 0, 0), (14, 0, 0, 0), (10, 0, 1, 0), (11, 0, 5, 0), (999, 0, 0, 0), (10, 0, 2, 0), (10, 0, 3, 0), (110, 0, 357, 110), (999, 0, 0, 0), (999, 0, 0, 0), (14, 0, 0, 0), (50, 0, 0, 0), (80, 12, 360, 64), (999, 0, 0, 0), (999, 0, 0, 0), (0, 1, 0, 0), (30, 0, 0, 0), (82, 12, 360, 64), (999, 0, 0, 0), (999, 0, 0, 0), (22, 1, 5, 0), (999, 0, 0, 0), (999, 0, 0, 0), (72, (-160), 19, 0), (999, 0, 0, 0), (999, 0, 0, 0), (133, 0, 0, 0)]
def M_doLanes_176 {ρ : Type} (kr : Int → zD → Option ρ) (r19 : Int → Int → Int → Int → Int → zD → Option ρ) (a1 a2 a3 a4 a5 : Int) (s : zD) : Option ρ :=
r19 a1 a2 a3 a4 (wr (a5 + 1)) s
def M_doLanes_122 {ρ : Type} (kr : Int → zD → Option ρ) (r19 : Int → Int → Int → Int → Int → zD → Option ρ) (a1 a2 a3 a4 a5 t0 : Int) (s : zD) : Option ρ :=
znar 2 t0 fun x1 =>
zlet (zup s 0 66 x1) fun s2 =>
zlet (zup s2 0 67 a5) fun s3 =>
M_doLanes_176 kr r19 a1 a2 a3 a4 a5 s3
def M_doLanes_157 {ρ : Type} (kr : Int → zD → Option ρ) (r19 : Int → Int → Int → Int → Int → zD → Option ρ) (a1 a2 a3 a4 a5 : Int) (s : zD) : Option ρ :=
M_doLane a1 a5 a2 a3 s  fun _ s2 =>
zlet (zup s2 0 64 (wr ((s2 0 64) + 1))) fun s3 =>
M_doLanes_176 kr r19 a1 a2 a3 a4 a5 s3
def M_doLanes_148 {ρ : Type} (kr : Int → zD → Option ρ) (r19 : Int → Int → Int → Int → Int → zD → Option ρ) (a1 a2 a3 a4 a5 : Int) (s : zD) : Option ρ :=
M_doCell a1 a5 a2 a3 s  fun _ s2 =>
M_doLanes_157 kr r19 a1 a2 a3 a4 a5 s2
def M_doLanes_100 {ρ : Type} (kr : Int → zD → Option ρ) (r19 : Int → Int → Int → Int → Int → zD → Option ρ) (a1 a2 a3 a4 a5 t0 : Int) (s : zD) : Option ρ :=
if t0 = 0 then (M_isGlobal a2 s  fun v1 s2 =>
if v1 = 0 then (M_isShared a2 s2  fun v3 s4 =>
if v3 = 0 then M_doLanes_157 kr r19 a1 a2 a3 a4 a5 s4
else M_doLanes_148 kr r19 a1 a2 a3 a4 a5 s4)
else M_doLanes_148 kr r19 a1 a2 a3 a4 a5 s2)
else M_isGlobal a2 s  fun v5 s6 =>
if v5 = 0 then M_doLanes_122 kr r19 a1 a2 a3 a4 a5 115 s6
else M_doLanes_122 kr r19 a1 a2 a3 a4 a5 103 s6
def M_doLanes_95 {ρ : Type} (kr : Int → zD → Option ρ) (r19 : Int → Int → Int → Int → Int → zD → Option ρ) (a1 a2 a3 a4 a5 : Int) (s : zD) : Option ρ :=
M_doLanes_100 kr r19 a1 a2 a3 a4 a5 1 s
def M_doLanes_99 {ρ : Type} (kr : Int → zD → Option ρ) (r19 : Int → Int → Int → Int → Int → zD → Option ρ) (a1 a2 a3 a4 a5 : Int) (s : zD) : Option ρ :=
M_doLanes_100 kr r19 a1 a2 a3 a4 a5 0 s
def M_doLanes_64 {ρ : Type} (kr : Int → zD → Option ρ) (r19 : Int → Int → Int → Int → Int → zD → Option ρ) (a1 a2 a3 a4 a5 : Int) (s : zD) : Option ρ :=
M_isShared a2 s  fun v1 s2 =>
if v1 = 0 then M_doLanes_99 kr r19 a1 a2 a3 a4 a5 s2
else M_cellOf a2 a3 a5 s2  fun v3 s4 =>
zix 4 a4 fun j5 =>
M_in v3 0 (wr ((s4 3 j5) - 1)) s4  fun v6 s7 =>
if v6 = 0 then M_doLanes_95 kr r19 a1 a2 a3 a4 a5 s7
else M_doLanes_99 kr r19 a1 a2 a3 a4 a5 s7
def M_doLanes_182 {ρ : Type} (kr : Int → zD → Option ρ) (s : zD) : Option ρ :=
kr 0 s
def M_doLanes_19b {ρ : Type} (kr : Int → zD → Option ρ) (r19 : Int → Int → Int → Int → Int → zD → Option ρ) (a1 a2 a3 a4 a5 : Int) (s : zD) : Option ρ :=
if a5 < 4 then (if (s 0 66) = 45 then (M_isUnder a5 s  fun v1 s2 =>
if v1 = 0 then M_doLanes_176 kr r19 a1 a2 a3 a4 a5 s2
else M_isGlobal a2 s2  fun v3 s4 =>
if v3 = 0 then M_doLanes_64 kr r19 a1 a2 a3 a4 a5 s4
else M_cellOf a2 a3 a5 s4  fun v5 s6 =>
M_noCell v5 s6  fun v7 s8 =>
if v7 = 0 then M_doLanes_64 kr r19 a1 a2 a3 a4 a5 s8
else M_doLanes_95 kr r19 a1 a2 a3 a4 a5 s8)
else M_doLanes_182 kr s)
else M_doLanes_182 kr s
def M_doLanes_19 {ρ : Type} (kr : Int → zD → Option ρ) : Int → Int → Int → Int → Int → zD → Option ρ := zit (fun _ _ _ _ _ _ => none) (M_doLanes_19b kr) zN
def M_doLanes {ρ : Type} (a1 a2 a3 : Int) (s : zD) (kr : Int → zD → Option ρ) : Option ρ :=
zix 8 a1 fun j1 =>
zix 12 (wr (Int.tdiv (s 35 j1) 6)) fun j2 =>
M_doLanes_19 kr a1 a2 a3 (s 11 j2) 0 s
set_option maxRecDepth 100000 in
theorem qe_M_doLanes_176 {ρ : Type} (kr : Int → zD → Option ρ) (r19 : Int → Int → Int → Int → Int → zD → Option ρ) (a1 a2 a3 a4 a5 : Int) (s : zD) : M_doLanes_176 kr r19 a1 a2 a3 a4 a5 s = zseg zPP false zfinM (zcal []) (zget (999, 0, 0, 0) zc_M_doLanes) (zcut [(19, [true, true, true, true, true, true, false]), (64, [true, true, true, true, true, true, false]), (95, [true, true, true, true, true, true, false]), (99, [true, true, true, true, true, true, false]), (100, [true, true, true, true, true, true, false]), (122, [true, true, true, true, true, true, false]), (148, [true, true, true, true, true, true, false]), (157, [true, true, true, true, true, true, false]), (176, [true, true, true, true, true, true, false]), (182, [false, false, false, false, false, false, false])]) (zorc [(19, [some (2, some 0), some (0, none), some (0, none), some (0, none), some (0, none), some (0, none), none], [], fun xs h => match xs with
  | [a1, a2, a3, a4, a5] => r19 a1 a2 a3 a4 a5 (zhd h)
  | _ => none)]) (fun v h => kr v (zhd h)) (fun _ _ => none) 400 176 [some (2, 0), some (0, a1), some (0, a2), some (0, a3), some (0, a4), some (0, a5), none] [] (zM s) := by rfl
set_option maxRecDepth 100000 in
theorem qe_M_doLanes_122 {ρ : Type} (kr : Int → zD → Option ρ) (r19 : Int → Int → Int → Int → Int → zD → Option ρ) (a1 a2 a3 a4 a5 t0 : Int) (s : zD) : M_doLanes_122 kr r19 a1 a2 a3 a4 a5 t0 s = zseg zPP false zfinM (zcal []) (zget (999, 0, 0, 0) zc_M_doLanes) (zcut [(19, [true, true, true, true, true, true, false]), (64, [true, true, true, true, true, true, false]), (95, [true, true, true, true, true, true, false]), (99, [true, true, true, true, true, true, false]), (100, [true, true, true, true, true, true, false]), (122, [true, true, true, true, true, true, false]), (148, [true, true, true, true, true, true, false]), (157, [true, true, true, true, true, true, false]), (176, [true, true, true, true, true, true, false]), (182, [false, false, false, false, false, false, false])]) (zorc [(176, [some (2, some 0), some (0, none), some (0, none), some (0, none), some (0, none), some (0, none), none], [], fun xs h => match xs with
  | [a1, a2, a3, a4, a5] => M_doLanes_176 kr r19 a1 a2 a3 a4 a5 (zhd h)
  | _ => none)]) (fun v h => kr v (zhd h)) (fun _ _ => none) 400 122 [some (2, 0), some (0, a1), some (0, a2), some (0, a3), some (0, a4), some (0, a5), none] [(0, t0), (2, 0)] (zM s) := by rfl
set_option maxRecDepth 100000 in
theorem qe_M_doLanes_157 {ρ : Type} (kr : Int → zD → Option ρ) (r19 : Int → Int → Int → Int → Int → zD → Option ρ) (a1 a2 a3 a4 a5 : Int) (s : zD) : M_doLanes_157 kr r19 a1 a2 a3 a4 a5 s = zseg zPP false zfinM (zcal [(110, [some 0, none, none, none, none], fun xs h kr kt => match xs with
  | [x0, x1, x2, x3] => M_doLane x0 x1 x2 x3 (zhd h) (fun v s => kr v (zM s))
  | _ => none)]) (zget (999, 0, 0, 0) zc_M_doLanes) (zcut [(19, [true, true, true, true, true, true, false]), (64, [true, true, true, true, true, true, false]), (95, [true, true, true, true, true, true, false]), (99, [true, true, true, true, true, true, false]), (100, [true, true, true, true, true, true, false]), (122, [true, true, true, true, true, true, false]), (148, [true, true, true, true, true, true, false]), (157, [true, true, true, true, true, true, false]), (176, [true, true, true, true, true, true, false]), (182, [false, false, false, false, false, false, false])]) (zorc [(176, [some (2, some 0), some (0, none), some (0, none), some (0, none), some (0, none), some (0, none), none], [], fun xs h => match xs with
  | [a1, a2, a3, a4, a5] => M_doLanes_176 kr r19 a1 a2 a3 a4 a5 (zhd h)
  | _ => none)]) (fun v h => kr v (zhd h)) (fun _ _ => none) 400 157 [some (2, 0), some (0, a1), some (0, a2), some (0, a3), some (0, a4), some (0, a5), none] [] (zM s) := by rfl
set_option maxRecDepth 100000 in
theorem qe_M_doLanes_148 {ρ : Type} (kr : Int → zD → Option ρ) (r19 : Int → Int → Int → Int → Int → zD → Option ρ) (a1 a2 a3 a4 a5 : Int) (s : zD) : M_doLanes_148 kr r19 a1 a2 a3 a4 a5 s = zseg zPP false zfinM (zcal [(109, [some 0, none, none, none, none], fun xs h kr kt => match xs with
  | [x0, x1, x2, x3] => M_doCell x0 x1 x2 x3 (zhd h) (fun v s => kr v (zM s))
  | _ => none)]) (zget (999, 0, 0, 0) zc_M_doLanes) (zcut [(19, [true, true, true, true, true, true, false]), (64, [true, true, true, true, true, true, false]), (95, [true, true, true, true, true, true, false]), (99, [true, true, true, true, true, true, false]), (100, [true, true, true, true, true, true, false]), (122, [true, true, true, true, true, true, false]), (148, [true, true, true, true, true, true, false]), (157, [true, true, true, true, true, true, false]), (176, [true, true, true, true, true, true, false]), (182, [false, false, false, false, false, false, false])]) (zorc [(157, [some (2, some 0), some (0, none), some (0, none), some (0, none), some (0, none), some (0, none), none], [], fun xs h => match xs with
  | [a1, a2, a3, a4, a5] => M_doLanes_157 kr r19 a1 a2 a3 a4 a5 (zhd h)
  | _ => none)]) (fun v h => kr v (zhd h)) (fun _ _ => none) 400 148 [some (2, 0), some (0, a1), some (0, a2), some (0, a3), some (0, a4), some (0, a5), none] [] (zM s) := by rfl
set_option maxRecDepth 100000 in
theorem qe_M_doLanes_100 {ρ : Type} (kr : Int → zD → Option ρ) (r19 : Int → Int → Int → Int → Int → zD → Option ρ) (a1 a2 a3 a4 a5 t0 : Int) (s : zD) : M_doLanes_100 kr r19 a1 a2 a3 a4 a5 t0 s = zseg zPP false zfinM (zcal [(106, [none], fun xs h kr kt => match xs with
  | [x0] => M_isGlobal x0 (zhd h) (fun v s => kr v (zM s))
  | _ => none), (107, [none], fun xs h kr kt => match xs with
  | [x0] => M_isShared x0 (zhd h) (fun v s => kr v (zM s))
  | _ => none)]) (zget (999, 0, 0, 0) zc_M_doLanes) (zcut [(19, [true, true, true, true, true, true, false]), (64, [true, true, true, true, true, true, false]), (95, [true, true, true, true, true, true, false]), (99, [true, true, true, true, true, true, false]), (100, [true, true, true, true, true, true, false]), (122, [true, true, true, true, true, true, false]), (148, [true, true, true, true, true, true, false]), (157, [true, true, true, true, true, true, false]), (176, [true, true, true, true, true, true, false]), (182, [false, false, false, false, false, false, false])]) (zorc [(122, [some (2, some 0), some (0, none), some (0, none), some (0, none), some (0, none), some (0, none), none], [(0, none), (2, some 0)], fun xs h => match xs with
  | [a1, a2, a3, a4, a5, t0] => M_doLanes_122 kr r19 a1 a2 a3 a4 a5 t0 (zhd h)
  | _ => none), (148, [some (2, some 0), some (0, none), some (0, none), some (0, none), some (0, none), some (0, none), none], [], fun xs h => match xs with
  | [a1, a2, a3, a4, a5] => M_doLanes_148 kr r19 a1 a2 a3 a4 a5 (zhd h)
  | _ => none), (157, [some (2, some 0), some (0, none), some (0, none), some (0, none), some (0, none), some (0, none), none], [], fun xs h => match xs with
  | [a1, a2, a3, a4, a5] => M_doLanes_157 kr r19 a1 a2 a3 a4 a5 (zhd h)
  | _ => none)]) (fun v h => kr v (zhd h)) (fun _ _ => none) 400 100 [some (2, 0), some (0, a1), some (0, a2), some (0, a3), some (0, a4), some (0, a5), none] [(0, t0)] (zM s) := by rfl
set_option maxRecDepth 100000 in
theorem qe_M_doLanes_95 {ρ : Type} (kr : Int → zD → Option ρ) (r19 : Int → Int → Int → Int → Int → zD → Option ρ) (a1 a2 a3 a4 a5 : Int) (s : zD) : M_doLanes_95 kr r19 a1 a2 a3 a4 a5 s = zseg zPP false zfinM (zcal []) (zget (999, 0, 0, 0) zc_M_doLanes) (zcut [(19, [true, true, true, true, true, true, false]), (64, [true, true, true, true, true, true, false]), (95, [true, true, true, true, true, true, false]), (99, [true, true, true, true, true, true, false]), (100, [true, true, true, true, true, true, false]), (122, [true, true, true, true, true, true, false]), (148, [true, true, true, true, true, true, false]), (157, [true, true, true, true, true, true, false]), (176, [true, true, true, true, true, true, false]), (182, [false, false, false, false, false, false, false])]) (zorc [(100, [some (2, some 0), some (0, none), some (0, none), some (0, none), some (0, none), some (0, none), none], [(0, none)], fun xs h => match xs with
  | [a1, a2, a3, a4, a5, t0] => M_doLanes_100 kr r19 a1 a2 a3 a4 a5 t0 (zhd h)
  | _ => none)]) (fun v h => kr v (zhd h)) (fun _ _ => none) 400 95 [some (2, 0), some (0, a1), some (0, a2), some (0, a3), some (0, a4), some (0, a5), none] [] (zM s) := by rfl
set_option maxRecDepth 100000 in
theorem qe_M_doLanes_99 {ρ : Type} (kr : Int → zD → Option ρ) (r19 : Int → Int → Int → Int → Int → zD → Option ρ) (a1 a2 a3 a4 a5 : Int) (s : zD) : M_doLanes_99 kr r19 a1 a2 a3 a4 a5 s = zseg zPP false zfinM (zcal []) (zget (999, 0, 0, 0) zc_M_doLanes) (zcut [(19, [true, true, true, true, true, true, false]), (64, [true, true, true, true, true, true, false]), (95, [true, true, true, true, true, true, false]), (99, [true, true, true, true, true, true, false]), (100, [true, true, true, true, true, true, false]), (122, [true, true, true, true, true, true, false]), (148, [true, true, true, true, true, true, false]), (157, [true, true, true, true, true, true, false]), (176, [true, true, true, true, true, true, false]), (182, [false, false, false, false, false, false, false])]) (zorc [(100, [some (2, some 0), some (0, none), some (0, none), some (0, none), some (0, none), some (0, none), none], [(0, none)], fun xs h => match xs with
  | [a1, a2, a3, a4, a5, t0] => M_doLanes_100 kr r19 a1 a2 a3 a4 a5 t0 (zhd h)
  | _ => none)]) (fun v h => kr v (zhd h)) (fun _ _ => none) 400 99 [some (2, 0), some (0, a1), some (0, a2), some (0, a3), some (0, a4), some (0, a5), none] [] (zM s) := by rfl
set_option maxRecDepth 100000 in
theorem qe_M_doLanes_64 {ρ : Type} (kr : Int → zD → Option ρ) (r19 : Int → Int → Int → Int → Int → zD → Option ρ) (a1 a2 a3 a4 a5 : Int) (s : zD) : M_doLanes_64 kr r19 a1 a2 a3 a4 a5 s = zseg zPP false zfinM (zcal [(57, [none, none, none], fun xs h kr kt => match xs with
  | [x0, x1, x2] => M_in x0 x1 x2 (zhd h) (fun v s => kr v (zM s))
  | _ => none), (105, [some 0, none, none, none], fun xs h kr kt => match xs with
  | [x0, x1, x2] => M_cellOf x0 x1 x2 (zhd h) (fun v s => kr v (zM s))
  | _ => none), (107, [none], fun xs h kr kt => match xs with
  | [x0] => M_isShared x0 (zhd h) (fun v s => kr v (zM s))
  | _ => none)]) (zget (999, 0, 0, 0) zc_M_doLanes) (zcut [(19, [true, true, true, true, true, true, false]), (64, [true, true, true, true, true, true, false]), (95, [true, true, true, true, true, true, false]), (99, [true, true, true, true, true, true, false]), (100, [true, true, true, true, true, true, false]), (122, [true, true, true, true, true, true, false]), (148, [true, true, true, true, true, true, false]), (157, [true, true, true, true, true, true, false]), (176, [true, true, true, true, true, true, false]), (182, [false, false, false, false, false, false, false])]) (zorc [(95, [some (2, some 0), some (0, none), some (0, none), some (0, none), some (0, none), some (0, none), none], [], fun xs h => match xs with
  | [a1, a2, a3, a4, a5] => M_doLanes_95 kr r19 a1 a2 a3 a4 a5 (zhd h)
  | _ => none), (99, [some (2, some 0), some (0, none), some (0, none), some (0, none), some (0, none), some (0, none), none], [], fun xs h => match xs with
  | [a1, a2, a3, a4, a5] => M_doLanes_99 kr r19 a1 a2 a3 a4 a5 (zhd h)
  | _ => none)]) (fun v h => kr v (zhd h)) (fun _ _ => none) 400 64 [some (2, 0), some (0, a1), some (0, a2), some (0, a3), some (0, a4), some (0, a5), none] [] (zM s) := by rfl
set_option maxRecDepth 100000 in
theorem qe_M_doLanes_182 {ρ : Type} (kr : Int → zD → Option ρ) (s : zD) : M_doLanes_182 kr s = zseg zPP false zfinM (zcal []) (zget (999, 0, 0, 0) zc_M_doLanes) (zcut [(19, [true, true, true, true, true, true, false]), (64, [true, true, true, true, true, true, false]), (95, [true, true, true, true, true, true, false]), (99, [true, true, true, true, true, true, false]), (100, [true, true, true, true, true, true, false]), (122, [true, true, true, true, true, true, false]), (148, [true, true, true, true, true, true, false]), (157, [true, true, true, true, true, true, false]), (176, [true, true, true, true, true, true, false]), (182, [false, false, false, false, false, false, false])]) (zorc []) (fun v h => kr v (zhd h)) (fun _ _ => none) 400 182 [none, none, none, none, none, none, none] [] (zM s) := by rfl
set_option maxRecDepth 100000 in
theorem qe_M_doLanes_19b {ρ : Type} (kr : Int → zD → Option ρ) (r19 : Int → Int → Int → Int → Int → zD → Option ρ) (a1 a2 a3 a4 a5 : Int) (s : zD) : M_doLanes_19b kr r19 a1 a2 a3 a4 a5 s = zseg zPP false zfinM (zcal [(61, [none], fun xs h kr kt => match xs with
  | [x0] => M_noCell x0 (zhd h) (fun v s => kr v (zM s))
  | _ => none), (101, [some 0, none], fun xs h kr kt => match xs with
  | [x0] => M_isUnder x0 (zhd h) (fun v s => kr v (zM s))
  | _ => none), (105, [some 0, none, none, none], fun xs h kr kt => match xs with
  | [x0, x1, x2] => M_cellOf x0 x1 x2 (zhd h) (fun v s => kr v (zM s))
  | _ => none), (106, [none], fun xs h kr kt => match xs with
  | [x0] => M_isGlobal x0 (zhd h) (fun v s => kr v (zM s))
  | _ => none)]) (zget (999, 0, 0, 0) zc_M_doLanes) (zcut [(19, [true, true, true, true, true, true, false]), (64, [true, true, true, true, true, true, false]), (95, [true, true, true, true, true, true, false]), (99, [true, true, true, true, true, true, false]), (100, [true, true, true, true, true, true, false]), (122, [true, true, true, true, true, true, false]), (148, [true, true, true, true, true, true, false]), (157, [true, true, true, true, true, true, false]), (176, [true, true, true, true, true, true, false]), (182, [false, false, false, false, false, false, false])]) (zorc [(64, [some (2, some 0), some (0, none), some (0, none), some (0, none), some (0, none), some (0, none), none], [], fun xs h => match xs with
  | [a1, a2, a3, a4, a5] => M_doLanes_64 kr r19 a1 a2 a3 a4 a5 (zhd h)
  | _ => none), (95, [some (2, some 0), some (0, none), some (0, none), some (0, none), some (0, none), some (0, none), none], [], fun xs h => match xs with
  | [a1, a2, a3, a4, a5] => M_doLanes_95 kr r19 a1 a2 a3 a4 a5 (zhd h)
  | _ => none), (176, [some (2, some 0), some (0, none), some (0, none), some (0, none), some (0, none), some (0, none), none], [], fun xs h => match xs with
  | [a1, a2, a3, a4, a5] => M_doLanes_176 kr r19 a1 a2 a3 a4 a5 (zhd h)
  | _ => none), (182, [none, none, none, none, none, none, none], [], fun xs h => match xs with
  | [] => M_doLanes_182 kr  (zhd h)
  | _ => none)]) (fun v h => kr v (zhd h)) (fun _ _ => none) 400 19 [some (2, 0), some (0, a1), some (0, a2), some (0, a3), some (0, a4), some (0, a5), none] [] (zM s) := by rfl
set_option maxRecDepth 100000 in
theorem qe_M_doLanes {ρ : Type} (kr : Int → zD → Option ρ) (a1 a2 a3 : Int) (s : zD) : M_doLanes a1 a2 a3 s kr = zseg zPP false zfinM (zcal []) (zget (999, 0, 0, 0) zc_M_doLanes) (zcut [(19, [true, true, true, true, true, true, false]), (64, [true, true, true, true, true, true, false]), (95, [true, true, true, true, true, true, false]), (99, [true, true, true, true, true, true, false]), (100, [true, true, true, true, true, true, false]), (122, [true, true, true, true, true, true, false]), (148, [true, true, true, true, true, true, false]), (157, [true, true, true, true, true, true, false]), (176, [true, true, true, true, true, true, false]), (182, [false, false, false, false, false, false, false])]) (zorc [(19, [some (2, some 0), some (0, none), some (0, none), some (0, none), some (0, none), some (0, none), none], [], fun xs h => match xs with
  | [a1, a2, a3, a4, a5] => M_doLanes_19 kr a1 a2 a3 a4 a5 (zhd h)
  | _ => none)]) (fun v h => kr v (zhd h)) (fun _ _ => none) 400 0 [some (2, 0), some (0, a1), some (0, a2), some (0, a3), none, none, none] [] (zM s) := by rfl
def zc_M_carryOut : List zI := [(0, 4, 0, 0), (10, 0, 1, 0), (32, 0, 0, 0), (10, 0, 2, 0), (30, 0, 0, 0), (16, 0, 3, 0), (14, 0, 0, 0), (80, 12, 118, 39), (999, 0, 0, 0), (999, 0, 0, 0), (10, 0, 3, 0), (90, 0, 0, 0), (17, 0, 4, 0), (999, 0, 0, 0), (11, 0, 4, 0), (999, 0, 0, 0), (1, 6, 0, 0), (999, 0, 0, 0), (33, 0, 0, 0), (17, 0, 5, 0), (999, 0, 0, 0), (14, 0, 0, 0), (10, 0, 3, 0), (110, 0, 278, 96), (999, 0, 0, 0), (999, 0, 0, 0), (17, 0, 6, 0), (999, 0, 0, 0), (1, 40, 0, 0), (999, 0, 0, 0), (14, 0, 0, 0), (80, 12, 46, 15), (999, 0, 0, 0), (999, 0, 0, 0), (11, 0, 5, 0), (999, 0, 0, 0), (90, 0, 0, 0), (32, 0, 0, 0), (11, 0, 6, 0), (999, 0, 0, 0), (30, 0, 0, 0), (17, 0, 7, 0), (999, 0, 0, 0), (14, 0, 0, 0), (80, 12, 30, 9), (999, 0, 0, 0), (999, 0, 0, 0), (11, 0, 7, 0), (999, 0, 0, 0), (92, 0, 0, 0), (17, 0, 8, 0), (999, 0, 0, 0), (14, 0, 0, 0), (14, 0, 0, 0), (10, 0, 3, 0), (110, 0, 363, 97), (999, 0, 0, 0), (999, 0, 0, 0), (82, 12, 284, 63), (999, 0, 0, 0), (999, 0, 0, 0), (0, 0, 0, 0), (17, 0, 9, 0), (999, 0, 0, 0), (11, 0, 9, 0), (999, 0, 0, 0), (0, 4, 0, 0), (69, 52, 119, 0), (999, 0, 0, 0), (999, 0, 0, 0), (0, 0, 0, 0), (17, 0, 10, 0), (999, 0, 0, 0), (11, 0, 10, 0), (999, 0, 0, 0), (1, 8, 0, 0), (999, 0, 0, 0), (69, 36, 113, 0), (999, 0, 0, 0), (999, 0, 0, 0), (14, 0, 0, 0), (80, 12, 164, 62), (999, 0, 0, 0), (999, 0, 0, 0), (1, 8, 0, 0), (999, 0, 0, 0), (11, 0, 9, 0), (999, 0, 0, 0), (32, 0, 0, 0), (11, 0, 10, 0), (999, 0, 0, 0), (30, 0, 0, 0), (14, 0, 0, 0), (80, 12, 109, 36), (999, 0, 0, 0), (999, 0, 0, 0), (14, 0, 0, 0), (10, 0, 3, 0), (11, 0, 9, 0), (999, 0, 0, 0), (11, 0, 10, 0), (999, 0, 0, 0), (110, 0, 281, 98), (999, 0, 0, 0), (999, 0, 0, 0), (90, 0, 0, 0), (95, 0, 0, 0), (22, 1, 10, 0), (999, 0, 0, 0), (999, 0, 0, 0), (72, (-37), 73, 0), (999, 0, 0, 0), (999, 0, 0, 0), (22, 1, 9, 0), (999, 0, 0, 0), (999, 0, 0, 0), (72, (-52), 64, 0), (999, 0, 0, 0), (999, 0, 0, 0), (14, 0, 0, 0), (0, 0, 0, 0), (82, 12, 360, 64), (999, 0, 0, 0), (999, 0, 0, 0), (14, 0, 0, 0), (0, 0, 0, 0), (82, 12, 315, 65), (999, 0, 0, 0), (999, 0, 0, 0), (14, 0, 0, 0), (1, 45, 0, 0), (999, 0, 0, 0), (82, 12, 344, 66), (999, 0, 0, 0), (999, 0, 0, 0), (11, 0, 8, 0), (999, 0, 0, 0), (1, 97, 0, 0), (999, 0, 0, 0), (66, 17, 156, 0), (999, 0, 0, 0), (999, 0, 0, 0), (11, 0, 8, 0), (999, 0, 0, 0), (1, 120, 0, 0), (999, 0, 0, 0), (66, 10, 156, 0), (999, 0, 0, 0), (999, 0, 0, 0), (11, 0, 8, 0), (999, 0, 0, 0), (1, 98, 0, 0), (999, 0, 0, 0), (67, 9, 162, 0), (999, 0, 0, 0), (999, 0, 0, 0), (14, 0, 0, 0), (10, 0, 3, 0), (110, 0, 269, 91), (999, 0, 0, 0), (999, 0, 0, 0), (52, 0, 0, 0), (11, 0, 8, 0), (999, 0, 0, 0), (1, 102, 0, 0), (999, 0, 0, 0), (67, 12, 178, 0), (999, 0, 0, 0), (999, 0, 0, 0), (14, 0, 0, 0), (14, 0, 0, 0), (10, 0, 3, 0), (110, 0, 269, 91), (999, 0, 0, 0), (999, 0, 0, 0), (82, 12, 315, 65), (999, 0, 0, 0), (999, 0, 0, 0), (14, 0, 0, 0), (10, 0, 3, 0), (11, 0, 8, 0), (999, 0, 0, 0), (11, 0, 7, 0), (999, 0, 0, 0), (110, 0, 366, 115), (999, 0, 0, 0), (999, 0, 0, 0), (14, 0, 0, 0), (50, 0, 0, 0), (80, 12, 370, 55), (999, 0, 0, 0), (999, 0, 0, 0), (0, 1, 0, 0), (30, 0, 0, 0), (82, 12, 370, 55), (999, 0, 0, 0), (999, 0, 0, 0), (14, 0, 0, 0), (50, 0, 0, 0), (80, 12, 373, 54), (999, 0, 0, 0), (999, 0, 0, 0), (14, 0, 0, 0), (80, 12, 360, 64), (999, 0, 0, 0), (999, 0, 0, 0), (42, 0, 0, 0), (45, 0, 0, 0), (82, 12, 373, 54), (999, 0, 0, 0), (999, 0, 0, 0), (14, 0, 0, 0), (80, 12, 136, 45), (999, 0, 0, 0), (999, 0, 0, 0), (10, 0, 1, 0), (11, 0, 4, 0), (999, 0, 0, 0), (95, 0, 0, 0), (14, 0, 0, 0), (80, 12, 139, 46), (999, 0, 0, 0), (999, 0, 0, 0), (10, 0, 1, 0), (14, 0, 0, 0), (80, 12, 121, 40), (999, 0, 0, 0), (999, 0, 0, 0), (10, 0, 3, 0), (90, 0, 0, 0), (95, 0, 0, 0), (14, 0, 0, 0), (80, 12, 344, 66), (999, 0, 0, 0), (999, 0, 0, 0), (1, 45, 0, 0), (999, 0, 0, 0), (66, 34, 271, 0), (999, 0, 0, 0), (999, 0, 0, 0), (14, 0, 0, 0), (11, 0, 5, 0), (999, 0, 0, 0), (14, 0, 0, 0), (80, 12, 344, 66), (999, 0, 0, 0), (999, 0, 0, 0), (11, 0, 4, 0), (999, 0, 0, 0), (1, 6, 0, 0), (999, 0, 0, 0), (34, 0, 0, 0), (0, 4, 0, 0), (14, 0, 0, 0), (80, 12, 121, 40), (999, 0, 0, 0), (999, 0, 0, 0), (10, 0, 3, 0), (90, 0, 0, 0), (32, 0, 0, 0), (14, 0, 0, 0), (80, 12, 350, 67), (999, 0, 0, 0), (999, 0, 0, 0), (30, 0, 0, 0), (11, 0, 6, 0), (999, 0, 0, 0), (110, 0, 256, 85), (999, 0, 0, 0), (999, 0, 0, 0), (133, 0, 0, 0), (14, 0, 0, 0), (10, 0, 1, 0), (11, 0, 8, 0), (999, 0, 0, 0), (11, 0, 7, 0), (999, 0, 0, 0), (110, 0, 377, 111), (999, 0, 0, 0), (999, 0, 0, 0), (17, 0, 9, 0), (999, 0, 0, 0), (14, 0, 0, 0), (50, 0, 0, 0), (80, 12, 381, 56), (999, 0, 0, 0), (999, 0, 0, 0), (0, 1, 0, 0), (30, 0, 0, 0), (82, 12, 381, 56), (999, 0, 0, 0), (999, 0, 0, 0), (14, 0, 0, 0), (50, 0, 0, 0), (80, 12, 384, 57), (999, 0, 0, 0), (999, 0, 0, 0), (11, 0, 9, 0), (999, 0, 0, 0), (30, 0, 0, 0), (82, 12, 384, 57), (999, 0, 0, 0), (999, 0, 0, 0), (14, 0, 0, 0), (50, 0, 0, 0), (80, 12, 387, 59), (999, 0, 0, 0), (999, 0, 0, 0), (11, 0, 8, 0), (999, 0, 0, 0), (113, 0, 297, 107), (999, 0, 0, 0), (999, 0, 0, 0), (60, 10, 323, 0), (999, 0, 0, 0), (999, 0, 0, 0), (11, 0, 9, 0), (999, 0, 0, 0), (0, 1, 0, 0), (31, 0, 0, 0), (72, 4, 324, 0), (999, 0, 0, 0), (999, 0, 0, 0), (0, 0, 0, 0), (30, 0, 0, 0), (82, 12, 387, 59), (999, 0, 0, 0), (999, 0, 0, 0), (14, 0, 0, 0), (80, 12, 124, 41), (999, 0, 0, 0), (999, 0, 0, 0), (10, 0, 3, 0), (14, 0, 0, 0), (80, 12, 390, 1), (999, 0, 0, 0), (999, 0, 0, 0), (11, 0, 9, 0), (999, 0, 0, 0), (30, 0, 0, 0), (95, 0, 0, 0), (14, 0, 0, 0), (11, 0, 4, 0), (999, 0, 0, 0), (110, 0, 393, 93), (999, 0, 0, 0), (999, 0, 0, 0), (133, 0, 0, 0)]
def M_carryOut_73b {ρ : Type} (kr : Int → zD → Option ρ) (r64 : Int → Int → Int → Int → Int → Int → Int → Int → zD → Option ρ) (r73 : Int → Int → Int → Int → Int → Int → Int → Int → Int → zD → Option ρ) (a1 a3 a4 a5 a6 a7 a8 a9 a10 : Int) (s : zD) : Option ρ :=
if a10 < 8 then (M_registerCell a3 a9 a10 s  fun v1 s2 =>
zix 9216 v1 fun j3 =>
zix 32 (wr ((wr (8 * a9)) + a10)) fun j4 =>
zlet (zup s2 50 j4 (s2 32 j3)) fun s5 =>
r73 a1 a3 a4 a5 a6 a7 a8 a9 (wr (a10 + 1)) s5)
else r64 a1 a3 a4 a5 a6 a7 a8 (wr (a9 + 1)) s
def M_carryOut_73 {ρ : Type} (kr : Int → zD → Option ρ) (r64 : Int → Int → Int → Int → Int → Int → Int → Int → zD → Option ρ) : Int → Int → Int → Int → Int → Int → Int → Int → Int → zD → Option ρ := zit (fun _ _ _ _ _ _ _ _ _ _ => none) (M_carryOut_73b kr r64) zN
def M_carryOut_324 {ρ : Type} (kr : Int → zD → Option ρ) (a3 a4 a9 t0 t1 : Int) (s : zD) : Option ρ :=
zlet (zup s 0 59 (wr (t1 + t0))) fun s1 =>
zix 8 a3 fun j2 =>
zlet (zup s1 37 j2 (wr ((s1 0 1) + a9))) fun s3 =>
M_settle a4 s3  fun _ s5 =>
kr 0 s5
def M_carryOut_178 {ρ : Type} (kr : Int → zD → Option ρ) (a1 a3 a4 a5 a6 a7 a8 : Int) (s : zD) : Option ρ :=
M_doLanes a3 a8 a7 s  fun _ s2 =>
zlet (zup s2 0 55 (wr ((s2 0 55) + 1))) fun s3 =>
zlet (zup s3 0 54 (wrl ((s3 0 54) + (s3 0 64)))) fun s4 =>
zix 2 a1 fun j5 =>
zlet (zup s4 41 j5 a4) fun s6 =>
zix 8 a3 fun j7 =>
zix 2 a1 fun j8 =>
zlet (zup s6 42 j8 (s6 36 j7)) fun s9 =>
if (s9 0 66) = 45 then (M_delayOf a1 a8 a7 s9  fun v10 s11 =>
zlet (zup s11 0 56 (wr ((s11 0 56) + 1))) fun s12 =>
zlet (zup s12 0 57 (wr ((s12 0 57) + v10))) fun s13 =>
M_isShared a8 s13  fun v14 s15 =>
if v14 = 0 then M_carryOut_324 kr a3 a4 v10 0 (s13 0 59) s15
else M_carryOut_324 kr a3 a4 v10 (wr (v10 - 1)) (s13 0 59) s15)
else zix 8 a3 fun j16 =>
M_fail a5 (s9 0 66) (Int.tmod a4 6) (wr ((wr (4 * (s9 36 j16))) + (s9 0 67))) a6 s9  fun _ s18 =>
kr 0 s18
def M_carryOut_162 {ρ : Type} (kr : Int → zD → Option ρ) (a1 a3 a4 a5 a6 a7 a8 : Int) (s : zD) : Option ρ :=
if a8 = 102 then (M_writeAll a3 s  fun v1 s2 =>
zlet (zup s2 0 65 v1) fun s3 =>
M_carryOut_178 kr a1 a3 a4 a5 a6 a7 a8 s3)
else M_carryOut_178 kr a1 a3 a4 a5 a6 a7 a8 s
def M_carryOut_156 {ρ : Type} (kr : Int → zD → Option ρ) (a1 a3 a4 a5 a6 a7 a8 : Int) (s : zD) : Option ρ :=
M_writeAll a3 s  fun v1 s2 =>
M_carryOut_162 kr a1 a3 a4 a5 a6 a7 a8 s2
def M_carryOut_64b {ρ : Type} (kr : Int → zD → Option ρ) (r64 : Int → Int → Int → Int → Int → Int → Int → Int → zD → Option ρ) (a1 a3 a4 a5 a6 a7 a8 a9 : Int) (s : zD) : Option ρ :=
if a9 < 4 then M_carryOut_73 kr r64 a1 a3 a4 a5 a6 a7 a8 a9 0 s
else zlet (zup s 0 64 0) fun s1 =>
zlet (zup s1 0 65 0) fun s2 =>
zlet (zup s2 0 66 45) fun s3 =>
if a8 = 97 then M_carryOut_156 kr a1 a3 a4 a5 a6 a7 a8 s3
else if a8 = 120 then M_carryOut_156 kr a1 a3 a4 a5 a6 a7 a8 s3
else if a8 = 98 then M_carryOut_156 kr a1 a3 a4 a5 a6 a7 a8 s3
else M_carryOut_162 kr a1 a3 a4 a5 a6 a7 a8 s3
def M_carryOut_64 {ρ : Type} (kr : Int → zD → Option ρ) : Int → Int → Int → Int → Int → Int → Int → Int → zD → Option ρ := zit (fun _ _ _ _ _ _ _ _ _ => none) (M_carryOut_64b kr) zN
def M_carryOut {ρ : Type} (a1 a2 : Int) (s : zD) (kr : Int → zD → Option ρ) : Option ρ :=
zix 8 (wr ((wr (4 * a1)) + a2)) fun j1 =>
M_placeOf (wr ((wr (4 * a1)) + a2)) s  fun v2 s3 =>
zix 12 (wr (Int.tdiv (s 35 j1) 6)) fun j4 =>
zix 160 (wr ((wr (40 * (s3 11 j4))) + v2)) fun j5 =>
M_maskOf (wr ((wr (4 * a1)) + a2)) s3  fun v6 s7 =>
zlet (zup s7 0 63 v6) fun s8 =>
M_carryOut_64 kr a1 (wr ((wr (4 * a1)) + a2)) (s 35 j1) (wr (Int.tdiv (s 35 j1) 6)) v2 (wr ((wr (40 * (s3 11 j4))) + v2)) (s3 6 j5) 0 s8
set_option maxRecDepth 100000 in
theorem qe_M_carryOut_73b {ρ : Type} (kr : Int → zD → Option ρ) (r64 : Int → Int → Int → Int → Int → Int → Int → Int → zD → Option ρ) (r73 : Int → Int → Int → Int → Int → Int → Int → Int → Int → zD → Option ρ) (a1 a3 a4 a5 a6 a7 a8 a9 a10 : Int) (s : zD) : M_carryOut_73b kr r64 r73 a1 a3 a4 a5 a6 a7 a8 a9 a10 s = zseg zPP false zfinM (zcal [(98, [some 0, none, none, none], fun xs h kr kt => match xs with
  | [x0, x1, x2] => M_registerCell x0 x1 x2 (zhd h) (fun v s => kr v (zM s))
  | _ => none)]) (zget (999, 0, 0, 0) zc_M_carryOut) (zcut [(64, [true, true, false, true, true, true, true, true, true, true, false]), (73, [true, true, false, true, true, true, true, true, true, true, true]), (156, [true, true, false, true, true, true, true, true, true, false, false]), (162, [true, true, false, true, true, true, true, true, true, false, false]), (178, [true, true, false, true, true, true, true, true, true, false, false]), (324, [true, false, false, true, true, false, false, false, false, true, false])]) (zorc [(64, [some (2, some 0), some (0, none), none, some (0, none), some (0, none), some (0, none), some (0, none), some (0, none), some (0, none), some (0, none), none], [], fun xs h => match xs with
  | [a1, a3, a4, a5, a6, a7, a8, a9] => r64 a1 a3 a4 a5 a6 a7 a8 a9 (zhd h)
  | _ => none), (73, [some (2, some 0), some (0, none), none, some (0, none), some (0, none), some (0, none), some (0, none), some (0, none), some (0, none), some (0, none), some (0, none)], [], fun xs h => match xs with
  | [a1, a3, a4, a5, a6, a7, a8, a9, a10] => r73 a1 a3 a4 a5 a6 a7 a8 a9 a10 (zhd h)
  | _ => none)]) (fun v h => kr v (zhd h)) (fun _ _ => none) 400 73 [some (2, 0), some (0, a1), none, some (0, a3), some (0, a4), some (0, a5), some (0, a6), some (0, a7), some (0, a8), some (0, a9), some (0, a10)] [] (zM s) := by rfl
set_option maxRecDepth 100000 in
theorem qe_M_carryOut_324 {ρ : Type} (kr : Int → zD → Option ρ) (a3 a4 a9 t0 t1 : Int) (s : zD) : M_carryOut_324 kr a3 a4 a9 t0 t1 s = zseg zPP false zfinM (zcal [(93, [some 0, none], fun xs h kr kt => match xs with
  | [x0] => M_settle x0 (zhd h) (fun v s => kr v (zM s))
  | _ => none)]) (zget (999, 0, 0, 0) zc_M_carryOut) (zcut [(64, [true, true, false, true, true, true, true, true, true, true, false]), (73, [true, true, false, true, true, true, true, true, true, true, true]), (156, [true, true, false, true, true, true, true, true, true, false, false]), (162, [true, true, false, true, true, true, true, true, true, false, false]), (178, [true, true, false, true, true, true, true, true, true, false, false]), (324, [true, false, false, true, true, false, false, false, false, true, false])]) (zorc []) (fun v h => kr v (zhd h)) (fun _ _ => none) 400 324 [some (2, 0), none, none, some (0, a3), some (0, a4), none, none, none, none, some (0, a9), none] [(0, t0), (0, t1), (2, 0)] (zM s) := by rfl
set_option maxRecDepth 100000 in
theorem qe_M_carryOut_178 {ρ : Type} (kr : Int → zD → Option ρ) (a1 a3 a4 a5 a6 a7 a8 : Int) (s : zD) : M_carryOut_178 kr a1 a3 a4 a5 a6 a7 a8 s = zseg zPP false zfinM (zcal [(85, [some 0, none, none, none, none, none], fun xs h kr kt => match xs with
  | [x0, x1, x2, x3, x4] => M_fail x0 x1 x2 x3 x4 (zhd h) (fun v s => kr v (zM s))
  | _ => none), (107, [none], fun xs h kr kt => match xs with
  | [x0] => M_isShared x0 (zhd h) (fun v s => kr v (zM s))
  | _ => none), (111, [some 0, none, none, none], fun xs h kr kt => match xs with
  | [x0, x1, x2] => M_delayOf x0 x1 x2 (zhd h) (fun v s => kr v (zM s))
  | _ => none), (115, [some 0, none, none, none], fun xs h kr kt => match xs with
  | [x0, x1, x2] => M_doLanes x0 x1 x2 (zhd h) (fun v s => kr v (zM s))
  | _ => none)]) (zget (999, 0, 0, 0) zc_M_carryOut) (zcut [(64, [true, true, false, true, true, true, true, true, true, true, false]), (73, [true, true, false, true, true, true, true, true, true, true, true]), (156, [true, true, false, true, true, true, true, true, true, false, false]), (162, [true, true, false, true, true, true, true, true, true, false, false]), (178, [true, true, false, true, true, true, true, true, true, false, false]), (324, [true, false, false, true, true, false, false, false, false, true, false])]) (zorc [(324, [some (2, some 0), none, none, some (0, none), some (0, none), none, none, none, none, some (0, none), none], [(0, none), (0, none), (2, some 0)], fun xs h => match xs with
  | [a3, a4, a9, t0, t1] => M_carryOut_324 kr a3 a4 a9 t0 t1 (zhd h)
  | _ => none)]) (fun v h => kr v (zhd h)) (fun _ _ => none) 400 178 [some (2, 0), some (0, a1), none, some (0, a3), some (0, a4), some (0, a5), some (0, a6), some (0, a7), some (0, a8), none, none] [] (zM s) := by rfl
set_option maxRecDepth 100000 in
theorem qe_M_carryOut_162 {ρ : Type} (kr : Int → zD → Option ρ) (a1 a3 a4 a5 a6 a7 a8 : Int) (s : zD) : M_carryOut_162 kr a1 a3 a4 a5 a6 a7 a8 s = zseg zPP false zfinM (zcal [(91, [some 0, none], fun xs h kr kt => match xs with
  | [x0] => M_writeAll x0 (zhd h) (fun v s => kr v (zM s))
  | _ => none)]) (zget (999, 0, 0, 0) zc_M_carryOut) (zcut [(64, [true, true, false, true, true, true, true, true, true, true, false]), (73, [true, true, false, true, true, true, true, true, true, true, true]), (156, [true, true, false, true, true, true, true, true, true, false, false]), (162, [true, true, false, true, true, true, true, true, true, false, false]), (178, [true, true, false, true, true, true, true, true, true, false, false]), (324, [true, false, false, true, true, false, false, false, false, true, false])]) (zorc [(178, [some (2, some 0), some (0, none), none, some (0, none), some (0, none), some (0, none), some (0, none), some (0, none), some (0, none), none, none], [], fun xs h => match xs with
  | [a1, a3, a4, a5, a6, a7, a8] => M_carryOut_178 kr a1 a3 a4 a5 a6 a7 a8 (zhd h)
  | _ => none)]) (fun v h => kr v (zhd h)) (fun _ _ => none) 400 162 [some (2, 0), some (0, a1), none, some (0, a3), some (0, a4), some (0, a5), some (0, a6), some (0, a7), some (0, a8), none, none] [] (zM s) := by rfl
set_option maxRecDepth 100000 in
theorem qe_M_carryOut_156 {ρ : Type} (kr : Int → zD → Option ρ) (a1 a3 a4 a5 a6 a7 a8 : Int) (s : zD) : M_carryOut_156 kr a1 a3 a4 a5 a6 a7 a8 s = zseg zPP false zfinM (zcal [(91, [some 0, none], fun xs h kr kt => match xs with
  | [x0] => M_writeAll x0 (zhd h) (fun v s => kr v (zM s))
  | _ => none)]) (zget (999, 0, 0, 0) zc_M_carryOut) (zcut [(64, [true, true, false, true, true, true, true, true, true, true, false]), (73, [true, true, false, true, true, true, true, true, true, true, true]), (156, [true, true, false, true, true, true, true, true, true, false, false]), (162, [true, true, false, true, true, true, true, true, true, false, false]), (178, [true, true, false, true, true, true, true, true, true, false, false]), (324, [true, false, false, true, true, false, false, false, false, true, false])]) (zorc [(162, [some (2, some 0), some (0, none), none, some (0, none), some (0, none), some (0, none), some (0, none), some (0, none), some (0, none), none, none], [], fun xs h => match xs with
  | [a1, a3, a4, a5, a6, a7, a8] => M_carryOut_162 kr a1 a3 a4 a5 a6 a7 a8 (zhd h)
  | _ => none)]) (fun v h => kr v (zhd h)) (fun _ _ => none) 400 156 [some (2, 0), some (0, a1), none, some (0, a3), some (0, a4), some (0, a5), some (0, a6), some (0, a7), some (0, a8), none, none] [] (zM s) := by rfl
set_option maxRecDepth 100000 in
theorem qe_M_carryOut_64b {ρ : Type} (kr : Int → zD → Option ρ) (r64 : Int → Int → Int → Int → Int → Int → Int → Int → zD → Option ρ) (a1 a3 a4 a5 a6 a7 a8 a9 : Int) (s : zD) : M_carryOut_64b kr r64 a1 a3 a4 a5 a6 a7 a8 a9 s = zseg zPP false zfinM (zcal []) (zget (999, 0, 0, 0) zc_M_carryOut) (zcut [(64, [true, true, false, true, true, true, true, true, true, true, false]), (73, [true, true, false, true, true, true, true, true, true, true, true]), (156, [true, true, false, true, true, true, true, true, true, false, false]), (162, [true, true, false, true, true, true, true, true, true, false, false]), (178, [true, true, false, true, true, true, true, true, true, false, false]), (324, [true, false, false, true, true, false, false, false, false, true, false])]) (zorc [(73, [some (2, some 0), some (0, none), none, some (0, none), some (0, none), some (0, none), some (0, none), some (0, none), some (0, none), some (0, none), some (0, none)], [], fun xs h => match xs with
  | [a1, a3, a4, a5, a6, a7, a8, a9, a10] => M_carryOut_73 kr r64 a1 a3 a4 a5 a6 a7 a8 a9 a10 (zhd h)
  | _ => none), (156, [some (2, some 0), some (0, none), none, some (0, none), some (0, none), some (0, none), some (0, none), some (0, none), some (0, none), none, none], [], fun xs h => match xs with
  | [a1, a3, a4, a5, a6, a7, a8] => M_carryOut_156 kr a1 a3 a4 a5 a6 a7 a8 (zhd h)
  | _ => none), (162, [some (2, some 0), some (0, none), none, some (0, none), some (0, none), some (0, none), some (0, none), some (0, none), some (0, none), none, none], [], fun xs h => match xs with
  | [a1, a3, a4, a5, a6, a7, a8] => M_carryOut_162 kr a1 a3 a4 a5 a6 a7 a8 (zhd h)
  | _ => none)]) (fun v h => kr v (zhd h)) (fun _ _ => none) 400 64 [some (2, 0), some (0, a1), none, some (0, a3), some (0, a4), some (0, a5), some (0, a6), some (0, a7), some (0, a8), some (0, a9), none] [] (zM s) := by rfl
set_option maxRecDepth 100000 in
theorem qe_M_carryOut {ρ : Type} (kr : Int → zD → Option ρ) (a1 a2 : Int) (s : zD) : M_carryOut a1 a2 s kr = zseg zPP false zfinM (zcal [(96, [some 0, none], fun xs h kr kt => match xs with
  | [x0] => M_placeOf x0 (zhd h) (fun v s => kr v (zM s))
  | _ => none), (97, [some 0, none], fun xs h kr kt => match xs with
  | [x0] => M_maskOf x0 (zhd h) (fun v s => kr v (zM s))
  | _ => none)]) (zget (999, 0, 0, 0) zc_M_carryOut) (zcut [(64, [true, true, false, true, true, true, true, true, true, true, false]), (73, [true, true, false, true, true, true, true, true, true, true, true]), (156, [true, true, false, true, true, true, true, true, true, false, false]), (162, [true, true, false, true, true, true, true, true, true, false, false]), (178, [true, true, false, true, true, true, true, true, true, false, false]), (324, [true, false, false, true, true, false, false, false, false, true, false])]) (zorc [(64, [some (2, some 0), some (0, none), none, some (0, none), some (0, none), some (0, none), some (0, none), some (0, none), some (0, none), some (0, none), none], [], fun xs h => match xs with
  | [a1, a3, a4, a5, a6, a7, a8, a9] => M_carryOut_64 kr a1 a3 a4 a5 a6 a7 a8 a9 (zhd h)
  | _ => none)]) (fun v h => kr v (zhd h)) (fun _ _ => none) 400 0 [some (2, 0), some (0, a1), some (0, a2), none, none, none, none, none, none, none, none] [] (zM s) := by rfl
def zc_M_beginLaunch : List zI := [(14, 0, 0, 0), (80, 12, 43, 14), (999, 0, 0, 0), (999, 0, 0, 0), (10, 0, 1, 0), (1, 114, 0, 0), (999, 0, 0, 0), (97, 0, 0, 0), (133, 0, 0, 0)]
def M_beginLaunch {ρ : Type} (a1 : Int) (s : zD) (kr : Int → zD → Option ρ) : Option ρ :=
zix 12 a1 fun j1 =>
zlet (zup s 10 j1 114) fun s2 =>
kr 0 s2
set_option maxRecDepth 100000 in
theorem qe_M_beginLaunch {ρ : Type} (kr : Int → zD → Option ρ) (a1 : Int) (s : zD) : M_beginLaunch a1 s kr = zseg zPP false zfinM (zcal []) (zget (999, 0, 0, 0) zc_M_beginLaunch) (zcut []) (zorc []) (fun v h => kr v (zhd h)) (fun _ _ => none) 400 0 [some (2, 0), some (0, a1)] [] (zM s) := by rfl
def zc_M_firstOf : List zI := [(0, 0, 0, 0), (16, 0, 2, 0), (10, 0, 2, 0), (14, 0, 0, 0), (80, 12, 196, 13), (999, 0, 0, 0), (999, 0, 0, 0), (69, 29, 36, 0), (999, 0, 0, 0), (999, 0, 0, 0), (14, 0, 0, 0), (80, 12, 49, 16), (999, 0, 0, 0), (999, 0, 0, 0), (10, 0, 2, 0), (90, 0, 0, 0), (10, 0, 1, 0), (67, 13, 30, 0), (999, 0, 0, 0), (999, 0, 0, 0), (14, 0, 0, 0), (10, 0, 2, 0), (110, 0, 225, 71), (999, 0, 0, 0), (999, 0, 0, 0), (61, 5, 30, 0), (999, 0, 0, 0), (999, 0, 0, 0), (10, 0, 2, 0), (130, 0, 0, 0), (22, 1, 2, 0), (999, 0, 0, 0), (999, 0, 0, 0), (72, (-31), 2, 0), (999, 0, 0, 0), (999, 0, 0, 0), (0, (-1), 0, 0), (130, 0, 0, 0)]
def M_firstOf_30 {ρ : Type} (kr : Int → zD → Option ρ) (r2 : Int → Int → zD → Option ρ) (a1 a2 : Int) (s : zD) : Option ρ :=
r2 a1 (wr (a2 + 1)) s
def M_firstOf_2b {ρ : Type} (kr : Int → zD → Option ρ) (r2 : Int → Int → zD → Option ρ) (a1 a2 : Int) (s : zD) : Option ρ :=
if a2 < (s 0 13) then (zix 12 a2 fun j1 =>
if (s 12 j1) = a1 then (M_isOver a2 s  fun v2 s3 =>
if v2 = 0 then kr a2 s3
else M_firstOf_30 kr r2 a1 a2 s3)
else M_firstOf_30 kr r2 a1 a2 s)
else kr (-1) s
def M_firstOf_2 {ρ : Type} (kr : Int → zD → Option ρ) : Int → Int → zD → Option ρ := zit (fun _ _ _ => none) (M_firstOf_2b kr) zN
def M_firstOf {ρ : Type} (a1 : Int) (s : zD) (kr : Int → zD → Option ρ) : Option ρ :=
M_firstOf_2 kr a1 0 s
set_option maxRecDepth 100000 in
theorem qe_M_firstOf_30 {ρ : Type} (kr : Int → zD → Option ρ) (r2 : Int → Int → zD → Option ρ) (a1 a2 : Int) (s : zD) : M_firstOf_30 kr r2 a1 a2 s = zseg zPP false zfinM (zcal []) (zget (999, 0, 0, 0) zc_M_firstOf) (zcut [(2, [true, true, true]), (30, [true, true, true])]) (zorc [(2, [some (2, some 0), some (0, none), some (0, none)], [], fun xs h => match xs with
  | [a1, a2] => r2 a1 a2 (zhd h)
  | _ => none)]) (fun v h => kr v (zhd h)) (fun _ _ => none) 400 30 [some (2, 0), some (0, a1), some (0, a2)] [] (zM s) := by rfl
set_option maxRecDepth 100000 in
theorem qe_M_firstOf_2b {ρ : Type} (kr : Int → zD → Option ρ) (r2 : Int → Int → zD → Option ρ) (a1 a2 : Int) (s : zD) : M_firstOf_2b kr r2 a1 a2 s = zseg zPP false zfinM (zcal [(71, [some 0, none], fun xs h kr kt => match xs with
  | [x0] => M_isOver x0 (zhd h) (fun v s => kr v (zM s))
  | _ => none)]) (zget (999, 0, 0, 0) zc_M_firstOf) (zcut [(2, [true, true, true]), (30, [true, true, true])]) (zorc [(30, [some (2, some 0), some (0, none), some (0, none)], [], fun xs h => match xs with
  | [a1, a2] => M_firstOf_30 kr r2 a1 a2 (zhd h)
  | _ => none)]) (fun v h => kr v (zhd h)) (fun _ _ => none) 400 2 [some (2, 0), some (0, a1), some (0, a2)] [] (zM s) := by rfl
set_option maxRecDepth 100000 in
theorem qe_M_firstOf {ρ : Type} (kr : Int → zD → Option ρ) (a1 : Int) (s : zD) : M_firstOf a1 s kr = zseg zPP false zfinM (zcal []) (zget (999, 0, 0, 0) zc_M_firstOf) (zcut [(2, [true, true, true]), (30, [true, true, true])]) (zorc [(2, [some (2, some 0), some (0, none), some (0, none)], [], fun xs h => match xs with
  | [a1, a2] => M_firstOf_2 kr a1 a2 (zhd h)
  | _ => none)]) (fun v h => kr v (zhd h)) (fun _ _ => none) 400 0 [some (2, 0), some (0, a1), none] [] (zM s) := by rfl
def zc_M_isBroken : List zI := [(10, 0, 1, 0), (0, (-1), 0, 0), (66, 29, 31, 0), (999, 0, 0, 0), (999, 0, 0, 0), (14, 0, 0, 0), (80, 12, 43, 14), (999, 0, 0, 0), (999, 0, 0, 0), (10, 0, 1, 0), (92, 0, 0, 0), (1, 102, 0, 0), (999, 0, 0, 0), (66, 14, 27, 0), (999, 0, 0, 0), (999, 0, 0, 0), (14, 0, 0, 0), (80, 12, 43, 14), (999, 0, 0, 0), (999, 0, 0, 0), (10, 0, 1, 0), (92, 0, 0, 0), (1, 120, 0, 0), (999, 0, 0, 0), (67, 7, 31, 0), (999, 0, 0, 0), (999, 0, 0, 0), (0, 1, 0, 0), (72, 4, 32, 0), (999, 0, 0, 0), (999, 0, 0, 0), (0, 0, 0, 0), (130, 0, 1, 0)]
def M_isBroken_32 {ρ : Type} (kr : Int → zD → Option ρ) (t0 : Int) (s : zD) : Option ρ :=
znar 1 t0 fun x1 => kr x1 s
def M_isBroken_27 {ρ : Type} (kr : Int → zD → Option ρ) (s : zD) : Option ρ :=
M_isBroken_32 kr 1 s
def M_isBroken_31 {ρ : Type} (kr : Int → zD → Option ρ) (s : zD) : Option ρ :=
M_isBroken_32 kr 0 s
def M_isBroken {ρ : Type} (a1 : Int) (s : zD) (kr : Int → zD → Option ρ) : Option ρ :=
if a1 = (-1) then M_isBroken_31 kr s
else zix 12 a1 fun j1 =>
if (s 10 j1) = 102 then M_isBroken_27 kr s
else zix 12 a1 fun j2 =>
if (s 10 j2) = 120 then M_isBroken_27 kr s
else M_isBroken_31 kr s
set_option maxRecDepth 100000 in
theorem qe_M_isBroken_32 {ρ : Type} (kr : Int → zD → Option ρ) (t0 : Int) (s : zD) : M_isBroken_32 kr t0 s = zseg zPP false zfinM (zcal []) (zget (999, 0, 0, 0) zc_M_isBroken) (zcut [(27, [false, false]), (31, [false, false]), (32, [false, false])]) (zorc []) (fun v h => kr v (zhd h)) (fun _ _ => none) 400 32 [none, none] [(0, t0)] (zM s) := by rfl
set_option maxRecDepth 100000 in
theorem qe_M_isBroken_27 {ρ : Type} (kr : Int → zD → Option ρ) (s : zD) : M_isBroken_27 kr s = zseg zPP false zfinM (zcal []) (zget (999, 0, 0, 0) zc_M_isBroken) (zcut [(27, [false, false]), (31, [false, false]), (32, [false, false])]) (zorc [(32, [none, none], [(0, none)], fun xs h => match xs with
  | [t0] => M_isBroken_32 kr t0 (zhd h)
  | _ => none)]) (fun v h => kr v (zhd h)) (fun _ _ => none) 400 27 [none, none] [] (zM s) := by rfl
set_option maxRecDepth 100000 in
theorem qe_M_isBroken_31 {ρ : Type} (kr : Int → zD → Option ρ) (s : zD) : M_isBroken_31 kr s = zseg zPP false zfinM (zcal []) (zget (999, 0, 0, 0) zc_M_isBroken) (zcut [(27, [false, false]), (31, [false, false]), (32, [false, false])]) (zorc [(32, [none, none], [(0, none)], fun xs h => match xs with
  | [t0] => M_isBroken_32 kr t0 (zhd h)
  | _ => none)]) (fun v h => kr v (zhd h)) (fun _ _ => none) 400 31 [none, none] [] (zM s) := by rfl
set_option maxRecDepth 100000 in
theorem qe_M_isBroken {ρ : Type} (kr : Int → zD → Option ρ) (a1 : Int) (s : zD) : M_isBroken a1 s kr = zseg zPP false zfinM (zcal []) (zget (999, 0, 0, 0) zc_M_isBroken) (zcut [(27, [false, false]), (31, [false, false]), (32, [false, false])]) (zorc [(27, [none, none], [], fun xs h => match xs with
  | [] => M_isBroken_27 kr  (zhd h)
  | _ => none), (31, [none, none], [], fun xs h => match xs with
  | [] => M_isBroken_31 kr  (zhd h)
  | _ => none)]) (fun v h => kr v (zhd h)) (fun _ _ => none) 400 0 [some (2, 0), some (0, a1)] [] (zM s) := by rfl
def zc_M_goThrough : List zI := [(0, 1, 0, 0), (16, 0, 2, 0), (10, 0, 2, 0), (60, 137, 140, 0), (999, 0, 0, 0), (999, 0, 0, 0), (14, 0, 0, 0), (10, 0, 1, 0), (110, 0, 396, 118), (999, 0, 0, 0), (999, 0, 0, 0), (16, 0, 3, 0), (10, 0, 3, 0), (0, (-1), 0, 0), (66, 18, 32, 0), (999, 0, 0, 0), (999, 0, 0, 0), (14, 0, 0, 0), (80, 12, 43, 14), (999, 0, 0, 0), (999, 0, 0, 0), (10, 0, 3, 0), (92, 0, 0, 0), (1, 113, 0, 0), (999, 0, 0, 0), (67, 7, 32, 0), (999, 0, 0, 0), (999, 0, 0, 0), (0, 1, 0, 0), (72, 4, 33, 0), (999, 0, 0, 0), (999, 0, 0, 0), (0, 0, 0, 0), (16, 0, 2, 0), (10, 0, 2, 0), (60, 102, 137, 0), (999, 0, 0, 0), (999, 0, 0, 0), (14, 0, 0, 0), (14, 0, 0, 0), (80, 12, 61, 20), (999, 0, 0, 0), (999, 0, 0, 0), (10, 0, 3, 0), (90, 0, 0, 0), (110, 0, 399, 119), (999, 0, 0, 0), (999, 0, 0, 0), (61, 16, 64, 0), (999, 0, 0, 0), (999, 0, 0, 0), (14, 0, 0, 0), (14, 0, 0, 0), (80, 12, 58, 19), (999, 0, 0, 0), (999, 0, 0, 0), (10, 0, 3, 0), (90, 0, 0, 0), (110, 0, 399, 119), (999, 0, 0, 0), (999, 0, 0, 0), (60, 7, 68, 0), (999, 0, 0, 0), (999, 0, 0, 0), (0, 1, 0, 0), (72, 4, 69, 0), (999, 0, 0, 0), (999, 0, 0, 0), (0, 0, 0, 0), (17, 0, 4, 0), (999, 0, 0, 0), (11, 0, 4, 0), (999, 0, 0, 0), (61, 30, 103, 0), (999, 0, 0, 0), (999, 0, 0, 0), (14, 0, 0, 0), (80, 12, 58, 19), (999, 0, 0, 0), (999, 0, 0, 0), (10, 0, 3, 0), (90, 0, 0, 0), (0, (-1), 0, 0), (66, 20, 103, 0), (999, 0, 0, 0), (999, 0, 0, 0), (14, 0, 0, 0), (14, 0, 0, 0), (80, 12, 58, 19), (999, 0, 0, 0), (999, 0, 0, 0), (10, 0, 3, 0), (90, 0, 0, 0), (110, 0, 225, 71), (999, 0, 0, 0), (999, 0, 0, 0), (61, 7, 103, 0), (999, 0, 0, 0), (999, 0, 0, 0), (0, 1, 0, 0), (72, 4, 104, 0), (999, 0, 0, 0), (999, 0, 0, 0), (0, 0, 0, 0), (17, 0, 5, 0), (999, 0, 0, 0), (11, 0, 4, 0), (999, 0, 0, 0), (60, 14, 122, 0), (999, 0, 0, 0), (999, 0, 0, 0), (14, 0, 0, 0), (80, 12, 43, 14), (999, 0, 0, 0), (999, 0, 0, 0), (10, 0, 3, 0), (1, 120, 0, 0), (999, 0, 0, 0), (97, 0, 0, 0), (72, 18, 137, 0), (999, 0, 0, 0), (999, 0, 0, 0), (11, 0, 5, 0), (999, 0, 0, 0), (60, 8, 132, 0), (999, 0, 0, 0), (999, 0, 0, 0), (0, 0, 0, 0), (16, 0, 2, 0), (72, 8, 137, 0), (999, 0, 0, 0), (999, 0, 0, 0), (14, 0, 0, 0), (10, 0, 3, 0), (110, 0, 402, 117), (999, 0, 0, 0), (999, 0, 0, 0), (72, (-135), 2, 0), (999, 0, 0, 0), (999, 0, 0, 0), (133, 0, 0, 0)]
def M_goThrough_137 {ρ : Type} (kr : Int → zD → Option ρ) (r2 : Int → Int → zD → Option ρ) (a1 a2 : Int) (s : zD) : Option ρ :=
r2 a1 a2 s
def M_goThrough_104 {ρ : Type} (kr : Int → zD → Option ρ) (r2 : Int → Int → zD → Option ρ) (a1 a2 a3 a4 t0 : Int) (s : zD) : Option ρ :=
if a4 = 0 then (if t0 = 0 then (M_beginLaunch a3 s  fun _ s2 =>
M_goThrough_137 kr r2 a1 a2 s2)
else M_goThrough_137 kr r2 a1 0 s)
else zix 12 a3 fun j3 =>
zlet (zup s 10 j3 120) fun s4 =>
M_goThrough_137 kr r2 a1 a2 s4
def M_goThrough_103 {ρ : Type} (kr : Int → zD → Option ρ) (r2 : Int → Int → zD → Option ρ) (a1 a2 a3 a4 : Int) (s : zD) : Option ρ :=
M_goThrough_104 kr r2 a1 a2 a3 a4 0 s
def M_goThrough_69 {ρ : Type} (kr : Int → zD → Option ρ) (r2 : Int → Int → zD → Option ρ) (a1 a2 a3 t0 : Int) (s : zD) : Option ρ :=
if t0 = 0 then (zix 12 a3 fun j1 =>
if (s 15 j1) = (-1) then M_goThrough_103 kr r2 a1 a2 a3 t0 s
else zix 12 a3 fun j2 =>
M_isOver (s 15 j2) s  fun v3 s4 =>
if v3 = 0 then M_goThrough_104 kr r2 a1 a2 a3 t0 1 s4
else M_goThrough_103 kr r2 a1 a2 a3 t0 s4)
else M_goThrough_103 kr r2 a1 a2 a3 t0 s
def M_goThrough_64 {ρ : Type} (kr : Int → zD → Option ρ) (r2 : Int → Int → zD → Option ρ) (a1 a2 a3 : Int) (s : zD) : Option ρ :=
M_goThrough_69 kr r2 a1 a2 a3 1 s
def M_goThrough_33 {ρ : Type} (kr : Int → zD → Option ρ) (r2 : Int → Int → zD → Option ρ) (a1 a3 t0 : Int) (s : zD) : Option ρ :=
if t0 = 0 then M_goThrough_137 kr r2 a1 t0 s
else zix 12 a3 fun j1 =>
M_isBroken (s 16 j1) s  fun v2 s3 =>
if v2 = 0 then (zix 12 a3 fun j4 =>
M_isBroken (s3 15 j4) s3  fun v5 s6 =>
if v5 = 0 then M_goThrough_69 kr r2 a1 t0 a3 0 s6
else M_goThrough_64 kr r2 a1 t0 a3 s6)
else M_goThrough_64 kr r2 a1 t0 a3 s3
def M_goThrough_32 {ρ : Type} (kr : Int → zD → Option ρ) (r2 : Int → Int → zD → Option ρ) (a1 a3 : Int) (s : zD) : Option ρ :=
M_goThrough_33 kr r2 a1 a3 0 s
def M_goThrough_2b {ρ : Type} (kr : Int → zD → Option ρ) (r2 : Int → Int → zD → Option ρ) (a1 a2 : Int) (s : zD) : Option ρ :=
if a2 = 0 then kr 0 s
else M_firstOf a1 s  fun v1 s2 =>
if v1 = (-1) then M_goThrough_32 kr r2 a1 v1 s2
else zix 12 v1 fun j3 =>
if (s2 10 j3) = 113 then M_goThrough_33 kr r2 a1 v1 1 s2
else M_goThrough_32 kr r2 a1 v1 s2
def M_goThrough_2 {ρ : Type} (kr : Int → zD → Option ρ) : Int → Int → zD → Option ρ := zit (fun _ _ _ => none) (M_goThrough_2b kr) zN
def M_goThrough {ρ : Type} (a1 : Int) (s : zD) (kr : Int → zD → Option ρ) : Option ρ :=
M_goThrough_2 kr a1 1 s
set_option maxRecDepth 100000 in
theorem qe_M_goThrough_137 {ρ : Type} (kr : Int → zD → Option ρ) (r2 : Int → Int → zD → Option ρ) (a1 a2 : Int) (s : zD) : M_goThrough_137 kr r2 a1 a2 s = zseg zPP false zfinM (zcal []) (zget (999, 0, 0, 0) zc_M_goThrough) (zcut [(2, [true, true, true, false, false, false]), (32, [true, true, false, true, false, false]), (33, [true, true, false, true, false, false]), (64, [true, true, true, true, false, false]), (69, [true, true, true, true, false, false]), (103, [true, true, true, true, true, false]), (104, [true, true, true, true, true, false]), (137, [true, true, true, false, false, false])]) (zorc [(2, [some (2, some 0), some (0, none), some (0, none), none, none, none], [], fun xs h => match xs with
  | [a1, a2] => r2 a1 a2 (zhd h)
  | _ => none)]) (fun v h => kr v (zhd h)) (fun _ _ => none) 400 137 [some (2, 0), some (0, a1), some (0, a2), none, none, none] [] (zM s) := by rfl
set_option maxRecDepth 100000 in
theorem qe_M_goThrough_104 {ρ : Type} (kr : Int → zD → Option ρ) (r2 : Int → Int → zD → Option ρ) (a1 a2 a3 a4 t0 : Int) (s : zD) : M_goThrough_104 kr r2 a1 a2 a3 a4 t0 s = zseg zPP false zfinM (zcal [(117, [some 0, none], fun xs h kr kt => match xs with
  | [x0] => M_beginLaunch x0 (zhd h) (fun v s => kr v (zM s))
  | _ => none)]) (zget (999, 0, 0, 0) zc_M_goThrough) (zcut [(2, [true, true, true, false, false, false]), (32, [true, true, false, true, false, false]), (33, [true, true, false, true, false, false]), (64, [true, true, true, true, false, false]), (69, [true, true, true, true, false, false]), (103, [true, true, true, true, true, false]), (104, [true, true, true, true, true, false]), (137, [true, true, true, false, false, false])]) (zorc [(137, [some (2, some 0), some (0, none), some (0, none), none, none, none], [], fun xs h => match xs with
  | [a1, a2] => M_goThrough_137 kr r2 a1 a2 (zhd h)
  | _ => none)]) (fun v h => kr v (zhd h)) (fun _ _ => none) 400 104 [some (2, 0), some (0, a1), some (0, a2), some (0, a3), some (0, a4), none] [(0, t0)] (zM s) := by rfl
set_option maxRecDepth 100000 in
theorem qe_M_goThrough_103 {ρ : Type} (kr : Int → zD → Option ρ) (r2 : Int → Int → zD → Option ρ) (a1 a2 a3 a4 : Int) (s : zD) : M_goThrough_103 kr r2 a1 a2 a3 a4 s = zseg zPP false zfinM (zcal []) (zget (999, 0, 0, 0) zc_M_goThrough) (zcut [(2, [true, true, true, false, false, false]), (32, [true, true, false, true, false, false]), (33, [true, true, false, true, false, false]), (64, [true, true, true, true, false, false]), (69, [true, true, true, true, false, false]), (103, [true, true, true, true, true, false]), (104, [true, true, true, true, true, false]), (137, [true, true, true, false, false, false])]) (zorc [(104, [some (2, some 0), some (0, none), some (0, none), some (0, none), some (0, none), none], [(0, none)], fun xs h => match xs with
  | [a1, a2, a3, a4, t0] => M_goThrough_104 kr r2 a1 a2 a3 a4 t0 (zhd h)
  | _ => none)]) (fun v h => kr v (zhd h)) (fun _ _ => none) 400 103 [some (2, 0), some (0, a1), some (0, a2), some (0, a3), some (0, a4), none] [] (zM s) := by rfl
set_option maxRecDepth 100000 in
theorem qe_M_goThrough_69 {ρ : Type} (kr : Int → zD → Option ρ) (r2 : Int → Int → zD → Option ρ) (a1 a2 a3 t0 : Int) (s : zD) : M_goThrough_69 kr r2 a1 a2 a3 t0 s = zseg zPP false zfinM (zcal [(71, [some 0, none], fun xs h kr kt => match xs with
  | [x0] => M_isOver x0 (zhd h) (fun v s => kr v (zM s))
  | _ => none)]) (zget (999, 0, 0, 0) zc_M_goThrough) (zcut [(2, [true, true, true, false, false, false]), (32, [true, true, false, true, false, false]), (33, [true, true, false, true, false, false]), (64, [true, true, true, true, false, false]), (69, [true, true, true, true, false, false]), (103, [true, true, true, true, true, false]), (104, [true, true, true, true, true, false]), (137, [true, true, true, false, false, false])]) (zorc [(103, [some (2, some 0), some (0, none), some (0, none), some (0, none), some (0, none), none], [], fun xs h => match xs with
  | [a1, a2, a3, a4] => M_goThrough_103 kr r2 a1 a2 a3 a4 (zhd h)
  | _ => none), (104, [some (2, some 0), some (0, none), some (0, none), some (0, none), some (0, none), none], [(0, none)], fun xs h => match xs with
  | [a1, a2, a3, a4, t0] => M_goThrough_104 kr r2 a1 a2 a3 a4 t0 (zhd h)
  | _ => none)]) (fun v h => kr v (zhd h)) (fun _ _ => none) 400 69 [some (2, 0), some (0, a1), some (0, a2), some (0, a3), none, none] [(0, t0)] (zM s) := by rfl
set_option maxRecDepth 100000 in
theorem qe_M_goThrough_64 {ρ : Type} (kr : Int → zD → Option ρ) (r2 : Int → Int → zD → Option ρ) (a1 a2 a3 : Int) (s : zD) : M_goThrough_64 kr r2 a1 a2 a3 s = zseg zPP false zfinM (zcal []) (zget (999, 0, 0, 0) zc_M_goThrough) (zcut [(2, [true, true, true, false, false, false]), (32, [true, true, false, true, false, false]), (33, [true, true, false, true, false, false]), (64, [true, true, true, true, false, false]), (69, [true, true, true, true, false, false]), (103, [true, true, true, true, true, false]), (104, [true, true, true, true, true, false]), (137, [true, true, true, false, false, false])]) (zorc [(69, [some (2, some 0), some (0, none), some (0, none), some (0, none), none, none], [(0, none)], fun xs h => match xs with
  | [a1, a2, a3, t0] => M_goThrough_69 kr r2 a1 a2 a3 t0 (zhd h)
  | _ => none)]) (fun v h => kr v (zhd h)) (fun _ _ => none) 400 64 [some (2, 0), some (0, a1), some (0, a2), some (0, a3), none, none] [] (zM s) := by rfl
set_option maxRecDepth 100000 in
theorem qe_M_goThrough_33 {ρ : Type} (kr : Int → zD → Option ρ) (r2 : Int → Int → zD → Option ρ) (a1 a3 t0 : Int) (s : zD) : M_goThrough_33 kr r2 a1 a3 t0 s = zseg zPP false zfinM (zcal [(119, [some 0, none], fun xs h kr kt => match xs with
  | [x0] => M_isBroken x0 (zhd h) (fun v s => kr v (zM s))
  | _ => none)]) (zget (999, 0, 0, 0) zc_M_goThrough) (zcut [(2, [true, true, true, false, false, false]), (32, [true, true, false, true, false, false]), (33, [true, true, false, true, false, false]), (64, [true, true, true, true, false, false]), (69, [true, true, true, true, false, false]), (103, [true, true, true, true, true, false]), (104, [true, true, true, true, true, false]), (137, [true, true, true, false, false, false])]) (zorc [(64, [some (2, some 0), some (0, none), some (0, none), some (0, none), none, none], [], fun xs h => match xs with
  | [a1, a2, a3] => M_goThrough_64 kr r2 a1 a2 a3 (zhd h)
  | _ => none), (69, [some (2, some 0), some (0, none), some (0, none), some (0, none), none, none], [(0, none)], fun xs h => match xs with
  | [a1, a2, a3, t0] => M_goThrough_69 kr r2 a1 a2 a3 t0 (zhd h)
  | _ => none), (137, [some (2, some 0), some (0, none), some (0, none), none, none, none], [], fun xs h => match xs with
  | [a1, a2] => M_goThrough_137 kr r2 a1 a2 (zhd h)
  | _ => none)]) (fun v h => kr v (zhd h)) (fun _ _ => none) 400 33 [some (2, 0), some (0, a1), none, some (0, a3), none, none] [(0, t0)] (zM s) := by rfl
set_option maxRecDepth 100000 in
theorem qe_M_goThrough_32 {ρ : Type} (kr : Int → zD → Option ρ) (r2 : Int → Int → zD → Option ρ) (a1 a3 : Int) (s : zD) : M_goThrough_32 kr r2 a1 a3 s = zseg zPP false zfinM (zcal []) (zget (999, 0, 0, 0) zc_M_goThrough) (zcut [(2, [true, true, true, false, false, false]), (32, [true, true, false, true, false, false]), (33, [true, true, false, true, false, false]), (64, [true, true, true, true, false, false]), (69, [true, true, true, true, false, false]), (103, [true, true, true, true, true, false]), (104, [true, true, true, true, true, false]), (137, [true, true, true, false, false, false])]) (zorc [(33, [some (2, some 0), some (0, none), none, some (0, none), none, none], [(0, none)], fun xs h => match xs with
  | [a1, a3, t0] => M_goThrough_33 kr r2 a1 a3 t0 (zhd h)
  | _ => none)]) (fun v h => kr v (zhd h)) (fun _ _ => none) 400 32 [some (2, 0), some (0, a1), none, some (0, a3), none, none] [] (zM s) := by rfl
set_option maxRecDepth 100000 in
theorem qe_M_goThrough_2b {ρ : Type} (kr : Int → zD → Option ρ) (r2 : Int → Int → zD → Option ρ) (a1 a2 : Int) (s : zD) : M_goThrough_2b kr r2 a1 a2 s = zseg zPP false zfinM (zcal [(118, [some 0, none], fun xs h kr kt => match xs with
  | [x0] => M_firstOf x0 (zhd h) (fun v s => kr v (zM s))
  | _ => none)]) (zget (999, 0, 0, 0) zc_M_goThrough) (zcut [(2, [true, true, true, false, false, false]), (32, [true, true, false, true, false, false]), (33, [true, true, false, true, false, false]), (64, [true, true, true, true, false, false]), (69, [true, true, true, true, false, false]), (103, [true, true, true, true, true, false]), (104, [true, true, true, true, true, false]), (137, [true, true, true, false, false, false])]) (zorc [(32, [some (2, some 0), some (0, none), none, some (0, none), none, none], [], fun xs h => match xs with
  | [a1, a3] => M_goThrough_32 kr r2 a1 a3 (zhd h)
  | _ => none), (33, [some (2, some 0), some (0, none), none, some (0, none), none, none], [(0, none)], fun xs h => match xs with
  | [a1, a3, t0] => M_goThrough_33 kr r2 a1 a3 t0 (zhd h)
  | _ => none)]) (fun v h => kr v (zhd h)) (fun _ _ => none) 400 2 [some (2, 0), some (0, a1), some (0, a2), none, none, none] [] (zM s) := by rfl
set_option maxRecDepth 100000 in
theorem qe_M_goThrough {ρ : Type} (kr : Int → zD → Option ρ) (a1 : Int) (s : zD) : M_goThrough a1 s kr = zseg zPP false zfinM (zcal []) (zget (999, 0, 0, 0) zc_M_goThrough) (zcut [(2, [true, true, true, false, false, false]), (32, [true, true, false, true, false, false]), (33, [true, true, false, true, false, false]), (64, [true, true, true, true, false, false]), (69, [true, true, true, true, false, false]), (103, [true, true, true, true, true, false]), (104, [true, true, true, true, true, false]), (137, [true, true, true, false, false, false])]) (zorc [(2, [some (2, some 0), some (0, none), some (0, none), none, none, none], [], fun xs h => match xs with
  | [a1, a2] => M_goThrough_2 kr a1 a2 (zhd h)
  | _ => none)]) (fun v h => kr v (zhd h)) (fun _ _ => none) 400 0 [some (2, 0), some (0, a1), none, none, none, none] [] (zM s) := by rfl
def zc_M_copyOne : List zI := [(14, 0, 0, 0), (80, 12, 13, 3), (999, 0, 0, 0), (999, 0, 0, 0), (14, 0, 0, 0), (80, 12, 79, 26), (999, 0, 0, 0), (999, 0, 0, 0), (10, 0, 1, 0), (90, 0, 0, 0), (14, 0, 0, 0), (80, 12, 85, 28), (999, 0, 0, 0), (999, 0, 0, 0), (10, 0, 1, 0), (90, 0, 0, 0), (30, 0, 0, 0), (14, 0, 0, 0), (80, 12, 13, 3), (999, 0, 0, 0), (999, 0, 0, 0), (14, 0, 0, 0), (80, 12, 76, 25), (999, 0, 0, 0), (999, 0, 0, 0), (10, 0, 1, 0), (90, 0, 0, 0), (14, 0, 0, 0), (80, 12, 85, 28), (999, 0, 0, 0), (999, 0, 0, 0), (10, 0, 1, 0), (90, 0, 0, 0), (30, 0, 0, 0), (90, 0, 0, 0), (95, 0, 0, 0), (14, 0, 0, 0), (80, 12, 85, 28), (999, 0, 0, 0), (999, 0, 0, 0), (10, 0, 1, 0), (51, 0, 0, 0), (90, 0, 0, 0), (0, 1, 0, 0), (30, 0, 0, 0), (95, 0, 0, 0), (14, 0, 0, 0), (80, 12, 43, 14), (999, 0, 0, 0), (999, 0, 0, 0), (10, 0, 1, 0), (14, 0, 0, 0), (80, 12, 85, 28), (999, 0, 0, 0), (999, 0, 0, 0), (10, 0, 1, 0), (90, 0, 0, 0), (14, 0, 0, 0), (80, 12, 82, 27), (999, 0, 0, 0), (999, 0, 0, 0), (10, 0, 1, 0), (90, 0, 0, 0), (67, 8, 71, 0), (999, 0, 0, 0), (999, 0, 0, 0), (1, 100, 0, 0), (999, 0, 0, 0), (72, 5, 73, 0), (999, 0, 0, 0), (999, 0, 0, 0), (1, 114, 0, 0), (999, 0, 0, 0), (97, 0, 0, 0), (133, 0, 0, 0)]
def M_copyOne_73 {ρ : Type} (kr : Int → zD → Option ρ) (t0 t1 : Int) (s : zD) : Option ρ :=
zix 12 t1 fun j1 =>
znar 2 t0 fun x2 =>
zlet (zup s 10 j1 x2) fun s3 =>
kr 0 s3
def M_copyOne {ρ : Type} (a1 : Int) (s : zD) (kr : Int → zD → Option ρ) : Option ρ :=
zix 12 a1 fun j1 =>
zix 12 a1 fun j2 =>
zix 12 a1 fun j3 =>
zix 12 a1 fun j4 =>
zix 64 (wr ((s 21 j3) + (s 24 j4))) fun j5 =>
zix 64 (wr ((s 22 j1) + (s 24 j2))) fun j6 =>
zlet (zup s 1 j6 (s 1 j5)) fun s7 =>
zix 12 a1 fun j8 =>
zix 12 a1 fun j9 =>
zlet (zup s7 24 j9 (wr ((s7 24 j8) + 1))) fun s10 =>
zix 12 a1 fun j11 =>
zix 12 a1 fun j12 =>
if (s10 24 j11) = (s10 23 j12) then M_copyOne_73 kr 100 a1 s10
else M_copyOne_73 kr 114 a1 s10
set_option maxRecDepth 100000 in
theorem qe_M_copyOne_73 {ρ : Type} (kr : Int → zD → Option ρ) (t0 t1 : Int) (s : zD) : M_copyOne_73 kr t0 t1 s = zseg zPP false zfinM (zcal []) (zget (999, 0, 0, 0) zc_M_copyOne) (zcut [(73, [false, false])]) (zorc []) (fun v h => kr v (zhd h)) (fun _ _ => none) 400 73 [none, none] [(0, t0), (0, t1), (2, 10)] (zM s) := by rfl
set_option maxRecDepth 100000 in
theorem qe_M_copyOne {ρ : Type} (kr : Int → zD → Option ρ) (a1 : Int) (s : zD) : M_copyOne a1 s kr = zseg zPP false zfinM (zcal []) (zget (999, 0, 0, 0) zc_M_copyOne) (zcut [(73, [false, false])]) (zorc [(73, [none, none], [(0, none), (0, none), (2, some 10)], fun xs h => match xs with
  | [t0, t1] => M_copyOne_73 kr t0 t1 (zhd h)
  | _ => none)]) (fun v h => kr v (zhd h)) (fun _ _ => none) 400 0 [some (2, 0), some (0, a1)] [] (zM s) := by rfl
