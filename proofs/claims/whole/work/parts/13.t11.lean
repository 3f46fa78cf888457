def zc_M_cycle : List zI := [(14, 0, 0, 0), (0, 0, 0, 0), (82, 12, 185, 0), (999, 0, 0, 0), (999, 0, 0, 0), (14, 0, 0, 0), (80, 12, 390, 1), (999, 0, 0, 0), (999, 0, 0, 0), (130, 0, 0, 0)]
def M_cycle {ρ : Type} (s : zD) (kr : Int → zD → Option ρ) : Option ρ :=
zlet (zup s 0 0 0) fun s1 =>
kr (s1 0 1) s1
set_option maxRecDepth 100000 in
theorem qe_M_cycle {ρ : Type} (kr : Int → zD → Option ρ) (s : zD) : M_cycle  s kr = zseg zPP false zfinM (zcal []) (zget (999, 0, 0, 0) zc_M_cycle) (zcut []) (zorc []) (fun v h => kr v (zhd h)) (fun _ _ => none) 400 0 [some (2, 0)] [] (zM s) := by rfl
def zc_M_noUnit : List zI := [(10, 0, 0, 0), (0, 0, 0, 0), (0, 1, 0, 0), (113, 0, 192, 57), (999, 0, 0, 0), (999, 0, 0, 0), (61, 7, 13, 0), (999, 0, 0, 0), (999, 0, 0, 0), (0, 1, 0, 0), (72, 4, 14, 0), (999, 0, 0, 0), (999, 0, 0, 0), (0, 0, 0, 0), (130, 0, 1, 0)]
def M_noUnit_14 {ρ : Type} (kr : Int → zD → Option ρ) (t0 : Int) (s : zD) : Option ρ :=
znar 1 t0 fun x1 => kr x1 s
def M_noUnit {ρ : Type} (a0 : Int) (s : zD) (kr : Int → zD → Option ρ) : Option ρ :=
M_in a0 0 1 s  fun v1 s2 =>
if v1 = 0 then M_noUnit_14 kr 1 s2
else M_noUnit_14 kr 0 s2
set_option maxRecDepth 100000 in
theorem qe_M_noUnit_14 {ρ : Type} (kr : Int → zD → Option ρ) (t0 : Int) (s : zD) : M_noUnit_14 kr t0 s = zseg zPP false zfinM (zcal []) (zget (999, 0, 0, 0) zc_M_noUnit) (zcut [(14, [false])]) (zorc []) (fun v h => kr v (zhd h)) (fun _ _ => none) 400 14 [none] [(0, t0)] (zM s) := by rfl
set_option maxRecDepth 100000 in
theorem qe_M_noUnit {ρ : Type} (kr : Int → zD → Option ρ) (a0 : Int) (s : zD) : M_noUnit a0 s kr = zseg zPP false zfinM (zcal [(57, [none, none, none], fun xs h kr kt => match xs with
  | [x0, x1, x2] => M_in x0 x1 x2 (zhd h) (fun v s => kr v (zM s))
  | _ => none)]) (zget (999, 0, 0, 0) zc_M_noUnit) (zcut [(14, [false])]) (zorc [(14, [none], [(0, none)], fun xs h => match xs with
  | [t0] => M_noUnit_14 kr t0 (zhd h)
  | _ => none)]) (fun v h => kr v (zhd h)) (fun _ _ => none) 400 0 [some (0, a0)] [] (zM s) := by rfl
def zc_M_noGroup : List zI := [(10, 0, 1, 0), (113, 0, 450, 135), (999, 0, 0, 0), (999, 0, 0, 0), (61, 19, 23, 0), (999, 0, 0, 0), (999, 0, 0, 0), (10, 0, 2, 0), (0, 0, 0, 0), (14, 0, 0, 0), (80, 12, 115, 38), (999, 0, 0, 0), (999, 0, 0, 0), (10, 0, 1, 0), (90, 0, 0, 0), (0, 1, 0, 0), (31, 0, 0, 0), (113, 0, 192, 57), (999, 0, 0, 0), (999, 0, 0, 0), (61, 7, 27, 0), (999, 0, 0, 0), (999, 0, 0, 0), (0, 1, 0, 0), (72, 4, 28, 0), (999, 0, 0, 0), (999, 0, 0, 0), (0, 0, 0, 0), (130, 0, 1, 0)]
def M_noGroup_28 {ρ : Type} (kr : Int → zD → Option ρ) (t0 : Int) (s : zD) : Option ρ :=
znar 1 t0 fun x1 => kr x1 s
def M_noGroup_23 {ρ : Type} (kr : Int → zD → Option ρ) (s : zD) : Option ρ :=
M_noGroup_28 kr 1 s
def M_noGroup {ρ : Type} (a1 a2 : Int) (s : zD) (kr : Int → zD → Option ρ) : Option ρ :=
M_noUnit a1 s  fun v1 s2 =>
if v1 = 0 then (zix 2 a1 fun j3 =>
M_in a2 0 (wr ((s2 34 j3) - 1)) s2  fun v4 s5 =>
if v4 = 0 then M_noGroup_23 kr s5
else M_noGroup_28 kr 0 s5)
else M_noGroup_23 kr s2
set_option maxRecDepth 100000 in
theorem qe_M_noGroup_28 {ρ : Type} (kr : Int → zD → Option ρ) (t0 : Int) (s : zD) : M_noGroup_28 kr t0 s = zseg zPP false zfinM (zcal []) (zget (999, 0, 0, 0) zc_M_noGroup) (zcut [(23, [false, false, false]), (28, [false, false, false])]) (zorc []) (fun v h => kr v (zhd h)) (fun _ _ => none) 400 28 [none, none, none] [(0, t0)] (zM s) := by rfl
set_option maxRecDepth 100000 in
theorem qe_M_noGroup_23 {ρ : Type} (kr : Int → zD → Option ρ) (s : zD) : M_noGroup_23 kr s = zseg zPP false zfinM (zcal []) (zget (999, 0, 0, 0) zc_M_noGroup) (zcut [(23, [false, false, false]), (28, [false, false, false])]) (zorc [(28, [none, none, none], [(0, none)], fun xs h => match xs with
  | [t0] => M_noGroup_28 kr t0 (zhd h)
  | _ => none)]) (fun v h => kr v (zhd h)) (fun _ _ => none) 400 23 [none, none, none] [] (zM s) := by rfl
set_option maxRecDepth 100000 in
theorem qe_M_noGroup {ρ : Type} (kr : Int → zD → Option ρ) (a1 a2 : Int) (s : zD) : M_noGroup a1 a2 s kr = zseg zPP false zfinM (zcal [(57, [none, none, none], fun xs h kr kt => match xs with
  | [x0, x1, x2] => M_in x0 x1 x2 (zhd h) (fun v s => kr v (zM s))
  | _ => none), (135, [none], fun xs h kr kt => match xs with
  | [x0] => M_noUnit x0 (zhd h) (fun v s => kr v (zM s))
  | _ => none)]) (zget (999, 0, 0, 0) zc_M_noGroup) (zcut [(23, [false, false, false]), (28, [false, false, false])]) (zorc [(23, [none, none, none], [], fun xs h => match xs with
  | [] => M_noGroup_23 kr  (zhd h)
  | _ => none), (28, [none, none, none], [(0, none)], fun xs h => match xs with
  | [t0] => M_noGroup_28 kr t0 (zhd h)
  | _ => none)]) (fun v h => kr v (zhd h)) (fun _ _ => none) 400 0 [some (2, 0), some (0, a1), some (0, a2)] [] (zM s) := by rfl
def zc_M_groups : List zI := [(14, 0, 0, 0), (0, 0, 0, 0), (82, 12, 185, 0), (999, 0, 0, 0), (999, 0, 0, 0), (14, 0, 0, 0), (10, 0, 1, 0), (113, 0, 450, 135), (999, 0, 0, 0), (999, 0, 0, 0), (0, 1, 0, 0), (110, 0, 199, 58), (999, 0, 0, 0), (999, 0, 0, 0), (60, 7, 21, 0), (999, 0, 0, 0), (999, 0, 0, 0), (0, 0, 0, 0), (72, 9, 27, 0), (999, 0, 0, 0), (999, 0, 0, 0), (14, 0, 0, 0), (80, 12, 115, 38), (999, 0, 0, 0), (999, 0, 0, 0), (10, 0, 1, 0), (90, 0, 0, 0), (130, 0, 0, 0)]
def M_groups_27 {ρ : Type} (kr : Int → zD → Option ρ) (t0 : Int) (s : zD) : Option ρ :=
kr t0 s
def M_groups {ρ : Type} (a1 : Int) (s : zD) (kr : Int → zD → Option ρ) : Option ρ :=
zlet (zup s 0 0 0) fun s1 =>
M_noUnit a1 s1  fun v2 s3 =>
M_fails v2 1 s3  fun v4 s5 =>
if v4 = 0 then (zix 2 a1 fun j6 =>
M_groups_27 kr (s5 34 j6) s5)
else M_groups_27 kr 0 s5
set_option maxRecDepth 100000 in
theorem qe_M_groups_27 {ρ : Type} (kr : Int → zD → Option ρ) (t0 : Int) (s : zD) : M_groups_27 kr t0 s = zseg zPP false zfinM (zcal []) (zget (999, 0, 0, 0) zc_M_groups) (zcut [(27, [false, false])]) (zorc []) (fun v h => kr v (zhd h)) (fun _ _ => none) 400 27 [none, none] [(0, t0)] (zM s) := by rfl
set_option maxRecDepth 100000 in
theorem qe_M_groups {ρ : Type} (kr : Int → zD → Option ρ) (a1 : Int) (s : zD) : M_groups a1 s kr = zseg zPP false zfinM (zcal [(58, [some 0, none, none], fun xs h kr kt => match xs with
  | [x0, x1] => M_fails x0 x1 (zhd h) (fun v s => kr v (zM s))
  | _ => none), (135, [none], fun xs h kr kt => match xs with
  | [x0] => M_noUnit x0 (zhd h) (fun v s => kr v (zM s))
  | _ => none)]) (zget (999, 0, 0, 0) zc_M_groups) (zcut [(27, [false, false])]) (zorc [(27, [none, none], [(0, none)], fun xs h => match xs with
  | [t0] => M_groups_27 kr t0 (zhd h)
  | _ => none)]) (fun v h => kr v (zhd h)) (fun _ _ => none) 400 0 [some (2, 0), some (0, a1)] [] (zM s) := by rfl
def zc_M_threadAt : List zI := [(14, 0, 0, 0), (0, 0, 0, 0), (82, 12, 185, 0), (999, 0, 0, 0), (999, 0, 0, 0), (14, 0, 0, 0), (14, 0, 0, 0), (10, 0, 1, 0), (10, 0, 2, 0), (110, 0, 453, 136), (999, 0, 0, 0), (999, 0, 0, 0), (0, 1, 0, 0), (110, 0, 199, 58), (999, 0, 0, 0), (999, 0, 0, 0), (60, 5, 21, 0), (999, 0, 0, 0), (999, 0, 0, 0), (0, 0, 0, 0), (130, 0, 0, 0), (0, 4, 0, 0), (10, 0, 1, 0), (32, 0, 0, 0), (10, 0, 2, 0), (30, 0, 0, 0), (16, 0, 3, 0), (2, 1000, 0, 0), (999, 0, 0, 0), (999, 0, 0, 0), (14, 0, 0, 0), (80, 12, 118, 39), (999, 0, 0, 0), (999, 0, 0, 0), (10, 0, 3, 0), (90, 0, 0, 0), (1, 6, 0, 0), (999, 0, 0, 0), (33, 0, 0, 0), (32, 0, 0, 0), (1, 100, 0, 0), (999, 0, 0, 0), (14, 0, 0, 0), (80, 12, 118, 39), (999, 0, 0, 0), (999, 0, 0, 0), (10, 0, 3, 0), (90, 0, 0, 0), (1, 6, 0, 0), (999, 0, 0, 0), (34, 0, 0, 0), (32, 0, 0, 0), (30, 0, 0, 0), (0, 4, 0, 0), (14, 0, 0, 0), (80, 12, 121, 40), (999, 0, 0, 0), (999, 0, 0, 0), (10, 0, 3, 0), (90, 0, 0, 0), (32, 0, 0, 0), (30, 0, 0, 0), (130, 0, 0, 0)]
def M_threadAt {ρ : Type} (a1 a2 : Int) (s : zD) (kr : Int → zD → Option ρ) : Option ρ :=
zlet (zup s 0 0 0) fun s1 =>
M_noGroup a1 a2 s1  fun v2 s3 =>
M_fails v2 1 s3  fun v4 s5 =>
if v4 = 0 then (zix 8 (wr ((wr (4 * a1)) + a2)) fun j6 =>
zix 8 (wr ((wr (4 * a1)) + a2)) fun j7 =>
zix 8 (wr ((wr (4 * a1)) + a2)) fun j8 =>
kr (wr ((wr ((wr (1000 * (wr (Int.tdiv (s5 35 j6) 6)))) + (wr (100 * (Int.tmod (s5 35 j7) 6))))) + (wr (4 * (s5 36 j8))))) s5)
else kr 0 s5
set_option maxRecDepth 100000 in
theorem qe_M_threadAt {ρ : Type} (kr : Int → zD → Option ρ) (a1 a2 : Int) (s : zD) : M_threadAt a1 a2 s kr = zseg zPP false zfinM (zcal [(58, [some 0, none, none], fun xs h kr kt => match xs with
  | [x0, x1] => M_fails x0 x1 (zhd h) (fun v s => kr v (zM s))
  | _ => none), (136, [some 0, none, none], fun xs h kr kt => match xs with
  | [x0, x1] => M_noGroup x0 x1 (zhd h) (fun v s => kr v (zM s))
  | _ => none)]) (zget (999, 0, 0, 0) zc_M_threadAt) (zcut []) (zorc []) (fun v h => kr v (zhd h)) (fun _ _ => none) 400 0 [some (2, 0), some (0, a1), some (0, a2), none] [] (zM s) := by rfl
def zc_M_place : List zI := [(14, 0, 0, 0), (0, 0, 0, 0), (82, 12, 185, 0), (999, 0, 0, 0), (999, 0, 0, 0), (14, 0, 0, 0), (14, 0, 0, 0), (10, 0, 1, 0), (10, 0, 2, 0), (110, 0, 453, 136), (999, 0, 0, 0), (999, 0, 0, 0), (0, 1, 0, 0), (110, 0, 199, 58), (999, 0, 0, 0), (999, 0, 0, 0), (60, 5, 21, 0), (999, 0, 0, 0), (999, 0, 0, 0), (0, 0, 0, 0), (130, 0, 0, 0), (14, 0, 0, 0), (0, 4, 0, 0), (10, 0, 1, 0), (32, 0, 0, 0), (10, 0, 2, 0), (30, 0, 0, 0), (110, 0, 278, 96), (999, 0, 0, 0), (999, 0, 0, 0), (16, 0, 3, 0), (14, 0, 0, 0), (10, 0, 3, 0), (0, (-1), 0, 0), (67, 7, 41, 0), (999, 0, 0, 0), (999, 0, 0, 0), (0, 1, 0, 0), (72, 4, 42, 0), (999, 0, 0, 0), (999, 0, 0, 0), (0, 0, 0, 0), (0, 2, 0, 0), (110, 0, 199, 58), (999, 0, 0, 0), (999, 0, 0, 0), (60, 7, 53, 0), (999, 0, 0, 0), (999, 0, 0, 0), (0, 0, 0, 0), (72, 4, 54, 0), (999, 0, 0, 0), (999, 0, 0, 0), (10, 0, 3, 0), (130, 0, 0, 0)]
def M_place_54 {ρ : Type} (kr : Int → zD → Option ρ) (t0 : Int) (s : zD) : Option ρ :=
kr t0 s
def M_place_42 {ρ : Type} (kr : Int → zD → Option ρ) (a3 t0 : Int) (s : zD) : Option ρ :=
M_fails t0 2 s  fun v1 s2 =>
if v1 = 0 then M_place_54 kr a3 s2
else M_place_54 kr 0 s2
def M_place {ρ : Type} (a1 a2 : Int) (s : zD) (kr : Int → zD → Option ρ) : Option ρ :=
zlet (zup s 0 0 0) fun s1 =>
M_noGroup a1 a2 s1  fun v2 s3 =>
M_fails v2 1 s3  fun v4 s5 =>
if v4 = 0 then (M_placeOf (wr ((wr (4 * a1)) + a2)) s5  fun v6 s7 =>
if v6 = (-1) then M_place_42 kr v6 1 s7
else M_place_42 kr v6 0 s7)
else kr 0 s5
set_option maxRecDepth 100000 in
theorem qe_M_place_54 {ρ : Type} (kr : Int → zD → Option ρ) (t0 : Int) (s : zD) : M_place_54 kr t0 s = zseg zPP false zfinM (zcal []) (zget (999, 0, 0, 0) zc_M_place) (zcut [(42, [false, false, false, true]), (54, [false, false, false, false])]) (zorc []) (fun v h => kr v (zhd h)) (fun _ _ => none) 400 54 [none, none, none, none] [(0, t0)] (zM s) := by rfl
set_option maxRecDepth 100000 in
theorem qe_M_place_42 {ρ : Type} (kr : Int → zD → Option ρ) (a3 t0 : Int) (s : zD) : M_place_42 kr a3 t0 s = zseg zPP false zfinM (zcal [(58, [some 0, none, none], fun xs h kr kt => match xs with
  | [x0, x1] => M_fails x0 x1 (zhd h) (fun v s => kr v (zM s))
  | _ => none)]) (zget (999, 0, 0, 0) zc_M_place) (zcut [(42, [false, false, false, true]), (54, [false, false, false, false])]) (zorc [(54, [none, none, none, none], [(0, none)], fun xs h => match xs with
  | [t0] => M_place_54 kr t0 (zhd h)
  | _ => none)]) (fun v h => kr v (zhd h)) (fun _ _ => none) 400 42 [none, none, none, some (0, a3)] [(0, t0), (2, 0)] (zM s) := by rfl
set_option maxRecDepth 100000 in
theorem qe_M_place {ρ : Type} (kr : Int → zD → Option ρ) (a1 a2 : Int) (s : zD) : M_place a1 a2 s kr = zseg zPP false zfinM (zcal [(58, [some 0, none, none], fun xs h kr kt => match xs with
  | [x0, x1] => M_fails x0 x1 (zhd h) (fun v s => kr v (zM s))
  | _ => none), (96, [some 0, none], fun xs h kr kt => match xs with
  | [x0] => M_placeOf x0 (zhd h) (fun v s => kr v (zM s))
  | _ => none), (136, [some 0, none, none], fun xs h kr kt => match xs with
  | [x0, x1] => M_noGroup x0 x1 (zhd h) (fun v s => kr v (zM s))
  | _ => none)]) (zget (999, 0, 0, 0) zc_M_place) (zcut [(42, [false, false, false, true]), (54, [false, false, false, false])]) (zorc [(42, [none, none, none, some (0, none)], [(0, none), (2, some 0)], fun xs h => match xs with
  | [a3, t0] => M_place_42 kr a3 t0 (zhd h)
  | _ => none)]) (fun v h => kr v (zhd h)) (fun _ _ => none) 400 0 [some (2, 0), some (0, a1), some (0, a2), none] [] (zM s) := by rfl
def zc_M_mask : List zI := [(14, 0, 0, 0), (0, 0, 0, 0), (82, 12, 185, 0), (999, 0, 0, 0), (999, 0, 0, 0), (14, 0, 0, 0), (14, 0, 0, 0), (10, 0, 1, 0), (10, 0, 2, 0), (110, 0, 453, 136), (999, 0, 0, 0), (999, 0, 0, 0), (0, 1, 0, 0), (110, 0, 199, 58), (999, 0, 0, 0), (999, 0, 0, 0), (60, 7, 23, 0), (999, 0, 0, 0), (999, 0, 0, 0), (0, 0, 0, 0), (72, 12, 32, 0), (999, 0, 0, 0), (999, 0, 0, 0), (14, 0, 0, 0), (0, 4, 0, 0), (10, 0, 1, 0), (32, 0, 0, 0), (10, 0, 2, 0), (30, 0, 0, 0), (110, 0, 363, 97), (999, 0, 0, 0), (999, 0, 0, 0), (130, 0, 0, 0)]
def M_mask_32 {ρ : Type} (kr : Int → zD → Option ρ) (t0 : Int) (s : zD) : Option ρ :=
kr t0 s
def M_mask {ρ : Type} (a1 a2 : Int) (s : zD) (kr : Int → zD → Option ρ) : Option ρ :=
zlet (zup s 0 0 0) fun s1 =>
M_noGroup a1 a2 s1  fun v2 s3 =>
M_fails v2 1 s3  fun v4 s5 =>
if v4 = 0 then (M_maskOf (wr ((wr (4 * a1)) + a2)) s5  fun v6 s7 =>
M_mask_32 kr v6 s7)
else M_mask_32 kr 0 s5
set_option maxRecDepth 100000 in
theorem qe_M_mask_32 {ρ : Type} (kr : Int → zD → Option ρ) (t0 : Int) (s : zD) : M_mask_32 kr t0 s = zseg zPP false zfinM (zcal []) (zget (999, 0, 0, 0) zc_M_mask) (zcut [(32, [false, false, false])]) (zorc []) (fun v h => kr v (zhd h)) (fun _ _ => none) 400 32 [none, none, none] [(0, t0)] (zM s) := by rfl
set_option maxRecDepth 100000 in
theorem qe_M_mask {ρ : Type} (kr : Int → zD → Option ρ) (a1 a2 : Int) (s : zD) : M_mask a1 a2 s kr = zseg zPP false zfinM (zcal [(58, [some 0, none, none], fun xs h kr kt => match xs with
  | [x0, x1] => M_fails x0 x1 (zhd h) (fun v s => kr v (zM s))
  | _ => none), (97, [some 0, none], fun xs h kr kt => match xs with
  | [x0] => M_maskOf x0 (zhd h) (fun v s => kr v (zM s))
  | _ => none), (136, [some 0, none, none], fun xs h kr kt => match xs with
  | [x0, x1] => M_noGroup x0 x1 (zhd h) (fun v s => kr v (zM s))
  | _ => none)]) (zget (999, 0, 0, 0) zc_M_mask) (zcut [(32, [false, false, false])]) (zorc [(32, [none, none, none], [(0, none)], fun xs h => match xs with
  | [t0] => M_mask_32 kr t0 (zhd h)
  | _ => none)]) (fun v h => kr v (zhd h)) (fun _ _ => none) 400 0 [some (2, 0), some (0, a1), some (0, a2)] [] (zM s) := by rfl
def zc_M_places : List zI := [(14, 0, 0, 0), (0, 0, 0, 0), (82, 12, 185, 0), (999, 0, 0, 0), (999, 0, 0, 0), (14, 0, 0, 0), (14, 0, 0, 0), (10, 0, 1, 0), (10, 0, 2, 0), (110, 0, 453, 136), (999, 0, 0, 0), (999, 0, 0, 0), (0, 1, 0, 0), (110, 0, 199, 58), (999, 0, 0, 0), (999, 0, 0, 0), (60, 5, 21, 0), (999, 0, 0, 0), (999, 0, 0, 0), (0, 0, 0, 0), (130, 0, 0, 0), (0, 4, 0, 0), (10, 0, 1, 0), (32, 0, 0, 0), (10, 0, 2, 0), (30, 0, 0, 0), (16, 0, 3, 0), (0, 0, 0, 0), (17, 0, 4, 0), (999, 0, 0, 0), (0, 0, 0, 0), (17, 0, 5, 0), (999, 0, 0, 0), (11, 0, 5, 0), (999, 0, 0, 0), (1, 40, 0, 0), (999, 0, 0, 0), (69, 133, 170, 0), (999, 0, 0, 0), (999, 0, 0, 0), (0, 0, 0, 0), (17, 0, 6, 0), (999, 0, 0, 0), (0, 4, 0, 0), (14, 0, 0, 0), (80, 12, 121, 40), (999, 0, 0, 0), (999, 0, 0, 0), (10, 0, 3, 0), (90, 0, 0, 0), (32, 0, 0, 0), (17, 0, 7, 0), (999, 0, 0, 0), (11, 0, 7, 0), (999, 0, 0, 0), (0, 4, 0, 0), (14, 0, 0, 0), (80, 12, 121, 40), (999, 0, 0, 0), (999, 0, 0, 0), (10, 0, 3, 0), (90, 0, 0, 0), (32, 0, 0, 0), (0, 4, 0, 0), (30, 0, 0, 0), (69, 84, 149, 0), (999, 0, 0, 0), (999, 0, 0, 0), (11, 0, 7, 0), (999, 0, 0, 0), (14, 0, 0, 0), (80, 12, 55, 18), (999, 0, 0, 0), (999, 0, 0, 0), (14, 0, 0, 0), (80, 12, 118, 39), (999, 0, 0, 0), (999, 0, 0, 0), (10, 0, 3, 0), (90, 0, 0, 0), (1, 6, 0, 0), (999, 0, 0, 0), (33, 0, 0, 0), (90, 0, 0, 0), (69, 65, 149, 0), (999, 0, 0, 0), (999, 0, 0, 0), (11, 0, 6, 0), (999, 0, 0, 0), (61, 47, 136, 0), (999, 0, 0, 0), (999, 0, 0, 0), (14, 0, 0, 0), (80, 12, 103, 34), (999, 0, 0, 0), (999, 0, 0, 0), (14, 0, 0, 0), (14, 0, 0, 0), (80, 12, 118, 39), (999, 0, 0, 0), (999, 0, 0, 0), (10, 0, 3, 0), (90, 0, 0, 0), (11, 0, 7, 0), (999, 0, 0, 0), (110, 0, 249, 86), (999, 0, 0, 0), (999, 0, 0, 0), (92, 0, 0, 0), (1, 114, 0, 0), (999, 0, 0, 0), (67, 29, 140, 0), (999, 0, 0, 0), (999, 0, 0, 0), (14, 0, 0, 0), (80, 12, 106, 35), (999, 0, 0, 0), (999, 0, 0, 0), (14, 0, 0, 0), (14, 0, 0, 0), (80, 12, 118, 39), (999, 0, 0, 0), (999, 0, 0, 0), (10, 0, 3, 0), (90, 0, 0, 0), (11, 0, 7, 0), (999, 0, 0, 0), (110, 0, 249, 86), (999, 0, 0, 0), (999, 0, 0, 0), (90, 0, 0, 0), (11, 0, 5, 0), (999, 0, 0, 0), (67, 7, 140, 0), (999, 0, 0, 0), (999, 0, 0, 0), (0, 1, 0, 0), (72, 4, 141, 0), (999, 0, 0, 0), (999, 0, 0, 0), (0, 0, 0, 0), (17, 0, 6, 0), (999, 0, 0, 0), (22, 1, 7, 0), (999, 0, 0, 0), (999, 0, 0, 0), (72, (-93), 53, 0), (999, 0, 0, 0), (999, 0, 0, 0), (11, 0, 4, 0), (999, 0, 0, 0), (11, 0, 6, 0), (999, 0, 0, 0), (60, 7, 160, 0), (999, 0, 0, 0), (999, 0, 0, 0), (0, 1, 0, 0), (72, 4, 161, 0), (999, 0, 0, 0), (999, 0, 0, 0), (0, 0, 0, 0), (30, 0, 0, 0), (17, 0, 4, 0), (999, 0, 0, 0), (22, 1, 5, 0), (999, 0, 0, 0), (999, 0, 0, 0), (72, (-134), 33, 0), (999, 0, 0, 0), (999, 0, 0, 0), (11, 0, 4, 0), (999, 0, 0, 0), (130, 0, 0, 0)]
def M_places_141 {ρ : Type} (kr : Int → zD → Option ρ) (r33 : Int → Int → Int → zD → Option ρ) (r53 : Int → Int → Int → Int → Int → zD → Option ρ) (a3 a4 a5 a7 t0 : Int) (s : zD) : Option ρ :=
r53 a3 a4 a5 t0 (wr (a7 + 1)) s
def M_places_136 {ρ : Type} (kr : Int → zD → Option ρ) (r33 : Int → Int → Int → zD → Option ρ) (r53 : Int → Int → Int → Int → Int → zD → Option ρ) (a3 a4 a5 a7 : Int) (s : zD) : Option ρ :=
M_places_141 kr r33 r53 a3 a4 a5 a7 1 s
def M_places_140 {ρ : Type} (kr : Int → zD → Option ρ) (r33 : Int → Int → Int → zD → Option ρ) (r53 : Int → Int → Int → Int → Int → zD → Option ρ) (a3 a4 a5 a7 : Int) (s : zD) : Option ρ :=
M_places_141 kr r33 r53 a3 a4 a5 a7 0 s
def M_places_161 {ρ : Type} (kr : Int → zD → Option ρ) (r33 : Int → Int → Int → zD → Option ρ) (a3 a5 t0 t1 : Int) (s : zD) : Option ρ :=
r33 a3 (wr (t1 + t0)) (wr (a5 + 1)) s
def M_places_149 {ρ : Type} (kr : Int → zD → Option ρ) (r33 : Int → Int → Int → zD → Option ρ) (a3 a4 a5 a6 : Int) (s : zD) : Option ρ :=
if a6 = 0 then M_places_161 kr r33 a3 a5 0 a4 s
else M_places_161 kr r33 a3 a5 1 a4 s
def M_places_53b {ρ : Type} (kr : Int → zD → Option ρ) (r33 : Int → Int → Int → zD → Option ρ) (r53 : Int → Int → Int → Int → Int → zD → Option ρ) (a3 a4 a5 a6 a7 : Int) (s : zD) : Option ρ :=
zix 8 a3 fun j1 =>
if a7 < (wr ((wr (4 * (s 36 j1))) + 4)) then (zix 8 a3 fun j2 =>
zix 12 (wr (Int.tdiv (s 35 j2) 6)) fun j3 =>
if a7 < (s 14 j3) then (if a6 = 0 then (zix 8 a3 fun j4 =>
M_threadCell (s 35 j4) a7 s  fun v5 s6 =>
zix 1152 v5 fun j7 =>
if (s6 30 j7) = 114 then (zix 8 a3 fun j8 =>
M_threadCell (s6 35 j8) a7 s6  fun v9 s10 =>
zix 1152 v9 fun j11 =>
if (s10 31 j11) = a5 then M_places_136 kr r33 r53 a3 a4 a5 a7 s10
else M_places_140 kr r33 r53 a3 a4 a5 a7 s10)
else M_places_140 kr r33 r53 a3 a4 a5 a7 s6)
else M_places_136 kr r33 r53 a3 a4 a5 a7 s)
else M_places_149 kr r33 a3 a4 a5 a6 s)
else M_places_149 kr r33 a3 a4 a5 a6 s
def M_places_53 {ρ : Type} (kr : Int → zD → Option ρ) (r33 : Int → Int → Int → zD → Option ρ) : Int → Int → Int → Int → Int → zD → Option ρ := zit (fun _ _ _ _ _ _ => none) (M_places_53b kr r33) zN
def M_places_33b {ρ : Type} (kr : Int → zD → Option ρ) (r33 : Int → Int → Int → zD → Option ρ) (a3 a4 a5 : Int) (s : zD) : Option ρ :=
if a5 < 40 then (zix 8 a3 fun j1 =>
M_places_53 kr r33 a3 a4 a5 0 (wr (4 * (s 36 j1))) s)
else kr a4 s
def M_places_33 {ρ : Type} (kr : Int → zD → Option ρ) : Int → Int → Int → zD → Option ρ := zit (fun _ _ _ _ => none) (M_places_33b kr) zN
def M_places {ρ : Type} (a1 a2 : Int) (s : zD) (kr : Int → zD → Option ρ) : Option ρ :=
zlet (zup s 0 0 0) fun s1 =>
M_noGroup a1 a2 s1  fun v2 s3 =>
M_fails v2 1 s3  fun v4 s5 =>
if v4 = 0 then M_places_33 kr (wr ((wr (4 * a1)) + a2)) 0 0 s5
else kr 0 s5
set_option maxRecDepth 100000 in
theorem qe_M_places_141 {ρ : Type} (kr : Int → zD → Option ρ) (r33 : Int → Int → Int → zD → Option ρ) (r53 : Int → Int → Int → Int → Int → zD → Option ρ) (a3 a4 a5 a7 t0 : Int) (s : zD) : M_places_141 kr r33 r53 a3 a4 a5 a7 t0 s = zseg zPP false zfinM (zcal []) (zget (999, 0, 0, 0) zc_M_places) (zcut [(33, [true, false, false, true, true, true, false, false]), (53, [true, false, false, true, true, true, true, true]), (136, [true, false, false, true, true, true, false, true]), (140, [true, false, false, true, true, true, false, true]), (141, [true, false, false, true, true, true, false, true]), (149, [true, false, false, true, true, true, true, false]), (161, [true, false, false, true, false, true, false, false])]) (zorc [(53, [some (2, some 0), none, none, some (0, none), some (0, none), some (0, none), some (0, none), some (0, none)], [], fun xs h => match xs with
  | [a3, a4, a5, a6, a7] => r53 a3 a4 a5 a6 a7 (zhd h)
  | _ => none)]) (fun v h => kr v (zhd h)) (fun _ _ => none) 400 141 [some (2, 0), none, none, some (0, a3), some (0, a4), some (0, a5), none, some (0, a7)] [(0, t0)] (zM s) := by rfl
set_option maxRecDepth 100000 in
theorem qe_M_places_136 {ρ : Type} (kr : Int → zD → Option ρ) (r33 : Int → Int → Int → zD → Option ρ) (r53 : Int → Int → Int → Int → Int → zD → Option ρ) (a3 a4 a5 a7 : Int) (s : zD) : M_places_136 kr r33 r53 a3 a4 a5 a7 s = zseg zPP false zfinM (zcal []) (zget (999, 0, 0, 0) zc_M_places) (zcut [(33, [true, false, false, true, true, true, false, false]), (53, [true, false, false, true, true, true, true, true]), (136, [true, false, false, true, true, true, false, true]), (140, [true, false, false, true, true, true, false, true]), (141, [true, false, false, true, true, true, false, true]), (149, [true, false, false, true, true, true, true, false]), (161, [true, false, false, true, false, true, false, false])]) (zorc [(141, [some (2, some 0), none, none, some (0, none), some (0, none), some (0, none), none, some (0, none)], [(0, none)], fun xs h => match xs with
  | [a3, a4, a5, a7, t0] => M_places_141 kr r33 r53 a3 a4 a5 a7 t0 (zhd h)
  | _ => none)]) (fun v h => kr v (zhd h)) (fun _ _ => none) 400 136 [some (2, 0), none, none, some (0, a3), some (0, a4), some (0, a5), none, some (0, a7)] [] (zM s) := by rfl
set_option maxRecDepth 100000 in
theorem qe_M_places_140 {ρ : Type} (kr : Int → zD → Option ρ) (r33 : Int → Int → Int → zD → Option ρ) (r53 : Int → Int → Int → Int → Int → zD → Option ρ) (a3 a4 a5 a7 : Int) (s : zD) : M_places_140 kr r33 r53 a3 a4 a5 a7 s = zseg zPP false zfinM (zcal []) (zget (999, 0, 0, 0) zc_M_places) (zcut [(33, [true, false, false, true, true, true, false, false]), (53, [true, false, false, true, true, true, true, true]), (136, [true, false, false, true, true, true, false, true]), (140, [true, false, false, true, true, true, false, true]), (141, [true, false, false, true, true, true, false, true]), (149, [true, false, false, true, true, true, true, false]), (161, [true, false, false, true, false, true, false, false])]) (zorc [(141, [some (2, some 0), none, none, some (0, none), some (0, none), some (0, none), none, some (0, none)], [(0, none)], fun xs h => match xs with
  | [a3, a4, a5, a7, t0] => M_places_141 kr r33 r53 a3 a4 a5 a7 t0 (zhd h)
  | _ => none)]) (fun v h => kr v (zhd h)) (fun _ _ => none) 400 140 [some (2, 0), none, none, some (0, a3), some (0, a4), some (0, a5), none, some (0, a7)] [] (zM s) := by rfl
set_option maxRecDepth 100000 in
theorem qe_M_places_161 {ρ : Type} (kr : Int → zD → Option ρ) (r33 : Int → Int → Int → zD → Option ρ) (a3 a5 t0 t1 : Int) (s : zD) : M_places_161 kr r33 a3 a5 t0 t1 s = zseg zPP false zfinM (zcal []) (zget (999, 0, 0, 0) zc_M_places) (zcut [(33, [true, false, false, true, true, true, false, false]), (53, [true, false, false, true, true, true, true, true]), (136, [true, false, false, true, true, true, false, true]), (140, [true, false, false, true, true, true, false, true]), (141, [true, false, false, true, true, true, false, true]), (149, [true, false, false, true, true, true, true, false]), (161, [true, false, false, true, false, true, false, false])]) (zorc [(33, [some (2, some 0), none, none, some (0, none), some (0, none), some (0, none), none, none], [], fun xs h => match xs with
  | [a3, a4, a5] => r33 a3 a4 a5 (zhd h)
  | _ => none)]) (fun v h => kr v (zhd h)) (fun _ _ => none) 400 161 [some (2, 0), none, none, some (0, a3), none, some (0, a5), none, none] [(0, t0), (0, t1)] (zM s) := by rfl
set_option maxRecDepth 100000 in
theorem qe_M_places_149 {ρ : Type} (kr : Int → zD → Option ρ) (r33 : Int → Int → Int → zD → Option ρ) (a3 a4 a5 a6 : Int) (s : zD) : M_places_149 kr r33 a3 a4 a5 a6 s = zseg zPP false zfinM (zcal []) (zget (999, 0, 0, 0) zc_M_places) (zcut [(33, [true, false, false, true, true, true, false, false]), (53, [true, false, false, true, true, true, true, true]), (136, [true, false, false, true, true, true, false, true]), (140, [true, false, false, true, true, true, false, true]), (141, [true, false, false, true, true, true, false, true]), (149, [true, false, false, true, true, true, true, false]), (161, [true, false, false, true, false, true, false, false])]) (zorc [(161, [some (2, some 0), none, none, some (0, none), none, some (0, none), none, none], [(0, none), (0, none)], fun xs h => match xs with
  | [a3, a5, t0, t1] => M_places_161 kr r33 a3 a5 t0 t1 (zhd h)
  | _ => none)]) (fun v h => kr v (zhd h)) (fun _ _ => none) 400 149 [some (2, 0), none, none, some (0, a3), some (0, a4), some (0, a5), some (0, a6), none] [] (zM s) := by rfl
set_option maxRecDepth 100000 in
theorem qe_M_places_53b {ρ : Type} (kr : Int → zD → Option ρ) (r33 : Int → Int → Int → zD → Option ρ) (r53 : Int → Int → Int → Int → Int → zD → Option ρ) (a3 a4 a5 a6 a7 : Int) (s : zD) : M_places_53b kr r33 r53 a3 a4 a5 a6 a7 s = zseg zPP false zfinM (zcal [(86, [some 0, none, none], fun xs h kr kt => match xs with
  | [x0, x1] => M_threadCell x0 x1 (zhd h) (fun v s => kr v (zM s))
  | _ => none)]) (zget (999, 0, 0, 0) zc_M_places) (zcut [(33, [true, false, false, true, true, true, false, false]), (53, [true, false, false, true, true, true, true, true]), (136, [true, false, false, true, true, true, false, true]), (140, [true, false, false, true, true, true, false, true]), (141, [true, false, false, true, true, true, false, true]), (149, [true, false, false, true, true, true, true, false]), (161, [true, false, false, true, false, true, false, false])]) (zorc [(136, [some (2, some 0), none, none, some (0, none), some (0, none), some (0, none), none, some (0, none)], [], fun xs h => match xs with
  | [a3, a4, a5, a7] => M_places_136 kr r33 r53 a3 a4 a5 a7 (zhd h)
  | _ => none), (140, [some (2, some 0), none, none, some (0, none), some (0, none), some (0, none), none, some (0, none)], [], fun xs h => match xs with
  | [a3, a4, a5, a7] => M_places_140 kr r33 r53 a3 a4 a5 a7 (zhd h)
  | _ => none), (149, [some (2, some 0), none, none, some (0, none), some (0, none), some (0, none), some (0, none), none], [], fun xs h => match xs with
  | [a3, a4, a5, a6] => M_places_149 kr r33 a3 a4 a5 a6 (zhd h)
  | _ => none)]) (fun v h => kr v (zhd h)) (fun _ _ => none) 400 53 [some (2, 0), none, none, some (0, a3), some (0, a4), some (0, a5), some (0, a6), some (0, a7)] [] (zM s) := by rfl
set_option maxRecDepth 100000 in
theorem qe_M_places_33b {ρ : Type} (kr : Int → zD → Option ρ) (r33 : Int → Int → Int → zD → Option ρ) (a3 a4 a5 : Int) (s : zD) : M_places_33b kr r33 a3 a4 a5 s = zseg zPP false zfinM (zcal []) (zget (999, 0, 0, 0) zc_M_places) (zcut [(33, [true, false, false, true, true, true, false, false]), (53, [true, false, false, true, true, true, true, true]), (136, [true, false, false, true, true, true, false, true]), (140, [true, false, false, true, true, true, false, true]), (141, [true, false, false, true, true, true, false, true]), (149, [true, false, false, true, true, true, true, false]), (161, [true, false, false, true, false, true, false, false])]) (zorc [(53, [some (2, some 0), none, none, some (0, none), some (0, none), some (0, none), some (0, none), some (0, none)], [], fun xs h => match xs with
  | [a3, a4, a5, a6, a7] => M_places_53 kr r33 a3 a4 a5 a6 a7 (zhd h)
  | _ => none)]) (fun v h => kr v (zhd h)) (fun _ _ => none) 400 33 [some (2, 0), none, none, some (0, a3), some (0, a4), some (0, a5), none, none] [] (zM s) := by rfl
set_option maxRecDepth 100000 in
theorem qe_M_places {ρ : Type} (kr : Int → zD → Option ρ) (a1 a2 : Int) (s : zD) : M_places a1 a2 s kr = zseg zPP false zfinM (zcal [(58, [some 0, none, none], fun xs h kr kt => match xs with
  | [x0, x1] => M_fails x0 x1 (zhd h) (fun v s => kr v (zM s))
  | _ => none), (136, [some 0, none, none], fun xs h kr kt => match xs with
  | [x0, x1] => M_noGroup x0 x1 (zhd h) (fun v s => kr v (zM s))
  | _ => none)]) (zget (999, 0, 0, 0) zc_M_places) (zcut [(33, [true, false, false, true, true, true, false, false]), (53, [true, false, false, true, true, true, true, true]), (136, [true, false, false, true, true, true, false, true]), (140, [true, false, false, true, true, true, false, true]), (141, [true, false, false, true, true, true, false, true]), (149, [true, false, false, true, true, true, true, false]), (161, [true, false, false, true, false, true, false, false])]) (zorc [(33, [some (2, some 0), none, none, some (0, none), some (0, none), some (0, none), none, none], [], fun xs h => match xs with
  | [a3, a4, a5] => M_places_33 kr a3 a4 a5 (zhd h)
  | _ => none)]) (fun v h => kr v (zhd h)) (fun _ _ => none) 400 0 [some (2, 0), some (0, a1), some (0, a2), none, none, none, none, none] [] (zM s) := by rfl
def zc_M_reason : List zI := [(14, 0, 0, 0), (0, 0, 0, 0), (82, 12, 185, 0), (999, 0, 0, 0), (999, 0, 0, 0), (14, 0, 0, 0), (14, 0, 0, 0), (10, 0, 1, 0), (10, 0, 2, 0), (110, 0, 453, 136), (999, 0, 0, 0), (999, 0, 0, 0), (0, 1, 0, 0), (110, 0, 199, 58), (999, 0, 0, 0), (999, 0, 0, 0), (60, 5, 21, 0), (999, 0, 0, 0), (999, 0, 0, 0), (0, 0, 0, 0), (130, 0, 2, 0), (0, 4, 0, 0), (10, 0, 1, 0), (32, 0, 0, 0), (10, 0, 2, 0), (30, 0, 0, 0), (16, 0, 3, 0), (14, 0, 0, 0), (10, 0, 3, 0), (110, 0, 278, 96), (999, 0, 0, 0), (999, 0, 0, 0), (0, (-1), 0, 0), (67, 19, 52, 0), (999, 0, 0, 0), (999, 0, 0, 0), (14, 0, 0, 0), (10, 0, 3, 0), (110, 0, 266, 89), (999, 0, 0, 0), (999, 0, 0, 0), (60, 8, 49, 0), (999, 0, 0, 0), (999, 0, 0, 0), (1, 101, 0, 0), (999, 0, 0, 0), (72, 5, 51, 0), (999, 0, 0, 0), (999, 0, 0, 0), (1, 98, 0, 0), (999, 0, 0, 0), (130, 0, 2, 0), (14, 0, 0, 0), (80, 12, 124, 41), (999, 0, 0, 0), (999, 0, 0, 0), (10, 0, 3, 0), (90, 0, 0, 0), (14, 0, 0, 0), (80, 12, 390, 1), (999, 0, 0, 0), (999, 0, 0, 0), (71, 8, 70, 0), (999, 0, 0, 0), (999, 0, 0, 0), (1, 100, 0, 0), (999, 0, 0, 0), (72, 5, 72, 0), (999, 0, 0, 0), (999, 0, 0, 0), (1, 45, 0, 0), (999, 0, 0, 0), (130, 0, 2, 0)]
def M_reason_51 {ρ : Type} (kr : Int → zD → Option ρ) (t0 : Int) (s : zD) : Option ρ :=
znar 2 t0 fun x1 => kr x1 s
def M_reason_72 {ρ : Type} (kr : Int → zD → Option ρ) (t0 : Int) (s : zD) : Option ρ :=
znar 2 t0 fun x1 => kr x1 s
def M_reason {ρ : Type} (a1 a2 : Int) (s : zD) (kr : Int → zD → Option ρ) : Option ρ :=
zlet (zup s 0 0 0) fun s1 =>
M_noGroup a1 a2 s1  fun v2 s3 =>
M_fails v2 1 s3  fun v4 s5 =>
if v4 = 0 then (M_placeOf (wr ((wr (4 * a1)) + a2)) s5  fun v6 s7 =>
if v6 = (-1) then (M_hasEnded (wr ((wr (4 * a1)) + a2)) s7  fun v9 s10 =>
if v9 = 0 then M_reason_51 kr 98 s10
else M_reason_51 kr 101 s10)
else zix 8 (wr ((wr (4 * a1)) + a2)) fun j8 =>
if (s7 0 1) < (s7 37 j8) then M_reason_72 kr 100 s7
else M_reason_72 kr 45 s7)
else kr 0 s5
set_option maxRecDepth 100000 in
theorem qe_M_reason_51 {ρ : Type} (kr : Int → zD → Option ρ) (t0 : Int) (s : zD) : M_reason_51 kr t0 s = zseg zPP false zfinM (zcal []) (zget (999, 0, 0, 0) zc_M_reason) (zcut [(51, [false, false, false, false]), (72, [false, false, false, false])]) (zorc []) (fun v h => kr v (zhd h)) (fun _ _ => none) 400 51 [none, none, none, none] [(0, t0)] (zM s) := by rfl
set_option maxRecDepth 100000 in
theorem qe_M_reason_72 {ρ : Type} (kr : Int → zD → Option ρ) (t0 : Int) (s : zD) : M_reason_72 kr t0 s = zseg zPP false zfinM (zcal []) (zget (999, 0, 0, 0) zc_M_reason) (zcut [(51, [false, false, false, false]), (72, [false, false, false, false])]) (zorc []) (fun v h => kr v (zhd h)) (fun _ _ => none) 400 72 [none, none, none, none] [(0, t0)] (zM s) := by rfl
set_option maxRecDepth 100000 in
theorem qe_M_reason {ρ : Type} (kr : Int → zD → Option ρ) (a1 a2 : Int) (s : zD) : M_reason a1 a2 s kr = zseg zPP false zfinM (zcal [(58, [some 0, none, none], fun xs h kr kt => match xs with
  | [x0, x1] => M_fails x0 x1 (zhd h) (fun v s => kr v (zM s))
  | _ => none), (89, [some 0, none], fun xs h kr kt => match xs with
  | [x0] => M_hasEnded x0 (zhd h) (fun v s => kr v (zM s))
  | _ => none), (96, [some 0, none], fun xs h kr kt => match xs with
  | [x0] => M_placeOf x0 (zhd h) (fun v s => kr v (zM s))
  | _ => none), (136, [some 0, none, none], fun xs h kr kt => match xs with
  | [x0, x1] => M_noGroup x0 x1 (zhd h) (fun v s => kr v (zM s))
  | _ => none)]) (zget (999, 0, 0, 0) zc_M_reason) (zcut [(51, [false, false, false, false]), (72, [false, false, false, false])]) (zorc [(51, [none, none, none, none], [(0, none)], fun xs h => match xs with
  | [t0] => M_reason_51 kr t0 (zhd h)
  | _ => none), (72, [none, none, none, none], [(0, none)], fun xs h => match xs with
  | [t0] => M_reason_72 kr t0 (zhd h)
  | _ => none)]) (fun v h => kr v (zhd h)) (fun _ _ => none) 400 0 [some (2, 0), some (0, a1), some (0, a2), none] [] (zM s) := by rfl
def zc_M_register : List zI := [(14, 0, 0, 0), (0, 0, 0, 0), (82, 12, 185, 0), (999, 0, 0, 0), (999, 0, 0, 0), (14, 0, 0, 0), (14, 0, 0, 0), (10, 0, 1, 0), (10, 0, 2, 0), (110, 0, 453, 136), (999, 0, 0, 0), (999, 0, 0, 0), (0, 1, 0, 0), (110, 0, 199, 58), (999, 0, 0, 0), (999, 0, 0, 0), (60, 5, 21, 0), (999, 0, 0, 0), (999, 0, 0, 0), (0, 0, 0, 0), (130, 0, 0, 0), (0, 4, 0, 0), (10, 0, 1, 0), (32, 0, 0, 0), (10, 0, 2, 0), (30, 0, 0, 0), (17, 0, 5, 0), (999, 0, 0, 0), (14, 0, 0, 0), (80, 12, 118, 39), (999, 0, 0, 0), (999, 0, 0, 0), (11, 0, 5, 0), (999, 0, 0, 0), (90, 0, 0, 0), (1, 6, 0, 0), (999, 0, 0, 0), (33, 0, 0, 0), (17, 0, 6, 0), (999, 0, 0, 0), (10, 0, 3, 0), (0, 0, 0, 0), (0, 3, 0, 0), (113, 0, 192, 57), (999, 0, 0, 0), (999, 0, 0, 0), (60, 47, 93, 0), (999, 0, 0, 0), (999, 0, 0, 0), (0, 4, 0, 0), (14, 0, 0, 0), (80, 12, 121, 40), (999, 0, 0, 0), (999, 0, 0, 0), (11, 0, 5, 0), (999, 0, 0, 0), (90, 0, 0, 0), (32, 0, 0, 0), (10, 0, 3, 0), (30, 0, 0, 0), (14, 0, 0, 0), (80, 12, 55, 18), (999, 0, 0, 0), (999, 0, 0, 0), (11, 0, 6, 0), (999, 0, 0, 0), (90, 0, 0, 0), (69, 26, 93, 0), (999, 0, 0, 0), (999, 0, 0, 0), (11, 0, 4, 0), (999, 0, 0, 0), (0, 0, 0, 0), (14, 0, 0, 0), (80, 12, 17, 5), (999, 0, 0, 0), (999, 0, 0, 0), (14, 0, 0, 0), (80, 12, 46, 15), (999, 0, 0, 0), (999, 0, 0, 0), (11, 0, 6, 0), (999, 0, 0, 0), (90, 0, 0, 0), (90, 0, 0, 0), (0, 1, 0, 0), (31, 0, 0, 0), (113, 0, 192, 57), (999, 0, 0, 0), (999, 0, 0, 0), (61, 7, 97, 0), (999, 0, 0, 0), (999, 0, 0, 0), (0, 1, 0, 0), (72, 4, 98, 0), (999, 0, 0, 0), (999, 0, 0, 0), (0, 0, 0, 0), (17, 0, 7, 0), (999, 0, 0, 0), (14, 0, 0, 0), (11, 0, 7, 0), (999, 0, 0, 0), (0, 1, 0, 0), (110, 0, 199, 58), (999, 0, 0, 0), (999, 0, 0, 0), (60, 7, 114, 0), (999, 0, 0, 0), (999, 0, 0, 0), (0, 0, 0, 0), (72, 17, 128, 0), (999, 0, 0, 0), (999, 0, 0, 0), (14, 0, 0, 0), (80, 12, 109, 36), (999, 0, 0, 0), (999, 0, 0, 0), (14, 0, 0, 0), (11, 0, 5, 0), (999, 0, 0, 0), (10, 0, 3, 0), (11, 0, 4, 0), (999, 0, 0, 0), (110, 0, 281, 98), (999, 0, 0, 0), (999, 0, 0, 0), (90, 0, 0, 0), (130, 0, 0, 0)]
def M_register_128 {ρ : Type} (kr : Int → zD → Option ρ) (t0 : Int) (s : zD) : Option ρ :=
kr t0 s
def M_register_98 {ρ : Type} (kr : Int → zD → Option ρ) (a3 a4 a5 t0 : Int) (s : zD) : Option ρ :=
M_fails t0 1 s  fun v1 s2 =>
if v1 = 0 then (M_registerCell a5 a3 a4 s2  fun v3 s4 =>
zix 9216 v3 fun j5 =>
M_register_128 kr (s4 32 j5) s4)
else M_register_128 kr 0 s2
def M_register_93 {ρ : Type} (kr : Int → zD → Option ρ) (a3 a4 a5 : Int) (s : zD) : Option ρ :=
M_register_98 kr a3 a4 a5 1 s
def M_register {ρ : Type} (a1 a2 a3 a4 : Int) (s : zD) (kr : Int → zD → Option ρ) : Option ρ :=
zlet (zup s 0 0 0) fun s1 =>
M_noGroup a1 a2 s1  fun v2 s3 =>
M_fails v2 1 s3  fun v4 s5 =>
if v4 = 0 then (zix 8 (wr ((wr (4 * a1)) + a2)) fun j6 =>
M_in a3 0 3 s5  fun v7 s8 =>
if v7 = 0 then M_register_93 kr a3 a4 (wr ((wr (4 * a1)) + a2)) s8
else zix 8 (wr ((wr (4 * a1)) + a2)) fun j9 =>
zix 12 (wr (Int.tdiv (s5 35 j6) 6)) fun j10 =>
if (wr ((wr (4 * (s8 36 j9))) + a3)) < (s8 14 j10) then (zix 12 (wr (Int.tdiv (s5 35 j6) 6)) fun j11 =>
zix 4 (s8 11 j11) fun j12 =>
M_in a4 0 (wr ((s8 2 j12) - 1)) s8  fun v13 s14 =>
if v13 = 0 then M_register_93 kr a3 a4 (wr ((wr (4 * a1)) + a2)) s14
else M_register_98 kr a3 a4 (wr ((wr (4 * a1)) + a2)) 0 s14)
else M_register_93 kr a3 a4 (wr ((wr (4 * a1)) + a2)) s8)
else kr 0 s5
set_option maxRecDepth 100000 in
theorem qe_M_register_128 {ρ : Type} (kr : Int → zD → Option ρ) (t0 : Int) (s : zD) : M_register_128 kr t0 s = zseg zPP false zfinM (zcal []) (zget (999, 0, 0, 0) zc_M_register) (zcut [(93, [true, false, false, true, true, true, false, false]), (98, [true, false, false, true, true, true, false, false]), (128, [false, false, false, false, false, false, false, false])]) (zorc []) (fun v h => kr v (zhd h)) (fun _ _ => none) 400 128 [none, none, none, none, none, none, none, none] [(0, t0)] (zM s) := by rfl
set_option maxRecDepth 100000 in
theorem qe_M_register_98 {ρ : Type} (kr : Int → zD → Option ρ) (a3 a4 a5 t0 : Int) (s : zD) : M_register_98 kr a3 a4 a5 t0 s = zseg zPP false zfinM (zcal [(58, [some 0, none, none], fun xs h kr kt => match xs with
  | [x0, x1] => M_fails x0 x1 (zhd h) (fun v s => kr v (zM s))
  | _ => none), (98, [some 0, none, none, none], fun xs h kr kt => match xs with
  | [x0, x1, x2] => M_registerCell x0 x1 x2 (zhd h) (fun v s => kr v (zM s))
  | _ => none)]) (zget (999, 0, 0, 0) zc_M_register) (zcut [(93, [true, false, false, true, true, true, false, false]), (98, [true, false, false, true, true, true, false, false]), (128, [false, false, false, false, false, false, false, false])]) (zorc [(128, [none, none, none, none, none, none, none, none], [(0, none)], fun xs h => match xs with
  | [t0] => M_register_128 kr t0 (zhd h)
  | _ => none)]) (fun v h => kr v (zhd h)) (fun _ _ => none) 400 98 [some (2, 0), none, none, some (0, a3), some (0, a4), some (0, a5), none, none] [(0, t0)] (zM s) := by rfl
set_option maxRecDepth 100000 in
theorem qe_M_register_93 {ρ : Type} (kr : Int → zD → Option ρ) (a3 a4 a5 : Int) (s : zD) : M_register_93 kr a3 a4 a5 s = zseg zPP false zfinM (zcal []) (zget (999, 0, 0, 0) zc_M_register) (zcut [(93, [true, false, false, true, true, true, false, false]), (98, [true, false, false, true, true, true, false, false]), (128, [false, false, false, false, false, false, false, false])]) (zorc [(98, [some (2, some 0), none, none, some (0, none), some (0, none), some (0, none), none, none], [(0, none)], fun xs h => match xs with
  | [a3, a4, a5, t0] => M_register_98 kr a3 a4 a5 t0 (zhd h)
  | _ => none)]) (fun v h => kr v (zhd h)) (fun _ _ => none) 400 93 [some (2, 0), none, none, some (0, a3), some (0, a4), some (0, a5), none, none] [] (zM s) := by rfl
set_option maxRecDepth 100000 in
theorem qe_M_register {ρ : Type} (kr : Int → zD → Option ρ) (a1 a2 a3 a4 : Int) (s : zD) : M_register a1 a2 a3 a4 s kr = zseg zPP false zfinM (zcal [(57, [none, none, none], fun xs h kr kt => match xs with
  | [x0, x1, x2] => M_in x0 x1 x2 (zhd h) (fun v s => kr v (zM s))
  | _ => none), (58, [some 0, none, none], fun xs h kr kt => match xs with
  | [x0, x1] => M_fails x0 x1 (zhd h) (fun v s => kr v (zM s))
  | _ => none), (136, [some 0, none, none], fun xs h kr kt => match xs with
  | [x0, x1] => M_noGroup x0 x1 (zhd h) (fun v s => kr v (zM s))
  | _ => none)]) (zget (999, 0, 0, 0) zc_M_register) (zcut [(93, [true, false, false, true, true, true, false, false]), (98, [true, false, false, true, true, true, false, false]), (128, [false, false, false, false, false, false, false, false])]) (zorc [(93, [some (2, some 0), none, none, some (0, none), some (0, none), some (0, none), none, none], [], fun xs h => match xs with
  | [a3, a4, a5] => M_register_93 kr a3 a4 a5 (zhd h)
  | _ => none), (98, [some (2, some 0), none, none, some (0, none), some (0, none), some (0, none), none, none], [(0, none)], fun xs h => match xs with
  | [a3, a4, a5, t0] => M_register_98 kr a3 a4 a5 t0 (zhd h)
  | _ => none)]) (fun v h => kr v (zhd h)) (fun _ _ => none) 400 0 [some (2, 0), some (0, a1), some (0, a2), some (0, a3), some (0, a4), none, none, none] [] (zM s) := by rfl
def zc_M_shared : List zI := [(14, 0, 0, 0), (0, 0, 0, 0), (82, 12, 185, 0), (999, 0, 0, 0), (999, 0, 0, 0), (14, 0, 0, 0), (14, 0, 0, 0), (10, 0, 1, 0), (10, 0, 2, 0), (110, 0, 453, 136), (999, 0, 0, 0), (999, 0, 0, 0), (0, 1, 0, 0), (110, 0, 199, 58), (999, 0, 0, 0), (999, 0, 0, 0), (60, 5, 21, 0), (999, 0, 0, 0), (999, 0, 0, 0), (0, 0, 0, 0), (130, 0, 0, 0), (14, 0, 0, 0), (80, 12, 118, 39), (999, 0, 0, 0), (999, 0, 0, 0), (0, 4, 0, 0), (10, 0, 1, 0), (32, 0, 0, 0), (10, 0, 2, 0), (30, 0, 0, 0), (90, 0, 0, 0), (17, 0, 4, 0), (999, 0, 0, 0), (14, 0, 0, 0), (10, 0, 3, 0), (0, 0, 0, 0), (14, 0, 0, 0), (80, 12, 20, 6), (999, 0, 0, 0), (999, 0, 0, 0), (14, 0, 0, 0), (80, 12, 46, 15), (999, 0, 0, 0), (999, 0, 0, 0), (11, 0, 4, 0), (999, 0, 0, 0), (1, 6, 0, 0), (999, 0, 0, 0), (33, 0, 0, 0), (90, 0, 0, 0), (90, 0, 0, 0), (0, 1, 0, 0), (31, 0, 0, 0), (113, 0, 192, 57), (999, 0, 0, 0), (999, 0, 0, 0), (61, 7, 63, 0), (999, 0, 0, 0), (999, 0, 0, 0), (0, 1, 0, 0), (72, 4, 64, 0), (999, 0, 0, 0), (999, 0, 0, 0), (0, 0, 0, 0), (0, 1, 0, 0), (110, 0, 199, 58), (999, 0, 0, 0), (999, 0, 0, 0), (60, 7, 75, 0), (999, 0, 0, 0), (999, 0, 0, 0), (0, 0, 0, 0), (72, 15, 87, 0), (999, 0, 0, 0), (999, 0, 0, 0), (14, 0, 0, 0), (80, 12, 112, 37), (999, 0, 0, 0), (999, 0, 0, 0), (1, 16, 0, 0), (999, 0, 0, 0), (11, 0, 4, 0), (999, 0, 0, 0), (32, 0, 0, 0), (10, 0, 3, 0), (30, 0, 0, 0), (90, 0, 0, 0), (130, 0, 0, 0)]
def M_shared_87 {ρ : Type} (kr : Int → zD → Option ρ) (t0 : Int) (s : zD) : Option ρ :=
kr t0 s
def M_shared_64 {ρ : Type} (kr : Int → zD → Option ρ) (a3 a4 t0 : Int) (s : zD) : Option ρ :=
M_fails t0 1 s  fun v1 s2 =>
if v1 = 0 then (zix 1152 (wr ((wr (16 * a4)) + a3)) fun j3 =>
M_shared_87 kr (s2 33 j3) s2)
else M_shared_87 kr 0 s2
def M_shared {ρ : Type} (a1 a2 a3 : Int) (s : zD) (kr : Int → zD → Option ρ) : Option ρ :=
zlet (zup s 0 0 0) fun s1 =>
M_noGroup a1 a2 s1  fun v2 s3 =>
M_fails v2 1 s3  fun v4 s5 =>
if v4 = 0 then (zix 8 (wr ((wr (4 * a1)) + a2)) fun j6 =>
zix 12 (wr (Int.tdiv (s5 35 j6) 6)) fun j7 =>
zix 4 (s5 11 j7) fun j8 =>
M_in a3 0 (wr ((s5 3 j8) - 1)) s5  fun v9 s10 =>
if v9 = 0 then M_shared_64 kr a3 (s5 35 j6) 1 s10
else M_shared_64 kr a3 (s5 35 j6) 0 s10)
else kr 0 s5
set_option maxRecDepth 100000 in
theorem qe_M_shared_87 {ρ : Type} (kr : Int → zD → Option ρ) (t0 : Int) (s : zD) : M_shared_87 kr t0 s = zseg zPP false zfinM (zcal []) (zget (999, 0, 0, 0) zc_M_shared) (zcut [(64, [true, false, false, true, true]), (87, [false, false, false, false, false])]) (zorc []) (fun v h => kr v (zhd h)) (fun _ _ => none) 400 87 [none, none, none, none, none] [(0, t0)] (zM s) := by rfl
set_option maxRecDepth 100000 in
theorem qe_M_shared_64 {ρ : Type} (kr : Int → zD → Option ρ) (a3 a4 t0 : Int) (s : zD) : M_shared_64 kr a3 a4 t0 s = zseg zPP false zfinM (zcal [(58, [some 0, none, none], fun xs h kr kt => match xs with
  | [x0, x1] => M_fails x0 x1 (zhd h) (fun v s => kr v (zM s))
  | _ => none)]) (zget (999, 0, 0, 0) zc_M_shared) (zcut [(64, [true, false, false, true, true]), (87, [false, false, false, false, false])]) (zorc [(87, [none, none, none, none, none], [(0, none)], fun xs h => match xs with
  | [t0] => M_shared_87 kr t0 (zhd h)
  | _ => none)]) (fun v h => kr v (zhd h)) (fun _ _ => none) 400 64 [some (2, 0), none, none, some (0, a3), some (0, a4)] [(0, t0), (2, 0)] (zM s) := by rfl
set_option maxRecDepth 100000 in
theorem qe_M_shared {ρ : Type} (kr : Int → zD → Option ρ) (a1 a2 a3 : Int) (s : zD) : M_shared a1 a2 a3 s kr = zseg zPP false zfinM (zcal [(57, [none, none, none], fun xs h kr kt => match xs with
  | [x0, x1, x2] => M_in x0 x1 x2 (zhd h) (fun v s => kr v (zM s))
  | _ => none), (58, [some 0, none, none], fun xs h kr kt => match xs with
  | [x0, x1] => M_fails x0 x1 (zhd h) (fun v s => kr v (zM s))
  | _ => none), (136, [some 0, none, none], fun xs h kr kt => match xs with
  | [x0, x1] => M_noGroup x0 x1 (zhd h) (fun v s => kr v (zM s))
  | _ => none)]) (zget (999, 0, 0, 0) zc_M_shared) (zcut [(64, [true, false, false, true, true]), (87, [false, false, false, false, false])]) (zorc [(64, [some (2, some 0), none, none, some (0, none), some (0, none)], [(0, none), (2, some 0)], fun xs h => match xs with
  | [a3, a4, t0] => M_shared_64 kr a3 a4 t0 (zhd h)
  | _ => none)]) (fun v h => kr v (zhd h)) (fun _ _ => none) 400 0 [some (2, 0), some (0, a1), some (0, a2), some (0, a3), none] [] (zM s) := by rfl
def zc_M_buffered : List zI := [(14, 0, 0, 0), (0, 0, 0, 0), (82, 12, 185, 0), (999, 0, 0, 0), (999, 0, 0, 0), (14, 0, 0, 0), (14, 0, 0, 0), (10, 0, 1, 0), (10, 0, 2, 0), (110, 0, 453, 136), (999, 0, 0, 0), (999, 0, 0, 0), (0, 1, 0, 0), (110, 0, 199, 58), (999, 0, 0, 0), (999, 0, 0, 0), (60, 7, 23, 0), (999, 0, 0, 0), (999, 0, 0, 0), (0, 0, 0, 0), (72, 13, 33, 0), (999, 0, 0, 0), (999, 0, 0, 0), (14, 0, 0, 0), (80, 12, 127, 42), (999, 0, 0, 0), (999, 0, 0, 0), (0, 4, 0, 0), (10, 0, 1, 0), (32, 0, 0, 0), (10, 0, 2, 0), (30, 0, 0, 0), (90, 0, 0, 0), (130, 0, 0, 0)]
def M_buffered_33 {ρ : Type} (kr : Int → zD → Option ρ) (t0 : Int) (s : zD) : Option ρ :=
kr t0 s
def M_buffered {ρ : Type} (a1 a2 : Int) (s : zD) (kr : Int → zD → Option ρ) : Option ρ :=
zlet (zup s 0 0 0) fun s1 =>
M_noGroup a1 a2 s1  fun v2 s3 =>
M_fails v2 1 s3  fun v4 s5 =>
if v4 = 0 then (zix 8 (wr ((wr (4 * a1)) + a2)) fun j6 =>
M_buffered_33 kr (s5 38 j6) s5)
else M_buffered_33 kr 0 s5
set_option maxRecDepth 100000 in
theorem qe_M_buffered_33 {ρ : Type} (kr : Int → zD → Option ρ) (t0 : Int) (s : zD) : M_buffered_33 kr t0 s = zseg zPP false zfinM (zcal []) (zget (999, 0, 0, 0) zc_M_buffered) (zcut [(33, [false, false, false])]) (zorc []) (fun v h => kr v (zhd h)) (fun _ _ => none) 400 33 [none, none, none] [(0, t0)] (zM s) := by rfl
set_option maxRecDepth 100000 in
theorem qe_M_buffered {ρ : Type} (kr : Int → zD → Option ρ) (a1 a2 : Int) (s : zD) : M_buffered a1 a2 s kr = zseg zPP false zfinM (zcal [(58, [some 0, none, none], fun xs h kr kt => match xs with
  | [x0, x1] => M_fails x0 x1 (zhd h) (fun v s => kr v (zM s))
  | _ => none), (136, [some 0, none, none], fun xs h kr kt => match xs with
  | [x0, x1] => M_noGroup x0 x1 (zhd h) (fun v s => kr v (zM s))
  | _ => none)]) (zget (999, 0, 0, 0) zc_M_buffered) (zcut [(33, [false, false, false])]) (zorc [(33, [none, none, none], [(0, none)], fun xs h => match xs with
  | [t0] => M_buffered_33 kr t0 (zhd h)
  | _ => none)]) (fun v h => kr v (zhd h)) (fun _ _ => none) 400 0 [some (2, 0), some (0, a1), some (0, a2)] [] (zM s) := by rfl
def zc_M_fault : List zI := [(14, 0, 0, 0), (0, 0, 0, 0), (82, 12, 185, 0), (999, 0, 0, 0), (999, 0, 0, 0), (14, 0, 0, 0), (14, 0, 0, 0), (10, 0, 1, 0), (110, 0, 228, 60), (999, 0, 0, 0), (999, 0, 0, 0), (0, 1, 0, 0), (110, 0, 199, 58), (999, 0, 0, 0), (999, 0, 0, 0), (61, 27, 42, 0), (999, 0, 0, 0), (999, 0, 0, 0), (14, 0, 0, 0), (14, 0, 0, 0), (80, 12, 43, 14), (999, 0, 0, 0), (999, 0, 0, 0), (10, 0, 1, 0), (92, 0, 0, 0), (1, 102, 0, 0), (999, 0, 0, 0), (66, 7, 34, 0), (999, 0, 0, 0), (999, 0, 0, 0), (0, 1, 0, 0), (72, 4, 35, 0), (999, 0, 0, 0), (999, 0, 0, 0), (0, 0, 0, 0), (0, 2, 0, 0), (110, 0, 199, 58), (999, 0, 0, 0), (999, 0, 0, 0), (60, 7, 46, 0), (999, 0, 0, 0), (999, 0, 0, 0), (0, 0, 0, 0), (72, 9, 52, 0), (999, 0, 0, 0), (999, 0, 0, 0), (14, 0, 0, 0), (80, 12, 88, 29), (999, 0, 0, 0), (999, 0, 0, 0), (10, 0, 1, 0), (92, 0, 0, 0), (130, 0, 2, 0)]
def M_fault_52 {ρ : Type} (kr : Int → zD → Option ρ) (t0 : Int) (s : zD) : Option ρ :=
znar 2 t0 fun x1 => kr x1 s
def M_fault_42 {ρ : Type} (kr : Int → zD → Option ρ) (s : zD) : Option ρ :=
M_fault_52 kr 0 s
def M_fault_35 {ρ : Type} (kr : Int → zD → Option ρ) (a1 t0 : Int) (s : zD) : Option ρ :=
M_fails t0 2 s  fun v1 s2 =>
if v1 = 0 then (zix 12 a1 fun j3 =>
M_fault_52 kr (s2 25 j3) s2)
else M_fault_42 kr s2
def M_fault {ρ : Type} (a1 : Int) (s : zD) (kr : Int → zD → Option ρ) : Option ρ :=
zlet (zup s 0 0 0) fun s1 =>
M_noLaunch a1 s1  fun v2 s3 =>
M_fails v2 1 s3  fun v4 s5 =>
if v4 = 0 then (zix 12 a1 fun j6 =>
if (s5 10 j6) = 102 then M_fault_35 kr a1 0 s5
else M_fault_35 kr a1 1 s5)
else M_fault_42 kr s5
set_option maxRecDepth 100000 in
theorem qe_M_fault_52 {ρ : Type} (kr : Int → zD → Option ρ) (t0 : Int) (s : zD) : M_fault_52 kr t0 s = zseg zPP false zfinM (zcal []) (zget (999, 0, 0, 0) zc_M_fault) (zcut [(35, [true, true]), (42, [false, false]), (52, [false, false])]) (zorc []) (fun v h => kr v (zhd h)) (fun _ _ => none) 400 52 [none, none] [(0, t0)] (zM s) := by rfl
set_option maxRecDepth 100000 in
theorem qe_M_fault_42 {ρ : Type} (kr : Int → zD → Option ρ) (s : zD) : M_fault_42 kr s = zseg zPP false zfinM (zcal []) (zget (999, 0, 0, 0) zc_M_fault) (zcut [(35, [true, true]), (42, [false, false]), (52, [false, false])]) (zorc [(52, [none, none], [(0, none)], fun xs h => match xs with
  | [t0] => M_fault_52 kr t0 (zhd h)
  | _ => none)]) (fun v h => kr v (zhd h)) (fun _ _ => none) 400 42 [none, none] [] (zM s) := by rfl
set_option maxRecDepth 100000 in
theorem qe_M_fault_35 {ρ : Type} (kr : Int → zD → Option ρ) (a1 t0 : Int) (s : zD) : M_fault_35 kr a1 t0 s = zseg zPP false zfinM (zcal [(58, [some 0, none, none], fun xs h kr kt => match xs with
  | [x0, x1] => M_fails x0 x1 (zhd h) (fun v s => kr v (zM s))
  | _ => none)]) (zget (999, 0, 0, 0) zc_M_fault) (zcut [(35, [true, true]), (42, [false, false]), (52, [false, false])]) (zorc [(42, [none, none], [], fun xs h => match xs with
  | [] => M_fault_42 kr  (zhd h)
  | _ => none), (52, [none, none], [(0, none)], fun xs h => match xs with
  | [t0] => M_fault_52 kr t0 (zhd h)
  | _ => none)]) (fun v h => kr v (zhd h)) (fun _ _ => none) 400 35 [some (2, 0), some (0, a1)] [(0, t0), (2, 0)] (zM s) := by rfl
set_option maxRecDepth 100000 in
theorem qe_M_fault {ρ : Type} (kr : Int → zD → Option ρ) (a1 : Int) (s : zD) : M_fault a1 s kr = zseg zPP false zfinM (zcal [(58, [some 0, none, none], fun xs h kr kt => match xs with
  | [x0, x1] => M_fails x0 x1 (zhd h) (fun v s => kr v (zM s))
  | _ => none), (60, [some 0, none], fun xs h kr kt => match xs with
  | [x0] => M_noLaunch x0 (zhd h) (fun v s => kr v (zM s))
  | _ => none)]) (zget (999, 0, 0, 0) zc_M_fault) (zcut [(35, [true, true]), (42, [false, false]), (52, [false, false])]) (zorc [(35, [some (2, some 0), some (0, none)], [(0, none), (2, some 0)], fun xs h => match xs with
  | [a1, t0] => M_fault_35 kr a1 t0 (zhd h)
  | _ => none), (42, [none, none], [], fun xs h => match xs with
  | [] => M_fault_42 kr  (zhd h)
  | _ => none)]) (fun v h => kr v (zhd h)) (fun _ _ => none) 400 0 [some (2, 0), some (0, a1)] [] (zM s) := by rfl
def zc_M_faultAt : List zI := [(14, 0, 0, 0), (0, 0, 0, 0), (82, 12, 185, 0), (999, 0, 0, 0), (999, 0, 0, 0), (14, 0, 0, 0), (14, 0, 0, 0), (10, 0, 1, 0), (110, 0, 228, 60), (999, 0, 0, 0), (999, 0, 0, 0), (0, 1, 0, 0), (110, 0, 199, 58), (999, 0, 0, 0), (999, 0, 0, 0), (61, 27, 42, 0), (999, 0, 0, 0), (999, 0, 0, 0), (14, 0, 0, 0), (14, 0, 0, 0), (80, 12, 43, 14), (999, 0, 0, 0), (999, 0, 0, 0), (10, 0, 1, 0), (92, 0, 0, 0), (1, 102, 0, 0), (999, 0, 0, 0), (66, 7, 34, 0), (999, 0, 0, 0), (999, 0, 0, 0), (0, 1, 0, 0), (72, 4, 35, 0), (999, 0, 0, 0), (999, 0, 0, 0), (0, 0, 0, 0), (0, 2, 0, 0), (110, 0, 199, 58), (999, 0, 0, 0), (999, 0, 0, 0), (60, 7, 46, 0), (999, 0, 0, 0), (999, 0, 0, 0), (0, 0, 0, 0), (72, 9, 52, 0), (999, 0, 0, 0), (999, 0, 0, 0), (14, 0, 0, 0), (80, 12, 91, 30), (999, 0, 0, 0), (999, 0, 0, 0), (10, 0, 1, 0), (90, 0, 0, 0), (130, 0, 0, 0)]
def M_faultAt_52 {ρ : Type} (kr : Int → zD → Option ρ) (t0 : Int) (s : zD) : Option ρ :=
kr t0 s
def M_faultAt_42 {ρ : Type} (kr : Int → zD → Option ρ) (s : zD) : Option ρ :=
M_faultAt_52 kr 0 s
def M_faultAt_35 {ρ : Type} (kr : Int → zD → Option ρ) (a1 t0 : Int) (s : zD) : Option ρ :=
M_fails t0 2 s  fun v1 s2 =>
if v1 = 0 then (zix 12 a1 fun j3 =>
M_faultAt_52 kr (s2 26 j3) s2)
else M_faultAt_42 kr s2
def M_faultAt {ρ : Type} (a1 : Int) (s : zD) (kr : Int → zD → Option ρ) : Option ρ :=
zlet (zup s 0 0 0) fun s1 =>
M_noLaunch a1 s1  fun v2 s3 =>
M_fails v2 1 s3  fun v4 s5 =>
if v4 = 0 then (zix 12 a1 fun j6 =>
if (s5 10 j6) = 102 then M_faultAt_35 kr a1 0 s5
else M_faultAt_35 kr a1 1 s5)
else M_faultAt_42 kr s5
set_option maxRecDepth 100000 in
theorem qe_M_faultAt_52 {ρ : Type} (kr : Int → zD → Option ρ) (t0 : Int) (s : zD) : M_faultAt_52 kr t0 s = zseg zPP false zfinM (zcal []) (zget (999, 0, 0, 0) zc_M_faultAt) (zcut [(35, [true, true]), (42, [false, false]), (52, [false, false])]) (zorc []) (fun v h => kr v (zhd h)) (fun _ _ => none) 400 52 [none, none] [(0, t0)] (zM s) := by rfl
set_option maxRecDepth 100000 in
theorem qe_M_faultAt_42 {ρ : Type} (kr : Int → zD → Option ρ) (s : zD) : M_faultAt_42 kr s = zseg zPP false zfinM (zcal []) (zget (999, 0, 0, 0) zc_M_faultAt) (zcut [(35, [true, true]), (42, [false, false]), (52, [false, false])]) (zorc [(52, [none, none], [(0, none)], fun xs h => match xs with
  | [t0] => M_faultAt_52 kr t0 (zhd h)
  | _ => none)]) (fun v h => kr v (zhd h)) (fun _ _ => none) 400 42 [none, none] [] (zM s) := by rfl
set_option maxRecDepth 100000 in
theorem qe_M_faultAt_35 {ρ : Type} (kr : Int → zD → Option ρ) (a1 t0 : Int) (s : zD) : M_faultAt_35 kr a1 t0 s = zseg zPP false zfinM (zcal [(58, [some 0, none, none], fun xs h kr kt => match xs with
  | [x0, x1] => M_fails x0 x1 (zhd h) (fun v s => kr v (zM s))
  | _ => none)]) (zget (999, 0, 0, 0) zc_M_faultAt) (zcut [(35, [true, true]), (42, [false, false]), (52, [false, false])]) (zorc [(42, [none, none], [], fun xs h => match xs with
  | [] => M_faultAt_42 kr  (zhd h)
  | _ => none), (52, [none, none], [(0, none)], fun xs h => match xs with
  | [t0] => M_faultAt_52 kr t0 (zhd h)
  | _ => none)]) (fun v h => kr v (zhd h)) (fun _ _ => none) 400 35 [some (2, 0), some (0, a1)] [(0, t0), (2, 0)] (zM s) := by rfl
set_option maxRecDepth 100000 in
theorem qe_M_faultAt {ρ : Type} (kr : Int → zD → Option ρ) (a1 : Int) (s : zD) : M_faultAt a1 s kr = zseg zPP false zfinM (zcal [(58, [some 0, none, none], fun xs h kr kt => match xs with
  | [x0, x1] => M_fails x0 x1 (zhd h) (fun v s => kr v (zM s))
  | _ => none), (60, [some 0, none], fun xs h kr kt => match xs with
  | [x0] => M_noLaunch x0 (zhd h) (fun v s => kr v (zM s))
  | _ => none)]) (zget (999, 0, 0, 0) zc_M_faultAt) (zcut [(35, [true, true]), (42, [false, false]), (52, [false, false])]) (zorc [(35, [some (2, some 0), some (0, none)], [(0, none), (2, some 0)], fun xs h => match xs with
  | [a1, t0] => M_faultAt_35 kr a1 t0 (zhd h)
  | _ => none), (42, [none, none], [], fun xs h => match xs with
  | [] => M_faultAt_42 kr  (zhd h)
  | _ => none)]) (fun v h => kr v (zhd h)) (fun _ _ => none) 400 0 [some (2, 0), some (0, a1)] [] (zM s) := by rfl
def zc_M_isRacing : List zI := [(14, 0, 0, 0), (0, 0, 0, 0), (82, 12, 185, 0), (999, 0, 0, 0), (999, 0, 0, 0), (14, 0, 0, 0), (14, 0, 0, 0), (10, 0, 1, 0), (110, 0, 228, 60), (999, 0, 0, 0), (999, 0, 0, 0), (61, 10, 21, 0), (999, 0, 0, 0), (999, 0, 0, 0), (10, 0, 2, 0), (113, 0, 222, 61), (999, 0, 0, 0), (999, 0, 0, 0), (60, 7, 25, 0), (999, 0, 0, 0), (999, 0, 0, 0), (0, 1, 0, 0), (72, 4, 26, 0), (999, 0, 0, 0), (999, 0, 0, 0), (0, 0, 0, 0), (0, 1, 0, 0), (110, 0, 199, 58), (999, 0, 0, 0), (999, 0, 0, 0), (61, 21, 51, 0), (999, 0, 0, 0), (999, 0, 0, 0), (14, 0, 0, 0), (80, 12, 152, 50), (999, 0, 0, 0), (999, 0, 0, 0), (1, 64, 0, 0), (999, 0, 0, 0), (10, 0, 1, 0), (32, 0, 0, 0), (10, 0, 2, 0), (30, 0, 0, 0), (91, 0, 0, 0), (60, 7, 51, 0), (999, 0, 0, 0), (999, 0, 0, 0), (0, 1, 0, 0), (72, 4, 52, 0), (999, 0, 0, 0), (999, 0, 0, 0), (0, 0, 0, 0), (130, 0, 1, 0)]
def M_isRacing_52 {ρ : Type} (kr : Int → zD → Option ρ) (t0 : Int) (s : zD) : Option ρ :=
znar 1 t0 fun x1 => kr x1 s
def M_isRacing_51 {ρ : Type} (kr : Int → zD → Option ρ) (s : zD) : Option ρ :=
M_isRacing_52 kr 0 s
def M_isRacing_26 {ρ : Type} (kr : Int → zD → Option ρ) (a1 a2 t0 : Int) (s : zD) : Option ρ :=
M_fails t0 1 s  fun v1 s2 =>
if v1 = 0 then (zix 768 (wr ((wr (64 * a1)) + a2)) fun j3 =>
if (s2 46 j3) = 0 then M_isRacing_51 kr s2
else M_isRacing_52 kr 1 s2)
else M_isRacing_51 kr s2
def M_isRacing_21 {ρ : Type} (kr : Int → zD → Option ρ) (a1 a2 : Int) (s : zD) : Option ρ :=
M_isRacing_26 kr a1 a2 1 s
def M_isRacing {ρ : Type} (a1 a2 : Int) (s : zD) (kr : Int → zD → Option ρ) : Option ρ :=
zlet (zup s 0 0 0) fun s1 =>
M_noLaunch a1 s1  fun v2 s3 =>
if v2 = 0 then (M_noCell a2 s3  fun v4 s5 =>
if v4 = 0 then M_isRacing_26 kr a1 a2 0 s5
else M_isRacing_21 kr a1 a2 s5)
else M_isRacing_21 kr a1 a2 s3
set_option maxRecDepth 100000 in
theorem qe_M_isRacing_52 {ρ : Type} (kr : Int → zD → Option ρ) (t0 : Int) (s : zD) : M_isRacing_52 kr t0 s = zseg zPP false zfinM (zcal []) (zget (999, 0, 0, 0) zc_M_isRacing) (zcut [(21, [true, true, true]), (26, [true, true, true]), (51, [false, false, false]), (52, [false, false, false])]) (zorc []) (fun v h => kr v (zhd h)) (fun _ _ => none) 400 52 [none, none, none] [(0, t0)] (zM s) := by rfl
set_option maxRecDepth 100000 in
theorem qe_M_isRacing_51 {ρ : Type} (kr : Int → zD → Option ρ) (s : zD) : M_isRacing_51 kr s = zseg zPP false zfinM (zcal []) (zget (999, 0, 0, 0) zc_M_isRacing) (zcut [(21, [true, true, true]), (26, [true, true, true]), (51, [false, false, false]), (52, [false, false, false])]) (zorc [(52, [none, none, none], [(0, none)], fun xs h => match xs with
  | [t0] => M_isRacing_52 kr t0 (zhd h)
  | _ => none)]) (fun v h => kr v (zhd h)) (fun _ _ => none) 400 51 [none, none, none] [] (zM s) := by rfl
set_option maxRecDepth 100000 in
theorem qe_M_isRacing_26 {ρ : Type} (kr : Int → zD → Option ρ) (a1 a2 t0 : Int) (s : zD) : M_isRacing_26 kr a1 a2 t0 s = zseg zPP false zfinM (zcal [(58, [some 0, none, none], fun xs h kr kt => match xs with
  | [x0, x1] => M_fails x0 x1 (zhd h) (fun v s => kr v (zM s))
  | _ => none)]) (zget (999, 0, 0, 0) zc_M_isRacing) (zcut [(21, [true, true, true]), (26, [true, true, true]), (51, [false, false, false]), (52, [false, false, false])]) (zorc [(51, [none, none, none], [], fun xs h => match xs with
  | [] => M_isRacing_51 kr  (zhd h)
  | _ => none), (52, [none, none, none], [(0, none)], fun xs h => match xs with
  | [t0] => M_isRacing_52 kr t0 (zhd h)
  | _ => none)]) (fun v h => kr v (zhd h)) (fun _ _ => none) 400 26 [some (2, 0), some (0, a1), some (0, a2)] [(0, t0), (2, 0)] (zM s) := by rfl
set_option maxRecDepth 100000 in
theorem qe_M_isRacing_21 {ρ : Type} (kr : Int → zD → Option ρ) (a1 a2 : Int) (s : zD) : M_isRacing_21 kr a1 a2 s = zseg zPP false zfinM (zcal []) (zget (999, 0, 0, 0) zc_M_isRacing) (zcut [(21, [true, true, true]), (26, [true, true, true]), (51, [false, false, false]), (52, [false, false, false])]) (zorc [(26, [some (2, some 0), some (0, none), some (0, none)], [(0, none), (2, some 0)], fun xs h => match xs with
  | [a1, a2, t0] => M_isRacing_26 kr a1 a2 t0 (zhd h)
  | _ => none)]) (fun v h => kr v (zhd h)) (fun _ _ => none) 400 21 [some (2, 0), some (0, a1), some (0, a2)] [(2, 0)] (zM s) := by rfl
set_option maxRecDepth 100000 in
theorem qe_M_isRacing {ρ : Type} (kr : Int → zD → Option ρ) (a1 a2 : Int) (s : zD) : M_isRacing a1 a2 s kr = zseg zPP false zfinM (zcal [(60, [some 0, none], fun xs h kr kt => match xs with
  | [x0] => M_noLaunch x0 (zhd h) (fun v s => kr v (zM s))
  | _ => none), (61, [none], fun xs h kr kt => match xs with
  | [x0] => M_noCell x0 (zhd h) (fun v s => kr v (zM s))
  | _ => none)]) (zget (999, 0, 0, 0) zc_M_isRacing) (zcut [(21, [true, true, true]), (26, [true, true, true]), (51, [false, false, false]), (52, [false, false, false])]) (zorc [(21, [some (2, some 0), some (0, none), some (0, none)], [(2, some 0)], fun xs h => match xs with
  | [a1, a2] => M_isRacing_21 kr a1 a2 (zhd h)
  | _ => none), (26, [some (2, some 0), some (0, none), some (0, none)], [(0, none), (2, some 0)], fun xs h => match xs with
  | [a1, a2, t0] => M_isRacing_26 kr a1 a2 t0 (zhd h)
  | _ => none)]) (fun v h => kr v (zhd h)) (fun _ _ => none) 400 0 [some (2, 0), some (0, a1), some (0, a2)] [] (zM s) := by rfl
def zc_M_races : List zI := [(14, 0, 0, 0), (0, 0, 0, 0), (82, 12, 185, 0), (999, 0, 0, 0), (999, 0, 0, 0), (14, 0, 0, 0), (14, 0, 0, 0), (10, 0, 1, 0), (110, 0, 228, 60), (999, 0, 0, 0), (999, 0, 0, 0), (0, 1, 0, 0), (110, 0, 199, 58), (999, 0, 0, 0), (999, 0, 0, 0), (60, 5, 20, 0), (999, 0, 0, 0), (999, 0, 0, 0), (0, 0, 0, 0), (130, 0, 0, 0), (0, 0, 0, 0), (16, 0, 2, 0), (0, 0, 0, 0), (16, 0, 3, 0), (10, 0, 3, 0), (1, 64, 0, 0), (999, 0, 0, 0), (69, 31, 58, 0), (999, 0, 0, 0), (999, 0, 0, 0), (10, 0, 2, 0), (14, 0, 0, 0), (80, 12, 152, 50), (999, 0, 0, 0), (999, 0, 0, 0), (1, 64, 0, 0), (999, 0, 0, 0), (10, 0, 1, 0), (32, 0, 0, 0), (10, 0, 3, 0), (30, 0, 0, 0), (91, 0, 0, 0), (60, 7, 49, 0), (999, 0, 0, 0), (999, 0, 0, 0), (0, 1, 0, 0), (72, 4, 50, 0), (999, 0, 0, 0), (999, 0, 0, 0), (0, 0, 0, 0), (30, 0, 0, 0), (16, 0, 2, 0), (22, 1, 3, 0), (999, 0, 0, 0), (999, 0, 0, 0), (72, (-31), 24, 0), (999, 0, 0, 0), (999, 0, 0, 0), (1, 96, 0, 0), (999, 0, 0, 0), (10, 0, 1, 0), (32, 0, 0, 0), (16, 0, 3, 0), (10, 0, 3, 0), (1, 96, 0, 0), (999, 0, 0, 0), (10, 0, 1, 0), (32, 0, 0, 0), (1, 96, 0, 0), (999, 0, 0, 0), (30, 0, 0, 0), (69, 26, 97, 0), (999, 0, 0, 0), (999, 0, 0, 0), (10, 0, 2, 0), (14, 0, 0, 0), (80, 12, 161, 53), (999, 0, 0, 0), (999, 0, 0, 0), (10, 0, 3, 0), (91, 0, 0, 0), (60, 7, 88, 0), (999, 0, 0, 0), (999, 0, 0, 0), (0, 1, 0, 0), (72, 4, 89, 0), (999, 0, 0, 0), (999, 0, 0, 0), (0, 0, 0, 0), (30, 0, 0, 0), (16, 0, 2, 0), (22, 1, 3, 0), (999, 0, 0, 0), (999, 0, 0, 0), (72, (-31), 63, 0), (999, 0, 0, 0), (999, 0, 0, 0), (10, 0, 2, 0), (130, 0, 0, 0)]
def M_races_50 {ρ : Type} (kr : Int → zD → Option ρ) (r24 : Int → Int → Int → zD → Option ρ) (a1 a3 t0 t1 : Int) (s : zD) : Option ρ :=
r24 a1 (wr (t1 + t0)) (wr (a3 + 1)) s
def M_races_89 {ρ : Type} (kr : Int → zD → Option ρ) (r63 : Int → Int → Int → zD → Option ρ) (a1 a3 t0 t1 : Int) (s : zD) : Option ρ :=
r63 a1 (wr (t1 + t0)) (wr (a3 + 1)) s
def M_races_63b {ρ : Type} (kr : Int → zD → Option ρ) (r63 : Int → Int → Int → zD → Option ρ) (a1 a2 a3 : Int) (s : zD) : Option ρ :=
if a3 < (wr ((wr (96 * a1)) + 96)) then (zix 1152 a3 fun j1 =>
if (s 49 j1) = 0 then M_races_89 kr r63 a1 a3 0 a2 s
else M_races_89 kr r63 a1 a3 1 a2 s)
else kr a2 s
def M_races_63 {ρ : Type} (kr : Int → zD → Option ρ) : Int → Int → Int → zD → Option ρ := zit (fun _ _ _ _ => none) (M_races_63b kr) zN
def M_races_24b {ρ : Type} (kr : Int → zD → Option ρ) (r24 : Int → Int → Int → zD → Option ρ) (a1 a2 a3 : Int) (s : zD) : Option ρ :=
if a3 < 64 then (zix 768 (wr ((wr (64 * a1)) + a3)) fun j1 =>
if (s 46 j1) = 0 then M_races_50 kr r24 a1 a3 0 a2 s
else M_races_50 kr r24 a1 a3 1 a2 s)
else M_races_63 kr a1 a2 (wr (96 * a1)) s
def M_races_24 {ρ : Type} (kr : Int → zD → Option ρ) : Int → Int → Int → zD → Option ρ := zit (fun _ _ _ _ => none) (M_races_24b kr) zN
def M_races {ρ : Type} (a1 : Int) (s : zD) (kr : Int → zD → Option ρ) : Option ρ :=
zlet (zup s 0 0 0) fun s1 =>
M_noLaunch a1 s1  fun v2 s3 =>
M_fails v2 1 s3  fun v4 s5 =>
if v4 = 0 then M_races_24 kr a1 0 0 s5
else kr 0 s5
set_option maxRecDepth 100000 in
theorem qe_M_races_50 {ρ : Type} (kr : Int → zD → Option ρ) (r24 : Int → Int → Int → zD → Option ρ) (a1 a3 t0 t1 : Int) (s : zD) : M_races_50 kr r24 a1 a3 t0 t1 s = zseg zPP false zfinM (zcal []) (zget (999, 0, 0, 0) zc_M_races) (zcut [(24, [true, true, true, true]), (50, [true, true, false, true]), (63, [true, true, true, true]), (89, [true, true, false, true])]) (zorc [(24, [some (2, some 0), some (0, none), some (0, none), some (0, none)], [], fun xs h => match xs with
  | [a1, a2, a3] => r24 a1 a2 a3 (zhd h)
  | _ => none)]) (fun v h => kr v (zhd h)) (fun _ _ => none) 400 50 [some (2, 0), some (0, a1), none, some (0, a3)] [(0, t0), (0, t1)] (zM s) := by rfl
set_option maxRecDepth 100000 in
theorem qe_M_races_89 {ρ : Type} (kr : Int → zD → Option ρ) (r63 : Int → Int → Int → zD → Option ρ) (a1 a3 t0 t1 : Int) (s : zD) : M_races_89 kr r63 a1 a3 t0 t1 s = zseg zPP false zfinM (zcal []) (zget (999, 0, 0, 0) zc_M_races) (zcut [(24, [true, true, true, true]), (50, [true, true, false, true]), (63, [true, true, true, true]), (89, [true, true, false, true])]) (zorc [(63, [some (2, some 0), some (0, none), some (0, none), some (0, none)], [], fun xs h => match xs with
  | [a1, a2, a3] => r63 a1 a2 a3 (zhd h)
  | _ => none)]) (fun v h => kr v (zhd h)) (fun _ _ => none) 400 89 [some (2, 0), some (0, a1), none, some (0, a3)] [(0, t0), (0, t1)] (zM s) := by rfl
set_option maxRecDepth 100000 in
theorem qe_M_races_63b {ρ : Type} (kr : Int → zD → Option ρ) (r63 : Int → Int → Int → zD → Option ρ) (a1 a2 a3 : Int) (s : zD) : M_races_63b kr r63 a1 a2 a3 s = zseg zPP false zfinM (zcal []) (zget (999, 0, 0, 0) zc_M_races) (zcut [(24, [true, true, true, true]), (50, [true, true, false, true]), (63, [true, true, true, true]), (89, [true, true, false, true])]) (zorc [(89, [some (2, some 0), some (0, none), none, some (0, none)], [(0, none), (0, none)], fun xs h => match xs with
  | [a1, a3, t0, t1] => M_races_89 kr r63 a1 a3 t0 t1 (zhd h)
  | _ => none)]) (fun v h => kr v (zhd h)) (fun _ _ => none) 400 63 [some (2, 0), some (0, a1), some (0, a2), some (0, a3)] [] (zM s) := by rfl
set_option maxRecDepth 100000 in
theorem qe_M_races_24b {ρ : Type} (kr : Int → zD → Option ρ) (r24 : Int → Int → Int → zD → Option ρ) (a1 a2 a3 : Int) (s : zD) : M_races_24b kr r24 a1 a2 a3 s = zseg zPP false zfinM (zcal []) (zget (999, 0, 0, 0) zc_M_races) (zcut [(24, [true, true, true, true]), (50, [true, true, false, true]), (63, [true, true, true, true]), (89, [true, true, false, true])]) (zorc [(50, [some (2, some 0), some (0, none), none, some (0, none)], [(0, none), (0, none)], fun xs h => match xs with
  | [a1, a3, t0, t1] => M_races_50 kr r24 a1 a3 t0 t1 (zhd h)
  | _ => none), (63, [some (2, some 0), some (0, none), some (0, none), some (0, none)], [], fun xs h => match xs with
  | [a1, a2, a3] => M_races_63 kr a1 a2 a3 (zhd h)
  | _ => none)]) (fun v h => kr v (zhd h)) (fun _ _ => none) 400 24 [some (2, 0), some (0, a1), some (0, a2), some (0, a3)] [] (zM s) := by rfl
set_option maxRecDepth 100000 in
theorem qe_M_races {ρ : Type} (kr : Int → zD → Option ρ) (a1 : Int) (s : zD) : M_races a1 s kr = zseg zPP false zfinM (zcal [(58, [some 0, none, none], fun xs h kr kt => match xs with
  | [x0, x1] => M_fails x0 x1 (zhd h) (fun v s => kr v (zM s))
  | _ => none), (60, [some 0, none], fun xs h kr kt => match xs with
  | [x0] => M_noLaunch x0 (zhd h) (fun v s => kr v (zM s))
  | _ => none)]) (zget (999, 0, 0, 0) zc_M_races) (zcut [(24, [true, true, true, true]), (50, [true, true, false, true]), (63, [true, true, true, true]), (89, [true, true, false, true])]) (zorc [(24, [some (2, some 0), some (0, none), some (0, none), some (0, none)], [], fun xs h => match xs with
  | [a1, a2, a3] => M_races_24 kr a1 a2 a3 (zhd h)
  | _ => none)]) (fun v h => kr v (zhd h)) (fun _ _ => none) 400 0 [some (2, 0), some (0, a1), none, none] [] (zM s) := by rfl
def zc_M_runThread : List zI := [(14, 0, 0, 0), (80, 12, 179, 72), (999, 0, 0, 0), (999, 0, 0, 0), (10, 0, 3, 0), (92, 0, 0, 0), (1, 114, 0, 0), (999, 0, 0, 0), (67, 657, 665, 0), (999, 0, 0, 0), (999, 0, 0, 0), (14, 0, 0, 0), (80, 12, 176, 71), (999, 0, 0, 0), (999, 0, 0, 0), (10, 0, 3, 0), (90, 0, 0, 0), (14, 0, 0, 0), (80, 12, 23, 7), (999, 0, 0, 0), (999, 0, 0, 0), (10, 0, 1, 0), (90, 0, 0, 0), (68, 14, 37, 0), (999, 0, 0, 0), (999, 0, 0, 0), (14, 0, 0, 0), (80, 12, 179, 72), (999, 0, 0, 0), (999, 0, 0, 0), (10, 0, 3, 0), (1, 101, 0, 0), (999, 0, 0, 0), (97, 0, 0, 0), (72, (-34), 0, 0), (999, 0, 0, 0), (999, 0, 0, 0), (1, 40, 0, 0), (999, 0, 0, 0), (10, 0, 1, 0), (32, 0, 0, 0), (14, 0, 0, 0), (80, 12, 176, 71), (999, 0, 0, 0), (999, 0, 0, 0), (10, 0, 3, 0), (90, 0, 0, 0), (30, 0, 0, 0), (17, 0, 4, 0), (999, 0, 0, 0), (14, 0, 0, 0), (80, 12, 30, 9), (999, 0, 0, 0), (999, 0, 0, 0), (11, 0, 4, 0), (999, 0, 0, 0), (92, 0, 0, 0), (17, 0, 5, 0), (999, 0, 0, 0), (14, 0, 0, 0), (80, 12, 182, 73), (999, 0, 0, 0), (999, 0, 0, 0), (10, 0, 3, 0), (51, 0, 0, 0), (90, 0, 0, 0), (0, 1, 0, 0), (30, 0, 0, 0), (95, 0, 0, 0), (1, 8, 0, 0), (999, 0, 0, 0), (10, 0, 3, 0), (32, 0, 0, 0), (17, 0, 6, 0), (999, 0, 0, 0), (14, 0, 0, 0), (80, 12, 37, 11), (999, 0, 0, 0), (999, 0, 0, 0), (11, 0, 4, 0), (999, 0, 0, 0), (90, 0, 0, 0), (0, 0, 0, 0), (1, 7, 0, 0), (999, 0, 0, 0), (113, 0, 192, 57), (999, 0, 0, 0), (999, 0, 0, 0), (60, 21, 109, 0), (999, 0, 0, 0), (999, 0, 0, 0), (14, 0, 0, 0), (80, 12, 173, 70), (999, 0, 0, 0), (999, 0, 0, 0), (11, 0, 6, 0), (999, 0, 0, 0), (14, 0, 0, 0), (80, 12, 37, 11), (999, 0, 0, 0), (999, 0, 0, 0), (11, 0, 4, 0), (999, 0, 0, 0), (90, 0, 0, 0), (30, 0, 0, 0), (90, 0, 0, 0), (72, 4, 110, 0), (999, 0, 0, 0), (999, 0, 0, 0), (0, 0, 0, 0), (17, 0, 7, 0), (999, 0, 0, 0), (14, 0, 0, 0), (80, 12, 40, 12), (999, 0, 0, 0), (999, 0, 0, 0), (11, 0, 4, 0), (999, 0, 0, 0), (90, 0, 0, 0), (0, 0, 0, 0), (1, 7, 0, 0), (999, 0, 0, 0), (113, 0, 192, 57), (999, 0, 0, 0), (999, 0, 0, 0), (60, 21, 146, 0), (999, 0, 0, 0), (999, 0, 0, 0), (14, 0, 0, 0), (80, 12, 173, 70), (999, 0, 0, 0), (999, 0, 0, 0), (11, 0, 6, 0), (999, 0, 0, 0), (14, 0, 0, 0), (80, 12, 40, 12), (999, 0, 0, 0), (999, 0, 0, 0), (11, 0, 4, 0), (999, 0, 0, 0), (90, 0, 0, 0), (30, 0, 0, 0), (90, 0, 0, 0), (72, 4, 147, 0), (999, 0, 0, 0), (999, 0, 0, 0), (0, 0, 0, 0), (17, 0, 8, 0), (999, 0, 0, 0), (14, 0, 0, 0), (80, 12, 34, 10), (999, 0, 0, 0), (999, 0, 0, 0), (11, 0, 4, 0), (999, 0, 0, 0), (90, 0, 0, 0), (0, 0, 0, 0), (1, 7, 0, 0), (999, 0, 0, 0), (113, 0, 192, 57), (999, 0, 0, 0), (999, 0, 0, 0), (60, 21, 183, 0), (999, 0, 0, 0), (999, 0, 0, 0), (14, 0, 0, 0), (80, 12, 173, 70), (999, 0, 0, 0), (999, 0, 0, 0), (11, 0, 6, 0), (999, 0, 0, 0), (14, 0, 0, 0), (80, 12, 34, 10), (999, 0, 0, 0), (999, 0, 0, 0), (11, 0, 4, 0), (999, 0, 0, 0), (90, 0, 0, 0), (30, 0, 0, 0), (90, 0, 0, 0), (72, 4, 184, 0), (999, 0, 0, 0), (999, 0, 0, 0), (0, 0, 0, 0), (17, 0, 9, 0), (999, 0, 0, 0), (11, 0, 5, 0), (999, 0, 0, 0), (1, 119, 0, 0), (999, 0, 0, 0), (66, 10, 200, 0), (999, 0, 0, 0), (999, 0, 0, 0), (11, 0, 5, 0), (999, 0, 0, 0), (1, 87, 0, 0), (999, 0, 0, 0), (67, 8, 205, 0), (999, 0, 0, 0), (999, 0, 0, 0), (11, 0, 9, 0), (999, 0, 0, 0), (72, 5, 207, 0), (999, 0, 0, 0), (999, 0, 0, 0), (11, 0, 7, 0), (999, 0, 0, 0), (17, 0, 10, 0), (999, 0, 0, 0), (14, 0, 0, 0), (80, 12, 182, 73), (999, 0, 0, 0), (999, 0, 0, 0), (10, 0, 3, 0), (90, 0, 0, 0), (2, 200, 0, 0), (999, 0, 0, 0), (999, 0, 0, 0), (70, 44, 262, 0), (999, 0, 0, 0), (999, 0, 0, 0), (11, 0, 5, 0), (999, 0, 0, 0), (113, 0, 347, 106), (999, 0, 0, 0), (999, 0, 0, 0), (60, 11, 237, 0), (999, 0, 0, 0), (999, 0, 0, 0), (11, 0, 10, 0), (999, 0, 0, 0), (113, 0, 222, 61), (999, 0, 0, 0), (999, 0, 0, 0), (61, 28, 262, 0), (999, 0, 0, 0), (999, 0, 0, 0), (11, 0, 5, 0), (999, 0, 0, 0), (113, 0, 297, 107), (999, 0, 0, 0), (999, 0, 0, 0), (60, 22, 264, 0), (999, 0, 0, 0), (999, 0, 0, 0), (11, 0, 10, 0), (999, 0, 0, 0), (0, 0, 0, 0), (14, 0, 0, 0), (80, 12, 20, 6), (999, 0, 0, 0), (999, 0, 0, 0), (10, 0, 1, 0), (90, 0, 0, 0), (0, 1, 0, 0), (31, 0, 0, 0), (113, 0, 192, 57), (999, 0, 0, 0), (999, 0, 0, 0), (61, 5, 264, 0), (999, 0, 0, 0), (999, 0, 0, 0), (0, 0, 0, 0), (130, 0, 1, 0), (14, 0, 0, 0), (80, 12, 176, 71), (999, 0, 0, 0), (999, 0, 0, 0), (10, 0, 3, 0), (90, 0, 0, 0), (0, 1, 0, 0), (30, 0, 0, 0), (17, 0, 11, 0), (999, 0, 0, 0), (11, 0, 5, 0), (999, 0, 0, 0), (1, 119, 0, 0), (999, 0, 0, 0), (67, 15, 293, 0), (999, 0, 0, 0), (999, 0, 0, 0), (14, 0, 0, 0), (80, 12, 167, 68), (999, 0, 0, 0), (999, 0, 0, 0), (11, 0, 10, 0), (999, 0, 0, 0), (11, 0, 7, 0), (999, 0, 0, 0), (95, 0, 0, 0), (72, 364, 654, 0), (999, 0, 0, 0), (999, 0, 0, 0), (11, 0, 5, 0), (999, 0, 0, 0), (1, 87, 0, 0), (999, 0, 0, 0), (67, 15, 312, 0), (999, 0, 0, 0), (999, 0, 0, 0), (14, 0, 0, 0), (80, 12, 170, 69), (999, 0, 0, 0), (999, 0, 0, 0), (11, 0, 10, 0), (999, 0, 0, 0), (11, 0, 7, 0), (999, 0, 0, 0), (95, 0, 0, 0), (72, 345, 654, 0), (999, 0, 0, 0), (999, 0, 0, 0), (11, 0, 5, 0), (999, 0, 0, 0), (1, 114, 0, 0), (999, 0, 0, 0), (66, 10, 326, 0), (999, 0, 0, 0), (999, 0, 0, 0), (11, 0, 5, 0), (999, 0, 0, 0), (1, 82, 0, 0), (999, 0, 0, 0), (67, 45, 368, 0), (999, 0, 0, 0), (999, 0, 0, 0), (14, 0, 0, 0), (80, 12, 173, 70), (999, 0, 0, 0), (999, 0, 0, 0), (11, 0, 6, 0), (999, 0, 0, 0), (14, 0, 0, 0), (80, 12, 34, 10), (999, 0, 0, 0), (999, 0, 0, 0), (11, 0, 4, 0), (999, 0, 0, 0), (90, 0, 0, 0), (30, 0, 0, 0), (11, 0, 5, 0), (999, 0, 0, 0), (1, 114, 0, 0), (999, 0, 0, 0), (67, 13, 357, 0), (999, 0, 0, 0), (999, 0, 0, 0), (14, 0, 0, 0), (80, 12, 167, 68), (999, 0, 0, 0), (999, 0, 0, 0), (11, 0, 10, 0), (999, 0, 0, 0), (90, 0, 0, 0), (72, 10, 364, 0), (999, 0, 0, 0), (999, 0, 0, 0), (14, 0, 0, 0), (80, 12, 170, 69), (999, 0, 0, 0), (999, 0, 0, 0), (11, 0, 10, 0), (999, 0, 0, 0), (90, 0, 0, 0), (95, 0, 0, 0), (72, 289, 654, 0), (999, 0, 0, 0), (999, 0, 0, 0), (11, 0, 5, 0), (999, 0, 0, 0), (1, 97, 0, 0), (999, 0, 0, 0), (66, 10, 382, 0), (999, 0, 0, 0), (999, 0, 0, 0), (11, 0, 5, 0), (999, 0, 0, 0), (1, 120, 0, 0), (999, 0, 0, 0), (67, 56, 435, 0), (999, 0, 0, 0), (999, 0, 0, 0), (14, 0, 0, 0), (80, 12, 167, 68), (999, 0, 0, 0), (999, 0, 0, 0), (11, 0, 10, 0), (999, 0, 0, 0), (90, 0, 0, 0), (17, 0, 12, 0), (999, 0, 0, 0), (14, 0, 0, 0), (80, 12, 167, 68), (999, 0, 0, 0), (999, 0, 0, 0), (11, 0, 10, 0), (999, 0, 0, 0), (11, 0, 5, 0), (999, 0, 0, 0), (1, 97, 0, 0), (999, 0, 0, 0), (67, 11, 412, 0), (999, 0, 0, 0), (999, 0, 0, 0), (11, 0, 12, 0), (999, 0, 0, 0), (11, 0, 8, 0), (999, 0, 0, 0), (30, 0, 0, 0), (72, 5, 414, 0), (999, 0, 0, 0), (999, 0, 0, 0), (11, 0, 8, 0), (999, 0, 0, 0), (95, 0, 0, 0), (14, 0, 0, 0), (80, 12, 173, 70), (999, 0, 0, 0), (999, 0, 0, 0), (11, 0, 6, 0), (999, 0, 0, 0), (14, 0, 0, 0), (80, 12, 34, 10), (999, 0, 0, 0), (999, 0, 0, 0), (11, 0, 4, 0), (999, 0, 0, 0), (90, 0, 0, 0), (30, 0, 0, 0), (11, 0, 12, 0), (999, 0, 0, 0), (95, 0, 0, 0), (72, 222, 654, 0), (999, 0, 0, 0), (999, 0, 0, 0), (11, 0, 5, 0), (999, 0, 0, 0), (1, 107, 0, 0), (999, 0, 0, 0), (67, 28, 467, 0), (999, 0, 0, 0), (999, 0, 0, 0), (14, 0, 0, 0), (80, 12, 173, 70), (999, 0, 0, 0), (999, 0, 0, 0), (11, 0, 6, 0), (999, 0, 0, 0), (14, 0, 0, 0), (80, 12, 34, 10), (999, 0, 0, 0), (999, 0, 0, 0), (11, 0, 4, 0), (999, 0, 0, 0), (90, 0, 0, 0), (30, 0, 0, 0), (14, 0, 0, 0), (80, 12, 37, 11), (999, 0, 0, 0), (999, 0, 0, 0), (11, 0, 4, 0), (999, 0, 0, 0), (90, 0, 0, 0), (95, 0, 0, 0), (72, 190, 654, 0), (999, 0, 0, 0), (999, 0, 0, 0), (11, 0, 5, 0), (999, 0, 0, 0), (1, 116, 0, 0), (999, 0, 0, 0), (66, 17, 488, 0), (999, 0, 0, 0), (999, 0, 0, 0), (11, 0, 5, 0), (999, 0, 0, 0), (1, 110, 0, 0), (999, 0, 0, 0), (66, 10, 488, 0), (999, 0, 0, 0), (999, 0, 0, 0), (11, 0, 5, 0), (999, 0, 0, 0), (1, 108, 0, 0), (999, 0, 0, 0), (67, 46, 531, 0), (999, 0, 0, 0), (999, 0, 0, 0), (14, 0, 0, 0), (80, 12, 173, 70), (999, 0, 0, 0), (999, 0, 0, 0), (11, 0, 6, 0), (999, 0, 0, 0), (14, 0, 0, 0), (80, 12, 34, 10), (999, 0, 0, 0), (999, 0, 0, 0), (11, 0, 4, 0), (999, 0, 0, 0), (90, 0, 0, 0), (30, 0, 0, 0), (11, 0, 5, 0), (999, 0, 0, 0), (1, 116, 0, 0), (999, 0, 0, 0), (67, 7, 513, 0), (999, 0, 0, 0), (999, 0, 0, 0), (10, 0, 3, 0), (72, 17, 527, 0), (999, 0, 0, 0), (999, 0, 0, 0), (11, 0, 5, 0), (999, 0, 0, 0), (1, 110, 0, 0), (999, 0, 0, 0), (67, 7, 524, 0), (999, 0, 0, 0), (999, 0, 0, 0), (10, 0, 2, 0), (72, 6, 527, 0), (999, 0, 0, 0), (999, 0, 0, 0), (10, 0, 3, 0), (0, 4, 0, 0), (34, 0, 0, 0), (95, 0, 0, 0), (72, 126, 654, 0), (999, 0, 0, 0), (999, 0, 0, 0), (11, 0, 5, 0), (999, 0, 0, 0), (1, 122, 0, 0), (999, 0, 0, 0), (67, 25, 560, 0), (999, 0, 0, 0), (999, 0, 0, 0), (11, 0, 9, 0), (999, 0, 0, 0), (61, 13, 553, 0), (999, 0, 0, 0), (999, 0, 0, 0), (14, 0, 0, 0), (80, 12, 37, 11), (999, 0, 0, 0), (999, 0, 0, 0), (11, 0, 4, 0), (999, 0, 0, 0), (90, 0, 0, 0), (72, 5, 555, 0), (999, 0, 0, 0), (999, 0, 0, 0), (11, 0, 11, 0), (999, 0, 0, 0), (17, 0, 11, 0), (999, 0, 0, 0), (72, 97, 654, 0), (999, 0, 0, 0), (999, 0, 0, 0), (11, 0, 5, 0), (999, 0, 0, 0), (1, 106, 0, 0), (999, 0, 0, 0), (67, 15, 579, 0), (999, 0, 0, 0), (999, 0, 0, 0), (14, 0, 0, 0), (80, 12, 37, 11), (999, 0, 0, 0), (999, 0, 0, 0), (11, 0, 4, 0), (999, 0, 0, 0), (90, 0, 0, 0), (17, 0, 11, 0), (999, 0, 0, 0), (72, 78, 654, 0), (999, 0, 0, 0), (999, 0, 0, 0), (11, 0, 5, 0), (999, 0, 0, 0), (1, 101, 0, 0), (999, 0, 0, 0), (67, 14, 597, 0), (999, 0, 0, 0), (999, 0, 0, 0), (14, 0, 0, 0), (80, 12, 179, 72), (999, 0, 0, 0), (999, 0, 0, 0), (10, 0, 3, 0), (1, 101, 0, 0), (999, 0, 0, 0), (97, 0, 0, 0), (72, 60, 654, 0), (999, 0, 0, 0), (999, 0, 0, 0), (11, 0, 5, 0), (999, 0, 0, 0), (1, 98, 0, 0), (999, 0, 0, 0), (67, 22, 623, 0), (999, 0, 0, 0), (999, 0, 0, 0), (14, 0, 0, 0), (80, 12, 179, 72), (999, 0, 0, 0), (999, 0, 0, 0), (10, 0, 3, 0), (1, 119, 0, 0), (999, 0, 0, 0), (97, 0, 0, 0), (14, 0, 0, 0), (80, 12, 176, 71), (999, 0, 0, 0), (999, 0, 0, 0), (10, 0, 3, 0), (90, 0, 0, 0), (17, 0, 11, 0), (999, 0, 0, 0), (72, 34, 654, 0), (999, 0, 0, 0), (999, 0, 0, 0), (11, 0, 5, 0), (999, 0, 0, 0), (1, 102, 0, 0), (999, 0, 0, 0), (66, 27, 654, 0), (999, 0, 0, 0), (999, 0, 0, 0), (14, 0, 0, 0), (80, 12, 173, 70), (999, 0, 0, 0), (999, 0, 0, 0), (11, 0, 6, 0), (999, 0, 0, 0), (14, 0, 0, 0), (80, 12, 34, 10), (999, 0, 0, 0), (999, 0, 0, 0), (11, 0, 4, 0), (999, 0, 0, 0), (90, 0, 0, 0), (30, 0, 0, 0), (11, 0, 5, 0), (999, 0, 0, 0), (11, 0, 7, 0), (999, 0, 0, 0), (11, 0, 8, 0), (999, 0, 0, 0), (113, 0, 327, 108), (999, 0, 0, 0), (999, 0, 0, 0), (95, 0, 0, 0), (14, 0, 0, 0), (80, 12, 176, 71), (999, 0, 0, 0), (999, 0, 0, 0), (10, 0, 3, 0), (11, 0, 11, 0), (999, 0, 0, 0), (95, 0, 0, 0), (72, (-662), 0, 0), (999, 0, 0, 0), (999, 0, 0, 0), (0, 1, 0, 0), (130, 0, 1, 0)]
def M_runThread_262 {ρ : Type} (kr : Int → zD → Option ρ) (s : zD) : Option ρ :=
kr 0 s
def M_runThread_654 {ρ : Type} (kr : Int → zD → Option ρ) (r0 : Int → Int → Int → zD → Option ρ) (a1 a2 a3 a11 : Int) (s : zD) : Option ρ :=
zix 16 a3 fun j1 =>
zlet (zup s 54 j1 a11) fun s2 =>
r0 a1 a2 a3 s2
def M_runThread_364 {ρ : Type} (kr : Int → zD → Option ρ) (r0 : Int → Int → Int → zD → Option ρ) (a1 a2 a3 a11 t0 t1 : Int) (s : zD) : Option ρ :=
zix 128 t1 fun j1 =>
zlet (zup s 53 j1 t0) fun s2 =>
M_runThread_654 kr r0 a1 a2 a3 a11 s2
def M_runThread_326 {ρ : Type} (kr : Int → zD → Option ρ) (r0 : Int → Int → Int → zD → Option ρ) (a1 a2 a3 a4 a5 a6 a10 a11 : Int) (s : zD) : Option ρ :=
zix 160 a4 fun j1 =>
if a5 = 114 then (zix 64 a10 fun j3 =>
M_runThread_364 kr r0 a1 a2 a3 a11 (s 51 j3) (wr (a6 + (s 7 j1))) s)
else zix 16 a10 fun j2 =>
M_runThread_364 kr r0 a1 a2 a3 a11 (s 52 j2) (wr (a6 + (s 7 j1))) s
def M_runThread_414 {ρ : Type} (kr : Int → zD → Option ρ) (r0 : Int → Int → Int → zD → Option ρ) (a1 a2 a3 a4 a6 a11 a12 t0 t1 : Int) (s : zD) : Option ρ :=
zix 64 t1 fun j1 =>
zlet (zup s 51 j1 t0) fun s2 =>
zix 160 a4 fun j3 =>
zix 128 (wr (a6 + (s2 7 j3))) fun j4 =>
zlet (zup s2 53 j4 a12) fun s5 =>
M_runThread_654 kr r0 a1 a2 a3 a11 s5
def M_runThread_382 {ρ : Type} (kr : Int → zD → Option ρ) (r0 : Int → Int → Int → zD → Option ρ) (a1 a2 a3 a4 a5 a6 a8 a10 a11 : Int) (s : zD) : Option ρ :=
zix 64 a10 fun j1 =>
if a5 = 97 then M_runThread_414 kr r0 a1 a2 a3 a4 a6 a11 (s 51 j1) (wr ((s 51 j1) + a8)) a10 s
else M_runThread_414 kr r0 a1 a2 a3 a4 a6 a11 (s 51 j1) a8 a10 s
def M_runThread_527 {ρ : Type} (kr : Int → zD → Option ρ) (r0 : Int → Int → Int → zD → Option ρ) (a1 a2 a3 a11 t0 t1 : Int) (s : zD) : Option ρ :=
zix 128 t1 fun j1 =>
zlet (zup s 53 j1 t0) fun s2 =>
M_runThread_654 kr r0 a1 a2 a3 a11 s2
def M_runThread_488 {ρ : Type} (kr : Int → zD → Option ρ) (r0 : Int → Int → Int → zD → Option ρ) (a1 a2 a3 a4 a5 a6 a11 : Int) (s : zD) : Option ρ :=
zix 160 a4 fun j1 =>
if a5 = 116 then M_runThread_527 kr r0 a1 a2 a3 a11 a3 (wr (a6 + (s 7 j1))) s
else if a5 = 110 then M_runThread_527 kr r0 a1 a2 a3 a11 a2 (wr (a6 + (s 7 j1))) s
else M_runThread_527 kr r0 a1 a2 a3 a11 (Int.tmod a3 4) (wr (a6 + (s 7 j1))) s
def M_runThread_555 {ρ : Type} (kr : Int → zD → Option ρ) (r0 : Int → Int → Int → zD → Option ρ) (a1 a2 a3 t0 : Int) (s : zD) : Option ρ :=
M_runThread_654 kr r0 a1 a2 a3 t0 s
def M_runThread_264 {ρ : Type} (kr : Int → zD → Option ρ) (r0 : Int → Int → Int → zD → Option ρ) (a1 a2 a3 a4 a5 a6 a7 a8 a9 a10 : Int) (s : zD) : Option ρ :=
zix 16 a3 fun j1 =>
if a5 = 119 then (zix 64 a10 fun j20 =>
zlet (zup s 51 j20 a7) fun s21 =>
M_runThread_654 kr r0 a1 a2 a3 (wr ((s 54 j1) + 1)) s21)
else if a5 = 87 then (zix 16 a10 fun j18 =>
zlet (zup s 52 j18 a7) fun s19 =>
M_runThread_654 kr r0 a1 a2 a3 (wr ((s 54 j1) + 1)) s19)
else if a5 = 114 then M_runThread_326 kr r0 a1 a2 a3 a4 a5 a6 a10 (wr ((s 54 j1) + 1)) s
else if a5 = 82 then M_runThread_326 kr r0 a1 a2 a3 a4 a5 a6 a10 (wr ((s 54 j1) + 1)) s
else if a5 = 97 then M_runThread_382 kr r0 a1 a2 a3 a4 a5 a6 a8 a10 (wr ((s 54 j1) + 1)) s
else if a5 = 120 then M_runThread_382 kr r0 a1 a2 a3 a4 a5 a6 a8 a10 (wr ((s 54 j1) + 1)) s
else if a5 = 107 then (zix 160 a4 fun j14 =>
zix 160 a4 fun j15 =>
zix 128 (wr (a6 + (s 7 j14))) fun j16 =>
zlet (zup s 53 j16 (s 8 j15)) fun s17 =>
M_runThread_654 kr r0 a1 a2 a3 (wr ((s 54 j1) + 1)) s17)
else if a5 = 116 then M_runThread_488 kr r0 a1 a2 a3 a4 a5 a6 (wr ((s 54 j1) + 1)) s
else if a5 = 110 then M_runThread_488 kr r0 a1 a2 a3 a4 a5 a6 (wr ((s 54 j1) + 1)) s
else if a5 = 108 then M_runThread_488 kr r0 a1 a2 a3 a4 a5 a6 (wr ((s 54 j1) + 1)) s
else if a5 = 122 then (if a9 = 0 then (zix 160 a4 fun j13 =>
M_runThread_555 kr r0 a1 a2 a3 (s 8 j13) s)
else M_runThread_555 kr r0 a1 a2 a3 (wr ((s 54 j1) + 1)) s)
else if a5 = 106 then (zix 160 a4 fun j12 =>
M_runThread_654 kr r0 a1 a2 a3 (s 8 j12) s)
else if a5 = 101 then (zix 16 a3 fun j10 =>
zlet (zup s 55 j10 101) fun s11 =>
M_runThread_654 kr r0 a1 a2 a3 (wr ((s 54 j1) + 1)) s11)
else if a5 = 98 then (zix 16 a3 fun j7 =>
zlet (zup s 55 j7 119) fun s8 =>
zix 16 a3 fun j9 =>
M_runThread_654 kr r0 a1 a2 a3 (s8 54 j9) s8)
else if a5 = 102 then M_runThread_654 kr r0 a1 a2 a3 (wr ((s 54 j1) + 1)) s
else zix 160 a4 fun j2 =>
M_compute a5 a7 a8 s  fun v3 s4 =>
zix 128 (wr (a6 + (s 7 j2))) fun j5 =>
zlet (zup s4 53 j5 v3) fun s6 =>
M_runThread_654 kr r0 a1 a2 a3 (wr ((s 54 j1) + 1)) s6
def M_runThread_237 {ρ : Type} (kr : Int → zD → Option ρ) (r0 : Int → Int → Int → zD → Option ρ) (a1 a2 a3 a4 a5 a6 a7 a8 a9 a10 : Int) (s : zD) : Option ρ :=
M_isShared a5 s  fun v1 s2 =>
if v1 = 0 then M_runThread_264 kr r0 a1 a2 a3 a4 a5 a6 a7 a8 a9 a10 s2
else zix 4 a1 fun j3 =>
M_in a10 0 (wr ((s2 3 j3) - 1)) s2  fun v4 s5 =>
if v4 = 0 then M_runThread_262 kr s5
else M_runThread_264 kr r0 a1 a2 a3 a4 a5 a6 a7 a8 a9 a10 s5
def M_runThread_207 {ρ : Type} (kr : Int → zD → Option ρ) (r0 : Int → Int → Int → zD → Option ρ) (a1 a2 a3 a4 a5 a6 a7 a8 a9 t0 : Int) (s : zD) : Option ρ :=
zix 16 a3 fun j1 =>
if 200 < (s 56 j1) then M_runThread_262 kr s
else M_isGlobal a5 s  fun v2 s3 =>
if v2 = 0 then M_runThread_237 kr r0 a1 a2 a3 a4 a5 a6 a7 a8 a9 t0 s3
else M_noCell t0 s3  fun v4 s5 =>
if v4 = 0 then M_runThread_237 kr r0 a1 a2 a3 a4 a5 a6 a7 a8 a9 t0 s5
else M_runThread_262 kr s5
def M_runThread_200 {ρ : Type} (kr : Int → zD → Option ρ) (r0 : Int → Int → Int → zD → Option ρ) (a1 a2 a3 a4 a5 a6 a7 a8 a9 : Int) (s : zD) : Option ρ :=
M_runThread_207 kr r0 a1 a2 a3 a4 a5 a6 a7 a8 a9 a9 s
def M_runThread_184 {ρ : Type} (kr : Int → zD → Option ρ) (r0 : Int → Int → Int → zD → Option ρ) (a1 a2 a3 a4 a5 a6 a7 a8 t0 : Int) (s : zD) : Option ρ :=
if a5 = 119 then M_runThread_200 kr r0 a1 a2 a3 a4 a5 a6 a7 a8 t0 s
else if a5 = 87 then M_runThread_200 kr r0 a1 a2 a3 a4 a5 a6 a7 a8 t0 s
else M_runThread_207 kr r0 a1 a2 a3 a4 a5 a6 a7 a8 t0 a7 s
def M_runThread_147 {ρ : Type} (kr : Int → zD → Option ρ) (r0 : Int → Int → Int → zD → Option ρ) (a1 a2 a3 a4 a5 a6 a7 t0 : Int) (s : zD) : Option ρ :=
zix 160 a4 fun j1 =>
M_in (s 7 j1) 0 7 s  fun v2 s3 =>
if v2 = 0 then M_runThread_184 kr r0 a1 a2 a3 a4 a5 a6 a7 t0 0 s3
else zix 160 a4 fun j4 =>
zix 128 (wr (a6 + (s3 7 j4))) fun j5 =>
M_runThread_184 kr r0 a1 a2 a3 a4 a5 a6 a7 t0 (s3 53 j5) s3
def M_runThread_110 {ρ : Type} (kr : Int → zD → Option ρ) (r0 : Int → Int → Int → zD → Option ρ) (a1 a2 a3 a4 a5 a6 t0 : Int) (s : zD) : Option ρ :=
zix 160 a4 fun j1 =>
M_in (s 9 j1) 0 7 s  fun v2 s3 =>
if v2 = 0 then M_runThread_147 kr r0 a1 a2 a3 a4 a5 a6 t0 0 s3
else zix 160 a4 fun j4 =>
zix 128 (wr (a6 + (s3 9 j4))) fun j5 =>
M_runThread_147 kr r0 a1 a2 a3 a4 a5 a6 t0 (s3 53 j5) s3
def M_runThread_0b {ρ : Type} (kr : Int → zD → Option ρ) (r0 : Int → Int → Int → zD → Option ρ) (a1 a2 a3 : Int) (s : zD) : Option ρ :=
zix 16 a3 fun j1 =>
if (s 55 j1) = 114 then (zix 16 a3 fun j2 =>
zix 4 a1 fun j3 =>
if (s 54 j2) < (s 4 j3) then (zix 16 a3 fun j4 =>
zix 160 (wr ((wr (40 * a1)) + (s 54 j4))) fun j5 =>
zix 16 a3 fun j6 =>
zix 16 a3 fun j7 =>
zlet (zup s 56 j7 (wr ((s 56 j6) + 1))) fun s8 =>
zix 160 (wr ((wr (40 * a1)) + (s 54 j4))) fun j9 =>
M_in (s8 8 j9) 0 7 s8  fun v10 s11 =>
if v10 = 0 then M_runThread_110 kr r0 a1 a2 a3 (wr ((wr (40 * a1)) + (s 54 j4))) (s 6 j5) (wr (8 * a3)) 0 s11
else zix 160 (wr ((wr (40 * a1)) + (s 54 j4))) fun j12 =>
zix 128 (wr ((wr (8 * a3)) + (s11 8 j12))) fun j13 =>
M_runThread_110 kr r0 a1 a2 a3 (wr ((wr (40 * a1)) + (s 54 j4))) (s 6 j5) (wr (8 * a3)) (s11 53 j13) s11)
else zix 16 a3 fun j14 =>
zlet (zup s 55 j14 101) fun s15 =>
r0 a1 a2 a3 s15)
else kr 1 s
def M_runThread_0 {ρ : Type} (kr : Int → zD → Option ρ) : Int → Int → Int → zD → Option ρ := zit (fun _ _ _ _ => none) (M_runThread_0b kr) zN
def M_runThread {ρ : Type} (a1 a2 a3 : Int) (s : zD) (kr : Int → zD → Option ρ) : Option ρ :=
M_runThread_0 kr a1 a2 a3 s
set_option maxRecDepth 100000 in
theorem qe_M_runThread_262 {ρ : Type} (kr : Int → zD → Option ρ) (s : zD) : M_runThread_262 kr s = zseg zPP false zfinM (zcal []) (zget (999, 0, 0, 0) zc_M_runThread) (zcut [(0, [true, true, true, true, false, false, false, false, false, false, false, false, false]), (110, [true, true, true, true, true, true, true, false, false, false, false, false, false]), (147, [true, true, true, true, true, true, true, true, false, false, false, false, false]), (184, [true, true, true, true, true, true, true, true, true, false, false, false, false]), (200, [true, true, true, true, true, true, true, true, true, true, false, false, false]), (207, [true, true, true, true, true, true, true, true, true, true, false, false, false]), (237, [true, true, true, true, true, true, true, true, true, true, true, false, false]), (262, [false, false, false, false, false, false, false, false, false, false, false, false, false]), (264, [true, true, true, true, true, true, true, true, true, true, true, false, false]), (326, [true, true, true, true, true, true, true, false, false, false, true, true, false]), (364, [true, true, true, true, false, false, false, false, false, false, false, true, false]), (382, [true, true, true, true, true, true, true, false, true, false, true, true, false]), (414, [true, true, true, true, true, false, true, false, false, false, false, true, true]), (488, [true, true, true, true, true, true, true, false, false, false, false, true, false]), (527, [true, true, true, true, false, false, false, false, false, false, false, true, false]), (555, [true, true, true, true, false, false, false, false, false, false, false, false, false]), (654, [true, true, true, true, false, false, false, false, false, false, false, true, false])]) (zorc []) (fun v h => kr v (zhd h)) (fun _ _ => none) 400 262 [none, none, none, none, none, none, none, none, none, none, none, none, none] [] (zM s) := by rfl
set_option maxRecDepth 100000 in
theorem qe_M_runThread_654 {ρ : Type} (kr : Int → zD → Option ρ) (r0 : Int → Int → Int → zD → Option ρ) (a1 a2 a3 a11 : Int) (s : zD) : M_runThread_654 kr r0 a1 a2 a3 a11 s = zseg zPP false zfinM (zcal []) (zget (999, 0, 0, 0) zc_M_runThread) (zcut [(0, [true, true, true, true, false, false, false, false, false, false, false, false, false]), (110, [true, true, true, true, true, true, true, false, false, false, false, false, false]), (147, [true, true, true, true, true, true, true, true, false, false, false, false, false]), (184, [true, true, true, true, true, true, true, true, true, false, false, false, false]), (200, [true, true, true, true, true, true, true, true, true, true, false, false, false]), (207, [true, true, true, true, true, true, true, true, true, true, false, false, false]), (237, [true, true, true, true, true, true, true, true, true, true, true, false, false]), (262, [false, false, false, false, false, false, false, false, false, false, false, false, false]), (264, [true, true, true, true, true, true, true, true, true, true, true, false, false]), (326, [true, true, true, true, true, true, true, false, false, false, true, true, false]), (364, [true, true, true, true, false, false, false, false, false, false, false, true, false]), (382, [true, true, true, true, true, true, true, false, true, false, true, true, false]), (414, [true, true, true, true, true, false, true, false, false, false, false, true, true]), (488, [true, true, true, true, true, true, true, false, false, false, false, true, false]), (527, [true, true, true, true, false, false, false, false, false, false, false, true, false]), (555, [true, true, true, true, false, false, false, false, false, false, false, false, false]), (654, [true, true, true, true, false, false, false, false, false, false, false, true, false])]) (zorc [(0, [some (2, some 0), some (0, none), some (0, none), some (0, none), none, none, none, none, none, none, none, none, none], [], fun xs h => match xs with
  | [a1, a2, a3] => r0 a1 a2 a3 (zhd h)
  | _ => none)]) (fun v h => kr v (zhd h)) (fun _ _ => none) 400 654 [some (2, 0), some (0, a1), some (0, a2), some (0, a3), none, none, none, none, none, none, none, some (0, a11), none] [] (zM s) := by rfl
set_option maxRecDepth 100000 in
theorem qe_M_runThread_364 {ρ : Type} (kr : Int → zD → Option ρ) (r0 : Int → Int → Int → zD → Option ρ) (a1 a2 a3 a11 t0 t1 : Int) (s : zD) : M_runThread_364 kr r0 a1 a2 a3 a11 t0 t1 s = zseg zPP false zfinM (zcal []) (zget (999, 0, 0, 0) zc_M_runThread) (zcut [(0, [true, true, true, true, false, false, false, false, false, false, false, false, false]), (110, [true, true, true, true, true, true, true, false, false, false, false, false, false]), (147, [true, true, true, true, true, true, true, true, false, false, false, false, false]), (184, [true, true, true, true, true, true, true, true, true, false, false, false, false]), (200, [true, true, true, true, true, true, true, true, true, true, false, false, false]), (207, [true, true, true, true, true, true, true, true, true, true, false, false, false]), (237, [true, true, true, true, true, true, true, true, true, true, true, false, false]), (262, [false, false, false, false, false, false, false, false, false, false, false, false, false]), (264, [true, true, true, true, true, true, true, true, true, true, true, false, false]), (326, [true, true, true, true, true, true, true, false, false, false, true, true, false]), (364, [true, true, true, true, false, false, false, false, false, false, false, true, false]), (382, [true, true, true, true, true, true, true, false, true, false, true, true, false]), (414, [true, true, true, true, true, false, true, false, false, false, false, true, true]), (488, [true, true, true, true, true, true, true, false, false, false, false, true, false]), (527, [true, true, true, true, false, false, false, false, false, false, false, true, false]), (555, [true, true, true, true, false, false, false, false, false, false, false, false, false]), (654, [true, true, true, true, false, false, false, false, false, false, false, true, false])]) (zorc [(654, [some (2, some 0), some (0, none), some (0, none), some (0, none), none, none, none, none, none, none, none, some (0, none), none], [], fun xs h => match xs with
  | [a1, a2, a3, a11] => M_runThread_654 kr r0 a1 a2 a3 a11 (zhd h)
  | _ => none)]) (fun v h => kr v (zhd h)) (fun _ _ => none) 400 364 [some (2, 0), some (0, a1), some (0, a2), some (0, a3), none, none, none, none, none, none, none, some (0, a11), none] [(0, t0), (0, t1), (2, 53)] (zM s) := by rfl
set_option maxRecDepth 100000 in
theorem qe_M_runThread_326 {ρ : Type} (kr : Int → zD → Option ρ) (r0 : Int → Int → Int → zD → Option ρ) (a1 a2 a3 a4 a5 a6 a10 a11 : Int) (s : zD) : M_runThread_326 kr r0 a1 a2 a3 a4 a5 a6 a10 a11 s = zseg zPP false zfinM (zcal []) (zget (999, 0, 0, 0) zc_M_runThread) (zcut [(0, [true, true, true, true, false, false, false, false, false, false, false, false, false]), (110, [true, true, true, true, true, true, true, false, false, false, false, false, false]), (147, [true, true, true, true, true, true, true, true, false, false, false, false, false]), (184, [true, true, true, true, true, true, true, true, true, false, false, false, false]), (200, [true, true, true, true, true, true, true, true, true, true, false, false, false]), (207, [true, true, true, true, true, true, true, true, true, true, false, false, false]), (237, [true, true, true, true, true, true, true, true, true, true, true, false, false]), (262, [false, false, false, false, false, false, false, false, false, false, false, false, false]), (264, [true, true, true, true, true, true, true, true, true, true, true, false, false]), (326, [true, true, true, true, true, true, true, false, false, false, true, true, false]), (364, [true, true, true, true, false, false, false, false, false, false, false, true, false]), (382, [true, true, true, true, true, true, true, false, true, false, true, true, false]), (414, [true, true, true, true, true, false, true, false, false, false, false, true, true]), (488, [true, true, true, true, true, true, true, false, false, false, false, true, false]), (527, [true, true, true, true, false, false, false, false, false, false, false, true, false]), (555, [true, true, true, true, false, false, false, false, false, false, false, false, false]), (654, [true, true, true, true, false, false, false, false, false, false, false, true, false])]) (zorc [(364, [some (2, some 0), some (0, none), some (0, none), some (0, none), none, none, none, none, none, none, none, some (0, none), none], [(0, none), (0, none), (2, some 53)], fun xs h => match xs with
  | [a1, a2, a3, a11, t0, t1] => M_runThread_364 kr r0 a1 a2 a3 a11 t0 t1 (zhd h)
  | _ => none)]) (fun v h => kr v (zhd h)) (fun _ _ => none) 400 326 [some (2, 0), some (0, a1), some (0, a2), some (0, a3), some (0, a4), some (0, a5), some (0, a6), none, none, none, some (0, a10), some (0, a11), none] [] (zM s) := by rfl
set_option maxRecDepth 100000 in
theorem qe_M_runThread_414 {ρ : Type} (kr : Int → zD → Option ρ) (r0 : Int → Int → Int → zD → Option ρ) (a1 a2 a3 a4 a6 a11 a12 t0 t1 : Int) (s : zD) : M_runThread_414 kr r0 a1 a2 a3 a4 a6 a11 a12 t0 t1 s = zseg zPP false zfinM (zcal []) (zget (999, 0, 0, 0) zc_M_runThread) (zcut [(0, [true, true, true, true, false, false, false, false, false, false, false, false, false]), (110, [true, true, true, true, true, true, true, false, false, false, false, false, false]), (147, [true, true, true, true, true, true, true, true, false, false, false, false, false]), (184, [true, true, true, true, true, true, true, true, true, false, false, false, false]), (200, [true, true, true, true, true, true, true, true, true, true, false, false, false]), (207, [true, true, true, true, true, true, true, true, true, true, false, false, false]), (237, [true, true, true, true, true, true, true, true, true, true, true, false, false]), (262, [false, false, false, false, false, false, false, false, false, false, false, false, false]), (264, [true, true, true, true, true, true, true, true, true, true, true, false, false]), (326, [true, true, true, true, true, true, true, false, false, false, true, true, false]), (364, [true, true, true, true, false, false, false, false, false, false, false, true, false]), (382, [true, true, true, true, true, true, true, false, true, false, true, true, false]), (414, [true, true, true, true, true, false, true, false, false, false, false, true, true]), (488, [true, true, true, true, true, true, true, false, false, false, false, true, false]), (527, [true, true, true, true, false, false, false, false, false, false, false, true, false]), (555, [true, true, true, true, false, false, false, false, false, false, false, false, false]), (654, [true, true, true, true, false, false, false, false, false, false, false, true, false])]) (zorc [(654, [some (2, some 0), some (0, none), some (0, none), some (0, none), none, none, none, none, none, none, none, some (0, none), none], [], fun xs h => match xs with
  | [a1, a2, a3, a11] => M_runThread_654 kr r0 a1 a2 a3 a11 (zhd h)
  | _ => none)]) (fun v h => kr v (zhd h)) (fun _ _ => none) 400 414 [some (2, 0), some (0, a1), some (0, a2), some (0, a3), some (0, a4), none, some (0, a6), none, none, none, none, some (0, a11), some (0, a12)] [(0, t0), (0, t1), (2, 51)] (zM s) := by rfl
set_option maxRecDepth 100000 in
theorem qe_M_runThread_382 {ρ : Type} (kr : Int → zD → Option ρ) (r0 : Int → Int → Int → zD → Option ρ) (a1 a2 a3 a4 a5 a6 a8 a10 a11 : Int) (s : zD) : M_runThread_382 kr r0 a1 a2 a3 a4 a5 a6 a8 a10 a11 s = zseg zPP false zfinM (zcal []) (zget (999, 0, 0, 0) zc_M_runThread) (zcut [(0, [true, true, true, true, false, false, false, false, false, false, false, false, false]), (110, [true, true, true, true, true, true, true, false, false, false, false, false, false]), (147, [true, true, true, true, true, true, true, true, false, false, false, false, false]), (184, [true, true, true, true, true, true, true, true, true, false, false, false, false]), (200, [true, true, true, true, true, true, true, true, true, true, false, false, false]), (207, [true, true, true, true, true, true, true, true, true, true, false, false, false]), (237, [true, true, true, true, true, true, true, true, true, true, true, false, false]), (262, [false, false, false, false, false, false, false, false, false, false, false, false, false]), (264, [true, true, true, true, true, true, true, true, true, true, true, false, false]), (326, [true, true, true, true, true, true, true, false, false, false, true, true, false]), (364, [true, true, true, true, false, false, false, false, false, false, false, true, false]), (382, [true, true, true, true, true, true, true, false, true, false, true, true, false]), (414, [true, true, true, true, true, false, true, false, false, false, false, true, true]), (488, [true, true, true, true, true, true, true, false, false, false, false, true, false]), (527, [true, true, true, true, false, false, false, false, false, false, false, true, false]), (555, [true, true, true, true, false, false, false, false, false, false, false, false, false]), (654, [true, true, true, true, false, false, false, false, false, false, false, true, false])]) (zorc [(414, [some (2, some 0), some (0, none), some (0, none), some (0, none), some (0, none), none, some (0, none), none, none, none, none, some (0, none), some (0, none)], [(0, none), (0, none), (2, some 51)], fun xs h => match xs with
  | [a1, a2, a3, a4, a6, a11, a12, t0, t1] => M_runThread_414 kr r0 a1 a2 a3 a4 a6 a11 a12 t0 t1 (zhd h)
  | _ => none)]) (fun v h => kr v (zhd h)) (fun _ _ => none) 400 382 [some (2, 0), some (0, a1), some (0, a2), some (0, a3), some (0, a4), some (0, a5), some (0, a6), none, some (0, a8), none, some (0, a10), some (0, a11), none] [] (zM s) := by rfl
set_option maxRecDepth 100000 in
theorem qe_M_runThread_527 {ρ : Type} (kr : Int → zD → Option ρ) (r0 : Int → Int → Int → zD → Option ρ) (a1 a2 a3 a11 t0 t1 : Int) (s : zD) : M_runThread_527 kr r0 a1 a2 a3 a11 t0 t1 s = zseg zPP false zfinM (zcal []) (zget (999, 0, 0, 0) zc_M_runThread) (zcut [(0, [true, true, true, true, false, false, false, false, false, false, false, false, false]), (110, [true, true, true, true, true, true, true, false, false, false, false, false, false]), (147, [true, true, true, true, true, true, true, true, false, false, false, false, false]), (184, [true, true, true, true, true, true, true, true, true, false, false, false, false]), (200, [true, true, true, true, true, true, true, true, true, true, false, false, false]), (207, [true, true, true, true, true, true, true, true, true, true, false, false, false]), (237, [true, true, true, true, true, true, true, true, true, true, true, false, false]), (262, [false, false, false, false, false, false, false, false, false, false, false, false, false]), (264, [true, true, true, true, true, true, true, true, true, true, true, false, false]), (326, [true, true, true, true, true, true, true, false, false, false, true, true, false]), (364, [true, true, true, true, false, false, false, false, false, false, false, true, false]), (382, [true, true, true, true, true, true, true, false, true, false, true, true, false]), (414, [true, true, true, true, true, false, true, false, false, false, false, true, true]), (488, [true, true, true, true, true, true, true, false, false, false, false, true, false]), (527, [true, true, true, true, false, false, false, false, false, false, false, true, false]), (555, [true, true, true, true, false, false, false, false, false, false, false, false, false]), (654, [true, true, true, true, false, false, false, false, false, false, false, true, false])]) (zorc [(654, [some (2, some 0), some (0, none), some (0, none), some (0, none), none, none, none, none, none, none, none, some (0, none), none], [], fun xs h => match xs with
  | [a1, a2, a3, a11] => M_runThread_654 kr r0 a1 a2 a3 a11 (zhd h)
  | _ => none)]) (fun v h => kr v (zhd h)) (fun _ _ => none) 400 527 [some (2, 0), some (0, a1), some (0, a2), some (0, a3), none, none, none, none, none, none, none, some (0, a11), none] [(0, t0), (0, t1), (2, 53)] (zM s) := by rfl
set_option maxRecDepth 100000 in
theorem qe_M_runThread_488 {ρ : Type} (kr : Int → zD → Option ρ) (r0 : Int → Int → Int → zD → Option ρ) (a1 a2 a3 a4 a5 a6 a11 : Int) (s : zD) : M_runThread_488 kr r0 a1 a2 a3 a4 a5 a6 a11 s = zseg zPP false zfinM (zcal []) (zget (999, 0, 0, 0) zc_M_runThread) (zcut [(0, [true, true, true, true, false, false, false, false, false, false, false, false, false]), (110, [true, true, true, true, true, true, true, false, false, false, false, false, false]), (147, [true, true, true, true, true, true, true, true, false, false, false, false, false]), (184, [true, true, true, true, true, true, true, true, true, false, false, false, false]), (200, [true, true, true, true, true, true, true, true, true, true, false, false, false]), (207, [true, true, true, true, true, true, true, true, true, true, false, false, false]), (237, [true, true, true, true, true, true, true, true, true, true, true, false, false]), (262, [false, false, false, false, false, false, false, false, false, false, false, false, false]), (264, [true, true, true, true, true, true, true, true, true, true, true, false, false]), (326, [true, true, true, true, true, true, true, false, false, false, true, true, false]), (364, [true, true, true, true, false, false, false, false, false, false, false, true, false]), (382, [true, true, true, true, true, true, true, false, true, false, true, true, false]), (414, [true, true, true, true, true, false, true, false, false, false, false, true, true]), (488, [true, true, true, true, true, true, true, false, false, false, false, true, false]), (527, [true, true, true, true, false, false, false, false, false, false, false, true, false]), (555, [true, true, true, true, false, false, false, false, false, false, false, false, false]), (654, [true, true, true, true, false, false, false, false, false, false, false, true, false])]) (zorc [(527, [some (2, some 0), some (0, none), some (0, none), some (0, none), none, none, none, none, none, none, none, some (0, none), none], [(0, none), (0, none), (2, some 53)], fun xs h => match xs with
  | [a1, a2, a3, a11, t0, t1] => M_runThread_527 kr r0 a1 a2 a3 a11 t0 t1 (zhd h)
  | _ => none)]) (fun v h => kr v (zhd h)) (fun _ _ => none) 400 488 [some (2, 0), some (0, a1), some (0, a2), some (0, a3), some (0, a4), some (0, a5), some (0, a6), none, none, none, none, some (0, a11), none] [] (zM s) := by rfl
set_option maxRecDepth 100000 in
theorem qe_M_runThread_555 {ρ : Type} (kr : Int → zD → Option ρ) (r0 : Int → Int → Int → zD → Option ρ) (a1 a2 a3 t0 : Int) (s : zD) : M_runThread_555 kr r0 a1 a2 a3 t0 s = zseg zPP false zfinM (zcal []) (zget (999, 0, 0, 0) zc_M_runThread) (zcut [(0, [true, true, true, true, false, false, false, false, false, false, false, false, false]), (110, [true, true, true, true, true, true, true, false, false, false, false, false, false]), (147, [true, true, true, true, true, true, true, true, false, false, false, false, false]), (184, [true, true, true, true, true, true, true, true, true, false, false, false, false]), (200, [true, true, true, true, true, true, true, true, true, true, false, false, false]), (207, [true, true, true, true, true, true, true, true, true, true, false, false, false]), (237, [true, true, true, true, true, true, true, true, true, true, true, false, false]), (262, [false, false, false, false, false, false, false, false, false, false, false, false, false]), (264, [true, true, true, true, true, true, true, true, true, true, true, false, false]), (326, [true, true, true, true, true, true, true, false, false, false, true, true, false]), (364, [true, true, true, true, false, false, false, false, false, false, false, true, false]), (382, [true, true, true, true, true, true, true, false, true, false, true, true, false]), (414, [true, true, true, true, true, false, true, false, false, false, false, true, true]), (488, [true, true, true, true, true, true, true, false, false, false, false, true, false]), (527, [true, true, true, true, false, false, false, false, false, false, false, true, false]), (555, [true, true, true, true, false, false, false, false, false, false, false, false, false]), (654, [true, true, true, true, false, false, false, false, false, false, false, true, false])]) (zorc [(654, [some (2, some 0), some (0, none), some (0, none), some (0, none), none, none, none, none, none, none, none, some (0, none), none], [], fun xs h => match xs with
  | [a1, a2, a3, a11] => M_runThread_654 kr r0 a1 a2 a3 a11 (zhd h)
  | _ => none)]) (fun v h => kr v (zhd h)) (fun _ _ => none) 400 555 [some (2, 0), some (0, a1), some (0, a2), some (0, a3), none, none, none, none, none, none, none, none, none] [(0, t0)] (zM s) := by rfl
set_option maxRecDepth 100000 in
theorem qe_M_runThread_264 {ρ : Type} (kr : Int → zD → Option ρ) (r0 : Int → Int → Int → zD → Option ρ) (a1 a2 a3 a4 a5 a6 a7 a8 a9 a10 : Int) (s : zD) : M_runThread_264 kr r0 a1 a2 a3 a4 a5 a6 a7 a8 a9 a10 s = zseg zPP false zfinM (zcal [(108, [none, none, none], fun xs h kr kt => match xs with
  | [x0, x1, x2] => M_compute x0 x1 x2 (zhd h) (fun v s => kr v (zM s))
  | _ => none)]) (zget (999, 0, 0, 0) zc_M_runThread) (zcut [(0, [true, true, true, true, false, false, false, false, false, false, false, false, false]), (110, [true, true, true, true, true, true, true, false, false, false, false, false, false]), (147, [true, true, true, true, true, true, true, true, false, false, false, false, false]), (184, [true, true, true, true, true, true, true, true, true, false, false, false, false]), (200, [true, true, true, true, true, true, true, true, true, true, false, false, false]), (207, [true, true, true, true, true, true, true, true, true, true, false, false, false]), (237, [true, true, true, true, true, true, true, true, true, true, true, false, false]), (262, [false, false, false, false, false, false, false, false, false, false, false, false, false]), (264, [true, true, true, true, true, true, true, true, true, true, true, false, false]), (326, [true, true, true, true, true, true, true, false, false, false, true, true, false]), (364, [true, true, true, true, false, false, false, false, false, false, false, true, false]), (382, [true, true, true, true, true, true, true, false, true, false, true, true, false]), (414, [true, true, true, true, true, false, true, false, false, false, false, true, true]), (488, [true, true, true, true, true, true, true, false, false, false, false, true, false]), (527, [true, true, true, true, false, false, false, false, false, false, false, true, false]), (555, [true, true, true, true, false, false, false, false, false, false, false, false, false]), (654, [true, true, true, true, false, false, false, false, false, false, false, true, false])]) (zorc [(326, [some (2, some 0), some (0, none), some (0, none), some (0, none), some (0, none), some (0, none), some (0, none), none, none, none, some (0, none), some (0, none), none], [], fun xs h => match xs with
  | [a1, a2, a3, a4, a5, a6, a10, a11] => M_runThread_326 kr r0 a1 a2 a3 a4 a5 a6 a10 a11 (zhd h)
  | _ => none), (382, [some (2, some 0), some (0, none), some (0, none), some (0, none), some (0, none), some (0, none), some (0, none), none, some (0, none), none, some (0, none), some (0, none), none], [], fun xs h => match xs with
  | [a1, a2, a3, a4, a5, a6, a8, a10, a11] => M_runThread_382 kr r0 a1 a2 a3 a4 a5 a6 a8 a10 a11 (zhd h)
  | _ => none), (488, [some (2, some 0), some (0, none), some (0, none), some (0, none), some (0, none), some (0, none), some (0, none), none, none, none, none, some (0, none), none], [], fun xs h => match xs with
  | [a1, a2, a3, a4, a5, a6, a11] => M_runThread_488 kr r0 a1 a2 a3 a4 a5 a6 a11 (zhd h)
  | _ => none), (555, [some (2, some 0), some (0, none), some (0, none), some (0, none), none, none, none, none, none, none, none, none, none], [(0, none)], fun xs h => match xs with
  | [a1, a2, a3, t0] => M_runThread_555 kr r0 a1 a2 a3 t0 (zhd h)
  | _ => none), (654, [some (2, some 0), some (0, none), some (0, none), some (0, none), none, none, none, none, none, none, none, some (0, none), none], [], fun xs h => match xs with
  | [a1, a2, a3, a11] => M_runThread_654 kr r0 a1 a2 a3 a11 (zhd h)
  | _ => none)]) (fun v h => kr v (zhd h)) (fun _ _ => none) 400 264 [some (2, 0), some (0, a1), some (0, a2), some (0, a3), some (0, a4), some (0, a5), some (0, a6), some (0, a7), some (0, a8), some (0, a9), some (0, a10), none, none] [] (zM s) := by rfl
set_option maxRecDepth 100000 in
theorem qe_M_runThread_237 {ρ : Type} (kr : Int → zD → Option ρ) (r0 : Int → Int → Int → zD → Option ρ) (a1 a2 a3 a4 a5 a6 a7 a8 a9 a10 : Int) (s : zD) : M_runThread_237 kr r0 a1 a2 a3 a4 a5 a6 a7 a8 a9 a10 s = zseg zPP false zfinM (zcal [(57, [none, none, none], fun xs h kr kt => match xs with
  | [x0, x1, x2] => M_in x0 x1 x2 (zhd h) (fun v s => kr v (zM s))
  | _ => none), (107, [none], fun xs h kr kt => match xs with
  | [x0] => M_isShared x0 (zhd h) (fun v s => kr v (zM s))
  | _ => none)]) (zget (999, 0, 0, 0) zc_M_runThread) (zcut [(0, [true, true, true, true, false, false, false, false, false, false, false, false, false]), (110, [true, true, true, true, true, true, true, false, false, false, false, false, false]), (147, [true, true, true, true, true, true, true, true, false, false, false, false, false]), (184, [true, true, true, true, true, true, true, true, true, false, false, false, false]), (200, [true, true, true, true, true, true, true, true, true, true, false, false, false]), (207, [true, true, true, true, true, true, true, true, true, true, false, false, false]), (237, [true, true, true, true, true, true, true, true, true, true, true, false, false]), (262, [false, false, false, false, false, false, false, false, false, false, false, false, false]), (264, [true, true, true, true, true, true, true, true, true, true, true, false, false]), (326, [true, true, true, true, true, true, true, false, false, false, true, true, false]), (364, [true, true, true, true, false, false, false, false, false, false, false, true, false]), (382, [true, true, true, true, true, true, true, false, true, false, true, true, false]), (414, [true, true, true, true, true, false, true, false, false, false, false, true, true]), (488, [true, true, true, true, true, true, true, false, false, false, false, true, false]), (527, [true, true, true, true, false, false, false, false, false, false, false, true, false]), (555, [true, true, true, true, false, false, false, false, false, false, false, false, false]), (654, [true, true, true, true, false, false, false, false, false, false, false, true, false])]) (zorc [(262, [none, none, none, none, none, none, none, none, none, none, none, none, none], [], fun xs h => match xs with
  | [] => M_runThread_262 kr  (zhd h)
  | _ => none), (264, [some (2, some 0), some (0, none), some (0, none), some (0, none), some (0, none), some (0, none), some (0, none), some (0, none), some (0, none), some (0, none), some (0, none), none, none], [], fun xs h => match xs with
  | [a1, a2, a3, a4, a5, a6, a7, a8, a9, a10] => M_runThread_264 kr r0 a1 a2 a3 a4 a5 a6 a7 a8 a9 a10 (zhd h)
  | _ => none)]) (fun v h => kr v (zhd h)) (fun _ _ => none) 400 237 [some (2, 0), some (0, a1), some (0, a2), some (0, a3), some (0, a4), some (0, a5), some (0, a6), some (0, a7), some (0, a8), some (0, a9), some (0, a10), none, none] [] (zM s) := by rfl
set_option maxRecDepth 100000 in
theorem qe_M_runThread_207 {ρ : Type} (kr : Int → zD → Option ρ) (r0 : Int → Int → Int → zD → Option ρ) (a1 a2 a3 a4 a5 a6 a7 a8 a9 t0 : Int) (s : zD) : M_runThread_207 kr r0 a1 a2 a3 a4 a5 a6 a7 a8 a9 t0 s = zseg zPP false zfinM (zcal [(61, [none], fun xs h kr kt => match xs with
  | [x0] => M_noCell x0 (zhd h) (fun v s => kr v (zM s))
  | _ => none), (106, [none], fun xs h kr kt => match xs with
  | [x0] => M_isGlobal x0 (zhd h) (fun v s => kr v (zM s))
  | _ => none)]) (zget (999, 0, 0, 0) zc_M_runThread) (zcut [(0, [true, true, true, true, false, false, false, false, false, false, false, false, false]), (110, [true, true, true, true, true, true, true, false, false, false, false, false, false]), (147, [true, true, true, true, true, true, true, true, false, false, false, false, false]), (184, [true, true, true, true, true, true, true, true, true, false, false, false, false]), (200, [true, true, true, true, true, true, true, true, true, true, false, false, false]), (207, [true, true, true, true, true, true, true, true, true, true, false, false, false]), (237, [true, true, true, true, true, true, true, true, true, true, true, false, false]), (262, [false, false, false, false, false, false, false, false, false, false, false, false, false]), (264, [true, true, true, true, true, true, true, true, true, true, true, false, false]), (326, [true, true, true, true, true, true, true, false, false, false, true, true, false]), (364, [true, true, true, true, false, false, false, false, false, false, false, true, false]), (382, [true, true, true, true, true, true, true, false, true, false, true, true, false]), (414, [true, true, true, true, true, false, true, false, false, false, false, true, true]), (488, [true, true, true, true, true, true, true, false, false, false, false, true, false]), (527, [true, true, true, true, false, false, false, false, false, false, false, true, false]), (555, [true, true, true, true, false, false, false, false, false, false, false, false, false]), (654, [true, true, true, true, false, false, false, false, false, false, false, true, false])]) (zorc [(237, [some (2, some 0), some (0, none), some (0, none), some (0, none), some (0, none), some (0, none), some (0, none), some (0, none), some (0, none), some (0, none), some (0, none), none, none], [], fun xs h => match xs with
  | [a1, a2, a3, a4, a5, a6, a7, a8, a9, a10] => M_runThread_237 kr r0 a1 a2 a3 a4 a5 a6 a7 a8 a9 a10 (zhd h)
  | _ => none), (262, [none, none, none, none, none, none, none, none, none, none, none, none, none], [], fun xs h => match xs with
  | [] => M_runThread_262 kr  (zhd h)
  | _ => none)]) (fun v h => kr v (zhd h)) (fun _ _ => none) 400 207 [some (2, 0), some (0, a1), some (0, a2), some (0, a3), some (0, a4), some (0, a5), some (0, a6), some (0, a7), some (0, a8), some (0, a9), none, none, none] [(0, t0)] (zM s) := by rfl
set_option maxRecDepth 100000 in
theorem qe_M_runThread_200 {ρ : Type} (kr : Int → zD → Option ρ) (r0 : Int → Int → Int → zD → Option ρ) (a1 a2 a3 a4 a5 a6 a7 a8 a9 : Int) (s : zD) : M_runThread_200 kr r0 a1 a2 a3 a4 a5 a6 a7 a8 a9 s = zseg zPP false zfinM (zcal []) (zget (999, 0, 0, 0) zc_M_runThread) (zcut [(0, [true, true, true, true, false, false, false, false, false, false, false, false, false]), (110, [true, true, true, true, true, true, true, false, false, false, false, false, false]), (147, [true, true, true, true, true, true, true, true, false, false, false, false, false]), (184, [true, true, true, true, true, true, true, true, true, false, false, false, false]), (200, [true, true, true, true, true, true, true, true, true, true, false, false, false]), (207, [true, true, true, true, true, true, true, true, true, true, false, false, false]), (237, [true, true, true, true, true, true, true, true, true, true, true, false, false]), (262, [false, false, false, false, false, false, false, false, false, false, false, false, false]), (264, [true, true, true, true, true, true, true, true, true, true, true, false, false]), (326, [true, true, true, true, true, true, true, false, false, false, true, true, false]), (364, [true, true, true, true, false, false, false, false, false, false, false, true, false]), (382, [true, true, true, true, true, true, true, false, true, false, true, true, false]), (414, [true, true, true, true, true, false, true, false, false, false, false, true, true]), (488, [true, true, true, true, true, true, true, false, false, false, false, true, false]), (527, [true, true, true, true, false, false, false, false, false, false, false, true, false]), (555, [true, true, true, true, false, false, false, false, false, false, false, false, false]), (654, [true, true, true, true, false, false, false, false, false, false, false, true, false])]) (zorc [(207, [some (2, some 0), some (0, none), some (0, none), some (0, none), some (0, none), some (0, none), some (0, none), some (0, none), some (0, none), some (0, none), none, none, none], [(0, none)], fun xs h => match xs with
  | [a1, a2, a3, a4, a5, a6, a7, a8, a9, t0] => M_runThread_207 kr r0 a1 a2 a3 a4 a5 a6 a7 a8 a9 t0 (zhd h)
  | _ => none)]) (fun v h => kr v (zhd h)) (fun _ _ => none) 400 200 [some (2, 0), some (0, a1), some (0, a2), some (0, a3), some (0, a4), some (0, a5), some (0, a6), some (0, a7), some (0, a8), some (0, a9), none, none, none] [] (zM s) := by rfl
set_option maxRecDepth 100000 in
theorem qe_M_runThread_184 {ρ : Type} (kr : Int → zD → Option ρ) (r0 : Int → Int → Int → zD → Option ρ) (a1 a2 a3 a4 a5 a6 a7 a8 t0 : Int) (s : zD) : M_runThread_184 kr r0 a1 a2 a3 a4 a5 a6 a7 a8 t0 s = zseg zPP false zfinM (zcal []) (zget (999, 0, 0, 0) zc_M_runThread) (zcut [(0, [true, true, true, true, false, false, false, false, false, false, false, false, false]), (110, [true, true, true, true, true, true, true, false, false, false, false, false, false]), (147, [true, true, true, true, true, true, true, true, false, false, false, false, false]), (184, [true, true, true, true, true, true, true, true, true, false, false, false, false]), (200, [true, true, true, true, true, true, true, true, true, true, false, false, false]), (207, [true, true, true, true, true, true, true, true, true, true, false, false, false]), (237, [true, true, true, true, true, true, true, true, true, true, true, false, false]), (262, [false, false, false, false, false, false, false, false, false, false, false, false, false]), (264, [true, true, true, true, true, true, true, true, true, true, true, false, false]), (326, [true, true, true, true, true, true, true, false, false, false, true, true, false]), (364, [true, true, true, true, false, false, false, false, false, false, false, true, false]), (382, [true, true, true, true, true, true, true, false, true, false, true, true, false]), (414, [true, true, true, true, true, false, true, false, false, false, false, true, true]), (488, [true, true, true, true, true, true, true, false, false, false, false, true, false]), (527, [true, true, true, true, false, false, false, false, false, false, false, true, false]), (555, [true, true, true, true, false, false, false, false, false, false, false, false, false]), (654, [true, true, true, true, false, false, false, false, false, false, false, true, false])]) (zorc [(200, [some (2, some 0), some (0, none), some (0, none), some (0, none), some (0, none), some (0, none), some (0, none), some (0, none), some (0, none), some (0, none), none, none, none], [], fun xs h => match xs with
  | [a1, a2, a3, a4, a5, a6, a7, a8, a9] => M_runThread_200 kr r0 a1 a2 a3 a4 a5 a6 a7 a8 a9 (zhd h)
  | _ => none), (207, [some (2, some 0), some (0, none), some (0, none), some (0, none), some (0, none), some (0, none), some (0, none), some (0, none), some (0, none), some (0, none), none, none, none], [(0, none)], fun xs h => match xs with
  | [a1, a2, a3, a4, a5, a6, a7, a8, a9, t0] => M_runThread_207 kr r0 a1 a2 a3 a4 a5 a6 a7 a8 a9 t0 (zhd h)
  | _ => none)]) (fun v h => kr v (zhd h)) (fun _ _ => none) 400 184 [some (2, 0), some (0, a1), some (0, a2), some (0, a3), some (0, a4), some (0, a5), some (0, a6), some (0, a7), some (0, a8), none, none, none, none] [(0, t0)] (zM s) := by rfl
set_option maxRecDepth 100000 in
theorem qe_M_runThread_147 {ρ : Type} (kr : Int → zD → Option ρ) (r0 : Int → Int → Int → zD → Option ρ) (a1 a2 a3 a4 a5 a6 a7 t0 : Int) (s : zD) : M_runThread_147 kr r0 a1 a2 a3 a4 a5 a6 a7 t0 s = zseg zPP false zfinM (zcal [(57, [none, none, none], fun xs h kr kt => match xs with
  | [x0, x1, x2] => M_in x0 x1 x2 (zhd h) (fun v s => kr v (zM s))
  | _ => none)]) (zget (999, 0, 0, 0) zc_M_runThread) (zcut [(0, [true, true, true, true, false, false, false, false, false, false, false, false, false]), (110, [true, true, true, true, true, true, true, false, false, false, false, false, false]), (147, [true, true, true, true, true, true, true, true, false, false, false, false, false]), (184, [true, true, true, true, true, true, true, true, true, false, false, false, false]), (200, [true, true, true, true, true, true, true, true, true, true, false, false, false]), (207, [true, true, true, true, true, true, true, true, true, true, false, false, false]), (237, [true, true, true, true, true, true, true, true, true, true, true, false, false]), (262, [false, false, false, false, false, false, false, false, false, false, false, false, false]), (264, [true, true, true, true, true, true, true, true, true, true, true, false, false]), (326, [true, true, true, true, true, true, true, false, false, false, true, true, false]), (364, [true, true, true, true, false, false, false, false, false, false, false, true, false]), (382, [true, true, true, true, true, true, true, false, true, false, true, true, false]), (414, [true, true, true, true, true, false, true, false, false, false, false, true, true]), (488, [true, true, true, true, true, true, true, false, false, false, false, true, false]), (527, [true, true, true, true, false, false, false, false, false, false, false, true, false]), (555, [true, true, true, true, false, false, false, false, false, false, false, false, false]), (654, [true, true, true, true, false, false, false, false, false, false, false, true, false])]) (zorc [(184, [some (2, some 0), some (0, none), some (0, none), some (0, none), some (0, none), some (0, none), some (0, none), some (0, none), some (0, none), none, none, none, none], [(0, none)], fun xs h => match xs with
  | [a1, a2, a3, a4, a5, a6, a7, a8, t0] => M_runThread_184 kr r0 a1 a2 a3 a4 a5 a6 a7 a8 t0 (zhd h)
  | _ => none)]) (fun v h => kr v (zhd h)) (fun _ _ => none) 400 147 [some (2, 0), some (0, a1), some (0, a2), some (0, a3), some (0, a4), some (0, a5), some (0, a6), some (0, a7), none, none, none, none, none] [(0, t0)] (zM s) := by rfl
set_option maxRecDepth 100000 in
theorem qe_M_runThread_110 {ρ : Type} (kr : Int → zD → Option ρ) (r0 : Int → Int → Int → zD → Option ρ) (a1 a2 a3 a4 a5 a6 t0 : Int) (s : zD) : M_runThread_110 kr r0 a1 a2 a3 a4 a5 a6 t0 s = zseg zPP false zfinM (zcal [(57, [none, none, none], fun xs h kr kt => match xs with
  | [x0, x1, x2] => M_in x0 x1 x2 (zhd h) (fun v s => kr v (zM s))
  | _ => none)]) (zget (999, 0, 0, 0) zc_M_runThread) (zcut [(0, [true, true, true, true, false, false, false, false, false, false, false, false, false]), (110, [true, true, true, true, true, true, true, false, false, false, false, false, false]), (147, [true, true, true, true, true, true, true, true, false, false, false, false, false]), (184, [true, true, true, true, true, true, true, true, true, false, false, false, false]), (200, [true, true, true, true, true, true, true, true, true, true, false, false, false]), (207, [true, true, true, true, true, true, true, true, true, true, false, false, false]), (237, [true, true, true, true, true, true, true, true, true, true, true, false, false]), (262, [false, false, false, false, false, false, false, false, false, false, false, false, false]), (264, [true, true, true, true, true, true, true, true, true, true, true, false, false]), (326, [true, true, true, true, true, true, true, false, false, false, true, true, false]), (364, [true, true, true, true, false, false, false, false, false, false, false, true, false]), (382, [true, true, true, true, true, true, true, false, true, false, true, true, false]), (414, [true, true, true, true, true, false, true, false, false, false, false, true, true]), (488, [true, true, true, true, true, true, true, false, false, false, false, true, false]), (527, [true, true, true, true, false, false, false, false, false, false, false, true, false]), (555, [true, true, true, true, false, false, false, false, false, false, false, false, false]), (654, [true, true, true, true, false, false, false, false, false, false, false, true, false])]) (zorc [(147, [some (2, some 0), some (0, none), some (0, none), some (0, none), some (0, none), some (0, none), some (0, none), some (0, none), none, none, none, none, none], [(0, none)], fun xs h => match xs with
  | [a1, a2, a3, a4, a5, a6, a7, t0] => M_runThread_147 kr r0 a1 a2 a3 a4 a5 a6 a7 t0 (zhd h)
  | _ => none)]) (fun v h => kr v (zhd h)) (fun _ _ => none) 400 110 [some (2, 0), some (0, a1), some (0, a2), some (0, a3), some (0, a4), some (0, a5), some (0, a6), none, none, none, none, none, none] [(0, t0)] (zM s) := by rfl
set_option maxRecDepth 100000 in
theorem qe_M_runThread_0b {ρ : Type} (kr : Int → zD → Option ρ) (r0 : Int → Int → Int → zD → Option ρ) (a1 a2 a3 : Int) (s : zD) : M_runThread_0b kr r0 a1 a2 a3 s = zseg zPP false zfinM (zcal [(57, [none, none, none], fun xs h kr kt => match xs with
  | [x0, x1, x2] => M_in x0 x1 x2 (zhd h) (fun v s => kr v (zM s))
  | _ => none)]) (zget (999, 0, 0, 0) zc_M_runThread) (zcut [(0, [true, true, true, true, false, false, false, false, false, false, false, false, false]), (110, [true, true, true, true, true, true, true, false, false, false, false, false, false]), (147, [true, true, true, true, true, true, true, true, false, false, false, false, false]), (184, [true, true, true, true, true, true, true, true, true, false, false, false, false]), (200, [true, true, true, true, true, true, true, true, true, true, false, false, false]), (207, [true, true, true, true, true, true, true, true, true, true, false, false, false]), (237, [true, true, true, true, true, true, true, true, true, true, true, false, false]), (262, [false, false, false, false, false, false, false, false, false, false, false, false, false]), (264, [true, true, true, true, true, true, true, true, true, true, true, false, false]), (326, [true, true, true, true, true, true, true, false, false, false, true, true, false]), (364, [true, true, true, true, false, false, false, false, false, false, false, true, false]), (382, [true, true, true, true, true, true, true, false, true, false, true, true, false]), (414, [true, true, true, true, true, false, true, false, false, false, false, true, true]), (488, [true, true, true, true, true, true, true, false, false, false, false, true, false]), (527, [true, true, true, true, false, false, false, false, false, false, false, true, false]), (555, [true, true, true, true, false, false, false, false, false, false, false, false, false]), (654, [true, true, true, true, false, false, false, false, false, false, false, true, false])]) (zorc [(0, [some (2, some 0), some (0, none), some (0, none), some (0, none), none, none, none, none, none, none, none, none, none], [], fun xs h => match xs with
  | [a1, a2, a3] => r0 a1 a2 a3 (zhd h)
  | _ => none), (110, [some (2, some 0), some (0, none), some (0, none), some (0, none), some (0, none), some (0, none), some (0, none), none, none, none, none, none, none], [(0, none)], fun xs h => match xs with
  | [a1, a2, a3, a4, a5, a6, t0] => M_runThread_110 kr r0 a1 a2 a3 a4 a5 a6 t0 (zhd h)
  | _ => none)]) (fun v h => kr v (zhd h)) (fun _ _ => none) 400 0 [some (2, 0), some (0, a1), some (0, a2), some (0, a3), none, none, none, none, none, none, none, none, none] [] (zM s) := by rfl
