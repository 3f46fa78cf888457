def zc_Le_launchChild : List zI := [(14, 0, 0, 0), (10, 0, 2, 0), (110, 0, 55, 231), (999, 0, 0, 0), (999, 0, 0, 0), (21, 0, 4, 0), (999, 0, 0, 0), (15, 0, 4, 0), (999, 0, 0, 0), (73, 29, 38, 0), (999, 0, 0, 0), (999, 0, 0, 0), (15, 0, 4, 0), (999, 0, 0, 0), (10, 0, 3, 0), (110, 0, 59, 218), (999, 0, 0, 0), (999, 0, 0, 0), (60, 20, 38, 0), (999, 0, 0, 0), (999, 0, 0, 0), (14, 0, 0, 0), (80, 1, 31, 3), (999, 0, 0, 0), (999, 0, 0, 0), (1, 12, 0, 0), (999, 0, 0, 0), (69, 11, 38, 0), (999, 0, 0, 0), (999, 0, 0, 0), (14, 0, 1, 0), (110, 0, 63, 227), (999, 0, 0, 0), (999, 0, 0, 0), (0, 2, 0, 0), (68, 5, 40, 0), (999, 0, 0, 0), (999, 0, 0, 0), (0, 0, 0, 0), (130, 0, 1, 0), (14, 0, 0, 0), (103, 0, 17, 9), (999, 0, 0, 0), (999, 0, 0, 0), (50, 0, 0, 0), (14, 0, 0, 0), (80, 1, 31, 3), (999, 0, 0, 0), (999, 0, 0, 0), (0, (-1), 0, 0), (7, 0, 0, 0), (7, 0, 0, 0), (14, 0, 1, 0), (115, 0, 45, 219), (999, 0, 0, 0), (999, 0, 0, 0), (110, 0, 48, 235), (999, 0, 0, 0), (999, 0, 0, 0), (15, 0, 4, 0), (999, 0, 0, 0), (0, 1, 0, 0), (10, 0, 3, 0), (110, 0, 67, 220), (999, 0, 0, 0), (999, 0, 0, 0), (0, 1, 0, 0), (130, 0, 1, 0)]
def Le_launchChild_38 {ρ : Type} (kr : Int → zH → Option ρ) (h : zH) : Option ρ :=
kr 0 h
def Le_launchChild {ρ : Type} (a0 a1 a2 a3 : Int) (h : zH) (kr : Int → zH → Option ρ) : Option ρ :=
zob h 1 a0 fun _ =>
Le_kernelOf a0 a2 h  fun v1 h2 =>
if v1 < 0 then Le_launchChild_38 kr h2
else zob h2 7 v1 fun _ =>
Ke_blocksInUnit v1 a3 h2  fun v3 h4 =>
if v3 = 0 then Le_launchChild_38 kr h4
else zob h4 1 a0 fun p5 =>
if (zhd h4 p5 3) < 12 then (zob h4 9 a1 fun _ =>
La_depth a1 h4  fun v6 h7 =>
if v6 < 2 then (zlet (znew h7 9 0 (znf zPP 9) (fun k => zdef (zft zPP 9 k))) fun h8 =>
zob h8 1 a0 fun p9 =>
La_init (zhn h7 : Int) (zhd h8 p9 3) (-1) (-1) (-1) a1 h8  fun _ h11 =>
zob h11 1 a0 fun _ =>
Le_enter a0 (zhn h7 : Int) h11  fun v12 h13 =>
zob h13 9 v12 fun _ =>
La_useKernel v12 v1 1 a3 h13  fun _ h15 =>
kr 1 h15)
else Le_launchChild_38 kr h7)
else Le_launchChild_38 kr h4
set_option maxRecDepth 100000 in
theorem qe_Le_launchChild_38 {ρ : Type} (kr : Int → zH → Option ρ) (h : zH) : Le_launchChild_38 kr h = zseg zPP true (fun _ _ => none) (zcal []) (zget (999, 0, 0, 0) zc_Le_launchChild) (zcut [(38, [false, false, false, false, false])]) (zorc []) kr (fun _ _ => none) 400 38 [none, none, none, none, none] [] h := by rfl
set_option maxRecDepth 100000 in
theorem qe_Le_launchChild {ρ : Type} (kr : Int → zH → Option ρ) (a0 a1 a2 a3 : Int) (h : zH) : Le_launchChild a0 a1 a2 a3 h kr = zseg zPP true (fun _ _ => none) (zcal [(218, [none, none], fun xs h kr kt => match xs with
  | [x0, x1] => Ke_blocksInUnit x0 x1 h kr
  | _ => none), (219, [none, none, none, none, none, none], fun xs h kr kt => match xs with
  | [x0, x1, x2, x3, x4, x5] => La_init x0 x1 x2 x3 x4 x5 h kr
  | _ => none), (220, [none, none, none, none], fun xs h kr kt => match xs with
  | [x0, x1, x2, x3] => La_useKernel x0 x1 x2 x3 h kr
  | _ => none), (227, [none], fun xs h kr kt => match xs with
  | [x0] => La_depth x0 h kr
  | _ => none), (231, [none, none], fun xs h kr kt => match xs with
  | [x0, x1] => Le_kernelOf x0 x1 h kr
  | _ => none), (235, [none, none], fun xs h kr kt => match xs with
  | [x0, x1] => Le_enter x0 x1 h kr
  | _ => none)]) (zget (999, 0, 0, 0) zc_Le_launchChild) (zcut [(38, [false, false, false, false, false])]) (zorc [(38, [none, none, none, none, none], [], fun xs h => match xs with
  | [] => Le_launchChild_38 kr  h
  | _ => none)]) kr (fun _ _ => none) 400 0 [some (2, a0), some (2, a1), some (0, a2), some (0, a3), none] [] h := by rfl
def zc_Co_carryChild : List zI := [(14, 0, 0, 0), (80, 2, 39, 0), (999, 0, 0, 0), (999, 0, 0, 0), (14, 0, 1, 0), (14, 0, 3, 0), (80, 8, 218, 2), (999, 0, 0, 0), (999, 0, 0, 0), (14, 0, 2, 0), (14, 0, 3, 0), (80, 8, 255, 3), (999, 0, 0, 0), (999, 0, 0, 0), (110, 0, 214, 249), (999, 0, 0, 0), (999, 0, 0, 0), (110, 0, 303, 237), (999, 0, 0, 0), (999, 0, 0, 0), (17, 0, 4, 0), (999, 0, 0, 0), (11, 0, 4, 0), (999, 0, 0, 0), (61, 16, 40, 0), (999, 0, 0, 0), (999, 0, 0, 0), (14, 0, 0, 0), (80, 2, 25, 3), (999, 0, 0, 0), (999, 0, 0, 0), (50, 0, 0, 0), (80, 4, 307, 7), (999, 0, 0, 0), (999, 0, 0, 0), (0, 1, 0, 0), (30, 0, 0, 0), (82, 4, 307, 7), (999, 0, 0, 0), (999, 0, 0, 0), (14, 0, 2, 0), (14, 0, 3, 0), (80, 8, 248, 1), (999, 0, 0, 0), (999, 0, 0, 0), (11, 0, 4, 0), (999, 0, 0, 0), (60, 7, 54, 0), (999, 0, 0, 0), (999, 0, 0, 0), (0, 1, 0, 0), (72, 4, 55, 0), (999, 0, 0, 0), (999, 0, 0, 0), (0, 0, 0, 0), (110, 0, 251, 250), (999, 0, 0, 0), (999, 0, 0, 0), (133, 0, 0, 0)]
def Co_carryChild_55 {ρ : Type} (kr : Int → zH → Option ρ) (t0 t1 t2 : Int) (h : zH) : Option ρ :=
zob h 6 t2 fun _ =>
Th_set t2 t1 t0 h  fun _ h2 =>
kr 0 h2
def Co_carryChild_40 {ρ : Type} (kr : Int → zH → Option ρ) (a2 a3 a4 : Int) (h : zH) : Option ρ :=
zob h 8 a3 fun p1 =>
if a4 = 0 then Co_carryChild_55 kr 0 (zhd h p1 1) a2 h
else Co_carryChild_55 kr 1 (zhd h p1 1) a2 h
def Co_carryChild {ρ : Type} (a0 a1 a2 a3 : Int) (h : zH) (kr : Int → zH → Option ρ) : Option ρ :=
zob h 2 a0 fun p1 =>
zob h 8 a3 fun p2 =>
zob h 8 a3 fun p3 =>
zob h 6 a2 fun _ =>
Th_at a2 (zhd h p3 3) h  fun v4 h5 =>
zob h5 1 (zhd h p1 0) fun _ =>
Le_launchChild (zhd h p1 0) a1 (zhd h p2 2) v4 h5  fun v6 h7 =>
if v6 = 0 then (zob h7 2 a0 fun p8 =>
zob h7 4 (zhd h7 p8 3) fun p9 =>
zob h7 4 (zhd h7 p8 3) fun p10 =>
zlet (zset h7 p10 7 (wr ((zhd h7 p9 7) + 1))) fun h11 =>
Co_carryChild_40 kr a2 a3 v6 h11)
else Co_carryChild_40 kr a2 a3 v6 h7
set_option maxRecDepth 100000 in
theorem qe_Co_carryChild_55 {ρ : Type} (kr : Int → zH → Option ρ) (t0 t1 t2 : Int) (h : zH) : Co_carryChild_55 kr t0 t1 t2 h = zseg zPP true (fun _ _ => none) (zcal [(250, [none, none, none], fun xs h kr kt => match xs with
  | [x0, x1, x2] => Th_set x0 x1 x2 h kr
  | _ => none)]) (zget (999, 0, 0, 0) zc_Co_carryChild) (zcut [(40, [false, false, true, true, true]), (55, [false, false, false, false, false])]) (zorc []) kr (fun _ _ => none) 400 55 [none, none, none, none, none] [(0, t0), (0, t1), (2, t2)] h := by rfl
set_option maxRecDepth 100000 in
theorem qe_Co_carryChild_40 {ρ : Type} (kr : Int → zH → Option ρ) (a2 a3 a4 : Int) (h : zH) : Co_carryChild_40 kr a2 a3 a4 h = zseg zPP true (fun _ _ => none) (zcal []) (zget (999, 0, 0, 0) zc_Co_carryChild) (zcut [(40, [false, false, true, true, true]), (55, [false, false, false, false, false])]) (zorc [(55, [none, none, none, none, none], [(0, none), (0, none), (2, none)], fun xs h => match xs with
  | [t0, t1, t2] => Co_carryChild_55 kr t0 t1 t2 h
  | _ => none)]) kr (fun _ _ => none) 400 40 [none, none, some (2, a2), some (2, a3), some (0, a4)] [] h := by rfl
set_option maxRecDepth 100000 in
theorem qe_Co_carryChild {ρ : Type} (kr : Int → zH → Option ρ) (a0 a1 a2 a3 : Int) (h : zH) : Co_carryChild a0 a1 a2 a3 h kr = zseg zPP true (fun _ _ => none) (zcal [(237, [none, none, none, none], fun xs h kr kt => match xs with
  | [x0, x1, x2, x3] => Le_launchChild x0 x1 x2 x3 h kr
  | _ => none), (249, [none, none], fun xs h kr kt => match xs with
  | [x0, x1] => Th_at x0 x1 h kr
  | _ => none)]) (zget (999, 0, 0, 0) zc_Co_carryChild) (zcut [(40, [false, false, true, true, true]), (55, [false, false, false, false, false])]) (zorc [(40, [none, none, some (2, none), some (2, none), some (0, none)], [], fun xs h => match xs with
  | [a2, a3, a4] => Co_carryChild_40 kr a2 a3 a4 h
  | _ => none)]) kr (fun _ _ => none) 400 0 [some (2, a0), some (2, a1), some (2, a2), some (2, a3), none] [] h := by rfl
def zc_Th_reckon : List zI := [(14, 0, 1, 0), (80, 8, 42, 0), (999, 0, 0, 0), (999, 0, 0, 0), (77, 0, 1, 0), (999, 0, 0, 0), (999, 0, 0, 0), (999, 0, 0, 0), (999, 0, 0, 0), (999, 0, 0, 0), (999, 0, 0, 0), (999, 0, 0, 0), (999, 0, 0, 0), (999, 0, 0, 0), (999, 0, 0, 0), (999, 0, 0, 0), (999, 0, 0, 0), (999, 0, 0, 0), (999, 0, 0, 0), (999, 0, 0, 0), (999, 0, 0, 0), (999, 0, 0, 0), (999, 0, 0, 0), (999, 0, 0, 0), (999, 0, 0, 0), (999, 0, 0, 0), (999, 0, 0, 0), (999, 0, 0, 0), (999, 0, 0, 0), (999, 0, 0, 0), (999, 0, 0, 0), (999, 0, 0, 0), (999, 0, 0, 0), (999, 0, 0, 0), (999, 0, 0, 0), (999, 0, 0, 0), (999, 0, 0, 0), (999, 0, 0, 0), (999, 0, 0, 0), (999, 0, 0, 0), (999, 0, 0, 0), (999, 0, 0, 0), (999, 0, 0, 0), (999, 0, 0, 0), (999, 0, 0, 0), (999, 0, 0, 0), (999, 0, 0, 0), (999, 0, 0, 0), (999, 0, 0, 0), (999, 0, 0, 0), (999, 0, 0, 0), (999, 0, 0, 0), (999, 0, 0, 0), (999, 0, 0, 0), (999, 0, 0, 0), (999, 0, 0, 0), (999, 0, 0, 0), (999, 0, 0, 0), (999, 0, 0, 0), (999, 0, 0, 0), (999, 0, 0, 0), (999, 0, 0, 0), (999, 0, 0, 0), (999, 0, 0, 0), (999, 0, 0, 0), (999, 0, 0, 0), (999, 0, 0, 0), (999, 0, 0, 0), (999, 0, 0, 0), (999, 0, 0, 0), (999, 0, 0, 0), (999, 0, 0, 0), (999, 0, 0, 0), (999, 0, 0, 0), (999, 0, 0, 0), (999, 0, 0, 0), (999, 0, 0, 0), (999, 0, 0, 0), (999, 0, 0, 0), (999, 0, 0, 0), (999, 0, 0, 0), (999, 0, 0, 0), (999, 0, 0, 0), (999, 0, 0, 0), (999, 0, 0, 0), (999, 0, 0, 0), (999, 0, 0, 0), (999, 0, 0, 0), (14, 0, 0, 0), (14, 0, 1, 0), (80, 8, 47, 1), (999, 0, 0, 0), (999, 0, 0, 0), (14, 0, 1, 0), (80, 8, 50, 2), (999, 0, 0, 0), (999, 0, 0, 0), (110, 0, 53, 250), (999, 0, 0, 0), (999, 0, 0, 0), (72, 204, 304, 0), (999, 0, 0, 0), (999, 0, 0, 0), (14, 0, 0, 0), (14, 0, 1, 0), (80, 8, 47, 1), (999, 0, 0, 0), (999, 0, 0, 0), (14, 0, 0, 0), (14, 0, 1, 0), (80, 8, 50, 2), (999, 0, 0, 0), (999, 0, 0, 0), (110, 0, 56, 249), (999, 0, 0, 0), (999, 0, 0, 0), (14, 0, 0, 0), (14, 0, 1, 0), (80, 8, 60, 3), (999, 0, 0, 0), (999, 0, 0, 0), (110, 0, 56, 249), (999, 0, 0, 0), (999, 0, 0, 0), (30, 0, 0, 0), (110, 0, 53, 250), (999, 0, 0, 0), (999, 0, 0, 0), (72, 176, 304, 0), (999, 0, 0, 0), (999, 0, 0, 0), (14, 0, 0, 0), (14, 0, 1, 0), (80, 8, 47, 1), (999, 0, 0, 0), (999, 0, 0, 0), (14, 0, 0, 0), (14, 0, 1, 0), (80, 8, 50, 2), (999, 0, 0, 0), (999, 0, 0, 0), (110, 0, 56, 249), (999, 0, 0, 0), (999, 0, 0, 0), (14, 0, 0, 0), (14, 0, 1, 0), (80, 8, 60, 3), (999, 0, 0, 0), (999, 0, 0, 0), (110, 0, 56, 249), (999, 0, 0, 0), (999, 0, 0, 0), (31, 0, 0, 0), (110, 0, 53, 250), (999, 0, 0, 0), (999, 0, 0, 0), (72, 148, 304, 0), (999, 0, 0, 0), (999, 0, 0, 0), (14, 0, 0, 0), (14, 0, 1, 0), (80, 8, 47, 1), (999, 0, 0, 0), (999, 0, 0, 0), (14, 0, 0, 0), (14, 0, 1, 0), (80, 8, 50, 2), (999, 0, 0, 0), (999, 0, 0, 0), (110, 0, 56, 249), (999, 0, 0, 0), (999, 0, 0, 0), (14, 0, 0, 0), (14, 0, 1, 0), (80, 8, 60, 3), (999, 0, 0, 0), (999, 0, 0, 0), (110, 0, 56, 249), (999, 0, 0, 0), (999, 0, 0, 0), (32, 0, 0, 0), (110, 0, 53, 250), (999, 0, 0, 0), (999, 0, 0, 0), (72, 120, 304, 0), (999, 0, 0, 0), (999, 0, 0, 0), (14, 0, 0, 0), (14, 0, 1, 0), (80, 8, 47, 1), (999, 0, 0, 0), (999, 0, 0, 0), (14, 0, 0, 0), (14, 0, 1, 0), (80, 8, 50, 2), (999, 0, 0, 0), (999, 0, 0, 0), (110, 0, 56, 249), (999, 0, 0, 0), (999, 0, 0, 0), (14, 0, 0, 0), (14, 0, 1, 0), (80, 8, 60, 3), (999, 0, 0, 0), (999, 0, 0, 0), (110, 0, 56, 249), (999, 0, 0, 0), (999, 0, 0, 0), (69, 7, 215, 0), (999, 0, 0, 0), (999, 0, 0, 0), (0, 1, 0, 0), (72, 4, 216, 0), (999, 0, 0, 0), (999, 0, 0, 0), (0, 0, 0, 0), (110, 0, 53, 250), (999, 0, 0, 0), (999, 0, 0, 0), (72, 85, 304, 0), (999, 0, 0, 0), (999, 0, 0, 0), (14, 0, 0, 0), (14, 0, 1, 0), (80, 8, 47, 1), (999, 0, 0, 0), (999, 0, 0, 0), (14, 0, 0, 0), (14, 0, 1, 0), (80, 8, 50, 2), (999, 0, 0, 0), (999, 0, 0, 0), (110, 0, 56, 249), (999, 0, 0, 0), (999, 0, 0, 0), (14, 0, 0, 0), (14, 0, 1, 0), (80, 8, 60, 3), (999, 0, 0, 0), (999, 0, 0, 0), (110, 0, 56, 249), (999, 0, 0, 0), (999, 0, 0, 0), (67, 7, 250, 0), (999, 0, 0, 0), (999, 0, 0, 0), (0, 1, 0, 0), (72, 4, 251, 0), (999, 0, 0, 0), (999, 0, 0, 0), (0, 0, 0, 0), (110, 0, 53, 250), (999, 0, 0, 0), (999, 0, 0, 0), (72, 50, 304, 0), (999, 0, 0, 0), (999, 0, 0, 0), (14, 0, 0, 0), (14, 0, 1, 0), (80, 8, 47, 1), (999, 0, 0, 0), (999, 0, 0, 0), (14, 0, 0, 0), (80, 6, 9, 0), (999, 0, 0, 0), (999, 0, 0, 0), (110, 0, 53, 250), (999, 0, 0, 0), (999, 0, 0, 0), (72, 35, 304, 0), (999, 0, 0, 0), (999, 0, 0, 0), (14, 0, 0, 0), (14, 0, 1, 0), (80, 8, 47, 1), (999, 0, 0, 0), (999, 0, 0, 0), (14, 0, 0, 0), (80, 6, 25, 2), (999, 0, 0, 0), (999, 0, 0, 0), (110, 0, 53, 250), (999, 0, 0, 0), (999, 0, 0, 0), (72, 20, 304, 0), (999, 0, 0, 0), (999, 0, 0, 0), (14, 0, 0, 0), (14, 0, 1, 0), (80, 8, 47, 1), (999, 0, 0, 0), (999, 0, 0, 0), (14, 0, 0, 0), (80, 6, 9, 0), (999, 0, 0, 0), (999, 0, 0, 0), (0, 4, 0, 0), (34, 0, 0, 0), (110, 0, 53, 250), (999, 0, 0, 0), (999, 0, 0, 0), (72, 3, 304, 0), (999, 0, 0, 0), (999, 0, 0, 0), (133, 0, 0, 0)]
def Th_reckon_304 {ρ : Type} (kr : Int → zH → Option ρ) (h : zH) : Option ρ :=
kr 0 h
def Th_reckon_216 {ρ : Type} (kr : Int → zH → Option ρ) (t0 t1 t2 : Int) (h : zH) : Option ρ :=
zob h 6 t2 fun _ =>
Th_set t2 t1 t0 h  fun _ h2 =>
Th_reckon_304 kr h2
def Th_reckon_251 {ρ : Type} (kr : Int → zH → Option ρ) (t0 t1 t2 : Int) (h : zH) : Option ρ :=
zob h 6 t2 fun _ =>
Th_set t2 t1 t0 h  fun _ h2 =>
Th_reckon_304 kr h2
def Th_reckon {ρ : Type} (a0 a1 : Int) (h : zH) (kr : Int → zH → Option ρ) : Option ρ :=
zob h 8 a1 fun p1 =>
if (zhd h p1 0) = 42 then (zob h 8 a1 fun p2 =>
zob h 8 a1 fun p3 =>
zob h 6 a0 fun _ =>
Th_at a0 (zhd h p3 2) h  fun v4 h5 =>
zob h5 8 a1 fun p6 =>
zob h5 6 a0 fun _ =>
Th_at a0 (zhd h5 p6 3) h5  fun v7 h8 =>
zob h8 6 a0 fun _ =>
Th_set a0 (zhd h p2 1) (wr (v4 * v7)) h8  fun _ h10 =>
Th_reckon_304 kr h10)
else if (zhd h p1 0) = 43 then (zob h 8 a1 fun p11 =>
zob h 8 a1 fun p12 =>
zob h 6 a0 fun _ =>
Th_at a0 (zhd h p12 2) h  fun v13 h14 =>
zob h14 8 a1 fun p15 =>
zob h14 6 a0 fun _ =>
Th_at a0 (zhd h14 p15 3) h14  fun v16 h17 =>
zob h17 6 a0 fun _ =>
Th_set a0 (zhd h p11 1) (wr (v13 + v16)) h17  fun _ h19 =>
Th_reckon_304 kr h19)
else if (zhd h p1 0) = 45 then (zob h 8 a1 fun p20 =>
zob h 8 a1 fun p21 =>
zob h 6 a0 fun _ =>
Th_at a0 (zhd h p21 2) h  fun v22 h23 =>
zob h23 8 a1 fun p24 =>
zob h23 6 a0 fun _ =>
Th_at a0 (zhd h23 p24 3) h23  fun v25 h26 =>
zob h26 6 a0 fun _ =>
Th_set a0 (zhd h p20 1) (wr (v22 - v25)) h26  fun _ h28 =>
Th_reckon_304 kr h28)
else if (zhd h p1 0) = 60 then (zob h 8 a1 fun p29 =>
zob h 8 a1 fun p30 =>
zob h 6 a0 fun _ =>
Th_at a0 (zhd h p30 2) h  fun v31 h32 =>
zob h32 8 a1 fun p33 =>
zob h32 6 a0 fun _ =>
Th_at a0 (zhd h32 p33 3) h32  fun v34 h35 =>
if v31 < v34 then Th_reckon_216 kr 1 (zhd h p29 1) a0 h35
else Th_reckon_216 kr 0 (zhd h p29 1) a0 h35)
else if (zhd h p1 0) = 61 then (zob h 8 a1 fun p36 =>
zob h 8 a1 fun p37 =>
zob h 6 a0 fun _ =>
Th_at a0 (zhd h p37 2) h  fun v38 h39 =>
zob h39 8 a1 fun p40 =>
zob h39 6 a0 fun _ =>
Th_at a0 (zhd h39 p40 3) h39  fun v41 h42 =>
if v38 = v41 then Th_reckon_251 kr 1 (zhd h p36 1) a0 h42
else Th_reckon_251 kr 0 (zhd h p36 1) a0 h42)
else if (zhd h p1 0) = 107 then (zob h 8 a1 fun p43 =>
zob h 8 a1 fun p44 =>
zob h 6 a0 fun _ =>
Th_set a0 (zhd h p43 1) (zhd h p44 2) h  fun _ h46 =>
Th_reckon_304 kr h46)
else if (zhd h p1 0) = 108 then (zob h 8 a1 fun p47 =>
zob h 6 a0 fun p48 =>
zob h 6 a0 fun _ =>
Th_set a0 (zhd h p47 1) (Int.tmod (zhd h p48 0) 4) h  fun _ h50 =>
Th_reckon_304 kr h50)
else if (zhd h p1 0) = 110 then (zob h 8 a1 fun p51 =>
zob h 6 a0 fun p52 =>
zob h 6 a0 fun _ =>
Th_set a0 (zhd h p51 1) (zhd h p52 2) h  fun _ h54 =>
Th_reckon_304 kr h54)
else if (zhd h p1 0) = 116 then (zob h 8 a1 fun p55 =>
zob h 6 a0 fun p56 =>
zob h 6 a0 fun _ =>
Th_set a0 (zhd h p55 1) (zhd h p56 0) h  fun _ h58 =>
Th_reckon_304 kr h58)
else Th_reckon_304 kr h
set_option maxRecDepth 100000 in
theorem qe_Th_reckon_304 {ρ : Type} (kr : Int → zH → Option ρ) (h : zH) : Th_reckon_304 kr h = zseg zPP true (fun _ _ => none) (zcal []) (zget (999, 0, 0, 0) zc_Th_reckon) (zcut [(216, [false, false]), (251, [false, false]), (304, [false, false])]) (zorc []) kr (fun _ _ => none) 400 304 [none, none] [] h := by rfl
set_option maxRecDepth 100000 in
theorem qe_Th_reckon_216 {ρ : Type} (kr : Int → zH → Option ρ) (t0 t1 t2 : Int) (h : zH) : Th_reckon_216 kr t0 t1 t2 h = zseg zPP true (fun _ _ => none) (zcal [(250, [none, none, none], fun xs h kr kt => match xs with
  | [x0, x1, x2] => Th_set x0 x1 x2 h kr
  | _ => none)]) (zget (999, 0, 0, 0) zc_Th_reckon) (zcut [(216, [false, false]), (251, [false, false]), (304, [false, false])]) (zorc [(304, [none, none], [], fun xs h => match xs with
  | [] => Th_reckon_304 kr  h
  | _ => none)]) kr (fun _ _ => none) 400 216 [none, none] [(0, t0), (0, t1), (2, t2)] h := by rfl
set_option maxRecDepth 100000 in
theorem qe_Th_reckon_251 {ρ : Type} (kr : Int → zH → Option ρ) (t0 t1 t2 : Int) (h : zH) : Th_reckon_251 kr t0 t1 t2 h = zseg zPP true (fun _ _ => none) (zcal [(250, [none, none, none], fun xs h kr kt => match xs with
  | [x0, x1, x2] => Th_set x0 x1 x2 h kr
  | _ => none)]) (zget (999, 0, 0, 0) zc_Th_reckon) (zcut [(216, [false, false]), (251, [false, false]), (304, [false, false])]) (zorc [(304, [none, none], [], fun xs h => match xs with
  | [] => Th_reckon_304 kr  h
  | _ => none)]) kr (fun _ _ => none) 400 251 [none, none] [(0, t0), (0, t1), (2, t2)] h := by rfl
set_option maxRecDepth 100000 in
theorem qe_Th_reckon {ρ : Type} (kr : Int → zH → Option ρ) (a0 a1 : Int) (h : zH) : Th_reckon a0 a1 h kr = zseg zPP true (fun _ _ => none) (zcal [(249, [none, none], fun xs h kr kt => match xs with
  | [x0, x1] => Th_at x0 x1 h kr
  | _ => none), (250, [none, none, none], fun xs h kr kt => match xs with
  | [x0, x1, x2] => Th_set x0 x1 x2 h kr
  | _ => none)]) (zget (999, 0, 0, 0) zc_Th_reckon) (zcut [(216, [false, false]), (251, [false, false]), (304, [false, false])]) (zorc [(216, [none, none], [(0, none), (0, none), (2, none)], fun xs h => match xs with
  | [t0, t1, t2] => Th_reckon_216 kr t0 t1 t2 h
  | _ => none), (251, [none, none], [(0, none), (0, none), (2, none)], fun xs h => match xs with
  | [t0, t1, t2] => Th_reckon_251 kr t0 t1 t2 h
  | _ => none), (304, [none, none], [], fun xs h => match xs with
  | [] => Th_reckon_304 kr  h
  | _ => none)]) kr (fun _ _ => none) 400 0 [some (2, a0), some (2, a1)] [] h := by rfl
def zc_Co_carryLane : List zI := [(15, 0, 4, 0), (999, 0, 0, 0), (8, 2, 234, 0), (999, 0, 0, 0), (110, 0, 223, 210), (999, 0, 0, 0), (999, 0, 0, 0), (60, 18, 25, 0), (999, 0, 0, 0), (999, 0, 0, 0), (14, 0, 0, 0), (14, 0, 1, 0), (14, 0, 0, 0), (80, 2, 33, 6), (999, 0, 0, 0), (999, 0, 0, 0), (10, 0, 2, 0), (90, 0, 0, 0), (14, 0, 3, 0), (15, 0, 4, 0), (999, 0, 0, 0), (110, 0, 236, 180), (999, 0, 0, 0), (999, 0, 0, 0), (130, 0, 2, 0), (15, 0, 4, 0), (999, 0, 0, 0), (8, 3, 239, 0), (999, 0, 0, 0), (110, 0, 223, 210), (999, 0, 0, 0), (999, 0, 0, 0), (60, 20, 52, 0), (999, 0, 0, 0), (999, 0, 0, 0), (14, 0, 1, 0), (80, 11, 66, 0), (999, 0, 0, 0), (999, 0, 0, 0), (14, 0, 0, 0), (80, 2, 33, 6), (999, 0, 0, 0), (999, 0, 0, 0), (10, 0, 2, 0), (90, 0, 0, 0), (14, 0, 3, 0), (15, 0, 4, 0), (999, 0, 0, 0), (113, 0, 241, 181), (999, 0, 0, 0), (999, 0, 0, 0), (130, 0, 2, 0), (15, 0, 4, 0), (999, 0, 0, 0), (80, 8, 245, 0), (999, 0, 0, 0), (999, 0, 0, 0), (1, 118, 0, 0), (999, 0, 0, 0), (67, 19, 78, 0), (999, 0, 0, 0), (999, 0, 0, 0), (14, 0, 3, 0), (15, 0, 4, 0), (999, 0, 0, 0), (80, 8, 248, 1), (999, 0, 0, 0), (999, 0, 0, 0), (14, 0, 0, 0), (80, 2, 206, 9), (999, 0, 0, 0), (999, 0, 0, 0), (110, 0, 251, 250), (999, 0, 0, 0), (999, 0, 0, 0), (72, 96, 171, 0), (999, 0, 0, 0), (999, 0, 0, 0), (15, 0, 4, 0), (999, 0, 0, 0), (80, 8, 245, 0), (999, 0, 0, 0), (999, 0, 0, 0), (1, 115, 0, 0), (999, 0, 0, 0), (67, 53, 138, 0), (999, 0, 0, 0), (999, 0, 0, 0), (14, 0, 3, 0), (15, 0, 4, 0), (999, 0, 0, 0), (80, 8, 255, 3), (999, 0, 0, 0), (999, 0, 0, 0), (110, 0, 214, 249), (999, 0, 0, 0), (999, 0, 0, 0), (0, 4, 0, 0), (113, 0, 258, 2), (999, 0, 0, 0), (999, 0, 0, 0), (17, 0, 5, 0), (999, 0, 0, 0), (14, 0, 3, 0), (15, 0, 4, 0), (999, 0, 0, 0), (80, 8, 248, 1), (999, 0, 0, 0), (999, 0, 0, 0), (14, 0, 0, 0), (80, 2, 36, 7), (999, 0, 0, 0), (999, 0, 0, 0), (14, 0, 0, 0), (80, 2, 161, 8), (999, 0, 0, 0), (999, 0, 0, 0), (11, 0, 5, 0), (999, 0, 0, 0), (114, 0, 172, 50), (999, 0, 0, 0), (999, 0, 0, 0), (60, 8, 130, 0), (999, 0, 0, 0), (999, 0, 0, 0), (11, 0, 5, 0), (999, 0, 0, 0), (72, 4, 131, 0), (999, 0, 0, 0), (999, 0, 0, 0), (10, 0, 2, 0), (90, 0, 0, 0), (110, 0, 251, 250), (999, 0, 0, 0), (999, 0, 0, 0), (72, 36, 171, 0), (999, 0, 0, 0), (999, 0, 0, 0), (15, 0, 4, 0), (999, 0, 0, 0), (80, 8, 245, 0), (999, 0, 0, 0), (999, 0, 0, 0), (1, 99, 0, 0), (999, 0, 0, 0), (67, 20, 165, 0), (999, 0, 0, 0), (999, 0, 0, 0), (14, 0, 0, 0), (14, 0, 1, 0), (80, 11, 66, 0), (999, 0, 0, 0), (999, 0, 0, 0), (80, 10, 144, 0), (999, 0, 0, 0), (999, 0, 0, 0), (14, 0, 3, 0), (15, 0, 4, 0), (999, 0, 0, 0), (110, 0, 264, 182), (999, 0, 0, 0), (999, 0, 0, 0), (72, 9, 171, 0), (999, 0, 0, 0), (999, 0, 0, 0), (14, 0, 3, 0), (15, 0, 4, 0), (999, 0, 0, 0), (110, 0, 268, 251), (999, 0, 0, 0), (999, 0, 0, 0), (1, 45, 0, 0), (999, 0, 0, 0), (130, 0, 2, 0)]
def Co_carryLane_171 {ρ : Type} (kr : Int → zH → Option ρ) (h : zH) : Option ρ :=
kr 45 h
def Co_carryLane_131 {ρ : Type} (kr : Int → zH → Option ρ) (t0 t1 t2 t3 : Int) (h : zH) : Option ρ :=
zob h 20 t1 fun p2 =>
zix (zhl h p2) t0 fun j1 =>
zob h 6 t3 fun _ =>
Th_set t3 t2 (zhd h p2 j1) h  fun _ h4 =>
Co_carryLane_171 kr h4
def Co_carryLane {ρ : Type} (a0 a1 a2 a3 a4 : Int) (h : zH) (kr : Int → zH → Option ρ) : Option ρ :=
zob h 8 a4 fun _ =>
In_isOneOf a4 2 h  fun v1 h2 =>
if v1 = 0 then (zob h2 8 a4 fun _ =>
In_isOneOf a4 3 h2  fun v3 h4 =>
if v3 = 0 then (zob h4 8 a4 fun p5 =>
if (zhd h4 p5 0) = 118 then (zob h4 8 a4 fun p24 =>
zob h4 2 a0 fun p25 =>
zob h4 6 a3 fun _ =>
Th_set a3 (zhd h4 p24 1) (zhd h4 p25 9) h4  fun _ h27 =>
Co_carryLane_171 kr h27)
else zob h4 8 a4 fun p6 =>
if (zhd h4 p6 0) = 115 then (zob h4 8 a4 fun p14 =>
zob h4 6 a3 fun _ =>
Th_at a3 (zhd h4 p14 3) h4  fun v15 h16 =>
Ma_floorMod v15 4 h16  fun v17 h18 =>
zob h18 8 a4 fun p19 =>
zob h18 2 a0 fun p20 =>
zob h18 2 a0 fun p21 =>
X_isIn (zhd h18 p21 8) v17 h18  fun v22 h23 =>
if v22 = 0 then Co_carryLane_131 kr a2 (zhd h18 p20 7) (zhd h18 p19 1) a3 h23
else Co_carryLane_131 kr v17 (zhd h18 p20 7) (zhd h18 p19 1) a3 h23)
else zob h4 8 a4 fun p7 =>
if (zhd h4 p7 0) = 99 then (zob h4 11 a1 fun p10 =>
zob h4 10 (zhd h4 p10 0) fun p11 =>
zob h4 2 a0 fun _ =>
Co_carryChild a0 (zhd h4 p11 0) a3 a4 h4  fun _ h13 =>
Co_carryLane_171 kr h13)
else zob h4 6 a3 fun _ =>
Th_reckon a3 a4 h4  fun _ h9 =>
Co_carryLane_171 kr h9)
else zob h4 11 a1 fun p28 =>
zob h4 2 a0 fun p29 =>
zob h4 20 (zhd h4 p29 6) fun p31 =>
zix (zhl h4 p31) a2 fun j30 =>
Co_carryShared (zhd h4 p28 0) (zhd h4 p31 j30) a3 a4 h4  fun v32 h33 =>
znar 2 v32 fun x34 => kr x34 h33)
else zob h2 2 a0 fun p35 =>
zob h2 20 (zhd h2 p35 6) fun p37 =>
zix (zhl h2 p37) a2 fun j36 =>
zob h2 2 a0 fun _ =>
Co_carryGlobal a0 a1 (zhd h2 p37 j36) a3 a4 h2  fun v38 h39 =>
znar 2 v38 fun x40 => kr x40 h39
set_option maxRecDepth 100000 in
theorem qe_Co_carryLane_171 {ρ : Type} (kr : Int → zH → Option ρ) (h : zH) : Co_carryLane_171 kr h = zseg zPP true (fun _ _ => none) (zcal []) (zget (999, 0, 0, 0) zc_Co_carryLane) (zcut [(131, [false, false, false, false, false, false]), (171, [false, false, false, false, false, false])]) (zorc []) kr (fun _ _ => none) 400 171 [none, none, none, none, none, none] [] h := by rfl
set_option maxRecDepth 100000 in
theorem qe_Co_carryLane_131 {ρ : Type} (kr : Int → zH → Option ρ) (t0 t1 t2 t3 : Int) (h : zH) : Co_carryLane_131 kr t0 t1 t2 t3 h = zseg zPP true (fun _ _ => none) (zcal [(250, [none, none, none], fun xs h kr kt => match xs with
  | [x0, x1, x2] => Th_set x0 x1 x2 h kr
  | _ => none)]) (zget (999, 0, 0, 0) zc_Co_carryLane) (zcut [(131, [false, false, false, false, false, false]), (171, [false, false, false, false, false, false])]) (zorc [(171, [none, none, none, none, none, none], [], fun xs h => match xs with
  | [] => Co_carryLane_171 kr  h
  | _ => none)]) kr (fun _ _ => none) 400 131 [none, none, none, none, none, none] [(0, t0), (2, t1), (0, t2), (2, t3)] h := by rfl
set_option maxRecDepth 100000 in
theorem qe_Co_carryLane {ρ : Type} (kr : Int → zH → Option ρ) (a0 a1 a2 a3 a4 : Int) (h : zH) : Co_carryLane a0 a1 a2 a3 a4 h kr = zseg zPP true (fun _ _ => none) (zcal [(2, [none, none], fun xs h kr kt => match xs with
  | [x0, x1] => Ma_floorMod x0 x1 h kr
  | _ => none), (50, [none, none], fun xs h kr kt => match xs with
  | [x0, x1] => X_isIn x0 x1 h kr
  | _ => none), (180, [none, none, none, none, none], fun xs h kr kt => match xs with
  | [x0, x1, x2, x3, x4] => Co_carryGlobal x0 x1 x2 x3 x4 h kr
  | _ => none), (181, [none, none, none, none], fun xs h kr kt => match xs with
  | [x0, x1, x2, x3] => Co_carryShared x0 x1 x2 x3 h kr
  | _ => none), (182, [none, none, none, none], fun xs h kr kt => match xs with
  | [x0, x1, x2, x3] => Co_carryChild x0 x1 x2 x3 h kr
  | _ => none), (210, [none, none], fun xs h kr kt => match xs with
  | [x0, x1] => In_isOneOf x0 x1 h kr
  | _ => none), (249, [none, none], fun xs h kr kt => match xs with
  | [x0, x1] => Th_at x0 x1 h kr
  | _ => none), (250, [none, none, none], fun xs h kr kt => match xs with
  | [x0, x1, x2] => Th_set x0 x1 x2 h kr
  | _ => none), (251, [none, none], fun xs h kr kt => match xs with
  | [x0, x1] => Th_reckon x0 x1 h kr
  | _ => none)]) (zget (999, 0, 0, 0) zc_Co_carryLane) (zcut [(131, [false, false, false, false, false, false]), (171, [false, false, false, false, false, false])]) (zorc [(131, [none, none, none, none, none, none], [(0, none), (2, none), (0, none), (2, none)], fun xs h => match xs with
  | [t0, t1, t2, t3] => Co_carryLane_131 kr t0 t1 t2 t3 h
  | _ => none), (171, [none, none, none, none, none, none], [], fun xs h => match xs with
  | [] => Co_carryLane_171 kr  h
  | _ => none)]) kr (fun _ _ => none) 400 0 [some (2, a0), some (2, a1), some (0, a2), some (2, a3), some (2, a4), none] [] h := by rfl
def zc_Co_isNamedFirst : List zI := [(0, 0, 0, 0), (16, 0, 3, 0), (10, 0, 3, 0), (10, 0, 1, 0), (69, 41, 45, 0), (999, 0, 0, 0), (999, 0, 0, 0), (14, 0, 0, 0), (80, 2, 161, 8), (999, 0, 0, 0), (999, 0, 0, 0), (10, 0, 3, 0), (114, 0, 172, 50), (999, 0, 0, 0), (999, 0, 0, 0), (60, 24, 39, 0), (999, 0, 0, 0), (999, 0, 0, 0), (14, 0, 0, 0), (80, 2, 33, 6), (999, 0, 0, 0), (999, 0, 0, 0), (10, 0, 3, 0), (90, 0, 0, 0), (10, 0, 2, 0), (40, 0, 0, 0), (14, 0, 0, 0), (80, 2, 33, 6), (999, 0, 0, 0), (999, 0, 0, 0), (10, 0, 1, 0), (90, 0, 0, 0), (10, 0, 2, 0), (40, 0, 0, 0), (67, 5, 39, 0), (999, 0, 0, 0), (999, 0, 0, 0), (0, 0, 0, 0), (130, 0, 1, 0), (22, 1, 3, 0), (999, 0, 0, 0), (999, 0, 0, 0), (72, (-40), 2, 0), (999, 0, 0, 0), (999, 0, 0, 0), (14, 0, 0, 0), (80, 2, 161, 8), (999, 0, 0, 0), (999, 0, 0, 0), (10, 0, 1, 0), (114, 0, 172, 50), (999, 0, 0, 0), (999, 0, 0, 0), (130, 0, 1, 0)]
def Co_isNamedFirst_39 {ρ : Type} (kr : Int → zH → Option ρ) (r2 : Int → Int → Int → Int → zH → Option ρ) (a0 a1 a2 a3 : Int) (h : zH) : Option ρ :=
r2 a0 a1 a2 (wr (a3 + 1)) h
def Co_isNamedFirst_2b {ρ : Type} (kr : Int → zH → Option ρ) (r2 : Int → Int → Int → Int → zH → Option ρ) (a0 a1 a2 a3 : Int) (h : zH) : Option ρ :=
if a3 < a1 then (zob h 2 a0 fun p5 =>
X_isIn (zhd h p5 8) a3 h  fun v6 h7 =>
if v6 = 0 then Co_isNamedFirst_39 kr r2 a0 a1 a2 a3 h7
else zob h7 2 a0 fun p8 =>
zob h7 20 (zhd h7 p8 6) fun p10 =>
zix (zhl h7 p10) a3 fun j9 =>
zob h7 2 a0 fun p11 =>
zob h7 20 (zhd h7 p11 6) fun p13 =>
zix (zhl h7 p13) a1 fun j12 =>
if (zshr (zhd h7 p10 j9) a2) = (zshr (zhd h7 p13 j12) a2) then kr 0 h7
else Co_isNamedFirst_39 kr r2 a0 a1 a2 a3 h7)
else zob h 2 a0 fun p1 =>
X_isIn (zhd h p1 8) a1 h  fun v2 h3 =>
znar 1 v2 fun x4 => kr x4 h3
def Co_isNamedFirst_2 {ρ : Type} (kr : Int → zH → Option ρ) : Int → Int → Int → Int → zH → Option ρ := zit (fun _ _ _ _ _ => none) (Co_isNamedFirst_2b kr) zN
def Co_isNamedFirst {ρ : Type} (a0 a1 a2 : Int) (h : zH) (kr : Int → zH → Option ρ) : Option ρ :=
Co_isNamedFirst_2 kr a0 a1 a2 0 h
set_option maxRecDepth 100000 in
theorem qe_Co_isNamedFirst_39 {ρ : Type} (kr : Int → zH → Option ρ) (r2 : Int → Int → Int → Int → zH → Option ρ) (a0 a1 a2 a3 : Int) (h : zH) : Co_isNamedFirst_39 kr r2 a0 a1 a2 a3 h = zseg zPP true (fun _ _ => none) (zcal []) (zget (999, 0, 0, 0) zc_Co_isNamedFirst) (zcut [(2, [true, true, true, true]), (39, [true, true, true, true])]) (zorc [(2, [some (2, none), some (0, none), some (0, none), some (0, none)], [], fun xs h => match xs with
  | [a0, a1, a2, a3] => r2 a0 a1 a2 a3 h
  | _ => none)]) kr (fun _ _ => none) 400 39 [some (2, a0), some (0, a1), some (0, a2), some (0, a3)] [] h := by rfl
set_option maxRecDepth 100000 in
theorem qe_Co_isNamedFirst_2b {ρ : Type} (kr : Int → zH → Option ρ) (r2 : Int → Int → Int → Int → zH → Option ρ) (a0 a1 a2 a3 : Int) (h : zH) : Co_isNamedFirst_2b kr r2 a0 a1 a2 a3 h = zseg zPP true (fun _ _ => none) (zcal [(50, [none, none], fun xs h kr kt => match xs with
  | [x0, x1] => X_isIn x0 x1 h kr
  | _ => none)]) (zget (999, 0, 0, 0) zc_Co_isNamedFirst) (zcut [(2, [true, true, true, true]), (39, [true, true, true, true])]) (zorc [(39, [some (2, none), some (0, none), some (0, none), some (0, none)], [], fun xs h => match xs with
  | [a0, a1, a2, a3] => Co_isNamedFirst_39 kr r2 a0 a1 a2 a3 h
  | _ => none)]) kr (fun _ _ => none) 400 2 [some (2, a0), some (0, a1), some (0, a2), some (0, a3)] [] h := by rfl
set_option maxRecDepth 100000 in
theorem qe_Co_isNamedFirst {ρ : Type} (kr : Int → zH → Option ρ) (a0 a1 a2 : Int) (h : zH) : Co_isNamedFirst a0 a1 a2 h kr = zseg zPP true (fun _ _ => none) (zcal []) (zget (999, 0, 0, 0) zc_Co_isNamedFirst) (zcut [(2, [true, true, true, true]), (39, [true, true, true, true])]) (zorc [(2, [some (2, none), some (0, none), some (0, none), some (0, none)], [], fun xs h => match xs with
  | [a0, a1, a2, a3] => Co_isNamedFirst_2 kr a0 a1 a2 a3 h
  | _ => none)]) kr (fun _ _ => none) 400 0 [some (2, a0), some (0, a1), some (0, a2), none] [] h := by rfl
def zc_Co_bankDelay : List zI := [(0, 0, 0, 0), (16, 0, 1, 0), (0, 0, 0, 0), (16, 0, 2, 0), (10, 0, 2, 0), (0, 4, 0, 0), (69, 60, 66, 0), (999, 0, 0, 0), (999, 0, 0, 0), (0, 0, 0, 0), (16, 0, 3, 0), (0, 0, 0, 0), (17, 0, 4, 0), (999, 0, 0, 0), (11, 0, 4, 0), (999, 0, 0, 0), (0, 4, 0, 0), (69, 37, 54, 0), (999, 0, 0, 0), (999, 0, 0, 0), (14, 0, 0, 0), (11, 0, 4, 0), (999, 0, 0, 0), (0, 0, 0, 0), (110, 0, 334, 187), (999, 0, 0, 0), (999, 0, 0, 0), (60, 21, 48, 0), (999, 0, 0, 0), (999, 0, 0, 0), (14, 0, 0, 0), (80, 2, 33, 6), (999, 0, 0, 0), (999, 0, 0, 0), (11, 0, 4, 0), (999, 0, 0, 0), (90, 0, 0, 0), (0, 4, 0, 0), (113, 0, 258, 2), (999, 0, 0, 0), (999, 0, 0, 0), (10, 0, 2, 0), (67, 6, 48, 0), (999, 0, 0, 0), (999, 0, 0, 0), (22, 1, 3, 0), (999, 0, 0, 0), (999, 0, 0, 0), (22, 1, 4, 0), (999, 0, 0, 0), (999, 0, 0, 0), (72, (-37), 14, 0), (999, 0, 0, 0), (999, 0, 0, 0), (10, 0, 1, 0), (10, 0, 3, 0), (113, 0, 337, 0), (999, 0, 0, 0), (999, 0, 0, 0), (16, 0, 1, 0), (22, 1, 2, 0), (999, 0, 0, 0), (999, 0, 0, 0), (72, (-59), 4, 0), (999, 0, 0, 0), (999, 0, 0, 0), (10, 0, 1, 0), (130, 0, 0, 0)]
def Co_bankDelay_48 {ρ : Type} (kr : Int → zH → Option ρ) (r4 : Int → Int → Int → zH → Option ρ) (r14 : Int → Int → Int → Int → Int → zH → Option ρ) (a0 a1 a2 a3 a4 : Int) (h : zH) : Option ρ :=
r14 a0 a1 a2 a3 (wr (a4 + 1)) h
def Co_bankDelay_14b {ρ : Type} (kr : Int → zH → Option ρ) (r4 : Int → Int → Int → zH → Option ρ) (r14 : Int → Int → Int → Int → Int → zH → Option ρ) (a0 a1 a2 a3 a4 : Int) (h : zH) : Option ρ :=
if a4 < 4 then (zob h 2 a0 fun _ =>
Co_isNamedFirst a0 a4 0 h  fun v3 h4 =>
if v3 = 0 then Co_bankDelay_48 kr r4 r14 a0 a1 a2 a3 a4 h4
else zob h4 2 a0 fun p5 =>
zob h4 20 (zhd h4 p5 6) fun p7 =>
zix (zhl h4 p7) a4 fun j6 =>
Ma_floorMod (zhd h4 p7 j6) 4 h4  fun v8 h9 =>
if v8 = a2 then Co_bankDelay_48 kr r4 r14 a0 a1 a2 (wr (a3 + 1)) a4 h9
else Co_bankDelay_48 kr r4 r14 a0 a1 a2 a3 a4 h9)
else Ma_max a1 a3 h  fun v1 h2 =>
r4 a0 v1 (wr (a2 + 1)) h2
def Co_bankDelay_14 {ρ : Type} (kr : Int → zH → Option ρ) (r4 : Int → Int → Int → zH → Option ρ) : Int → Int → Int → Int → Int → zH → Option ρ := zit (fun _ _ _ _ _ _ => none) (Co_bankDelay_14b kr r4) zN
def Co_bankDelay_4b {ρ : Type} (kr : Int → zH → Option ρ) (r4 : Int → Int → Int → zH → Option ρ) (a0 a1 a2 : Int) (h : zH) : Option ρ :=
if a2 < 4 then Co_bankDelay_14 kr r4 a0 a1 a2 0 0 h
else kr a1 h
def Co_bankDelay_4 {ρ : Type} (kr : Int → zH → Option ρ) : Int → Int → Int → zH → Option ρ := zit (fun _ _ _ _ => none) (Co_bankDelay_4b kr) zN
def Co_bankDelay {ρ : Type} (a0 : Int) (h : zH) (kr : Int → zH → Option ρ) : Option ρ :=
Co_bankDelay_4 kr a0 0 0 h
set_option maxRecDepth 100000 in
theorem qe_Co_bankDelay_48 {ρ : Type} (kr : Int → zH → Option ρ) (r4 : Int → Int → Int → zH → Option ρ) (r14 : Int → Int → Int → Int → Int → zH → Option ρ) (a0 a1 a2 a3 a4 : Int) (h : zH) : Co_bankDelay_48 kr r4 r14 a0 a1 a2 a3 a4 h = zseg zPP true (fun _ _ => none) (zcal []) (zget (999, 0, 0, 0) zc_Co_bankDelay) (zcut [(4, [true, true, true, false, false]), (14, [true, true, true, true, true]), (48, [true, true, true, true, true])]) (zorc [(14, [some (2, none), some (0, none), some (0, none), some (0, none), some (0, none)], [], fun xs h => match xs with
  | [a0, a1, a2, a3, a4] => r14 a0 a1 a2 a3 a4 h
  | _ => none)]) kr (fun _ _ => none) 400 48 [some (2, a0), some (0, a1), some (0, a2), some (0, a3), some (0, a4)] [] h := by rfl
set_option maxRecDepth 100000 in
theorem qe_Co_bankDelay_14b {ρ : Type} (kr : Int → zH → Option ρ) (r4 : Int → Int → Int → zH → Option ρ) (r14 : Int → Int → Int → Int → Int → zH → Option ρ) (a0 a1 a2 a3 a4 : Int) (h : zH) : Co_bankDelay_14b kr r4 r14 a0 a1 a2 a3 a4 h = zseg zPP true (fun _ _ => none) (zcal [(0, [none, none], fun xs h kr kt => match xs with
  | [x0, x1] => Ma_max x0 x1 h kr
  | _ => none), (2, [none, none], fun xs h kr kt => match xs with
  | [x0, x1] => Ma_floorMod x0 x1 h kr
  | _ => none), (187, [none, none, none], fun xs h kr kt => match xs with
  | [x0, x1, x2] => Co_isNamedFirst x0 x1 x2 h kr
  | _ => none)]) (zget (999, 0, 0, 0) zc_Co_bankDelay) (zcut [(4, [true, true, true, false, false]), (14, [true, true, true, true, true]), (48, [true, true, true, true, true])]) (zorc [(4, [some (2, none), some (0, none), some (0, none), none, none], [], fun xs h => match xs with
  | [a0, a1, a2] => r4 a0 a1 a2 h
  | _ => none), (48, [some (2, none), some (0, none), some (0, none), some (0, none), some (0, none)], [], fun xs h => match xs with
  | [a0, a1, a2, a3, a4] => Co_bankDelay_48 kr r4 r14 a0 a1 a2 a3 a4 h
  | _ => none)]) kr (fun _ _ => none) 400 14 [some (2, a0), some (0, a1), some (0, a2), some (0, a3), some (0, a4)] [] h := by rfl
set_option maxRecDepth 100000 in
theorem qe_Co_bankDelay_4b {ρ : Type} (kr : Int → zH → Option ρ) (r4 : Int → Int → Int → zH → Option ρ) (a0 a1 a2 : Int) (h : zH) : Co_bankDelay_4b kr r4 a0 a1 a2 h = zseg zPP true (fun _ _ => none) (zcal []) (zget (999, 0, 0, 0) zc_Co_bankDelay) (zcut [(4, [true, true, true, false, false]), (14, [true, true, true, true, true]), (48, [true, true, true, true, true])]) (zorc [(14, [some (2, none), some (0, none), some (0, none), some (0, none), some (0, none)], [], fun xs h => match xs with
  | [a0, a1, a2, a3, a4] => Co_bankDelay_14 kr r4 a0 a1 a2 a3 a4 h
  | _ => none)]) kr (fun _ _ => none) 400 4 [some (2, a0), some (0, a1), some (0, a2), none, none] [] h := by rfl
set_option maxRecDepth 100000 in
theorem qe_Co_bankDelay {ρ : Type} (kr : Int → zH → Option ρ) (a0 : Int) (h : zH) : Co_bankDelay a0 h kr = zseg zPP true (fun _ _ => none) (zcal []) (zget (999, 0, 0, 0) zc_Co_bankDelay) (zcut [(4, [true, true, true, false, false]), (14, [true, true, true, true, true]), (48, [true, true, true, true, true])]) (zorc [(4, [some (2, none), some (0, none), some (0, none), none, none], [], fun xs h => match xs with
  | [a0, a1, a2] => Co_bankDelay_4 kr a0 a1 a2 h
  | _ => none)]) kr (fun _ _ => none) 400 0 [some (2, a0), none, none, none, none] [] h := by rfl
def zc_Un_missesLine : List zI := [(10, 0, 1, 0), (0, 2, 0, 0), (113, 0, 89, 2), (999, 0, 0, 0), (999, 0, 0, 0), (16, 0, 2, 0), (14, 0, 0, 0), (80, 3, 17, 1), (999, 0, 0, 0), (999, 0, 0, 0), (10, 0, 2, 0), (90, 0, 0, 0), (10, 0, 1, 0), (66, 7, 20, 0), (999, 0, 0, 0), (999, 0, 0, 0), (0, 1, 0, 0), (72, 4, 21, 0), (999, 0, 0, 0), (999, 0, 0, 0), (0, 0, 0, 0), (16, 0, 3, 0), (14, 0, 0, 0), (80, 3, 17, 1), (999, 0, 0, 0), (999, 0, 0, 0), (10, 0, 2, 0), (10, 0, 1, 0), (95, 0, 0, 0), (10, 0, 3, 0), (130, 0, 1, 0)]
def Un_missesLine_21 {ρ : Type} (kr : Int → zH → Option ρ) (a0 a1 a2 t0 : Int) (h : zH) : Option ρ :=
zob h 3 a0 fun p1 =>
zob h 20 (zhd h p1 1) fun p3 =>
zix (zhl h p3) a2 fun j2 =>
zlet (zset h p3 j2 a1) fun h4 =>
znar 1 t0 fun x5 => kr x5 h4
def Un_missesLine {ρ : Type} (a0 a1 : Int) (h : zH) (kr : Int → zH → Option ρ) : Option ρ :=
Ma_floorMod a1 2 h  fun v1 h2 =>
zob h2 3 a0 fun p3 =>
zob h2 20 (zhd h2 p3 1) fun p5 =>
zix (zhl h2 p5) v1 fun j4 =>
if (zhd h2 p5 j4) = a1 then Un_missesLine_21 kr a0 a1 v1 0 h2
else Un_missesLine_21 kr a0 a1 v1 1 h2
set_option maxRecDepth 100000 in
theorem qe_Un_missesLine_21 {ρ : Type} (kr : Int → zH → Option ρ) (a0 a1 a2 t0 : Int) (h : zH) : Un_missesLine_21 kr a0 a1 a2 t0 h = zseg zPP true (fun _ _ => none) (zcal []) (zget (999, 0, 0, 0) zc_Un_missesLine) (zcut [(21, [true, true, true, false])]) (zorc []) kr (fun _ _ => none) 400 21 [some (2, a0), some (0, a1), some (0, a2), none] [(0, t0)] h := by rfl
set_option maxRecDepth 100000 in
theorem qe_Un_missesLine {ρ : Type} (kr : Int → zH → Option ρ) (a0 a1 : Int) (h : zH) : Un_missesLine a0 a1 h kr = zseg zPP true (fun _ _ => none) (zcal [(2, [none, none], fun xs h kr kt => match xs with
  | [x0, x1] => Ma_floorMod x0 x1 h kr
  | _ => none)]) (zget (999, 0, 0, 0) zc_Un_missesLine) (zcut [(21, [true, true, true, false])]) (zorc [(21, [some (2, none), some (0, none), some (0, none), none], [(0, none)], fun xs h => match xs with
  | [a0, a1, a2, t0] => Un_missesLine_21 kr a0 a1 a2 t0 h
  | _ => none)]) kr (fun _ _ => none) 400 0 [some (2, a0), some (0, a1), none, none] [] h := by rfl
def zc_Co_lineDelay : List zI := [(0, 0, 0, 0), (16, 0, 2, 0), (0, 0, 0, 0), (16, 0, 3, 0), (10, 0, 3, 0), (0, 4, 0, 0), (69, 55, 61, 0), (999, 0, 0, 0), (999, 0, 0, 0), (14, 0, 0, 0), (10, 0, 3, 0), (0, 3, 0, 0), (110, 0, 334, 187), (999, 0, 0, 0), (999, 0, 0, 0), (61, 6, 21, 0), (999, 0, 0, 0), (999, 0, 0, 0), (72, 37, 55, 0), (999, 0, 0, 0), (999, 0, 0, 0), (22, 2, 2, 0), (999, 0, 0, 0), (999, 0, 0, 0), (14, 0, 1, 0), (14, 0, 0, 0), (80, 2, 33, 6), (999, 0, 0, 0), (999, 0, 0, 0), (10, 0, 3, 0), (90, 0, 0, 0), (0, 3, 0, 0), (40, 0, 0, 0), (110, 0, 340, 276), (999, 0, 0, 0), (999, 0, 0, 0), (60, 19, 55, 0), (999, 0, 0, 0), (999, 0, 0, 0), (22, 4, 2, 0), (999, 0, 0, 0), (999, 0, 0, 0), (14, 0, 0, 0), (80, 2, 25, 3), (999, 0, 0, 0), (999, 0, 0, 0), (50, 0, 0, 0), (80, 4, 343, 4), (999, 0, 0, 0), (999, 0, 0, 0), (0, 1, 0, 0), (30, 0, 0, 0), (82, 4, 343, 4), (999, 0, 0, 0), (999, 0, 0, 0), (22, 1, 3, 0), (999, 0, 0, 0), (999, 0, 0, 0), (72, (-54), 4, 0), (999, 0, 0, 0), (999, 0, 0, 0), (10, 0, 2, 0), (130, 0, 0, 0)]
def Co_lineDelay_55 {ρ : Type} (kr : Int → zH → Option ρ) (r4 : Int → Int → Int → Int → zH → Option ρ) (a0 a1 a2 a3 : Int) (h : zH) : Option ρ :=
r4 a0 a1 a2 (wr (a3 + 1)) h
def Co_lineDelay_4b {ρ : Type} (kr : Int → zH → Option ρ) (r4 : Int → Int → Int → Int → zH → Option ρ) (a0 a1 a2 a3 : Int) (h : zH) : Option ρ :=
if a3 < 4 then (zob h 2 a0 fun _ =>
Co_isNamedFirst a0 a3 3 h  fun v1 h2 =>
if v1 = 0 then Co_lineDelay_55 kr r4 a0 a1 a2 a3 h2
else zob h2 2 a0 fun p3 =>
zob h2 20 (zhd h2 p3 6) fun p5 =>
zix (zhl h2 p5) a3 fun j4 =>
zob h2 3 a1 fun _ =>
Un_missesLine a1 (zshr (zhd h2 p5 j4) 3) h2  fun v6 h7 =>
if v6 = 0 then Co_lineDelay_55 kr r4 a0 a1 (wr (a2 + 2)) a3 h7
else zob h7 2 a0 fun p8 =>
zob h7 4 (zhd h7 p8 3) fun p9 =>
zob h7 4 (zhd h7 p8 3) fun p10 =>
zlet (zset h7 p10 4 (wr ((zhd h7 p9 4) + 1))) fun h11 =>
Co_lineDelay_55 kr r4 a0 a1 (wr ((wr (a2 + 2)) + 4)) a3 h11)
else kr a2 h
def Co_lineDelay_4 {ρ : Type} (kr : Int → zH → Option ρ) : Int → Int → Int → Int → zH → Option ρ := zit (fun _ _ _ _ _ => none) (Co_lineDelay_4b kr) zN
def Co_lineDelay {ρ : Type} (a0 a1 : Int) (h : zH) (kr : Int → zH → Option ρ) : Option ρ :=
Co_lineDelay_4 kr a0 a1 0 0 h
set_option maxRecDepth 100000 in
theorem qe_Co_lineDelay_55 {ρ : Type} (kr : Int → zH → Option ρ) (r4 : Int → Int → Int → Int → zH → Option ρ) (a0 a1 a2 a3 : Int) (h : zH) : Co_lineDelay_55 kr r4 a0 a1 a2 a3 h = zseg zPP true (fun _ _ => none) (zcal []) (zget (999, 0, 0, 0) zc_Co_lineDelay) (zcut [(4, [true, true, true, true]), (55, [true, true, true, true])]) (zorc [(4, [some (2, none), some (2, none), some (0, none), some (0, none)], [], fun xs h => match xs with
  | [a0, a1, a2, a3] => r4 a0 a1 a2 a3 h
  | _ => none)]) kr (fun _ _ => none) 400 55 [some (2, a0), some (2, a1), some (0, a2), some (0, a3)] [] h := by rfl
set_option maxRecDepth 100000 in
theorem qe_Co_lineDelay_4b {ρ : Type} (kr : Int → zH → Option ρ) (r4 : Int → Int → Int → Int → zH → Option ρ) (a0 a1 a2 a3 : Int) (h : zH) : Co_lineDelay_4b kr r4 a0 a1 a2 a3 h = zseg zPP true (fun _ _ => none) (zcal [(187, [none, none, none], fun xs h kr kt => match xs with
  | [x0, x1, x2] => Co_isNamedFirst x0 x1 x2 h kr
  | _ => none), (276, [none, none], fun xs h kr kt => match xs with
  | [x0, x1] => Un_missesLine x0 x1 h kr
  | _ => none)]) (zget (999, 0, 0, 0) zc_Co_lineDelay) (zcut [(4, [true, true, true, true]), (55, [true, true, true, true])]) (zorc [(55, [some (2, none), some (2, none), some (0, none), some (0, none)], [], fun xs h => match xs with
  | [a0, a1, a2, a3] => Co_lineDelay_55 kr r4 a0 a1 a2 a3 h
  | _ => none)]) kr (fun _ _ => none) 400 4 [some (2, a0), some (2, a1), some (0, a2), some (0, a3)] [] h := by rfl
set_option maxRecDepth 100000 in
theorem qe_Co_lineDelay {ρ : Type} (kr : Int → zH → Option ρ) (a0 a1 : Int) (h : zH) : Co_lineDelay a0 a1 h kr = zseg zPP true (fun _ _ => none) (zcal []) (zget (999, 0, 0, 0) zc_Co_lineDelay) (zcut [(4, [true, true, true, true]), (55, [true, true, true, true])]) (zorc [(4, [some (2, none), some (2, none), some (0, none), some (0, none)], [], fun xs h => match xs with
  | [a0, a1, a2, a3] => Co_lineDelay_4 kr a0 a1 a2 a3 h
  | _ => none)]) kr (fun _ _ => none) 400 0 [some (2, a0), some (2, a1), none, none] [] h := by rfl
def zc_Co_delayOf : List zI := [(14, 0, 2, 0), (80, 8, 245, 0), (999, 0, 0, 0), (999, 0, 0, 0), (77, 0, 0, 0), (999, 0, 0, 0), (999, 0, 0, 0), (999, 0, 0, 0), (999, 0, 0, 0), (999, 0, 0, 0), (999, 0, 0, 0), (999, 0, 0, 0), (999, 0, 0, 0), (999, 0, 0, 0), (999, 0, 0, 0), (999, 0, 0, 0), (999, 0, 0, 0), (999, 0, 0, 0), (999, 0, 0, 0), (999, 0, 0, 0), (999, 0, 0, 0), (999, 0, 0, 0), (999, 0, 0, 0), (999, 0, 0, 0), (999, 0, 0, 0), (999, 0, 0, 0), (999, 0, 0, 0), (999, 0, 0, 0), (999, 0, 0, 0), (999, 0, 0, 0), (999, 0, 0, 0), (999, 0, 0, 0), (999, 0, 0, 0), (999, 0, 0, 0), (999, 0, 0, 0), (999, 0, 0, 0), (999, 0, 0, 0), (999, 0, 0, 0), (999, 0, 0, 0), (999, 0, 0, 0), (999, 0, 0, 0), (999, 0, 0, 0), (999, 0, 0, 0), (999, 0, 0, 0), (999, 0, 0, 0), (999, 0, 0, 0), (999, 0, 0, 0), (999, 0, 0, 0), (999, 0, 0, 0), (999, 0, 0, 0), (999, 0, 0, 0), (999, 0, 0, 0), (999, 0, 0, 0), (999, 0, 0, 0), (999, 0, 0, 0), (999, 0, 0, 0), (999, 0, 0, 0), (999, 0, 0, 0), (999, 0, 0, 0), (999, 0, 0, 0), (999, 0, 0, 0), (999, 0, 0, 0), (999, 0, 0, 0), (999, 0, 0, 0), (999, 0, 0, 0), (999, 0, 0, 0), (999, 0, 0, 0), (999, 0, 0, 0), (999, 0, 0, 0), (999, 0, 0, 0), (999, 0, 0, 0), (999, 0, 0, 0), (999, 0, 0, 0), (999, 0, 0, 0), (999, 0, 0, 0), (999, 0, 0, 0), (999, 0, 0, 0), (999, 0, 0, 0), (999, 0, 0, 0), (999, 0, 0, 0), (999, 0, 0, 0), (999, 0, 0, 0), (999, 0, 0, 0), (999, 0, 0, 0), (999, 0, 0, 0), (999, 0, 0, 0), (999, 0, 0, 0), (999, 0, 0, 0), (0, 2, 0, 0), (130, 0, 0, 0), (14, 0, 0, 0), (110, 0, 322, 185), (999, 0, 0, 0), (999, 0, 0, 0), (130, 0, 0, 0), (14, 0, 0, 0), (14, 0, 1, 0), (110, 0, 325, 186), (999, 0, 0, 0), (999, 0, 0, 0), (130, 0, 0, 0), (0, 1, 0, 0), (14, 0, 0, 0), (80, 2, 231, 10), (999, 0, 0, 0), (999, 0, 0, 0), (30, 0, 0, 0), (130, 0, 0, 0), (0, 2, 0, 0), (14, 0, 0, 0), (80, 2, 161, 8), (999, 0, 0, 0), (999, 0, 0, 0), (113, 0, 329, 4), (999, 0, 0, 0), (999, 0, 0, 0), (32, 0, 0, 0), (130, 0, 0, 0), (0, 4, 0, 0), (14, 0, 0, 0), (80, 2, 161, 8), (999, 0, 0, 0), (999, 0, 0, 0), (113, 0, 329, 4), (999, 0, 0, 0), (999, 0, 0, 0), (32, 0, 0, 0), (130, 0, 0, 0), (0, 1, 0, 0), (130, 0, 0, 0)]
def Co_delayOf_90 {ρ : Type} (kr : Int → zH → Option ρ) (a0 : Int) (h : zH) : Option ρ :=
zob h 2 a0 fun _ =>
Co_bankDelay a0 h  fun v1 h2 =>
kr v1 h2
def Co_delayOf_101 {ρ : Type} (kr : Int → zH → Option ρ) (a0 : Int) (h : zH) : Option ρ :=
zob h 2 a0 fun p1 =>
kr (wr (1 + (zhd h p1 10))) h
def Co_delayOf_108 {ρ : Type} (kr : Int → zH → Option ρ) (a0 : Int) (h : zH) : Option ρ :=
zob h 2 a0 fun p1 =>
It_bitCount (zhd h p1 8) h  fun v2 h3 =>
kr (wr (2 * v2)) h3
def Co_delayOf {ρ : Type} (a0 a1 a2 : Int) (h : zH) (kr : Int → zH → Option ρ) : Option ρ :=
zob h 8 a2 fun p1 =>
if (zhd h p1 0) = 42 then kr 2 h
else if (zhd h p1 0) = 82 then Co_delayOf_90 kr a0 h
else if (zhd h p1 0) = 87 then Co_delayOf_90 kr a0 h
else if (zhd h p1 0) = 97 then Co_delayOf_108 kr a0 h
else if (zhd h p1 0) = 99 then (zob h 2 a0 fun p2 =>
It_bitCount (zhd h p2 8) h  fun v3 h4 =>
kr (wr (4 * v3)) h4)
else if (zhd h p1 0) = 102 then Co_delayOf_101 kr a0 h
else if (zhd h p1 0) = 114 then (zob h 2 a0 fun _ =>
Co_lineDelay a0 a1 h  fun v5 h6 =>
kr v5 h6)
else if (zhd h p1 0) = 119 then Co_delayOf_101 kr a0 h
else if (zhd h p1 0) = 120 then Co_delayOf_108 kr a0 h
else kr 1 h
set_option maxRecDepth 100000 in
theorem qe_Co_delayOf_90 {ρ : Type} (kr : Int → zH → Option ρ) (a0 : Int) (h : zH) : Co_delayOf_90 kr a0 h = zseg zPP true (fun _ _ => none) (zcal [(185, [none], fun xs h kr kt => match xs with
  | [x0] => Co_bankDelay x0 h kr
  | _ => none)]) (zget (999, 0, 0, 0) zc_Co_delayOf) (zcut [(90, [true, false, false]), (101, [true, false, false]), (108, [true, false, false])]) (zorc []) kr (fun _ _ => none) 400 90 [some (2, a0), none, none] [] h := by rfl
set_option maxRecDepth 100000 in
theorem qe_Co_delayOf_101 {ρ : Type} (kr : Int → zH → Option ρ) (a0 : Int) (h : zH) : Co_delayOf_101 kr a0 h = zseg zPP true (fun _ _ => none) (zcal []) (zget (999, 0, 0, 0) zc_Co_delayOf) (zcut [(90, [true, false, false]), (101, [true, false, false]), (108, [true, false, false])]) (zorc []) kr (fun _ _ => none) 400 101 [some (2, a0), none, none] [] h := by rfl
set_option maxRecDepth 100000 in
theorem qe_Co_delayOf_108 {ρ : Type} (kr : Int → zH → Option ρ) (a0 : Int) (h : zH) : Co_delayOf_108 kr a0 h = zseg zPP true (fun _ _ => none) (zcal [(4, [none], fun xs h kr kt => match xs with
  | [x0] => It_bitCount x0 h kr
  | _ => none)]) (zget (999, 0, 0, 0) zc_Co_delayOf) (zcut [(90, [true, false, false]), (101, [true, false, false]), (108, [true, false, false])]) (zorc []) kr (fun _ _ => none) 400 108 [some (2, a0), none, none] [] h := by rfl
set_option maxRecDepth 100000 in
theorem qe_Co_delayOf {ρ : Type} (kr : Int → zH → Option ρ) (a0 a1 a2 : Int) (h : zH) : Co_delayOf a0 a1 a2 h kr = zseg zPP true (fun _ _ => none) (zcal [(4, [none], fun xs h kr kt => match xs with
  | [x0] => It_bitCount x0 h kr
  | _ => none), (186, [none, none], fun xs h kr kt => match xs with
  | [x0, x1] => Co_lineDelay x0 x1 h kr
  | _ => none)]) (zget (999, 0, 0, 0) zc_Co_delayOf) (zcut [(90, [true, false, false]), (101, [true, false, false]), (108, [true, false, false])]) (zorc [(90, [some (2, none), none, none], [], fun xs h => match xs with
  | [a0] => Co_delayOf_90 kr a0 h
  | _ => none), (101, [some (2, none), none, none], [], fun xs h => match xs with
  | [a0] => Co_delayOf_101 kr a0 h
  | _ => none), (108, [some (2, none), none, none], [], fun xs h => match xs with
  | [a0] => Co_delayOf_108 kr a0 h
  | _ => none)]) kr (fun _ _ => none) 400 0 [some (2, a0), some (2, a1), some (2, a2)] [] h := by rfl
def zc_Co_countedDelay : List zI := [(14, 0, 0, 0), (14, 0, 1, 0), (14, 0, 2, 0), (110, 0, 310, 184), (999, 0, 0, 0), (999, 0, 0, 0), (16, 0, 3, 0), (14, 0, 0, 0), (80, 2, 25, 3), (999, 0, 0, 0), (999, 0, 0, 0), (50, 0, 0, 0), (80, 4, 313, 2), (999, 0, 0, 0), (999, 0, 0, 0), (10, 0, 3, 0), (42, 0, 0, 0), (45, 0, 0, 0), (82, 4, 313, 2), (999, 0, 0, 0), (999, 0, 0, 0), (14, 0, 0, 0), (80, 2, 25, 3), (999, 0, 0, 0), (999, 0, 0, 0), (50, 0, 0, 0), (80, 4, 316, 3), (999, 0, 0, 0), (999, 0, 0, 0), (5, 1, 1, 0), (45, 0, 0, 0), (82, 4, 316, 3), (999, 0, 0, 0), (999, 0, 0, 0), (14, 0, 2, 0), (8, 3, 239, 0), (999, 0, 0, 0), (110, 0, 223, 210), (999, 0, 0, 0), (999, 0, 0, 0), (60, 18, 58, 0), (999, 0, 0, 0), (999, 0, 0, 0), (14, 0, 0, 0), (80, 2, 25, 3), (999, 0, 0, 0), (999, 0, 0, 0), (50, 0, 0, 0), (80, 4, 319, 5), (999, 0, 0, 0), (999, 0, 0, 0), (10, 0, 3, 0), (0, 1, 0, 0), (31, 0, 0, 0), (30, 0, 0, 0), (82, 4, 319, 5), (999, 0, 0, 0), (999, 0, 0, 0), (10, 0, 3, 0), (130, 0, 0, 0)]
def Co_countedDelay_58 {ρ : Type} (kr : Int → zH → Option ρ) (a3 : Int) (h : zH) : Option ρ :=
kr a3 h
def Co_countedDelay {ρ : Type} (a0 a1 a2 : Int) (h : zH) (kr : Int → zH → Option ρ) : Option ρ :=
zob h 2 a0 fun _ =>
Co_delayOf a0 a1 a2 h  fun v1 h2 =>
zob h2 2 a0 fun p3 =>
zob h2 4 (zhd h2 p3 3) fun p4 =>
zob h2 4 (zhd h2 p3 3) fun p5 =>
zlet (zset h2 p5 2 (wrl ((zhd h2 p4 2) + v1))) fun h6 =>
zob h6 2 a0 fun p7 =>
zob h6 4 (zhd h6 p7 3) fun p8 =>
zob h6 4 (zhd h6 p7 3) fun p9 =>
zlet (zset h6 p9 3 (wrl ((zhd h6 p8 3) + 1))) fun h10 =>
zob h10 8 a2 fun _ =>
In_isOneOf a2 3 h10  fun v11 h12 =>
if v11 = 0 then Co_countedDelay_58 kr v1 h12
else zob h12 2 a0 fun p13 =>
zob h12 4 (zhd h12 p13 3) fun p14 =>
zob h12 4 (zhd h12 p13 3) fun p15 =>
zlet (zset h12 p15 5 (wr ((zhd h12 p14 5) + (wr (v1 - 1))))) fun h16 =>
Co_countedDelay_58 kr v1 h16
set_option maxRecDepth 100000 in
theorem qe_Co_countedDelay_58 {ρ : Type} (kr : Int → zH → Option ρ) (a3 : Int) (h : zH) : Co_countedDelay_58 kr a3 h = zseg zPP true (fun _ _ => none) (zcal []) (zget (999, 0, 0, 0) zc_Co_countedDelay) (zcut [(58, [false, false, false, true])]) (zorc []) kr (fun _ _ => none) 400 58 [none, none, none, some (0, a3)] [] h := by rfl
set_option maxRecDepth 100000 in
theorem qe_Co_countedDelay {ρ : Type} (kr : Int → zH → Option ρ) (a0 a1 a2 : Int) (h : zH) : Co_countedDelay a0 a1 a2 h kr = zseg zPP true (fun _ _ => none) (zcal [(184, [none, none, none], fun xs h kr kt => match xs with
  | [x0, x1, x2] => Co_delayOf x0 x1 x2 h kr
  | _ => none), (210, [none, none], fun xs h kr kt => match xs with
  | [x0, x1] => In_isOneOf x0 x1 h kr
  | _ => none)]) (zget (999, 0, 0, 0) zc_Co_countedDelay) (zcut [(58, [false, false, false, true])]) (zorc [(58, [none, none, none, some (0, none)], [], fun xs h => match xs with
  | [a3] => Co_countedDelay_58 kr a3 h
  | _ => none)]) kr (fun _ _ => none) 400 0 [some (2, a0), some (2, a1), some (2, a2), none] [] h := by rfl
def zc_Un_dropLaunch : List zI := [(0, 0, 0, 0), (16, 0, 2, 0), (0, 0, 0, 0), (16, 0, 3, 0), (10, 0, 3, 0), (14, 0, 0, 0), (80, 3, 21, 2), (999, 0, 0, 0), (999, 0, 0, 0), (69, 40, 49, 0), (999, 0, 0, 0), (999, 0, 0, 0), (14, 0, 0, 0), (80, 3, 11, 0), (999, 0, 0, 0), (999, 0, 0, 0), (10, 0, 3, 0), (94, 0, 0, 11), (80, 11, 48, 0), (999, 0, 0, 0), (999, 0, 0, 0), (80, 10, 61, 0), (999, 0, 0, 0), (999, 0, 0, 0), (14, 0, 1, 0), (75, 18, 43, 0), (999, 0, 0, 0), (999, 0, 0, 0), (14, 0, 0, 0), (80, 3, 11, 0), (999, 0, 0, 0), (999, 0, 0, 0), (10, 0, 2, 0), (14, 0, 0, 0), (80, 3, 11, 0), (999, 0, 0, 0), (999, 0, 0, 0), (10, 0, 3, 0), (94, 0, 0, 11), (99, 0, 0, 11), (22, 1, 2, 0), (999, 0, 0, 0), (999, 0, 0, 0), (22, 1, 3, 0), (999, 0, 0, 0), (999, 0, 0, 0), (72, (-42), 4, 0), (999, 0, 0, 0), (999, 0, 0, 0), (14, 0, 0, 0), (10, 0, 2, 0), (110, 0, 74, 273), (999, 0, 0, 0), (999, 0, 0, 0), (133, 0, 0, 0)]
def Un_dropLaunch_43 {ρ : Type} (kr : Int → zH → Option ρ) (r4 : Int → Int → Int → Int → zH → Option ρ) (a0 a1 a2 a3 : Int) (h : zH) : Option ρ :=
r4 a0 a1 a2 (wr (a3 + 1)) h
def Un_dropLaunch_4b {ρ : Type} (kr : Int → zH → Option ρ) (r4 : Int → Int → Int → Int → zH → Option ρ) (a0 a1 a2 a3 : Int) (h : zH) : Option ρ :=
zob h 3 a0 fun p1 =>
if a3 < (zhd h p1 2) then (zob h 3 a0 fun p4 =>
zob h 41 (zhd h p4 0) fun p6 =>
zix (zhl h p6) a3 fun j5 =>
zob h 11 (zhd h p6 j5) fun p7 =>
zob h 10 (zhd h p7 0) fun p8 =>
if (zhd h p8 0) = a1 then Un_dropLaunch_43 kr r4 a0 a1 a2 a3 h
else zob h 3 a0 fun p9 =>
zob h 3 a0 fun p10 =>
zob h 41 (zhd h p10 0) fun p12 =>
zix (zhl h p12) a3 fun j11 =>
zob h 41 (zhd h p9 0) fun p14 =>
zix (zhl h p14) a2 fun j13 =>
if (zhd h p12 j11) < 0 then (zlet (zset h p14 j13 (-1)) fun h15 =>
Un_dropLaunch_43 kr r4 a0 a1 (wr (a2 + 1)) a3 h15)
else zob h 11 (zhd h p12 j11) fun _ =>
zlet (zset h p14 j13 (zhd h p12 j11)) fun h16 =>
Un_dropLaunch_43 kr r4 a0 a1 (wr (a2 + 1)) a3 h16)
else zob h 3 a0 fun _ =>
Un_cutTo a0 a2 h  fun _ h3 =>
kr 0 h3
def Un_dropLaunch_4 {ρ : Type} (kr : Int → zH → Option ρ) : Int → Int → Int → Int → zH → Option ρ := zit (fun _ _ _ _ _ => none) (Un_dropLaunch_4b kr) zN
def Un_dropLaunch {ρ : Type} (a0 a1 : Int) (h : zH) (kr : Int → zH → Option ρ) : Option ρ :=
Un_dropLaunch_4 kr a0 a1 0 0 h
set_option maxRecDepth 100000 in
theorem qe_Un_dropLaunch_43 {ρ : Type} (kr : Int → zH → Option ρ) (r4 : Int → Int → Int → Int → zH → Option ρ) (a0 a1 a2 a3 : Int) (h : zH) : Un_dropLaunch_43 kr r4 a0 a1 a2 a3 h = zseg zPP true (fun _ _ => none) (zcal []) (zget (999, 0, 0, 0) zc_Un_dropLaunch) (zcut [(4, [true, true, true, true]), (43, [true, true, true, true])]) (zorc [(4, [some (2, none), some (2, none), some (0, none), some (0, none)], [], fun xs h => match xs with
  | [a0, a1, a2, a3] => r4 a0 a1 a2 a3 h
  | _ => none)]) kr (fun _ _ => none) 400 43 [some (2, a0), some (2, a1), some (0, a2), some (0, a3)] [] h := by rfl
set_option maxRecDepth 100000 in
theorem qe_Un_dropLaunch_4b {ρ : Type} (kr : Int → zH → Option ρ) (r4 : Int → Int → Int → Int → zH → Option ρ) (a0 a1 a2 a3 : Int) (h : zH) : Un_dropLaunch_4b kr r4 a0 a1 a2 a3 h = zseg zPP true (fun _ _ => none) (zcal [(273, [none, none], fun xs h kr kt => match xs with
  | [x0, x1] => Un_cutTo x0 x1 h kr
  | _ => none)]) (zget (999, 0, 0, 0) zc_Un_dropLaunch) (zcut [(4, [true, true, true, true]), (43, [true, true, true, true])]) (zorc [(43, [some (2, none), some (2, none), some (0, none), some (0, none)], [], fun xs h => match xs with
  | [a0, a1, a2, a3] => Un_dropLaunch_43 kr r4 a0 a1 a2 a3 h
  | _ => none)]) kr (fun _ _ => none) 400 4 [some (2, a0), some (2, a1), some (0, a2), some (0, a3)] [] h := by rfl
set_option maxRecDepth 100000 in
theorem qe_Un_dropLaunch {ρ : Type} (kr : Int → zH → Option ρ) (a0 a1 : Int) (h : zH) : Un_dropLaunch a0 a1 h kr = zseg zPP true (fun _ _ => none) (zcal []) (zget (999, 0, 0, 0) zc_Un_dropLaunch) (zcut [(4, [true, true, true, true]), (43, [true, true, true, true])]) (zorc [(4, [some (2, none), some (2, none), some (0, none), some (0, none)], [], fun xs h => match xs with
  | [a0, a1, a2, a3] => Un_dropLaunch_4 kr a0 a1 a2 a3 h
  | _ => none)]) kr (fun _ _ => none) 400 0 [some (2, a0), some (2, a1), none, none] [] h := by rfl
def zc_Co_fail : List zI := [(14, 0, 1, 0), (80, 10, 144, 0), (999, 0, 0, 0), (999, 0, 0, 0), (21, 0, 5, 0), (999, 0, 0, 0), (15, 0, 5, 0), (999, 0, 0, 0), (1, 102, 0, 0), (999, 0, 0, 0), (82, 9, 381, 10), (999, 0, 0, 0), (999, 0, 0, 0), (15, 0, 5, 0), (999, 0, 0, 0), (11, 0, 4, 0), (999, 0, 0, 0), (82, 9, 384, 11), (999, 0, 0, 0), (999, 0, 0, 0), (15, 0, 5, 0), (999, 0, 0, 0), (2, 10000, 0, 0), (999, 0, 0, 0), (999, 0, 0, 0), (14, 0, 1, 0), (80, 10, 387, 1), (999, 0, 0, 0), (999, 0, 0, 0), (32, 0, 0, 0), (1, 100, 0, 0), (999, 0, 0, 0), (10, 0, 2, 0), (32, 0, 0, 0), (30, 0, 0, 0), (10, 0, 3, 0), (30, 0, 0, 0), (82, 9, 388, 12), (999, 0, 0, 0), (999, 0, 0, 0), (0, 0, 0, 0), (17, 0, 6, 0), (999, 0, 0, 0), (11, 0, 6, 0), (999, 0, 0, 0), (0, 2, 0, 0), (69, 21, 67, 0), (999, 0, 0, 0), (999, 0, 0, 0), (14, 0, 0, 0), (80, 2, 18, 2), (999, 0, 0, 0), (999, 0, 0, 0), (11, 0, 6, 0), (999, 0, 0, 0), (94, 0, 0, 3), (15, 0, 5, 0), (999, 0, 0, 0), (110, 0, 391, 272), (999, 0, 0, 0), (999, 0, 0, 0), (22, 1, 6, 0), (999, 0, 0, 0), (999, 0, 0, 0), (72, (-21), 43, 0), (999, 0, 0, 0), (999, 0, 0, 0), (14, 0, 0, 0), (80, 2, 39, 0), (999, 0, 0, 0), (999, 0, 0, 0), (15, 0, 5, 0), (999, 0, 0, 0), (80, 9, 394, 4), (999, 0, 0, 0), (999, 0, 0, 0), (110, 0, 377, 242), (999, 0, 0, 0), (999, 0, 0, 0), (133, 0, 0, 0)]
def Co_fail_43b {ρ : Type} (kr : Int → zH → Option ρ) (r43 : Int → Int → Int → zH → Option ρ) (a0 a5 a6 : Int) (h : zH) : Option ρ :=
if a6 < 2 then (zob h 2 a0 fun p5 =>
zob h 33 (zhd h p5 2) fun p7 =>
zix (zhl h p7) a6 fun j6 =>
zob h 3 (zhd h p7 j6) fun _ =>
Un_dropLaunch (zhd h p7 j6) a5 h  fun _ h9 =>
r43 a0 a5 (wr (a6 + 1)) h9)
else zob h 2 a0 fun p1 =>
zob h 9 a5 fun p2 =>
zob h 1 (zhd h p1 0) fun _ =>
Le_endIfDone (zhd h p1 0) (zhd h p2 4) h  fun _ h4 =>
kr 0 h4
def Co_fail_43 {ρ : Type} (kr : Int → zH → Option ρ) : Int → Int → Int → zH → Option ρ := zit (fun _ _ _ _ => none) (Co_fail_43b kr) zN
def Co_fail {ρ : Type} (a0 a1 a2 a3 a4 : Int) (h : zH) (kr : Int → zH → Option ρ) : Option ρ :=
zob h 10 a1 fun p1 =>
zob h 9 (zhd h p1 0) fun p2 =>
zlet (zset h p2 10 102) fun h3 =>
zob h3 9 (zhd h p1 0) fun p4 =>
znar 2 a4 fun x5 =>
zlet (zset h3 p4 11 x5) fun h6 =>
zob h6 10 a1 fun p7 =>
zob h6 9 (zhd h p1 0) fun p8 =>
zlet (zset h6 p8 12 (wr ((wr ((wr (10000 * (zhd h6 p7 1))) + (wr (100 * a2)))) + a3))) fun h9 =>
Co_fail_43 kr a0 (zhd h p1 0) 0 h9
set_option maxRecDepth 100000 in
theorem qe_Co_fail_43b {ρ : Type} (kr : Int → zH → Option ρ) (r43 : Int → Int → Int → zH → Option ρ) (a0 a5 a6 : Int) (h : zH) : Co_fail_43b kr r43 a0 a5 a6 h = zseg zPP true (fun _ _ => none) (zcal [(242, [none, none], fun xs h kr kt => match xs with
  | [x0, x1] => Le_endIfDone x0 x1 h kr
  | _ => none), (272, [none, none], fun xs h kr kt => match xs with
  | [x0, x1] => Un_dropLaunch x0 x1 h kr
  | _ => none)]) (zget (999, 0, 0, 0) zc_Co_fail) (zcut [(43, [true, false, false, false, false, true, true])]) (zorc [(43, [some (2, none), none, none, none, none, some (2, none), some (0, none)], [], fun xs h => match xs with
  | [a0, a5, a6] => r43 a0 a5 a6 h
  | _ => none)]) kr (fun _ _ => none) 400 43 [some (2, a0), none, none, none, none, some (2, a5), some (0, a6)] [] h := by rfl
set_option maxRecDepth 100000 in
theorem qe_Co_fail {ρ : Type} (kr : Int → zH → Option ρ) (a0 a1 a2 a3 a4 : Int) (h : zH) : Co_fail a0 a1 a2 a3 a4 h kr = zseg zPP true (fun _ _ => none) (zcal []) (zget (999, 0, 0, 0) zc_Co_fail) (zcut [(43, [true, false, false, false, false, true, true])]) (zorc [(43, [some (2, none), none, none, none, none, some (2, none), some (0, none)], [], fun xs h => match xs with
  | [a0, a5, a6] => Co_fail_43 kr a0 a5 a6 h
  | _ => none)]) kr (fun _ _ => none) 400 0 [some (2, a0), some (2, a1), some (0, a2), some (0, a3), some (0, a4), none, none] [] h := by rfl
def zc_Gr_placeIn : List zI := [(14, 0, 0, 0), (10, 0, 1, 0), (110, 0, 35, 194), (999, 0, 0, 0), (999, 0, 0, 0), (20, 0, 2, 0), (14, 0, 2, 0), (73, 17, 24, 0), (999, 0, 0, 0), (999, 0, 0, 0), (14, 0, 2, 0), (110, 0, 39, 246), (999, 0, 0, 0), (999, 0, 0, 0), (60, 10, 24, 0), (999, 0, 0, 0), (999, 0, 0, 0), (14, 0, 2, 0), (80, 6, 43, 3), (999, 0, 0, 0), (999, 0, 0, 0), (72, 4, 25, 0), (999, 0, 0, 0), (999, 0, 0, 0), (0, (-1), 0, 0), (130, 0, 0, 0)]
def Gr_placeIn_25 {ρ : Type} (kr : Int → zH → Option ρ) (t0 : Int) (h : zH) : Option ρ :=
kr t0 h
def Gr_placeIn_24 {ρ : Type} (kr : Int → zH → Option ρ) (h : zH) : Option ρ :=
Gr_placeIn_25 kr (-1) h
def Gr_placeIn {ρ : Type} (a0 a1 : Int) (h : zH) (kr : Int → zH → Option ρ) : Option ρ :=
zob h 11 a0 fun _ =>
Gr_threadIn a0 a1 h  fun v1 h2 =>
if v1 < 0 then Gr_placeIn_24 kr h2
else zob h2 6 v1 fun _ =>
Th_isRunning v1 h2  fun v3 h4 =>
if v3 = 0 then Gr_placeIn_24 kr h4
else zob h4 6 v1 fun p5 =>
Gr_placeIn_25 kr (zhd h4 p5 3) h4
set_option maxRecDepth 100000 in
theorem qe_Gr_placeIn_25 {ρ : Type} (kr : Int → zH → Option ρ) (t0 : Int) (h : zH) : Gr_placeIn_25 kr t0 h = zseg zPP true (fun _ _ => none) (zcal []) (zget (999, 0, 0, 0) zc_Gr_placeIn) (zcut [(24, [false, false, false]), (25, [false, false, false])]) (zorc []) kr (fun _ _ => none) 400 25 [none, none, none] [(0, t0)] h := by rfl
set_option maxRecDepth 100000 in
theorem qe_Gr_placeIn_24 {ρ : Type} (kr : Int → zH → Option ρ) (h : zH) : Gr_placeIn_24 kr h = zseg zPP true (fun _ _ => none) (zcal []) (zget (999, 0, 0, 0) zc_Gr_placeIn) (zcut [(24, [false, false, false]), (25, [false, false, false])]) (zorc [(25, [none, none, none], [(0, none)], fun xs h => match xs with
  | [t0] => Gr_placeIn_25 kr t0 h
  | _ => none)]) kr (fun _ _ => none) 400 24 [none, none, none] [] h := by rfl
set_option maxRecDepth 100000 in
theorem qe_Gr_placeIn {ρ : Type} (kr : Int → zH → Option ρ) (a0 a1 : Int) (h : zH) : Gr_placeIn a0 a1 h kr = zseg zPP true (fun _ _ => none) (zcal [(194, [none, none], fun xs h kr kt => match xs with
  | [x0, x1] => Gr_threadIn x0 x1 h kr
  | _ => none), (246, [none], fun xs h kr kt => match xs with
  | [x0] => Th_isRunning x0 h kr
  | _ => none)]) (zget (999, 0, 0, 0) zc_Gr_placeIn) (zcut [(24, [false, false, false]), (25, [false, false, false])]) (zorc [(24, [none, none, none], [], fun xs h => match xs with
  | [] => Gr_placeIn_24 kr  h
  | _ => none), (25, [none, none, none], [(0, none)], fun xs h => match xs with
  | [t0] => Gr_placeIn_25 kr t0 h
  | _ => none)]) kr (fun _ _ => none) 400 0 [some (2, a0), some (0, a1), none] [] h := by rfl
def zc_Gr_leastPlace : List zI := [(0, (-1), 0, 0), (16, 0, 1, 0), (0, 0, 0, 0), (16, 0, 2, 0), (10, 0, 2, 0), (0, 4, 0, 0), (69, 32, 38, 0), (999, 0, 0, 0), (999, 0, 0, 0), (14, 0, 0, 0), (10, 0, 2, 0), (110, 0, 46, 195), (999, 0, 0, 0), (999, 0, 0, 0), (16, 0, 3, 0), (10, 0, 3, 0), (0, (-1), 0, 0), (66, 15, 32, 0), (999, 0, 0, 0), (999, 0, 0, 0), (10, 0, 1, 0), (0, (-1), 0, 0), (66, 8, 30, 0), (999, 0, 0, 0), (999, 0, 0, 0), (10, 0, 3, 0), (10, 0, 1, 0), (69, 5, 32, 0), (999, 0, 0, 0), (999, 0, 0, 0), (10, 0, 3, 0), (16, 0, 1, 0), (22, 1, 2, 0), (999, 0, 0, 0), (999, 0, 0, 0), (72, (-31), 4, 0), (999, 0, 0, 0), (999, 0, 0, 0), (10, 0, 1, 0), (130, 0, 0, 0)]
def Gr_leastPlace_32 {ρ : Type} (kr : Int → zH → Option ρ) (r4 : Int → Int → Int → zH → Option ρ) (a0 a1 a2 : Int) (h : zH) : Option ρ :=
r4 a0 a1 (wr (a2 + 1)) h
def Gr_leastPlace_30 {ρ : Type} (kr : Int → zH → Option ρ) (r4 : Int → Int → Int → zH → Option ρ) (a0 a2 a3 : Int) (h : zH) : Option ρ :=
Gr_leastPlace_32 kr r4 a0 a3 a2 h
def Gr_leastPlace_4b {ρ : Type} (kr : Int → zH → Option ρ) (r4 : Int → Int → Int → zH → Option ρ) (a0 a1 a2 : Int) (h : zH) : Option ρ :=
if a2 < 4 then (zob h 11 a0 fun _ =>
Gr_placeIn a0 a2 h  fun v1 h2 =>
if v1 = (-1) then Gr_leastPlace_32 kr r4 a0 a1 a2 h2
else if a1 = (-1) then Gr_leastPlace_30 kr r4 a0 a2 v1 h2
else if v1 < a1 then Gr_leastPlace_30 kr r4 a0 a2 v1 h2
else Gr_leastPlace_32 kr r4 a0 a1 a2 h2)
else kr a1 h
def Gr_leastPlace_4 {ρ : Type} (kr : Int → zH → Option ρ) : Int → Int → Int → zH → Option ρ := zit (fun _ _ _ _ => none) (Gr_leastPlace_4b kr) zN
def Gr_leastPlace {ρ : Type} (a0 : Int) (h : zH) (kr : Int → zH → Option ρ) : Option ρ :=
Gr_leastPlace_4 kr a0 (-1) 0 h
set_option maxRecDepth 100000 in
theorem qe_Gr_leastPlace_32 {ρ : Type} (kr : Int → zH → Option ρ) (r4 : Int → Int → Int → zH → Option ρ) (a0 a1 a2 : Int) (h : zH) : Gr_leastPlace_32 kr r4 a0 a1 a2 h = zseg zPP true (fun _ _ => none) (zcal []) (zget (999, 0, 0, 0) zc_Gr_leastPlace) (zcut [(4, [true, true, true, false]), (30, [true, false, true, true]), (32, [true, true, true, false])]) (zorc [(4, [some (2, none), some (0, none), some (0, none), none], [], fun xs h => match xs with
  | [a0, a1, a2] => r4 a0 a1 a2 h
  | _ => none)]) kr (fun _ _ => none) 400 32 [some (2, a0), some (0, a1), some (0, a2), none] [] h := by rfl
set_option maxRecDepth 100000 in
theorem qe_Gr_leastPlace_30 {ρ : Type} (kr : Int → zH → Option ρ) (r4 : Int → Int → Int → zH → Option ρ) (a0 a2 a3 : Int) (h : zH) : Gr_leastPlace_30 kr r4 a0 a2 a3 h = zseg zPP true (fun _ _ => none) (zcal []) (zget (999, 0, 0, 0) zc_Gr_leastPlace) (zcut [(4, [true, true, true, false]), (30, [true, false, true, true]), (32, [true, true, true, false])]) (zorc [(32, [some (2, none), some (0, none), some (0, none), none], [], fun xs h => match xs with
  | [a0, a1, a2] => Gr_leastPlace_32 kr r4 a0 a1 a2 h
  | _ => none)]) kr (fun _ _ => none) 400 30 [some (2, a0), none, some (0, a2), some (0, a3)] [] h := by rfl
set_option maxRecDepth 100000 in
theorem qe_Gr_leastPlace_4b {ρ : Type} (kr : Int → zH → Option ρ) (r4 : Int → Int → Int → zH → Option ρ) (a0 a1 a2 : Int) (h : zH) : Gr_leastPlace_4b kr r4 a0 a1 a2 h = zseg zPP true (fun _ _ => none) (zcal [(195, [none, none], fun xs h kr kt => match xs with
  | [x0, x1] => Gr_placeIn x0 x1 h kr
  | _ => none)]) (zget (999, 0, 0, 0) zc_Gr_leastPlace) (zcut [(4, [true, true, true, false]), (30, [true, false, true, true]), (32, [true, true, true, false])]) (zorc [(30, [some (2, none), none, some (0, none), some (0, none)], [], fun xs h => match xs with
  | [a0, a2, a3] => Gr_leastPlace_30 kr r4 a0 a2 a3 h
  | _ => none), (32, [some (2, none), some (0, none), some (0, none), none], [], fun xs h => match xs with
  | [a0, a1, a2] => Gr_leastPlace_32 kr r4 a0 a1 a2 h
  | _ => none)]) kr (fun _ _ => none) 400 4 [some (2, a0), some (0, a1), some (0, a2), none] [] h := by rfl
set_option maxRecDepth 100000 in
theorem qe_Gr_leastPlace {ρ : Type} (kr : Int → zH → Option ρ) (a0 : Int) (h : zH) : Gr_leastPlace a0 h kr = zseg zPP true (fun _ _ => none) (zcal []) (zget (999, 0, 0, 0) zc_Gr_leastPlace) (zcut [(4, [true, true, true, false]), (30, [true, false, true, true]), (32, [true, true, true, false])]) (zorc [(4, [some (2, none), some (0, none), some (0, none), none], [], fun xs h => match xs with
  | [a0, a1, a2] => Gr_leastPlace_4 kr a0 a1 a2 h
  | _ => none)]) kr (fun _ _ => none) 400 0 [some (2, a0), none, none, none] [] h := by rfl
def zc_Gr_lanesUnderMask : List zI := [(14, 0, 0, 0), (110, 0, 50, 196), (999, 0, 0, 0), (999, 0, 0, 0), (16, 0, 1, 0), (0, 0, 0, 0), (16, 0, 2, 0), (0, 0, 0, 0), (16, 0, 3, 0), (10, 0, 3, 0), (0, 4, 0, 0), (69, 29, 40, 0), (999, 0, 0, 0), (999, 0, 0, 0), (10, 0, 1, 0), (0, (-1), 0, 0), (66, 18, 34, 0), (999, 0, 0, 0), (999, 0, 0, 0), (14, 0, 0, 0), (10, 0, 3, 0), (110, 0, 46, 195), (999, 0, 0, 0), (999, 0, 0, 0), (10, 0, 1, 0), (67, 9, 34, 0), (999, 0, 0, 0), (999, 0, 0, 0), (10, 0, 2, 0), (0, 1, 0, 0), (10, 0, 3, 0), (39, 0, 0, 0), (37, 0, 0, 0), (16, 0, 2, 0), (22, 1, 3, 0), (999, 0, 0, 0), (999, 0, 0, 0), (72, (-28), 9, 0), (999, 0, 0, 0), (999, 0, 0, 0), (10, 0, 2, 0), (130, 0, 0, 0)]
def Gr_lanesUnderMask_34 {ρ : Type} (kr : Int → zH → Option ρ) (r9 : Int → Int → Int → Int → zH → Option ρ) (a0 a1 a2 a3 : Int) (h : zH) : Option ρ :=
r9 a0 a1 a2 (wr (a3 + 1)) h
def Gr_lanesUnderMask_9b {ρ : Type} (kr : Int → zH → Option ρ) (r9 : Int → Int → Int → Int → zH → Option ρ) (a0 a1 a2 a3 : Int) (h : zH) : Option ρ :=
if a3 < 4 then (if a1 = (-1) then Gr_lanesUnderMask_34 kr r9 a0 a1 a2 a3 h
else zob h 11 a0 fun _ =>
Gr_placeIn a0 a3 h  fun v1 h2 =>
if v1 = a1 then Gr_lanesUnderMask_34 kr r9 a0 a1 (zor a2 (zshl 1 a3)) a3 h2
else Gr_lanesUnderMask_34 kr r9 a0 a1 a2 a3 h2)
else kr a2 h
def Gr_lanesUnderMask_9 {ρ : Type} (kr : Int → zH → Option ρ) : Int → Int → Int → Int → zH → Option ρ := zit (fun _ _ _ _ _ => none) (Gr_lanesUnderMask_9b kr) zN
def Gr_lanesUnderMask {ρ : Type} (a0 : Int) (h : zH) (kr : Int → zH → Option ρ) : Option ρ :=
zob h 11 a0 fun _ =>
Gr_leastPlace a0 h  fun v1 h2 =>
Gr_lanesUnderMask_9 kr a0 v1 0 0 h2
set_option maxRecDepth 100000 in
theorem qe_Gr_lanesUnderMask_34 {ρ : Type} (kr : Int → zH → Option ρ) (r9 : Int → Int → Int → Int → zH → Option ρ) (a0 a1 a2 a3 : Int) (h : zH) : Gr_lanesUnderMask_34 kr r9 a0 a1 a2 a3 h = zseg zPP true (fun _ _ => none) (zcal []) (zget (999, 0, 0, 0) zc_Gr_lanesUnderMask) (zcut [(9, [true, true, true, true]), (34, [true, true, true, true])]) (zorc [(9, [some (2, none), some (0, none), some (0, none), some (0, none)], [], fun xs h => match xs with
  | [a0, a1, a2, a3] => r9 a0 a1 a2 a3 h
  | _ => none)]) kr (fun _ _ => none) 400 34 [some (2, a0), some (0, a1), some (0, a2), some (0, a3)] [] h := by rfl
set_option maxRecDepth 100000 in
theorem qe_Gr_lanesUnderMask_9b {ρ : Type} (kr : Int → zH → Option ρ) (r9 : Int → Int → Int → Int → zH → Option ρ) (a0 a1 a2 a3 : Int) (h : zH) : Gr_lanesUnderMask_9b kr r9 a0 a1 a2 a3 h = zseg zPP true (fun _ _ => none) (zcal [(195, [none, none], fun xs h kr kt => match xs with
  | [x0, x1] => Gr_placeIn x0 x1 h kr
  | _ => none)]) (zget (999, 0, 0, 0) zc_Gr_lanesUnderMask) (zcut [(9, [true, true, true, true]), (34, [true, true, true, true])]) (zorc [(34, [some (2, none), some (0, none), some (0, none), some (0, none)], [], fun xs h => match xs with
  | [a0, a1, a2, a3] => Gr_lanesUnderMask_34 kr r9 a0 a1 a2 a3 h
  | _ => none)]) kr (fun _ _ => none) 400 9 [some (2, a0), some (0, a1), some (0, a2), some (0, a3)] [] h := by rfl
set_option maxRecDepth 100000 in
theorem qe_Gr_lanesUnderMask {ρ : Type} (kr : Int → zH → Option ρ) (a0 : Int) (h : zH) : Gr_lanesUnderMask a0 h kr = zseg zPP true (fun _ _ => none) (zcal [(196, [none], fun xs h kr kt => match xs with
  | [x0] => Gr_leastPlace x0 h kr
  | _ => none)]) (zget (999, 0, 0, 0) zc_Gr_lanesUnderMask) (zcut [(9, [true, true, true, true]), (34, [true, true, true, true])]) (zorc [(9, [some (2, none), some (0, none), some (0, none), some (0, none)], [], fun xs h => match xs with
  | [a0, a1, a2, a3] => Gr_lanesUnderMask_9 kr a0 a1 a2 a3 h
  | _ => none)]) kr (fun _ _ => none) 400 0 [some (2, a0), none, none, none] [] h := by rfl
def zc_Ke_instructionAt : List zI := [(10, 0, 1, 0), (0, 0, 0, 0), (14, 0, 0, 0), (80, 7, 24, 3), (999, 0, 0, 0), (999, 0, 0, 0), (0, 1, 0, 0), (31, 0, 0, 0), (114, 0, 27, 48), (999, 0, 0, 0), (999, 0, 0, 0), (60, 12, 23, 0), (999, 0, 0, 0), (999, 0, 0, 0), (14, 0, 0, 0), (80, 7, 11, 2), (999, 0, 0, 0), (999, 0, 0, 0), (10, 0, 1, 0), (94, 0, 0, 8), (72, 4, 24, 0), (999, 0, 0, 0), (999, 0, 0, 0), (7, 0, 0, 0), (132, 0, 0, 0)]
def Ke_instructionAt_24 {ρ : Type} (kr : Int → zH → Option ρ) (t0 : Int) (h : zH) : Option ρ :=
kr t0 h
def Ke_instructionAt {ρ : Type} (a0 a1 : Int) (h : zH) (kr : Int → zH → Option ρ) : Option ρ :=
zob h 7 a0 fun p1 =>
X_isWithin a1 0 (wr ((zhd h p1 3) - 1)) h  fun v2 h3 =>
if v2 = 0 then Ke_instructionAt_24 kr (-1) h3
else zob h3 7 a0 fun p4 =>
zob h3 38 (zhd h3 p4 2) fun p6 =>
zix (zhl h3 p6) a1 fun j5 =>
Ke_instructionAt_24 kr (zhd h3 p6 j5) h3
set_option maxRecDepth 100000 in
theorem qe_Ke_instructionAt_24 {ρ : Type} (kr : Int → zH → Option ρ) (t0 : Int) (h : zH) : Ke_instructionAt_24 kr t0 h = zseg zPP true (fun _ _ => none) (zcal []) (zget (999, 0, 0, 0) zc_Ke_instructionAt) (zcut [(24, [false, false])]) (zorc []) kr (fun _ _ => none) 400 24 [none, none] [(2, t0)] h := by rfl
set_option maxRecDepth 100000 in
theorem qe_Ke_instructionAt {ρ : Type} (kr : Int → zH → Option ρ) (a0 a1 : Int) (h : zH) : Ke_instructionAt a0 a1 h kr = zseg zPP true (fun _ _ => none) (zcal [(48, [none, none, none], fun xs h kr kt => match xs with
  | [x0, x1, x2] => X_isWithin x0 x1 x2 h kr
  | _ => none)]) (zget (999, 0, 0, 0) zc_Ke_instructionAt) (zcut [(24, [false, false])]) (zorc [(24, [none, none], [(2, none)], fun xs h => match xs with
  | [t0] => Ke_instructionAt_24 kr t0 h
  | _ => none)]) kr (fun _ _ => none) 400 0 [some (2, a0), some (0, a1)] [] h := by rfl
def zc_Th_goOn : List zI := [(14, 0, 1, 0), (80, 8, 42, 0), (999, 0, 0, 0), (999, 0, 0, 0), (1, 98, 0, 0), (999, 0, 0, 0), (67, 12, 18, 0), (999, 0, 0, 0), (999, 0, 0, 0), (14, 0, 0, 0), (1, 119, 0, 0), (999, 0, 0, 0), (82, 6, 34, 4), (999, 0, 0, 0), (999, 0, 0, 0), (72, 73, 88, 0), (999, 0, 0, 0), (999, 0, 0, 0), (14, 0, 1, 0), (80, 8, 42, 0), (999, 0, 0, 0), (999, 0, 0, 0), (1, 101, 0, 0), (999, 0, 0, 0), (67, 12, 36, 0), (999, 0, 0, 0), (999, 0, 0, 0), (14, 0, 0, 0), (1, 101, 0, 0), (999, 0, 0, 0), (82, 6, 34, 4), (999, 0, 0, 0), (999, 0, 0, 0), (72, 55, 88, 0), (999, 0, 0, 0), (999, 0, 0, 0), (14, 0, 1, 0), (80, 8, 42, 0), (999, 0, 0, 0), (999, 0, 0, 0), (1, 106, 0, 0), (999, 0, 0, 0), (66, 23, 65, 0), (999, 0, 0, 0), (999, 0, 0, 0), (14, 0, 1, 0), (80, 8, 42, 0), (999, 0, 0, 0), (999, 0, 0, 0), (1, 122, 0, 0), (999, 0, 0, 0), (67, 26, 77, 0), (999, 0, 0, 0), (999, 0, 0, 0), (14, 0, 0, 0), (14, 0, 1, 0), (80, 8, 47, 1), (999, 0, 0, 0), (999, 0, 0, 0), (110, 0, 56, 249), (999, 0, 0, 0), (999, 0, 0, 0), (61, 15, 77, 0), (999, 0, 0, 0), (999, 0, 0, 0), (14, 0, 0, 0), (14, 0, 1, 0), (80, 8, 50, 2), (999, 0, 0, 0), (999, 0, 0, 0), (10, 0, 2, 0), (110, 0, 38, 253), (999, 0, 0, 0), (999, 0, 0, 0), (72, 14, 88, 0), (999, 0, 0, 0), (999, 0, 0, 0), (14, 0, 0, 0), (14, 0, 0, 0), (80, 6, 63, 3), (999, 0, 0, 0), (999, 0, 0, 0), (0, 1, 0, 0), (30, 0, 0, 0), (10, 0, 2, 0), (110, 0, 38, 253), (999, 0, 0, 0), (999, 0, 0, 0), (133, 0, 0, 0)]
def Th_goOn_88 {ρ : Type} (kr : Int → zH → Option ρ) (h : zH) : Option ρ :=
kr 0 h
def Th_goOn_65 {ρ : Type} (kr : Int → zH → Option ρ) (a0 a1 a2 : Int) (h : zH) : Option ρ :=
zob h 8 a1 fun p1 =>
zob h 6 a0 fun _ =>
Th_goTo a0 (zhd h p1 2) a2 h  fun _ h3 =>
Th_goOn_88 kr h3
def Th_goOn_77 {ρ : Type} (kr : Int → zH → Option ρ) (a0 a2 : Int) (h : zH) : Option ρ :=
zob h 6 a0 fun p1 =>
zob h 6 a0 fun _ =>
Th_goTo a0 (wr ((zhd h p1 3) + 1)) a2 h  fun _ h3 =>
Th_goOn_88 kr h3
def Th_goOn {ρ : Type} (a0 a1 a2 : Int) (h : zH) (kr : Int → zH → Option ρ) : Option ρ :=
zob h 8 a1 fun p1 =>
if (zhd h p1 0) = 98 then (zob h 6 a0 fun p10 =>
zlet (zset h p10 4 119) fun h11 =>
Th_goOn_88 kr h11)
else zob h 8 a1 fun p2 =>
if (zhd h p2 0) = 101 then (zob h 6 a0 fun p8 =>
zlet (zset h p8 4 101) fun h9 =>
Th_goOn_88 kr h9)
else zob h 8 a1 fun p3 =>
if (zhd h p3 0) = 106 then Th_goOn_65 kr a0 a1 a2 h
else zob h 8 a1 fun p4 =>
if (zhd h p4 0) = 122 then (zob h 8 a1 fun p5 =>
zob h 6 a0 fun _ =>
Th_at a0 (zhd h p5 1) h  fun v6 h7 =>
if v6 = 0 then Th_goOn_65 kr a0 a1 a2 h7
else Th_goOn_77 kr a0 a2 h7)
else Th_goOn_77 kr a0 a2 h
set_option maxRecDepth 100000 in
theorem qe_Th_goOn_88 {ρ : Type} (kr : Int → zH → Option ρ) (h : zH) : Th_goOn_88 kr h = zseg zPP true (fun _ _ => none) (zcal []) (zget (999, 0, 0, 0) zc_Th_goOn) (zcut [(65, [true, true, true]), (77, [true, false, true]), (88, [false, false, false])]) (zorc []) kr (fun _ _ => none) 400 88 [none, none, none] [] h := by rfl
set_option maxRecDepth 100000 in
theorem qe_Th_goOn_65 {ρ : Type} (kr : Int → zH → Option ρ) (a0 a1 a2 : Int) (h : zH) : Th_goOn_65 kr a0 a1 a2 h = zseg zPP true (fun _ _ => none) (zcal [(253, [none, none, none], fun xs h kr kt => match xs with
  | [x0, x1, x2] => Th_goTo x0 x1 x2 h kr
  | _ => none)]) (zget (999, 0, 0, 0) zc_Th_goOn) (zcut [(65, [true, true, true]), (77, [true, false, true]), (88, [false, false, false])]) (zorc [(88, [none, none, none], [], fun xs h => match xs with
  | [] => Th_goOn_88 kr  h
  | _ => none)]) kr (fun _ _ => none) 400 65 [some (2, a0), some (2, a1), some (0, a2)] [] h := by rfl
set_option maxRecDepth 100000 in
theorem qe_Th_goOn_77 {ρ : Type} (kr : Int → zH → Option ρ) (a0 a2 : Int) (h : zH) : Th_goOn_77 kr a0 a2 h = zseg zPP true (fun _ _ => none) (zcal [(253, [none, none, none], fun xs h kr kt => match xs with
  | [x0, x1, x2] => Th_goTo x0 x1 x2 h kr
  | _ => none)]) (zget (999, 0, 0, 0) zc_Th_goOn) (zcut [(65, [true, true, true]), (77, [true, false, true]), (88, [false, false, false])]) (zorc [(88, [none, none, none], [], fun xs h => match xs with
  | [] => Th_goOn_88 kr  h
  | _ => none)]) kr (fun _ _ => none) 400 77 [some (2, a0), none, some (0, a2)] [] h := by rfl
set_option maxRecDepth 100000 in
theorem qe_Th_goOn {ρ : Type} (kr : Int → zH → Option ρ) (a0 a1 a2 : Int) (h : zH) : Th_goOn a0 a1 a2 h kr = zseg zPP true (fun _ _ => none) (zcal [(249, [none, none], fun xs h kr kt => match xs with
  | [x0, x1] => Th_at x0 x1 h kr
  | _ => none)]) (zget (999, 0, 0, 0) zc_Th_goOn) (zcut [(65, [true, true, true]), (77, [true, false, true]), (88, [false, false, false])]) (zorc [(65, [some (2, none), some (2, none), some (0, none)], [], fun xs h => match xs with
  | [a0, a1, a2] => Th_goOn_65 kr a0 a1 a2 h
  | _ => none), (77, [some (2, none), none, some (0, none)], [], fun xs h => match xs with
  | [a0, a2] => Th_goOn_77 kr a0 a2 h
  | _ => none), (88, [none, none, none], [], fun xs h => match xs with
  | [] => Th_goOn_88 kr  h
  | _ => none)]) kr (fun _ _ => none) 400 0 [some (2, a0), some (2, a1), some (0, a2)] [] h := by rfl
def zc_Co_carryOut : List zI := [(14, 0, 2, 0), (110, 0, 140, 196), (999, 0, 0, 0), (999, 0, 0, 0), (16, 0, 3, 0), (14, 0, 2, 0), (80, 11, 66, 0), (999, 0, 0, 0), (999, 0, 0, 0), (80, 10, 144, 0), (999, 0, 0, 0), (999, 0, 0, 0), (80, 9, 107, 5), (999, 0, 0, 0), (999, 0, 0, 0), (21, 0, 4, 0), (999, 0, 0, 0), (15, 0, 4, 0), (999, 0, 0, 0), (10, 0, 3, 0), (110, 0, 148, 215), (999, 0, 0, 0), (999, 0, 0, 0), (21, 0, 5, 0), (999, 0, 0, 0), (15, 0, 5, 0), (999, 0, 0, 0), (74, 5, 32, 0), (999, 0, 0, 0), (999, 0, 0, 0), (0, 0, 0, 0), (130, 0, 1, 0), (14, 0, 0, 0), (80, 2, 25, 3), (999, 0, 0, 0), (999, 0, 0, 0), (50, 0, 0, 0), (80, 4, 154, 0), (999, 0, 0, 0), (999, 0, 0, 0), (5, 1, 1, 0), (45, 0, 0, 0), (82, 4, 154, 0), (999, 0, 0, 0), (999, 0, 0, 0), (14, 0, 0, 0), (14, 0, 2, 0), (110, 0, 158, 197), (999, 0, 0, 0), (999, 0, 0, 0), (82, 2, 161, 8), (999, 0, 0, 0), (999, 0, 0, 0), (14, 0, 0, 0), (14, 0, 2, 0), (15, 0, 5, 0), (999, 0, 0, 0), (110, 0, 164, 178), (999, 0, 0, 0), (999, 0, 0, 0), (0, 0, 0, 0), (17, 0, 6, 0), (999, 0, 0, 0), (11, 0, 6, 0), (999, 0, 0, 0), (0, 4, 0, 0), (69, 100, 166, 0), (999, 0, 0, 0), (999, 0, 0, 0), (14, 0, 2, 0), (11, 0, 6, 0), (999, 0, 0, 0), (110, 0, 168, 194), (999, 0, 0, 0), (999, 0, 0, 0), (21, 0, 7, 0), (999, 0, 0, 0), (15, 0, 7, 0), (999, 0, 0, 0), (73, 81, 160, 0), (999, 0, 0, 0), (999, 0, 0, 0), (14, 0, 0, 0), (80, 2, 161, 8), (999, 0, 0, 0), (999, 0, 0, 0), (11, 0, 6, 0), (999, 0, 0, 0), (114, 0, 172, 50), (999, 0, 0, 0), (999, 0, 0, 0), (61, 6, 97, 0), (999, 0, 0, 0), (999, 0, 0, 0), (72, 66, 160, 0), (999, 0, 0, 0), (999, 0, 0, 0), (14, 0, 0, 0), (14, 0, 2, 0), (11, 0, 6, 0), (999, 0, 0, 0), (15, 0, 7, 0), (999, 0, 0, 0), (15, 0, 5, 0), (999, 0, 0, 0), (110, 0, 176, 179), (999, 0, 0, 0), (999, 0, 0, 0), (17, 0, 8, 0), (999, 0, 0, 0), (11, 0, 8, 0), (999, 0, 0, 0), (1, 45, 0, 0), (999, 0, 0, 0), (66, 21, 135, 0), (999, 0, 0, 0), (999, 0, 0, 0), (14, 0, 0, 0), (14, 0, 2, 0), (80, 11, 66, 0), (999, 0, 0, 0), (999, 0, 0, 0), (15, 0, 7, 0), (999, 0, 0, 0), (80, 6, 180, 0), (999, 0, 0, 0), (999, 0, 0, 0), (10, 0, 3, 0), (11, 0, 8, 0), (999, 0, 0, 0), (110, 0, 185, 191), (999, 0, 0, 0), (999, 0, 0, 0), (0, 0, 0, 0), (130, 0, 1, 0), (15, 0, 7, 0), (999, 0, 0, 0), (15, 0, 5, 0), (999, 0, 0, 0), (15, 0, 4, 0), (999, 0, 0, 0), (80, 7, 189, 3), (999, 0, 0, 0), (999, 0, 0, 0), (110, 0, 192, 252), (999, 0, 0, 0), (999, 0, 0, 0), (14, 0, 0, 0), (80, 2, 25, 3), (999, 0, 0, 0), (999, 0, 0, 0), (50, 0, 0, 0), (80, 4, 196, 1), (999, 0, 0, 0), (999, 0, 0, 0), (5, 1, 1, 0), (45, 0, 0, 0), (82, 4, 196, 1), (999, 0, 0, 0), (999, 0, 0, 0), (22, 1, 6, 0), (999, 0, 0, 0), (999, 0, 0, 0), (72, (-100), 63, 0), (999, 0, 0, 0), (999, 0, 0, 0), (14, 0, 2, 0), (14, 0, 0, 0), (80, 2, 54, 4), (999, 0, 0, 0), (999, 0, 0, 0), (14, 0, 0, 0), (14, 0, 1, 0), (15, 0, 5, 0), (999, 0, 0, 0), (110, 0, 199, 183), (999, 0, 0, 0), (999, 0, 0, 0), (30, 0, 0, 0), (82, 11, 203, 6), (999, 0, 0, 0), (999, 0, 0, 0), (0, 1, 0, 0), (130, 0, 1, 0)]
def Co_carryOut_160 {ρ : Type} (kr : Int → zH → Option ρ) (r63 : Int → Int → Int → Int → Int → Int → Int → zH → Option ρ) (a0 a1 a2 a3 a4 a5 a6 : Int) (h : zH) : Option ρ :=
r63 a0 a1 a2 a3 a4 a5 (wr (a6 + 1)) h
def Co_carryOut_63b {ρ : Type} (kr : Int → zH → Option ρ) (r63 : Int → Int → Int → Int → Int → Int → Int → zH → Option ρ) (a0 a1 a2 a3 a4 a5 a6 : Int) (h : zH) : Option ρ :=
if a6 < 4 then (zob h 11 a2 fun _ =>
Gr_threadIn a2 a6 h  fun v6 h7 =>
if v6 < 0 then Co_carryOut_160 kr r63 a0 a1 a2 a3 a4 a5 a6 h7
else zob h7 2 a0 fun p8 =>
X_isIn (zhd h7 p8 8) a6 h7  fun v9 h10 =>
if v9 = 0 then Co_carryOut_160 kr r63 a0 a1 a2 a3 a4 a5 a6 h10
else zob h10 2 a0 fun _ =>
Co_carryLane a0 a2 a6 v6 a5 h10  fun v11 h12 =>
if v11 = 45 then (zob h12 7 a4 fun p13 =>
zob h12 6 v6 fun _ =>
Th_goOn v6 a5 (zhd h12 p13 3) h12  fun _ h15 =>
zob h15 2 a0 fun p16 =>
zob h15 4 (zhd h15 p16 3) fun p17 =>
zob h15 4 (zhd h15 p16 3) fun p18 =>
zlet (zset h15 p18 1 (wrl ((zhd h15 p17 1) + 1))) fun h19 =>
Co_carryOut_160 kr r63 a0 a1 a2 a3 a4 a5 a6 h19)
else zob h12 11 a2 fun p20 =>
zob h12 6 v6 fun p21 =>
zob h12 2 a0 fun _ =>
Co_fail a0 (zhd h12 p20 0) (zhd h12 p21 0) a3 v11 h12  fun _ h23 =>
kr 0 h23)
else zob h 2 a0 fun p1 =>
zob h 2 a0 fun _ =>
Co_countedDelay a0 a1 a5 h  fun v2 h3 =>
zob h3 11 a2 fun p4 =>
zlet (zset h3 p4 6 (wr ((zhd h p1 4) + v2))) fun h5 =>
kr 1 h5
def Co_carryOut_63 {ρ : Type} (kr : Int → zH → Option ρ) : Int → Int → Int → Int → Int → Int → Int → zH → Option ρ := zit (fun _ _ _ _ _ _ _ _ => none) (Co_carryOut_63b kr) zN
def Co_carryOut {ρ : Type} (a0 a1 a2 : Int) (h : zH) (kr : Int → zH → Option ρ) : Option ρ :=
zob h 11 a2 fun _ =>
Gr_leastPlace a2 h  fun v1 h2 =>
zob h2 11 a2 fun p3 =>
zob h2 10 (zhd h2 p3 0) fun p4 =>
zob h2 9 (zhd h2 p4 0) fun p5 =>
zob h2 7 (zhd h2 p5 5) fun _ =>
Ke_instructionAt (zhd h2 p5 5) v1 h2  fun v6 h7 =>
if v6 < 0 then kr 0 h7
else zob h7 2 a0 fun p8 =>
zob h7 4 (zhd h7 p8 3) fun p9 =>
zob h7 4 (zhd h7 p8 3) fun p10 =>
zlet (zset h7 p10 0 (wrl ((zhd h7 p9 0) + 1))) fun h11 =>
zob h11 11 a2 fun _ =>
Gr_lanesUnderMask a2 h11  fun v12 h13 =>
zob h13 2 a0 fun p14 =>
zlet (zset h13 p14 8 v12) fun h15 =>
zob h15 2 a0 fun _ =>
Co_lookAhead a0 a2 v6 h15  fun _ h17 =>
Co_carryOut_63 kr a0 a1 a2 v1 (zhd h2 p5 5) v6 0 h17
set_option maxRecDepth 100000 in
theorem qe_Co_carryOut_160 {ρ : Type} (kr : Int → zH → Option ρ) (r63 : Int → Int → Int → Int → Int → Int → Int → zH → Option ρ) (a0 a1 a2 a3 a4 a5 a6 : Int) (h : zH) : Co_carryOut_160 kr r63 a0 a1 a2 a3 a4 a5 a6 h = zseg zPP true (fun _ _ => none) (zcal []) (zget (999, 0, 0, 0) zc_Co_carryOut) (zcut [(63, [true, true, true, true, true, true, true, false, false]), (160, [true, true, true, true, true, true, true, false, false])]) (zorc [(63, [some (2, none), some (2, none), some (2, none), some (0, none), some (2, none), some (2, none), some (0, none), none, none], [], fun xs h => match xs with
  | [a0, a1, a2, a3, a4, a5, a6] => r63 a0 a1 a2 a3 a4 a5 a6 h
  | _ => none)]) kr (fun _ _ => none) 400 160 [some (2, a0), some (2, a1), some (2, a2), some (0, a3), some (2, a4), some (2, a5), some (0, a6), none, none] [] h := by rfl
set_option maxRecDepth 100000 in
theorem qe_Co_carryOut_63b {ρ : Type} (kr : Int → zH → Option ρ) (r63 : Int → Int → Int → Int → Int → Int → Int → zH → Option ρ) (a0 a1 a2 a3 a4 a5 a6 : Int) (h : zH) : Co_carryOut_63b kr r63 a0 a1 a2 a3 a4 a5 a6 h = zseg zPP true (fun _ _ => none) (zcal [(50, [none, none], fun xs h kr kt => match xs with
  | [x0, x1] => X_isIn x0 x1 h kr
  | _ => none), (179, [none, none, none, none, none], fun xs h kr kt => match xs with
  | [x0, x1, x2, x3, x4] => Co_carryLane x0 x1 x2 x3 x4 h kr
  | _ => none), (183, [none, none, none], fun xs h kr kt => match xs with
  | [x0, x1, x2] => Co_countedDelay x0 x1 x2 h kr
  | _ => none), (191, [none, none, none, none, none], fun xs h kr kt => match xs with
  | [x0, x1, x2, x3, x4] => Co_fail x0 x1 x2 x3 x4 h kr
  | _ => none), (194, [none, none], fun xs h kr kt => match xs with
  | [x0, x1] => Gr_threadIn x0 x1 h kr
  | _ => none), (252, [none, none, none], fun xs h kr kt => match xs with
  | [x0, x1, x2] => Th_goOn x0 x1 x2 h kr
  | _ => none)]) (zget (999, 0, 0, 0) zc_Co_carryOut) (zcut [(63, [true, true, true, true, true, true, true, false, false]), (160, [true, true, true, true, true, true, true, false, false])]) (zorc [(160, [some (2, none), some (2, none), some (2, none), some (0, none), some (2, none), some (2, none), some (0, none), none, none], [], fun xs h => match xs with
  | [a0, a1, a2, a3, a4, a5, a6] => Co_carryOut_160 kr r63 a0 a1 a2 a3 a4 a5 a6 h
  | _ => none)]) kr (fun _ _ => none) 400 63 [some (2, a0), some (2, a1), some (2, a2), some (0, a3), some (2, a4), some (2, a5), some (0, a6), none, none] [] h := by rfl
set_option maxRecDepth 100000 in
theorem qe_Co_carryOut {ρ : Type} (kr : Int → zH → Option ρ) (a0 a1 a2 : Int) (h : zH) : Co_carryOut a0 a1 a2 h kr = zseg zPP true (fun _ _ => none) (zcal [(178, [none, none, none], fun xs h kr kt => match xs with
  | [x0, x1, x2] => Co_lookAhead x0 x1 x2 h kr
  | _ => none), (196, [none], fun xs h kr kt => match xs with
  | [x0] => Gr_leastPlace x0 h kr
  | _ => none), (197, [none], fun xs h kr kt => match xs with
  | [x0] => Gr_lanesUnderMask x0 h kr
  | _ => none), (215, [none, none], fun xs h kr kt => match xs with
  | [x0, x1] => Ke_instructionAt x0 x1 h kr
  | _ => none)]) (zget (999, 0, 0, 0) zc_Co_carryOut) (zcut [(63, [true, true, true, true, true, true, true, false, false]), (160, [true, true, true, true, true, true, true, false, false])]) (zorc [(63, [some (2, none), some (2, none), some (2, none), some (0, none), some (2, none), some (2, none), some (0, none), none, none], [], fun xs h => match xs with
  | [a0, a1, a2, a3, a4, a5, a6] => Co_carryOut_63 kr a0 a1 a2 a3 a4 a5 a6 h
  | _ => none)]) kr (fun _ _ => none) 400 0 [some (2, a0), some (2, a1), some (2, a2), none, none, none, none, none, none] [] h := by rfl
