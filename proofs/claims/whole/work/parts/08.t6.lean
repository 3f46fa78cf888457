def zc_M_code : List zI := [(14, 0, 0, 0), (0, 0, 0, 0), (82, 12, 185, 0), (999, 0, 0, 0), (999, 0, 0, 0), (14, 0, 0, 0), (14, 0, 0, 0), (10, 0, 1, 0), (110, 0, 203, 59), (999, 0, 0, 0), (999, 0, 0, 0), (0, 1, 0, 0), (110, 0, 199, 58), (999, 0, 0, 0), (999, 0, 0, 0), (60, 5, 20, 0), (999, 0, 0, 0), (999, 0, 0, 0), (0, 0, 0, 0), (130, 0, 0, 0), (10, 0, 2, 0), (113, 0, 207, 63), (999, 0, 0, 0), (999, 0, 0, 0), (17, 0, 6, 0), (999, 0, 0, 0), (14, 0, 0, 0), (80, 12, 17, 5), (999, 0, 0, 0), (999, 0, 0, 0), (10, 0, 1, 0), (90, 0, 0, 0), (0, 1, 0, 0), (31, 0, 0, 0), (17, 0, 7, 0), (999, 0, 0, 0), (11, 0, 6, 0), (999, 0, 0, 0), (0, (-1), 0, 0), (66, 56, 95, 0), (999, 0, 0, 0), (999, 0, 0, 0), (11, 0, 6, 0), (999, 0, 0, 0), (0, 4, 0, 0), (36, 0, 0, 0), (65, 13, 59, 0), (999, 0, 0, 0), (999, 0, 0, 0), (10, 0, 3, 0), (0, 0, 0, 0), (11, 0, 7, 0), (999, 0, 0, 0), (113, 0, 192, 57), (999, 0, 0, 0), (999, 0, 0, 0), (60, 39, 95, 0), (999, 0, 0, 0), (999, 0, 0, 0), (11, 0, 6, 0), (999, 0, 0, 0), (0, 2, 0, 0), (36, 0, 0, 0), (65, 14, 77, 0), (999, 0, 0, 0), (999, 0, 0, 0), (11, 0, 4, 0), (999, 0, 0, 0), (0, 0, 0, 0), (11, 0, 7, 0), (999, 0, 0, 0), (113, 0, 192, 57), (999, 0, 0, 0), (999, 0, 0, 0), (60, 21, 95, 0), (999, 0, 0, 0), (999, 0, 0, 0), (11, 0, 6, 0), (999, 0, 0, 0), (0, 1, 0, 0), (36, 0, 0, 0), (65, 18, 99, 0), (999, 0, 0, 0), (999, 0, 0, 0), (11, 0, 5, 0), (999, 0, 0, 0), (0, 0, 0, 0), (11, 0, 7, 0), (999, 0, 0, 0), (113, 0, 192, 57), (999, 0, 0, 0), (999, 0, 0, 0), (61, 7, 99, 0), (999, 0, 0, 0), (999, 0, 0, 0), (0, 1, 0, 0), (72, 4, 100, 0), (999, 0, 0, 0), (999, 0, 0, 0), (0, 0, 0, 0), (17, 0, 8, 0), (999, 0, 0, 0), (10, 0, 2, 0), (1, 122, 0, 0), (999, 0, 0, 0), (66, 9, 114, 0), (999, 0, 0, 0), (999, 0, 0, 0), (10, 0, 2, 0), (1, 106, 0, 0), (999, 0, 0, 0), (67, 14, 125, 0), (999, 0, 0, 0), (999, 0, 0, 0), (11, 0, 4, 0), (999, 0, 0, 0), (0, 0, 0, 0), (1, 39, 0, 0), (999, 0, 0, 0), (113, 0, 192, 57), (999, 0, 0, 0), (999, 0, 0, 0), (60, 19, 141, 0), (999, 0, 0, 0), (999, 0, 0, 0), (10, 0, 2, 0), (1, 99, 0, 0), (999, 0, 0, 0), (67, 17, 145, 0), (999, 0, 0, 0), (999, 0, 0, 0), (11, 0, 4, 0), (999, 0, 0, 0), (0, 0, 0, 0), (0, 3, 0, 0), (113, 0, 192, 57), (999, 0, 0, 0), (999, 0, 0, 0), (61, 7, 145, 0), (999, 0, 0, 0), (999, 0, 0, 0), (0, 1, 0, 0), (72, 4, 146, 0), (999, 0, 0, 0), (999, 0, 0, 0), (0, 0, 0, 0), (17, 0, 9, 0), (999, 0, 0, 0), (14, 0, 0, 0), (11, 0, 8, 0), (999, 0, 0, 0), (61, 8, 159, 0), (999, 0, 0, 0), (999, 0, 0, 0), (11, 0, 9, 0), (999, 0, 0, 0), (60, 7, 163, 0), (999, 0, 0, 0), (999, 0, 0, 0), (0, 1, 0, 0), (72, 4, 164, 0), (999, 0, 0, 0), (999, 0, 0, 0), (0, 0, 0, 0), (0, 2, 0, 0), (110, 0, 199, 58), (999, 0, 0, 0), (999, 0, 0, 0), (61, 36, 204, 0), (999, 0, 0, 0), (999, 0, 0, 0), (14, 0, 0, 0), (14, 0, 0, 0), (80, 12, 23, 7), (999, 0, 0, 0), (999, 0, 0, 0), (10, 0, 1, 0), (90, 0, 0, 0), (1, 40, 0, 0), (999, 0, 0, 0), (66, 12, 192, 0), (999, 0, 0, 0), (999, 0, 0, 0), (14, 0, 0, 0), (80, 12, 26, 8), (999, 0, 0, 0), (999, 0, 0, 0), (10, 0, 1, 0), (91, 0, 0, 0), (60, 7, 196, 0), (999, 0, 0, 0), (999, 0, 0, 0), (0, 1, 0, 0), (72, 4, 197, 0), (999, 0, 0, 0), (999, 0, 0, 0), (0, 0, 0, 0), (0, 3, 0, 0), (110, 0, 199, 58), (999, 0, 0, 0), (999, 0, 0, 0), (60, 5, 206, 0), (999, 0, 0, 0), (999, 0, 0, 0), (0, 0, 0, 0), (130, 0, 0, 0), (1, 40, 0, 0), (999, 0, 0, 0), (10, 0, 1, 0), (32, 0, 0, 0), (14, 0, 0, 0), (80, 12, 23, 7), (999, 0, 0, 0), (999, 0, 0, 0), (10, 0, 1, 0), (90, 0, 0, 0), (30, 0, 0, 0), (17, 0, 10, 0), (999, 0, 0, 0), (14, 0, 0, 0), (80, 12, 30, 9), (999, 0, 0, 0), (999, 0, 0, 0), (11, 0, 10, 0), (999, 0, 0, 0), (10, 0, 2, 0), (97, 0, 0, 0), (14, 0, 0, 0), (80, 12, 34, 10), (999, 0, 0, 0), (999, 0, 0, 0), (11, 0, 10, 0), (999, 0, 0, 0), (10, 0, 3, 0), (95, 0, 0, 0), (14, 0, 0, 0), (80, 12, 37, 11), (999, 0, 0, 0), (999, 0, 0, 0), (11, 0, 10, 0), (999, 0, 0, 0), (11, 0, 4, 0), (999, 0, 0, 0), (95, 0, 0, 0), (14, 0, 0, 0), (80, 12, 40, 12), (999, 0, 0, 0), (999, 0, 0, 0), (11, 0, 10, 0), (999, 0, 0, 0), (11, 0, 5, 0), (999, 0, 0, 0), (95, 0, 0, 0), (14, 0, 0, 0), (80, 12, 23, 7), (999, 0, 0, 0), (999, 0, 0, 0), (10, 0, 1, 0), (51, 0, 0, 0), (90, 0, 0, 0), (0, 1, 0, 0), (30, 0, 0, 0), (95, 0, 0, 0), (14, 0, 0, 0), (80, 12, 23, 7), (999, 0, 0, 0), (999, 0, 0, 0), (10, 0, 1, 0), (90, 0, 0, 0), (0, 1, 0, 0), (31, 0, 0, 0), (130, 0, 0, 0)]
def M_code_204 {ρ : Type} (kr : Int → zD → Option ρ) (s : zD) : Option ρ :=
kr 0 s
def M_code_197 {ρ : Type} (kr : Int → zD → Option ρ) (a1 a2 a3 a4 a5 t0 : Int) (s : zD) : Option ρ :=
M_fails t0 3 s  fun v1 s2 =>
if v1 = 0 then (zix 4 a1 fun j3 =>
zix 160 (wr ((wr (40 * a1)) + (s2 4 j3))) fun j4 =>
znar 2 a2 fun x5 =>
zlet (zup s2 6 j4 x5) fun s6 =>
zix 160 (wr ((wr (40 * a1)) + (s2 4 j3))) fun j7 =>
zlet (zup s6 7 j7 a3) fun s8 =>
zix 160 (wr ((wr (40 * a1)) + (s2 4 j3))) fun j9 =>
zlet (zup s8 8 j9 a4) fun s10 =>
zix 160 (wr ((wr (40 * a1)) + (s2 4 j3))) fun j11 =>
zlet (zup s10 9 j11 a5) fun s12 =>
zix 4 a1 fun j13 =>
zix 4 a1 fun j14 =>
zlet (zup s12 4 j14 (wr ((s12 4 j13) + 1))) fun s15 =>
zix 4 a1 fun j16 =>
kr (wr ((s15 4 j16) - 1)) s15)
else M_code_204 kr s2
def M_code_192 {ρ : Type} (kr : Int → zD → Option ρ) (a1 a2 a3 a4 a5 : Int) (s : zD) : Option ρ :=
M_code_197 kr a1 a2 a3 a4 a5 1 s
def M_code_164 {ρ : Type} (kr : Int → zD → Option ρ) (a1 a2 a3 a4 a5 t0 : Int) (s : zD) : Option ρ :=
M_fails t0 2 s  fun v1 s2 =>
if v1 = 0 then (zix 4 a1 fun j3 =>
if (s2 4 j3) = 40 then M_code_192 kr a1 a2 a3 a4 a5 s2
else zix 4 a1 fun j4 =>
if (s2 5 j4) = 0 then M_code_197 kr a1 a2 a3 a4 a5 0 s2
else M_code_192 kr a1 a2 a3 a4 a5 s2)
else M_code_204 kr s2
def M_code_159 {ρ : Type} (kr : Int → zD → Option ρ) (a1 a2 a3 a4 a5 : Int) (s : zD) : Option ρ :=
M_code_164 kr a1 a2 a3 a4 a5 1 s
def M_code_146 {ρ : Type} (kr : Int → zD → Option ρ) (a1 a2 a3 a4 a5 a8 t0 : Int) (s : zD) : Option ρ :=
if a8 = 0 then (if t0 = 0 then M_code_164 kr a1 a2 a3 a4 a5 0 s
else M_code_159 kr a1 a2 a3 a4 a5 s)
else M_code_159 kr a1 a2 a3 a4 a5 s
def M_code_141 {ρ : Type} (kr : Int → zD → Option ρ) (a1 a2 a3 a4 a5 a8 : Int) (s : zD) : Option ρ :=
M_code_146 kr a1 a2 a3 a4 a5 a8 1 s
def M_code_145 {ρ : Type} (kr : Int → zD → Option ρ) (a1 a2 a3 a4 a5 a8 : Int) (s : zD) : Option ρ :=
M_code_146 kr a1 a2 a3 a4 a5 a8 0 s
def M_code_125 {ρ : Type} (kr : Int → zD → Option ρ) (a1 a2 a3 a4 a5 a8 : Int) (s : zD) : Option ρ :=
if a2 = 99 then (M_in a4 0 3 s  fun v1 s2 =>
if v1 = 0 then M_code_141 kr a1 a2 a3 a4 a5 a8 s2
else M_code_145 kr a1 a2 a3 a4 a5 a8 s2)
else M_code_145 kr a1 a2 a3 a4 a5 a8 s
def M_code_114 {ρ : Type} (kr : Int → zD → Option ρ) (a1 a2 a3 a4 a5 a8 : Int) (s : zD) : Option ρ :=
M_in a4 0 39 s  fun v1 s2 =>
if v1 = 0 then M_code_141 kr a1 a2 a3 a4 a5 a8 s2
else M_code_125 kr a1 a2 a3 a4 a5 a8 s2
def M_code_100 {ρ : Type} (kr : Int → zD → Option ρ) (a1 a2 a3 a4 a5 t0 : Int) (s : zD) : Option ρ :=
if a2 = 122 then M_code_114 kr a1 a2 a3 a4 a5 t0 s
else if a2 = 106 then M_code_114 kr a1 a2 a3 a4 a5 t0 s
else M_code_125 kr a1 a2 a3 a4 a5 t0 s
def M_code_95 {ρ : Type} (kr : Int → zD → Option ρ) (a1 a2 a3 a4 a5 : Int) (s : zD) : Option ρ :=
M_code_100 kr a1 a2 a3 a4 a5 1 s
def M_code_99 {ρ : Type} (kr : Int → zD → Option ρ) (a1 a2 a3 a4 a5 : Int) (s : zD) : Option ρ :=
M_code_100 kr a1 a2 a3 a4 a5 0 s
def M_code_77 {ρ : Type} (kr : Int → zD → Option ρ) (a1 a2 a3 a4 a5 a6 a7 : Int) (s : zD) : Option ρ :=
if 0 < (zand a6 1) then (M_in a5 0 a7 s  fun v1 s2 =>
if v1 = 0 then M_code_95 kr a1 a2 a3 a4 a5 s2
else M_code_99 kr a1 a2 a3 a4 a5 s2)
else M_code_99 kr a1 a2 a3 a4 a5 s
def M_code_59 {ρ : Type} (kr : Int → zD → Option ρ) (a1 a2 a3 a4 a5 a6 a7 : Int) (s : zD) : Option ρ :=
if 0 < (zand a6 2) then (M_in a4 0 a7 s  fun v1 s2 =>
if v1 = 0 then M_code_95 kr a1 a2 a3 a4 a5 s2
else M_code_77 kr a1 a2 a3 a4 a5 a6 a7 s2)
else M_code_77 kr a1 a2 a3 a4 a5 a6 a7 s
def M_code {ρ : Type} (a1 a2 a3 a4 a5 : Int) (s : zD) (kr : Int → zD → Option ρ) : Option ρ :=
zlet (zup s 0 0 0) fun s1 =>
M_noKernel a1 s1  fun v2 s3 =>
M_fails v2 1 s3  fun v4 s5 =>
if v4 = 0 then (M_named a2 s5  fun v6 s7 =>
zix 4 a1 fun j8 =>
if v6 = (-1) then M_code_95 kr a1 a2 a3 a4 a5 s7
else if 0 < (zand v6 4) then (M_in a3 0 (wr ((s7 2 j8) - 1)) s7  fun v9 s10 =>
if v9 = 0 then M_code_95 kr a1 a2 a3 a4 a5 s10
else M_code_59 kr a1 a2 a3 a4 a5 v6 (wr ((s7 2 j8) - 1)) s10)
else M_code_59 kr a1 a2 a3 a4 a5 v6 (wr ((s7 2 j8) - 1)) s7)
else kr 0 s5
set_option maxRecDepth 100000 in
theorem qe_M_code_204 {ρ : Type} (kr : Int → zD → Option ρ) (s : zD) : M_code_204 kr s = zseg zPP false zfinM (zcal []) (zget (999, 0, 0, 0) zc_M_code) (zcut [(59, [true, true, true, true, true, true, true, true, false, false, false]), (77, [true, true, true, true, true, true, true, true, false, false, false]), (95, [true, true, true, true, true, true, false, false, false, false, false]), (99, [true, true, true, true, true, true, false, false, false, false, false]), (100, [true, true, true, true, true, true, false, false, false, false, false]), (114, [true, true, true, true, true, true, false, false, true, false, false]), (125, [true, true, true, true, true, true, false, false, true, false, false]), (141, [true, true, true, true, true, true, false, false, true, false, false]), (145, [true, true, true, true, true, true, false, false, true, false, false]), (146, [true, true, true, true, true, true, false, false, true, false, false]), (159, [true, true, true, true, true, true, false, false, false, false, false]), (164, [true, true, true, true, true, true, false, false, false, false, false]), (192, [true, true, true, true, true, true, false, false, false, false, false]), (197, [true, true, true, true, true, true, false, false, false, false, false]), (204, [false, false, false, false, false, false, false, false, false, false, false])]) (zorc []) (fun v h => kr v (zhd h)) (fun _ _ => none) 400 204 [none, none, none, none, none, none, none, none, none, none, none] [] (zM s) := by rfl
set_option maxRecDepth 100000 in
theorem qe_M_code_197 {ρ : Type} (kr : Int → zD → Option ρ) (a1 a2 a3 a4 a5 t0 : Int) (s : zD) : M_code_197 kr a1 a2 a3 a4 a5 t0 s = zseg zPP false zfinM (zcal [(58, [some 0, none, none], fun xs h kr kt => match xs with
  | [x0, x1] => M_fails x0 x1 (zhd h) (fun v s => kr v (zM s))
  | _ => none)]) (zget (999, 0, 0, 0) zc_M_code) (zcut [(59, [true, true, true, true, true, true, true, true, false, false, false]), (77, [true, true, true, true, true, true, true, true, false, false, false]), (95, [true, true, true, true, true, true, false, false, false, false, false]), (99, [true, true, true, true, true, true, false, false, false, false, false]), (100, [true, true, true, true, true, true, false, false, false, false, false]), (114, [true, true, true, true, true, true, false, false, true, false, false]), (125, [true, true, true, true, true, true, false, false, true, false, false]), (141, [true, true, true, true, true, true, false, false, true, false, false]), (145, [true, true, true, true, true, true, false, false, true, false, false]), (146, [true, true, true, true, true, true, false, false, true, false, false]), (159, [true, true, true, true, true, true, false, false, false, false, false]), (164, [true, true, true, true, true, true, false, false, false, false, false]), (192, [true, true, true, true, true, true, false, false, false, false, false]), (197, [true, true, true, true, true, true, false, false, false, false, false]), (204, [false, false, false, false, false, false, false, false, false, false, false])]) (zorc [(204, [none, none, none, none, none, none, none, none, none, none, none], [], fun xs h => match xs with
  | [] => M_code_204 kr  (zhd h)
  | _ => none)]) (fun v h => kr v (zhd h)) (fun _ _ => none) 400 197 [some (2, 0), some (0, a1), some (0, a2), some (0, a3), some (0, a4), some (0, a5), none, none, none, none, none] [(0, t0), (2, 0)] (zM s) := by rfl
set_option maxRecDepth 100000 in
theorem qe_M_code_192 {ρ : Type} (kr : Int → zD → Option ρ) (a1 a2 a3 a4 a5 : Int) (s : zD) : M_code_192 kr a1 a2 a3 a4 a5 s = zseg zPP false zfinM (zcal []) (zget (999, 0, 0, 0) zc_M_code) (zcut [(59, [true, true, true, true, true, true, true, true, false, false, false]), (77, [true, true, true, true, true, true, true, true, false, false, false]), (95, [true, true, true, true, true, true, false, false, false, false, false]), (99, [true, true, true, true, true, true, false, false, false, false, false]), (100, [true, true, true, true, true, true, false, false, false, false, false]), (114, [true, true, true, true, true, true, false, false, true, false, false]), (125, [true, true, true, true, true, true, false, false, true, false, false]), (141, [true, true, true, true, true, true, false, false, true, false, false]), (145, [true, true, true, true, true, true, false, false, true, false, false]), (146, [true, true, true, true, true, true, false, false, true, false, false]), (159, [true, true, true, true, true, true, false, false, false, false, false]), (164, [true, true, true, true, true, true, false, false, false, false, false]), (192, [true, true, true, true, true, true, false, false, false, false, false]), (197, [true, true, true, true, true, true, false, false, false, false, false]), (204, [false, false, false, false, false, false, false, false, false, false, false])]) (zorc [(197, [some (2, some 0), some (0, none), some (0, none), some (0, none), some (0, none), some (0, none), none, none, none, none, none], [(0, none), (2, some 0)], fun xs h => match xs with
  | [a1, a2, a3, a4, a5, t0] => M_code_197 kr a1 a2 a3 a4 a5 t0 (zhd h)
  | _ => none)]) (fun v h => kr v (zhd h)) (fun _ _ => none) 400 192 [some (2, 0), some (0, a1), some (0, a2), some (0, a3), some (0, a4), some (0, a5), none, none, none, none, none] [(2, 0)] (zM s) := by rfl
set_option maxRecDepth 100000 in
theorem qe_M_code_164 {ρ : Type} (kr : Int → zD → Option ρ) (a1 a2 a3 a4 a5 t0 : Int) (s : zD) : M_code_164 kr a1 a2 a3 a4 a5 t0 s = zseg zPP false zfinM (zcal [(58, [some 0, none, none], fun xs h kr kt => match xs with
  | [x0, x1] => M_fails x0 x1 (zhd h) (fun v s => kr v (zM s))
  | _ => none)]) (zget (999, 0, 0, 0) zc_M_code) (zcut [(59, [true, true, true, true, true, true, true, true, false, false, false]), (77, [true, true, true, true, true, true, true, true, false, false, false]), (95, [true, true, true, true, true, true, false, false, false, false, false]), (99, [true, true, true, true, true, true, false, false, false, false, false]), (100, [true, true, true, true, true, true, false, false, false, false, false]), (114, [true, true, true, true, true, true, false, false, true, false, false]), (125, [true, true, true, true, true, true, false, false, true, false, false]), (141, [true, true, true, true, true, true, false, false, true, false, false]), (145, [true, true, true, true, true, true, false, false, true, false, false]), (146, [true, true, true, true, true, true, false, false, true, false, false]), (159, [true, true, true, true, true, true, false, false, false, false, false]), (164, [true, true, true, true, true, true, false, false, false, false, false]), (192, [true, true, true, true, true, true, false, false, false, false, false]), (197, [true, true, true, true, true, true, false, false, false, false, false]), (204, [false, false, false, false, false, false, false, false, false, false, false])]) (zorc [(192, [some (2, some 0), some (0, none), some (0, none), some (0, none), some (0, none), some (0, none), none, none, none, none, none], [(2, some 0)], fun xs h => match xs with
  | [a1, a2, a3, a4, a5] => M_code_192 kr a1 a2 a3 a4 a5 (zhd h)
  | _ => none), (197, [some (2, some 0), some (0, none), some (0, none), some (0, none), some (0, none), some (0, none), none, none, none, none, none], [(0, none), (2, some 0)], fun xs h => match xs with
  | [a1, a2, a3, a4, a5, t0] => M_code_197 kr a1 a2 a3 a4 a5 t0 (zhd h)
  | _ => none), (204, [none, none, none, none, none, none, none, none, none, none, none], [], fun xs h => match xs with
  | [] => M_code_204 kr  (zhd h)
  | _ => none)]) (fun v h => kr v (zhd h)) (fun _ _ => none) 400 164 [some (2, 0), some (0, a1), some (0, a2), some (0, a3), some (0, a4), some (0, a5), none, none, none, none, none] [(0, t0), (2, 0)] (zM s) := by rfl
set_option maxRecDepth 100000 in
theorem qe_M_code_159 {ρ : Type} (kr : Int → zD → Option ρ) (a1 a2 a3 a4 a5 : Int) (s : zD) : M_code_159 kr a1 a2 a3 a4 a5 s = zseg zPP false zfinM (zcal []) (zget (999, 0, 0, 0) zc_M_code) (zcut [(59, [true, true, true, true, true, true, true, true, false, false, false]), (77, [true, true, true, true, true, true, true, true, false, false, false]), (95, [true, true, true, true, true, true, false, false, false, false, false]), (99, [true, true, true, true, true, true, false, false, false, false, false]), (100, [true, true, true, true, true, true, false, false, false, false, false]), (114, [true, true, true, true, true, true, false, false, true, false, false]), (125, [true, true, true, true, true, true, false, false, true, false, false]), (141, [true, true, true, true, true, true, false, false, true, false, false]), (145, [true, true, true, true, true, true, false, false, true, false, false]), (146, [true, true, true, true, true, true, false, false, true, false, false]), (159, [true, true, true, true, true, true, false, false, false, false, false]), (164, [true, true, true, true, true, true, false, false, false, false, false]), (192, [true, true, true, true, true, true, false, false, false, false, false]), (197, [true, true, true, true, true, true, false, false, false, false, false]), (204, [false, false, false, false, false, false, false, false, false, false, false])]) (zorc [(164, [some (2, some 0), some (0, none), some (0, none), some (0, none), some (0, none), some (0, none), none, none, none, none, none], [(0, none), (2, some 0)], fun xs h => match xs with
  | [a1, a2, a3, a4, a5, t0] => M_code_164 kr a1 a2 a3 a4 a5 t0 (zhd h)
  | _ => none)]) (fun v h => kr v (zhd h)) (fun _ _ => none) 400 159 [some (2, 0), some (0, a1), some (0, a2), some (0, a3), some (0, a4), some (0, a5), none, none, none, none, none] [(2, 0)] (zM s) := by rfl
set_option maxRecDepth 100000 in
theorem qe_M_code_146 {ρ : Type} (kr : Int → zD → Option ρ) (a1 a2 a3 a4 a5 a8 t0 : Int) (s : zD) : M_code_146 kr a1 a2 a3 a4 a5 a8 t0 s = zseg zPP false zfinM (zcal []) (zget (999, 0, 0, 0) zc_M_code) (zcut [(59, [true, true, true, true, true, true, true, true, false, false, false]), (77, [true, true, true, true, true, true, true, true, false, false, false]), (95, [true, true, true, true, true, true, false, false, false, false, false]), (99, [true, true, true, true, true, true, false, false, false, false, false]), (100, [true, true, true, true, true, true, false, false, false, false, false]), (114, [true, true, true, true, true, true, false, false, true, false, false]), (125, [true, true, true, true, true, true, false, false, true, false, false]), (141, [true, true, true, true, true, true, false, false, true, false, false]), (145, [true, true, true, true, true, true, false, false, true, false, false]), (146, [true, true, true, true, true, true, false, false, true, false, false]), (159, [true, true, true, true, true, true, false, false, false, false, false]), (164, [true, true, true, true, true, true, false, false, false, false, false]), (192, [true, true, true, true, true, true, false, false, false, false, false]), (197, [true, true, true, true, true, true, false, false, false, false, false]), (204, [false, false, false, false, false, false, false, false, false, false, false])]) (zorc [(159, [some (2, some 0), some (0, none), some (0, none), some (0, none), some (0, none), some (0, none), none, none, none, none, none], [(2, some 0)], fun xs h => match xs with
  | [a1, a2, a3, a4, a5] => M_code_159 kr a1 a2 a3 a4 a5 (zhd h)
  | _ => none), (164, [some (2, some 0), some (0, none), some (0, none), some (0, none), some (0, none), some (0, none), none, none, none, none, none], [(0, none), (2, some 0)], fun xs h => match xs with
  | [a1, a2, a3, a4, a5, t0] => M_code_164 kr a1 a2 a3 a4 a5 t0 (zhd h)
  | _ => none)]) (fun v h => kr v (zhd h)) (fun _ _ => none) 400 146 [some (2, 0), some (0, a1), some (0, a2), some (0, a3), some (0, a4), some (0, a5), none, none, some (0, a8), none, none] [(0, t0)] (zM s) := by rfl
set_option maxRecDepth 100000 in
theorem qe_M_code_141 {ρ : Type} (kr : Int → zD → Option ρ) (a1 a2 a3 a4 a5 a8 : Int) (s : zD) : M_code_141 kr a1 a2 a3 a4 a5 a8 s = zseg zPP false zfinM (zcal []) (zget (999, 0, 0, 0) zc_M_code) (zcut [(59, [true, true, true, true, true, true, true, true, false, false, false]), (77, [true, true, true, true, true, true, true, true, false, false, false]), (95, [true, true, true, true, true, true, false, false, false, false, false]), (99, [true, true, true, true, true, true, false, false, false, false, false]), (100, [true, true, true, true, true, true, false, false, false, false, false]), (114, [true, true, true, true, true, true, false, false, true, false, false]), (125, [true, true, true, true, true, true, false, false, true, false, false]), (141, [true, true, true, true, true, true, false, false, true, false, false]), (145, [true, true, true, true, true, true, false, false, true, false, false]), (146, [true, true, true, true, true, true, false, false, true, false, false]), (159, [true, true, true, true, true, true, false, false, false, false, false]), (164, [true, true, true, true, true, true, false, false, false, false, false]), (192, [true, true, true, true, true, true, false, false, false, false, false]), (197, [true, true, true, true, true, true, false, false, false, false, false]), (204, [false, false, false, false, false, false, false, false, false, false, false])]) (zorc [(146, [some (2, some 0), some (0, none), some (0, none), some (0, none), some (0, none), some (0, none), none, none, some (0, none), none, none], [(0, none)], fun xs h => match xs with
  | [a1, a2, a3, a4, a5, a8, t0] => M_code_146 kr a1 a2 a3 a4 a5 a8 t0 (zhd h)
  | _ => none)]) (fun v h => kr v (zhd h)) (fun _ _ => none) 400 141 [some (2, 0), some (0, a1), some (0, a2), some (0, a3), some (0, a4), some (0, a5), none, none, some (0, a8), none, none] [] (zM s) := by rfl
set_option maxRecDepth 100000 in
theorem qe_M_code_145 {ρ : Type} (kr : Int → zD → Option ρ) (a1 a2 a3 a4 a5 a8 : Int) (s : zD) : M_code_145 kr a1 a2 a3 a4 a5 a8 s = zseg zPP false zfinM (zcal []) (zget (999, 0, 0, 0) zc_M_code) (zcut [(59, [true, true, true, true, true, true, true, true, false, false, false]), (77, [true, true, true, true, true, true, true, true, false, false, false]), (95, [true, true, true, true, true, true, false, false, false, false, false]), (99, [true, true, true, true, true, true, false, false, false, false, false]), (100, [true, true, true, true, true, true, false, false, false, false, false]), (114, [true, true, true, true, true, true, false, false, true, false, false]), (125, [true, true, true, true, true, true, false, false, true, false, false]), (141, [true, true, true, true, true, true, false, false, true, false, false]), (145, [true, true, true, true, true, true, false, false, true, false, false]), (146, [true, true, true, true, true, true, false, false, true, false, false]), (159, [true, true, true, true, true, true, false, false, false, false, false]), (164, [true, true, true, true, true, true, false, false, false, false, false]), (192, [true, true, true, true, true, true, false, false, false, false, false]), (197, [true, true, true, true, true, true, false, false, false, false, false]), (204, [false, false, false, false, false, false, false, false, false, false, false])]) (zorc [(146, [some (2, some 0), some (0, none), some (0, none), some (0, none), some (0, none), some (0, none), none, none, some (0, none), none, none], [(0, none)], fun xs h => match xs with
  | [a1, a2, a3, a4, a5, a8, t0] => M_code_146 kr a1 a2 a3 a4 a5 a8 t0 (zhd h)
  | _ => none)]) (fun v h => kr v (zhd h)) (fun _ _ => none) 400 145 [some (2, 0), some (0, a1), some (0, a2), some (0, a3), some (0, a4), some (0, a5), none, none, some (0, a8), none, none] [] (zM s) := by rfl
set_option maxRecDepth 100000 in
theorem qe_M_code_125 {ρ : Type} (kr : Int → zD → Option ρ) (a1 a2 a3 a4 a5 a8 : Int) (s : zD) : M_code_125 kr a1 a2 a3 a4 a5 a8 s = zseg zPP false zfinM (zcal [(57, [none, none, none], fun xs h kr kt => match xs with
  | [x0, x1, x2] => M_in x0 x1 x2 (zhd h) (fun v s => kr v (zM s))
  | _ => none)]) (zget (999, 0, 0, 0) zc_M_code) (zcut [(59, [true, true, true, true, true, true, true, true, false, false, false]), (77, [true, true, true, true, true, true, true, true, false, false, false]), (95, [true, true, true, true, true, true, false, false, false, false, false]), (99, [true, true, true, true, true, true, false, false, false, false, false]), (100, [true, true, true, true, true, true, false, false, false, false, false]), (114, [true, true, true, true, true, true, false, false, true, false, false]), (125, [true, true, true, true, true, true, false, false, true, false, false]), (141, [true, true, true, true, true, true, false, false, true, false, false]), (145, [true, true, true, true, true, true, false, false, true, false, false]), (146, [true, true, true, true, true, true, false, false, true, false, false]), (159, [true, true, true, true, true, true, false, false, false, false, false]), (164, [true, true, true, true, true, true, false, false, false, false, false]), (192, [true, true, true, true, true, true, false, false, false, false, false]), (197, [true, true, true, true, true, true, false, false, false, false, false]), (204, [false, false, false, false, false, false, false, false, false, false, false])]) (zorc [(141, [some (2, some 0), some (0, none), some (0, none), some (0, none), some (0, none), some (0, none), none, none, some (0, none), none, none], [], fun xs h => match xs with
  | [a1, a2, a3, a4, a5, a8] => M_code_141 kr a1 a2 a3 a4 a5 a8 (zhd h)
  | _ => none), (145, [some (2, some 0), some (0, none), some (0, none), some (0, none), some (0, none), some (0, none), none, none, some (0, none), none, none], [], fun xs h => match xs with
  | [a1, a2, a3, a4, a5, a8] => M_code_145 kr a1 a2 a3 a4 a5 a8 (zhd h)
  | _ => none)]) (fun v h => kr v (zhd h)) (fun _ _ => none) 400 125 [some (2, 0), some (0, a1), some (0, a2), some (0, a3), some (0, a4), some (0, a5), none, none, some (0, a8), none, none] [] (zM s) := by rfl
set_option maxRecDepth 100000 in
theorem qe_M_code_114 {ρ : Type} (kr : Int → zD → Option ρ) (a1 a2 a3 a4 a5 a8 : Int) (s : zD) : M_code_114 kr a1 a2 a3 a4 a5 a8 s = zseg zPP false zfinM (zcal [(57, [none, none, none], fun xs h kr kt => match xs with
  | [x0, x1, x2] => M_in x0 x1 x2 (zhd h) (fun v s => kr v (zM s))
  | _ => none)]) (zget (999, 0, 0, 0) zc_M_code) (zcut [(59, [true, true, true, true, true, true, true, true, false, false, false]), (77, [true, true, true, true, true, true, true, true, false, false, false]), (95, [true, true, true, true, true, true, false, false, false, false, false]), (99, [true, true, true, true, true, true, false, false, false, false, false]), (100, [true, true, true, true, true, true, false, false, false, false, false]), (114, [true, true, true, true, true, true, false, false, true, false, false]), (125, [true, true, true, true, true, true, false, false, true, false, false]), (141, [true, true, true, true, true, true, false, false, true, false, false]), (145, [true, true, true, true, true, true, false, false, true, false, false]), (146, [true, true, true, true, true, true, false, false, true, false, false]), (159, [true, true, true, true, true, true, false, false, false, false, false]), (164, [true, true, true, true, true, true, false, false, false, false, false]), (192, [true, true, true, true, true, true, false, false, false, false, false]), (197, [true, true, true, true, true, true, false, false, false, false, false]), (204, [false, false, false, false, false, false, false, false, false, false, false])]) (zorc [(125, [some (2, some 0), some (0, none), some (0, none), some (0, none), some (0, none), some (0, none), none, none, some (0, none), none, none], [], fun xs h => match xs with
  | [a1, a2, a3, a4, a5, a8] => M_code_125 kr a1 a2 a3 a4 a5 a8 (zhd h)
  | _ => none), (141, [some (2, some 0), some (0, none), some (0, none), some (0, none), some (0, none), some (0, none), none, none, some (0, none), none, none], [], fun xs h => match xs with
  | [a1, a2, a3, a4, a5, a8] => M_code_141 kr a1 a2 a3 a4 a5 a8 (zhd h)
  | _ => none)]) (fun v h => kr v (zhd h)) (fun _ _ => none) 400 114 [some (2, 0), some (0, a1), some (0, a2), some (0, a3), some (0, a4), some (0, a5), none, none, some (0, a8), none, none] [] (zM s) := by rfl
set_option maxRecDepth 100000 in
theorem qe_M_code_100 {ρ : Type} (kr : Int → zD → Option ρ) (a1 a2 a3 a4 a5 t0 : Int) (s : zD) : M_code_100 kr a1 a2 a3 a4 a5 t0 s = zseg zPP false zfinM (zcal []) (zget (999, 0, 0, 0) zc_M_code) (zcut [(59, [true, true, true, true, true, true, true, true, false, false, false]), (77, [true, true, true, true, true, true, true, true, false, false, false]), (95, [true, true, true, true, true, true, false, false, false, false, false]), (99, [true, true, true, true, true, true, false, false, false, false, false]), (100, [true, true, true, true, true, true, false, false, false, false, false]), (114, [true, true, true, true, true, true, false, false, true, false, false]), (125, [true, true, true, true, true, true, false, false, true, false, false]), (141, [true, true, true, true, true, true, false, false, true, false, false]), (145, [true, true, true, true, true, true, false, false, true, false, false]), (146, [true, true, true, true, true, true, false, false, true, false, false]), (159, [true, true, true, true, true, true, false, false, false, false, false]), (164, [true, true, true, true, true, true, false, false, false, false, false]), (192, [true, true, true, true, true, true, false, false, false, false, false]), (197, [true, true, true, true, true, true, false, false, false, false, false]), (204, [false, false, false, false, false, false, false, false, false, false, false])]) (zorc [(114, [some (2, some 0), some (0, none), some (0, none), some (0, none), some (0, none), some (0, none), none, none, some (0, none), none, none], [], fun xs h => match xs with
  | [a1, a2, a3, a4, a5, a8] => M_code_114 kr a1 a2 a3 a4 a5 a8 (zhd h)
  | _ => none), (125, [some (2, some 0), some (0, none), some (0, none), some (0, none), some (0, none), some (0, none), none, none, some (0, none), none, none], [], fun xs h => match xs with
  | [a1, a2, a3, a4, a5, a8] => M_code_125 kr a1 a2 a3 a4 a5 a8 (zhd h)
  | _ => none)]) (fun v h => kr v (zhd h)) (fun _ _ => none) 400 100 [some (2, 0), some (0, a1), some (0, a2), some (0, a3), some (0, a4), some (0, a5), none, none, none, none, none] [(0, t0)] (zM s) := by rfl
set_option maxRecDepth 100000 in
theorem qe_M_code_95 {ρ : Type} (kr : Int → zD → Option ρ) (a1 a2 a3 a4 a5 : Int) (s : zD) : M_code_95 kr a1 a2 a3 a4 a5 s = zseg zPP false zfinM (zcal []) (zget (999, 0, 0, 0) zc_M_code) (zcut [(59, [true, true, true, true, true, true, true, true, false, false, false]), (77, [true, true, true, true, true, true, true, true, false, false, false]), (95, [true, true, true, true, true, true, false, false, false, false, false]), (99, [true, true, true, true, true, true, false, false, false, false, false]), (100, [true, true, true, true, true, true, false, false, false, false, false]), (114, [true, true, true, true, true, true, false, false, true, false, false]), (125, [true, true, true, true, true, true, false, false, true, false, false]), (141, [true, true, true, true, true, true, false, false, true, false, false]), (145, [true, true, true, true, true, true, false, false, true, false, false]), (146, [true, true, true, true, true, true, false, false, true, false, false]), (159, [true, true, true, true, true, true, false, false, false, false, false]), (164, [true, true, true, true, true, true, false, false, false, false, false]), (192, [true, true, true, true, true, true, false, false, false, false, false]), (197, [true, true, true, true, true, true, false, false, false, false, false]), (204, [false, false, false, false, false, false, false, false, false, false, false])]) (zorc [(100, [some (2, some 0), some (0, none), some (0, none), some (0, none), some (0, none), some (0, none), none, none, none, none, none], [(0, none)], fun xs h => match xs with
  | [a1, a2, a3, a4, a5, t0] => M_code_100 kr a1 a2 a3 a4 a5 t0 (zhd h)
  | _ => none)]) (fun v h => kr v (zhd h)) (fun _ _ => none) 400 95 [some (2, 0), some (0, a1), some (0, a2), some (0, a3), some (0, a4), some (0, a5), none, none, none, none, none] [] (zM s) := by rfl
set_option maxRecDepth 100000 in
theorem qe_M_code_99 {ρ : Type} (kr : Int → zD → Option ρ) (a1 a2 a3 a4 a5 : Int) (s : zD) : M_code_99 kr a1 a2 a3 a4 a5 s = zseg zPP false zfinM (zcal []) (zget (999, 0, 0, 0) zc_M_code) (zcut [(59, [true, true, true, true, true, true, true, true, false, false, false]), (77, [true, true, true, true, true, true, true, true, false, false, false]), (95, [true, true, true, true, true, true, false, false, false, false, false]), (99, [true, true, true, true, true, true, false, false, false, false, false]), (100, [true, true, true, true, true, true, false, false, false, false, false]), (114, [true, true, true, true, true, true, false, false, true, false, false]), (125, [true, true, true, true, true, true, false, false, true, false, false]), (141, [true, true, true, true, true, true, false, false, true, false, false]), (145, [true, true, true, true, true, true, false, false, true, false, false]), (146, [true, true, true, true, true, true, false, false, true, false, false]), (159, [true, true, true, true, true, true, false, false, false, false, false]), (164, [true, true, true, true, true, true, false, false, false, false, false]), (192, [true, true, true, true, true, true, false, false, false, false, false]), (197, [true, true, true, true, true, true, false, false, false, false, false]), (204, [false, false, false, false, false, false, false, false, false, false, false])]) (zorc [(100, [some (2, some 0), some (0, none), some (0, none), some (0, none), some (0, none), some (0, none), none, none, none, none, none], [(0, none)], fun xs h => match xs with
  | [a1, a2, a3, a4, a5, t0] => M_code_100 kr a1 a2 a3 a4 a5 t0 (zhd h)
  | _ => none)]) (fun v h => kr v (zhd h)) (fun _ _ => none) 400 99 [some (2, 0), some (0, a1), some (0, a2), some (0, a3), some (0, a4), some (0, a5), none, none, none, none, none] [] (zM s) := by rfl
set_option maxRecDepth 100000 in
theorem qe_M_code_77 {ρ : Type} (kr : Int → zD → Option ρ) (a1 a2 a3 a4 a5 a6 a7 : Int) (s : zD) : M_code_77 kr a1 a2 a3 a4 a5 a6 a7 s = zseg zPP false zfinM (zcal [(57, [none, none, none], fun xs h kr kt => match xs with
  | [x0, x1, x2] => M_in x0 x1 x2 (zhd h) (fun v s => kr v (zM s))
  | _ => none)]) (zget (999, 0, 0, 0) zc_M_code) (zcut [(59, [true, true, true, true, true, true, true, true, false, false, false]), (77, [true, true, true, true, true, true, true, true, false, false, false]), (95, [true, true, true, true, true, true, false, false, false, false, false]), (99, [true, true, true, true, true, true, false, false, false, false, false]), (100, [true, true, true, true, true, true, false, false, false, false, false]), (114, [true, true, true, true, true, true, false, false, true, false, false]), (125, [true, true, true, true, true, true, false, false, true, false, false]), (141, [true, true, true, true, true, true, false, false, true, false, false]), (145, [true, true, true, true, true, true, false, false, true, false, false]), (146, [true, true, true, true, true, true, false, false, true, false, false]), (159, [true, true, true, true, true, true, false, false, false, false, false]), (164, [true, true, true, true, true, true, false, false, false, false, false]), (192, [true, true, true, true, true, true, false, false, false, false, false]), (197, [true, true, true, true, true, true, false, false, false, false, false]), (204, [false, false, false, false, false, false, false, false, false, false, false])]) (zorc [(95, [some (2, some 0), some (0, none), some (0, none), some (0, none), some (0, none), some (0, none), none, none, none, none, none], [], fun xs h => match xs with
  | [a1, a2, a3, a4, a5] => M_code_95 kr a1 a2 a3 a4 a5 (zhd h)
  | _ => none), (99, [some (2, some 0), some (0, none), some (0, none), some (0, none), some (0, none), some (0, none), none, none, none, none, none], [], fun xs h => match xs with
  | [a1, a2, a3, a4, a5] => M_code_99 kr a1 a2 a3 a4 a5 (zhd h)
  | _ => none)]) (fun v h => kr v (zhd h)) (fun _ _ => none) 400 77 [some (2, 0), some (0, a1), some (0, a2), some (0, a3), some (0, a4), some (0, a5), some (0, a6), some (0, a7), none, none, none] [] (zM s) := by rfl
set_option maxRecDepth 100000 in
theorem qe_M_code_59 {ρ : Type} (kr : Int → zD → Option ρ) (a1 a2 a3 a4 a5 a6 a7 : Int) (s : zD) : M_code_59 kr a1 a2 a3 a4 a5 a6 a7 s = zseg zPP false zfinM (zcal [(57, [none, none, none], fun xs h kr kt => match xs with
  | [x0, x1, x2] => M_in x0 x1 x2 (zhd h) (fun v s => kr v (zM s))
  | _ => none)]) (zget (999, 0, 0, 0) zc_M_code) (zcut [(59, [true, true, true, true, true, true, true, true, false, false, false]), (77, [true, true, true, true, true, true, true, true, false, false, false]), (95, [true, true, true, true, true, true, false, false, false, false, false]), (99, [true, true, true, true, true, true, false, false, false, false, false]), (100, [true, true, true, true, true, true, false, false, false, false, false]), (114, [true, true, true, true, true, true, false, false, true, false, false]), (125, [true, true, true, true, true, true, false, false, true, false, false]), (141, [true, true, true, true, true, true, false, false, true, false, false]), (145, [true, true, true, true, true, true, false, false, true, false, false]), (146, [true, true, true, true, true, true, false, false, true, false, false]), (159, [true, true, true, true, true, true, false, false, false, false, false]), (164, [true, true, true, true, true, true, false, false, false, false, false]), (192, [true, true, true, true, true, true, false, false, false, false, false]), (197, [true, true, true, true, true, true, false, false, false, false, false]), (204, [false, false, false, false, false, false, false, false, false, false, false])]) (zorc [(77, [some (2, some 0), some (0, none), some (0, none), some (0, none), some (0, none), some (0, none), some (0, none), some (0, none), none, none, none], [], fun xs h => match xs with
  | [a1, a2, a3, a4, a5, a6, a7] => M_code_77 kr a1 a2 a3 a4 a5 a6 a7 (zhd h)
  | _ => none), (95, [some (2, some 0), some (0, none), some (0, none), some (0, none), some (0, none), some (0, none), none, none, none, none, none], [], fun xs h => match xs with
  | [a1, a2, a3, a4, a5] => M_code_95 kr a1 a2 a3 a4 a5 (zhd h)
  | _ => none)]) (fun v h => kr v (zhd h)) (fun _ _ => none) 400 59 [some (2, 0), some (0, a1), some (0, a2), some (0, a3), some (0, a4), some (0, a5), some (0, a6), some (0, a7), none, none, none] [] (zM s) := by rfl
set_option maxRecDepth 100000 in
theorem qe_M_code {ρ : Type} (kr : Int → zD → Option ρ) (a1 a2 a3 a4 a5 : Int) (s : zD) : M_code a1 a2 a3 a4 a5 s kr = zseg zPP false zfinM (zcal [(57, [none, none, none], fun xs h kr kt => match xs with
  | [x0, x1, x2] => M_in x0 x1 x2 (zhd h) (fun v s => kr v (zM s))
  | _ => none), (58, [some 0, none, none], fun xs h kr kt => match xs with
  | [x0, x1] => M_fails x0 x1 (zhd h) (fun v s => kr v (zM s))
  | _ => none), (59, [some 0, none], fun xs h kr kt => match xs with
  | [x0] => M_noKernel x0 (zhd h) (fun v s => kr v (zM s))
  | _ => none), (63, [none], fun xs h kr kt => match xs with
  | [x0] => M_named x0 (zhd h) (fun v s => kr v (zM s))
  | _ => none)]) (zget (999, 0, 0, 0) zc_M_code) (zcut [(59, [true, true, true, true, true, true, true, true, false, false, false]), (77, [true, true, true, true, true, true, true, true, false, false, false]), (95, [true, true, true, true, true, true, false, false, false, false, false]), (99, [true, true, true, true, true, true, false, false, false, false, false]), (100, [true, true, true, true, true, true, false, false, false, false, false]), (114, [true, true, true, true, true, true, false, false, true, false, false]), (125, [true, true, true, true, true, true, false, false, true, false, false]), (141, [true, true, true, true, true, true, false, false, true, false, false]), (145, [true, true, true, true, true, true, false, false, true, false, false]), (146, [true, true, true, true, true, true, false, false, true, false, false]), (159, [true, true, true, true, true, true, false, false, false, false, false]), (164, [true, true, true, true, true, true, false, false, false, false, false]), (192, [true, true, true, true, true, true, false, false, false, false, false]), (197, [true, true, true, true, true, true, false, false, false, false, false]), (204, [false, false, false, false, false, false, false, false, false, false, false])]) (zorc [(59, [some (2, some 0), some (0, none), some (0, none), some (0, none), some (0, none), some (0, none), some (0, none), some (0, none), none, none, none], [], fun xs h => match xs with
  | [a1, a2, a3, a4, a5, a6, a7] => M_code_59 kr a1 a2 a3 a4 a5 a6 a7 (zhd h)
  | _ => none), (95, [some (2, some 0), some (0, none), some (0, none), some (0, none), some (0, none), some (0, none), none, none, none, none, none], [], fun xs h => match xs with
  | [a1, a2, a3, a4, a5] => M_code_95 kr a1 a2 a3 a4 a5 (zhd h)
  | _ => none)]) (fun v h => kr v (zhd h)) (fun _ _ => none) 400 0 [some (2, 0), some (0, a1), some (0, a2), some (0, a3), some (0, a4), some (0, a5), none, none, none, none, none] [] (zM s) := by rfl
def zc_M_groupsFor : List zI := [(10, 0, 0, 0), (0, 4, 0, 0), (30, 0, 0, 0), (0, 1, 0, 0), (31, 0, 0, 0), (0, 4, 0, 0), (33, 0, 0, 0), (130, 0, 0, 0)]
def M_groupsFor {ρ : Type} (a0 : Int) (s : zD) (kr : Int → zD → Option ρ) : Option ρ :=
kr (wr (Int.tdiv (wr ((wr (a0 + 4)) - 1)) 4)) s
set_option maxRecDepth 100000 in
theorem qe_M_groupsFor {ρ : Type} (kr : Int → zD → Option ρ) (a0 : Int) (s : zD) : M_groupsFor a0 s kr = zseg zPP false zfinM (zcal []) (zget (999, 0, 0, 0) zc_M_groupsFor) (zcut []) (zorc []) (fun v h => kr v (zhd h)) (fun _ _ => none) 400 0 [some (0, a0)] [] (zM s) := by rfl
def zc_M_least : List zI := [(10, 0, 0, 0), (10, 0, 1, 0), (69, 7, 9, 0), (999, 0, 0, 0), (999, 0, 0, 0), (10, 0, 0, 0), (72, 4, 10, 0), (999, 0, 0, 0), (999, 0, 0, 0), (10, 0, 1, 0), (130, 0, 0, 0)]
def M_least_10 {ρ : Type} (kr : Int → zD → Option ρ) (t0 : Int) (s : zD) : Option ρ :=
kr t0 s
def M_least {ρ : Type} (a0 a1 : Int) (s : zD) (kr : Int → zD → Option ρ) : Option ρ :=
if a0 < a1 then M_least_10 kr a0 s
else M_least_10 kr a1 s
set_option maxRecDepth 100000 in
theorem qe_M_least_10 {ρ : Type} (kr : Int → zD → Option ρ) (t0 : Int) (s : zD) : M_least_10 kr t0 s = zseg zPP false zfinM (zcal []) (zget (999, 0, 0, 0) zc_M_least) (zcut [(10, [false, false])]) (zorc []) (fun v h => kr v (zhd h)) (fun _ _ => none) 400 10 [none, none] [(0, t0)] (zM s) := by rfl
set_option maxRecDepth 100000 in
theorem qe_M_least {ρ : Type} (kr : Int → zD → Option ρ) (a0 a1 : Int) (s : zD) : M_least a0 a1 s kr = zseg zPP false zfinM (zcal []) (zget (999, 0, 0, 0) zc_M_least) (zcut [(10, [false, false])]) (zorc [(10, [none, none], [(0, none)], fun xs h => match xs with
  | [t0] => M_least_10 kr t0 (zhd h)
  | _ => none)]) (fun v h => kr v (zhd h)) (fun _ _ => none) 400 0 [some (0, a0), some (0, a1)] [] (zM s) := by rfl
def zc_M_fit : List zI := [(0, 4, 0, 0), (10, 0, 2, 0), (113, 0, 211, 65), (999, 0, 0, 0), (999, 0, 0, 0), (33, 0, 0, 0), (1, 64, 0, 0), (999, 0, 0, 0), (10, 0, 2, 0), (14, 0, 0, 0), (80, 12, 17, 5), (999, 0, 0, 0), (999, 0, 0, 0), (10, 0, 1, 0), (90, 0, 0, 0), (32, 0, 0, 0), (33, 0, 0, 0), (113, 0, 215, 66), (999, 0, 0, 0), (999, 0, 0, 0), (16, 0, 3, 0), (14, 0, 0, 0), (80, 12, 20, 6), (999, 0, 0, 0), (999, 0, 0, 0), (10, 0, 1, 0), (90, 0, 0, 0), (61, 7, 34, 0), (999, 0, 0, 0), (999, 0, 0, 0), (10, 0, 3, 0), (72, 16, 47, 0), (999, 0, 0, 0), (999, 0, 0, 0), (10, 0, 3, 0), (1, 32, 0, 0), (999, 0, 0, 0), (14, 0, 0, 0), (80, 12, 20, 6), (999, 0, 0, 0), (999, 0, 0, 0), (10, 0, 1, 0), (90, 0, 0, 0), (33, 0, 0, 0), (113, 0, 215, 66), (999, 0, 0, 0), (999, 0, 0, 0), (130, 0, 0, 0)]
def M_fit_47 {ρ : Type} (kr : Int → zD → Option ρ) (t0 : Int) (s : zD) : Option ρ :=
kr t0 s
def M_fit {ρ : Type} (a1 a2 : Int) (s : zD) (kr : Int → zD → Option ρ) : Option ρ :=
M_groupsFor a2 s  fun v1 s2 =>
if v1 = 0 then none else zix 4 a1 fun j3 =>
if wr (a2 * (s2 2 j3)) = 0 then none else M_least (wr (Int.tdiv 4 v1)) (wr (Int.tdiv 64 (wr (a2 * (s2 2 j3))))) s2  fun v4 s5 =>
zix 4 a1 fun j6 =>
if (s5 3 j6) = 0 then M_fit_47 kr v4 s5
else zix 4 a1 fun j7 =>
if s5 3 j7 = 0 then none else M_least v4 (wr (Int.tdiv 32 (s5 3 j7))) s5  fun v8 s9 =>
M_fit_47 kr v8 s9
set_option maxRecDepth 100000 in
theorem qe_M_fit_47 {ρ : Type} (kr : Int → zD → Option ρ) (t0 : Int) (s : zD) : M_fit_47 kr t0 s = zseg zPP false zfinM (zcal []) (zget (999, 0, 0, 0) zc_M_fit) (zcut [(47, [false, false, false, false])]) (zorc []) (fun v h => kr v (zhd h)) (fun _ _ => none) 400 47 [none, none, none, none] [(0, t0)] (zM s) := by rfl
set_option maxRecDepth 100000 in
theorem qe_M_fit {ρ : Type} (kr : Int → zD → Option ρ) (a1 a2 : Int) (s : zD) : M_fit a1 a2 s kr = zseg zPP false zfinM (zcal [(65, [none], fun xs h kr kt => match xs with
  | [x0] => M_groupsFor x0 (zhd h) (fun v s => kr v (zM s))
  | _ => none), (66, [none, none], fun xs h kr kt => match xs with
  | [x0, x1] => M_least x0 x1 (zhd h) (fun v s => kr v (zM s))
  | _ => none)]) (zget (999, 0, 0, 0) zc_M_fit) (zcut [(47, [false, false, false, false])]) (zorc [(47, [none, none, none, none], [(0, none)], fun xs h => match xs with
  | [t0] => M_fit_47 kr t0 (zhd h)
  | _ => none)]) (fun v h => kr v (zhd h)) (fun _ _ => none) 400 0 [some (2, 0), some (0, a1), some (0, a2), none] [] (zM s) := by rfl
def zc_M_fits : List zI := [(14, 0, 0, 0), (0, 0, 0, 0), (82, 12, 185, 0), (999, 0, 0, 0), (999, 0, 0, 0), (14, 0, 0, 0), (14, 0, 0, 0), (10, 0, 1, 0), (110, 0, 203, 59), (999, 0, 0, 0), (999, 0, 0, 0), (0, 1, 0, 0), (110, 0, 199, 58), (999, 0, 0, 0), (999, 0, 0, 0), (61, 26, 41, 0), (999, 0, 0, 0), (999, 0, 0, 0), (14, 0, 0, 0), (10, 0, 2, 0), (0, 1, 0, 0), (1, 16, 0, 0), (999, 0, 0, 0), (113, 0, 192, 57), (999, 0, 0, 0), (999, 0, 0, 0), (61, 7, 33, 0), (999, 0, 0, 0), (999, 0, 0, 0), (0, 1, 0, 0), (72, 4, 34, 0), (999, 0, 0, 0), (999, 0, 0, 0), (0, 0, 0, 0), (0, 2, 0, 0), (110, 0, 199, 58), (999, 0, 0, 0), (999, 0, 0, 0), (60, 7, 45, 0), (999, 0, 0, 0), (999, 0, 0, 0), (0, 0, 0, 0), (72, 9, 51, 0), (999, 0, 0, 0), (999, 0, 0, 0), (14, 0, 0, 0), (10, 0, 1, 0), (10, 0, 2, 0), (110, 0, 219, 67), (999, 0, 0, 0), (999, 0, 0, 0), (130, 0, 0, 0)]
def M_fits_51 {ρ : Type} (kr : Int → zD → Option ρ) (t0 : Int) (s : zD) : Option ρ :=
kr t0 s
def M_fits_41 {ρ : Type} (kr : Int → zD → Option ρ) (s : zD) : Option ρ :=
M_fits_51 kr 0 s
def M_fits_34 {ρ : Type} (kr : Int → zD → Option ρ) (a1 a2 t0 : Int) (s : zD) : Option ρ :=
M_fails t0 2 s  fun v1 s2 =>
if v1 = 0 then (M_fit a1 a2 s2  fun v3 s4 =>
M_fits_51 kr v3 s4)
else M_fits_41 kr s2
def M_fits {ρ : Type} (a1 a2 : Int) (s : zD) (kr : Int → zD → Option ρ) : Option ρ :=
zlet (zup s 0 0 0) fun s1 =>
M_noKernel a1 s1  fun v2 s3 =>
M_fails v2 1 s3  fun v4 s5 =>
if v4 = 0 then (M_in a2 1 16 s5  fun v6 s7 =>
if v6 = 0 then M_fits_34 kr a1 a2 1 s7
else M_fits_34 kr a1 a2 0 s7)
else M_fits_41 kr s5
set_option maxRecDepth 100000 in
theorem qe_M_fits_51 {ρ : Type} (kr : Int → zD → Option ρ) (t0 : Int) (s : zD) : M_fits_51 kr t0 s = zseg zPP false zfinM (zcal []) (zget (999, 0, 0, 0) zc_M_fits) (zcut [(34, [true, true, true]), (41, [false, false, false]), (51, [false, false, false])]) (zorc []) (fun v h => kr v (zhd h)) (fun _ _ => none) 400 51 [none, none, none] [(0, t0)] (zM s) := by rfl
set_option maxRecDepth 100000 in
theorem qe_M_fits_41 {ρ : Type} (kr : Int → zD → Option ρ) (s : zD) : M_fits_41 kr s = zseg zPP false zfinM (zcal []) (zget (999, 0, 0, 0) zc_M_fits) (zcut [(34, [true, true, true]), (41, [false, false, false]), (51, [false, false, false])]) (zorc [(51, [none, none, none], [(0, none)], fun xs h => match xs with
  | [t0] => M_fits_51 kr t0 (zhd h)
  | _ => none)]) (fun v h => kr v (zhd h)) (fun _ _ => none) 400 41 [none, none, none] [] (zM s) := by rfl
set_option maxRecDepth 100000 in
theorem qe_M_fits_34 {ρ : Type} (kr : Int → zD → Option ρ) (a1 a2 t0 : Int) (s : zD) : M_fits_34 kr a1 a2 t0 s = zseg zPP false zfinM (zcal [(58, [some 0, none, none], fun xs h kr kt => match xs with
  | [x0, x1] => M_fails x0 x1 (zhd h) (fun v s => kr v (zM s))
  | _ => none), (67, [some 0, none, none], fun xs h kr kt => match xs with
  | [x0, x1] => M_fit x0 x1 (zhd h) (fun v s => kr v (zM s))
  | _ => none)]) (zget (999, 0, 0, 0) zc_M_fits) (zcut [(34, [true, true, true]), (41, [false, false, false]), (51, [false, false, false])]) (zorc [(41, [none, none, none], [], fun xs h => match xs with
  | [] => M_fits_41 kr  (zhd h)
  | _ => none), (51, [none, none, none], [(0, none)], fun xs h => match xs with
  | [t0] => M_fits_51 kr t0 (zhd h)
  | _ => none)]) (fun v h => kr v (zhd h)) (fun _ _ => none) 400 34 [some (2, 0), some (0, a1), some (0, a2)] [(0, t0), (2, 0)] (zM s) := by rfl
set_option maxRecDepth 100000 in
theorem qe_M_fits {ρ : Type} (kr : Int → zD → Option ρ) (a1 a2 : Int) (s : zD) : M_fits a1 a2 s kr = zseg zPP false zfinM (zcal [(57, [none, none, none], fun xs h kr kt => match xs with
  | [x0, x1, x2] => M_in x0 x1 x2 (zhd h) (fun v s => kr v (zM s))
  | _ => none), (58, [some 0, none, none], fun xs h kr kt => match xs with
  | [x0, x1] => M_fails x0 x1 (zhd h) (fun v s => kr v (zM s))
  | _ => none), (59, [some 0, none], fun xs h kr kt => match xs with
  | [x0] => M_noKernel x0 (zhd h) (fun v s => kr v (zM s))
  | _ => none)]) (zget (999, 0, 0, 0) zc_M_fits) (zcut [(34, [true, true, true]), (41, [false, false, false]), (51, [false, false, false])]) (zorc [(34, [some (2, some 0), some (0, none), some (0, none)], [(0, none), (2, some 0)], fun xs h => match xs with
  | [a1, a2, t0] => M_fits_34 kr a1 a2 t0 (zhd h)
  | _ => none), (41, [none, none, none], [], fun xs h => match xs with
  | [] => M_fits_41 kr  (zhd h)
  | _ => none)]) (fun v h => kr v (zhd h)) (fun _ _ => none) 400 0 [some (2, 0), some (0, a1), some (0, a2)] [] (zM s) := by rfl
def zc_M_poke : List zI := [(14, 0, 0, 0), (0, 0, 0, 0), (82, 12, 185, 0), (999, 0, 0, 0), (999, 0, 0, 0), (14, 0, 0, 0), (10, 0, 1, 0), (113, 0, 222, 61), (999, 0, 0, 0), (999, 0, 0, 0), (0, 1, 0, 0), (110, 0, 199, 58), (999, 0, 0, 0), (999, 0, 0, 0), (60, 5, 19, 0), (999, 0, 0, 0), (999, 0, 0, 0), (0, 0, 0, 0), (130, 0, 0, 0), (14, 0, 0, 0), (80, 12, 13, 3), (999, 0, 0, 0), (999, 0, 0, 0), (10, 0, 1, 0), (90, 0, 0, 0), (16, 0, 3, 0), (14, 0, 0, 0), (80, 12, 13, 3), (999, 0, 0, 0), (999, 0, 0, 0), (10, 0, 1, 0), (10, 0, 2, 0), (95, 0, 0, 0), (10, 0, 3, 0), (130, 0, 0, 0)]
def M_poke {ρ : Type} (a1 a2 : Int) (s : zD) (kr : Int → zD → Option ρ) : Option ρ :=
zlet (zup s 0 0 0) fun s1 =>
M_noCell a1 s1  fun v2 s3 =>
M_fails v2 1 s3  fun v4 s5 =>
if v4 = 0 then (zix 64 a1 fun j6 =>
zix 64 a1 fun j7 =>
zlet (zup s5 1 j7 a2) fun s8 =>
kr (s5 1 j6) s8)
else kr 0 s5
set_option maxRecDepth 100000 in
theorem qe_M_poke {ρ : Type} (kr : Int → zD → Option ρ) (a1 a2 : Int) (s : zD) : M_poke a1 a2 s kr = zseg zPP false zfinM (zcal [(58, [some 0, none, none], fun xs h kr kt => match xs with
  | [x0, x1] => M_fails x0 x1 (zhd h) (fun v s => kr v (zM s))
  | _ => none), (61, [none], fun xs h kr kt => match xs with
  | [x0] => M_noCell x0 (zhd h) (fun v s => kr v (zM s))
  | _ => none)]) (zget (999, 0, 0, 0) zc_M_poke) (zcut []) (zorc []) (fun v h => kr v (zhd h)) (fun _ _ => none) 400 0 [some (2, 0), some (0, a1), some (0, a2), none] [] (zM s) := by rfl
def zc_M_peek : List zI := [(14, 0, 0, 0), (0, 0, 0, 0), (82, 12, 185, 0), (999, 0, 0, 0), (999, 0, 0, 0), (14, 0, 0, 0), (10, 0, 1, 0), (113, 0, 222, 61), (999, 0, 0, 0), (999, 0, 0, 0), (0, 1, 0, 0), (110, 0, 199, 58), (999, 0, 0, 0), (999, 0, 0, 0), (60, 7, 21, 0), (999, 0, 0, 0), (999, 0, 0, 0), (0, 0, 0, 0), (72, 9, 27, 0), (999, 0, 0, 0), (999, 0, 0, 0), (14, 0, 0, 0), (80, 12, 13, 3), (999, 0, 0, 0), (999, 0, 0, 0), (10, 0, 1, 0), (90, 0, 0, 0), (130, 0, 0, 0)]
def M_peek_27 {ρ : Type} (kr : Int → zD → Option ρ) (t0 : Int) (s : zD) : Option ρ :=
kr t0 s
def M_peek {ρ : Type} (a1 : Int) (s : zD) (kr : Int → zD → Option ρ) : Option ρ :=
zlet (zup s 0 0 0) fun s1 =>
M_noCell a1 s1  fun v2 s3 =>
M_fails v2 1 s3  fun v4 s5 =>
if v4 = 0 then (zix 64 a1 fun j6 =>
M_peek_27 kr (s5 1 j6) s5)
else M_peek_27 kr 0 s5
set_option maxRecDepth 100000 in
theorem qe_M_peek_27 {ρ : Type} (kr : Int → zD → Option ρ) (t0 : Int) (s : zD) : M_peek_27 kr t0 s = zseg zPP false zfinM (zcal []) (zget (999, 0, 0, 0) zc_M_peek) (zcut [(27, [false, false])]) (zorc []) (fun v h => kr v (zhd h)) (fun _ _ => none) 400 27 [none, none] [(0, t0)] (zM s) := by rfl
set_option maxRecDepth 100000 in
theorem qe_M_peek {ρ : Type} (kr : Int → zD → Option ρ) (a1 : Int) (s : zD) : M_peek a1 s kr = zseg zPP false zfinM (zcal [(58, [some 0, none, none], fun xs h kr kt => match xs with
  | [x0, x1] => M_fails x0 x1 (zhd h) (fun v s => kr v (zM s))
  | _ => none), (61, [none], fun xs h kr kt => match xs with
  | [x0] => M_noCell x0 (zhd h) (fun v s => kr v (zM s))
  | _ => none)]) (zget (999, 0, 0, 0) zc_M_peek) (zcut [(27, [false, false])]) (zorc [(27, [none, none], [(0, none)], fun xs h => match xs with
  | [t0] => M_peek_27 kr t0 (zhd h)
  | _ => none)]) (fun v h => kr v (zhd h)) (fun _ _ => none) 400 0 [some (2, 0), some (0, a1)] [] (zM s) := by rfl
def zc_M_isOver : List zI := [(14, 0, 0, 0), (80, 12, 43, 14), (999, 0, 0, 0), (999, 0, 0, 0), (10, 0, 1, 0), (92, 0, 0, 0), (1, 100, 0, 0), (999, 0, 0, 0), (66, 25, 33, 0), (999, 0, 0, 0), (999, 0, 0, 0), (14, 0, 0, 0), (80, 12, 43, 14), (999, 0, 0, 0), (999, 0, 0, 0), (10, 0, 1, 0), (92, 0, 0, 0), (1, 102, 0, 0), (999, 0, 0, 0), (66, 14, 33, 0), (999, 0, 0, 0), (999, 0, 0, 0), (14, 0, 0, 0), (80, 12, 43, 14), (999, 0, 0, 0), (999, 0, 0, 0), (10, 0, 1, 0), (92, 0, 0, 0), (1, 120, 0, 0), (999, 0, 0, 0), (67, 7, 37, 0), (999, 0, 0, 0), (999, 0, 0, 0), (0, 1, 0, 0), (72, 4, 38, 0), (999, 0, 0, 0), (999, 0, 0, 0), (0, 0, 0, 0), (130, 0, 1, 0)]
def M_isOver_38 {ρ : Type} (kr : Int → zD → Option ρ) (t0 : Int) (s : zD) : Option ρ :=
znar 1 t0 fun x1 => kr x1 s
def M_isOver_33 {ρ : Type} (kr : Int → zD → Option ρ) (s : zD) : Option ρ :=
M_isOver_38 kr 1 s
def M_isOver {ρ : Type} (a1 : Int) (s : zD) (kr : Int → zD → Option ρ) : Option ρ :=
zix 12 a1 fun j1 =>
if (s 10 j1) = 100 then M_isOver_33 kr s
else zix 12 a1 fun j2 =>
if (s 10 j2) = 102 then M_isOver_33 kr s
else zix 12 a1 fun j3 =>
if (s 10 j3) = 120 then M_isOver_33 kr s
else M_isOver_38 kr 0 s
set_option maxRecDepth 100000 in
theorem qe_M_isOver_38 {ρ : Type} (kr : Int → zD → Option ρ) (t0 : Int) (s : zD) : M_isOver_38 kr t0 s = zseg zPP false zfinM (zcal []) (zget (999, 0, 0, 0) zc_M_isOver) (zcut [(33, [false, false]), (38, [false, false])]) (zorc []) (fun v h => kr v (zhd h)) (fun _ _ => none) 400 38 [none, none] [(0, t0)] (zM s) := by rfl
set_option maxRecDepth 100000 in
theorem qe_M_isOver_33 {ρ : Type} (kr : Int → zD → Option ρ) (s : zD) : M_isOver_33 kr s = zseg zPP false zfinM (zcal []) (zget (999, 0, 0, 0) zc_M_isOver) (zcut [(33, [false, false]), (38, [false, false])]) (zorc [(38, [none, none], [(0, none)], fun xs h => match xs with
  | [t0] => M_isOver_38 kr t0 (zhd h)
  | _ => none)]) (fun v h => kr v (zhd h)) (fun _ _ => none) 400 33 [none, none] [] (zM s) := by rfl
set_option maxRecDepth 100000 in
theorem qe_M_isOver {ρ : Type} (kr : Int → zD → Option ρ) (a1 : Int) (s : zD) : M_isOver a1 s kr = zseg zPP false zfinM (zcal []) (zget (999, 0, 0, 0) zc_M_isOver) (zcut [(33, [false, false]), (38, [false, false])]) (zorc [(33, [none, none], [], fun xs h => match xs with
  | [] => M_isOver_33 kr  (zhd h)
  | _ => none), (38, [none, none], [(0, none)], fun xs h => match xs with
  | [t0] => M_isOver_38 kr t0 (zhd h)
  | _ => none)]) (fun v h => kr v (zhd h)) (fun _ _ => none) 400 0 [some (2, 0), some (0, a1)] [] (zM s) := by rfl
def zc_M_add : List zI := [(14, 0, 0, 0), (80, 12, 196, 13), (999, 0, 0, 0), (999, 0, 0, 0), (17, 0, 4, 0), (999, 0, 0, 0), (14, 0, 0, 0), (80, 12, 43, 14), (999, 0, 0, 0), (999, 0, 0, 0), (11, 0, 4, 0), (999, 0, 0, 0), (1, 113, 0, 0), (999, 0, 0, 0), (97, 0, 0, 0), (14, 0, 0, 0), (80, 12, 49, 16), (999, 0, 0, 0), (999, 0, 0, 0), (11, 0, 4, 0), (999, 0, 0, 0), (10, 0, 1, 0), (95, 0, 0, 0), (14, 0, 0, 0), (80, 12, 46, 15), (999, 0, 0, 0), (999, 0, 0, 0), (11, 0, 4, 0), (999, 0, 0, 0), (10, 0, 2, 0), (95, 0, 0, 0), (14, 0, 0, 0), (80, 12, 58, 19), (999, 0, 0, 0), (999, 0, 0, 0), (11, 0, 4, 0), (999, 0, 0, 0), (10, 0, 3, 0), (95, 0, 0, 0), (14, 0, 0, 0), (80, 12, 64, 21), (999, 0, 0, 0), (999, 0, 0, 0), (11, 0, 4, 0), (999, 0, 0, 0), (0, (-1), 0, 0), (95, 0, 0, 0), (14, 0, 0, 0), (80, 12, 61, 20), (999, 0, 0, 0), (999, 0, 0, 0), (11, 0, 4, 0), (999, 0, 0, 0), (0, (-1), 0, 0), (95, 0, 0, 0), (0, 0, 0, 0), (17, 0, 5, 0), (999, 0, 0, 0), (11, 0, 5, 0), (999, 0, 0, 0), (11, 0, 4, 0), (999, 0, 0, 0), (69, 44, 106, 0), (999, 0, 0, 0), (999, 0, 0, 0), (14, 0, 0, 0), (80, 12, 61, 20), (999, 0, 0, 0), (999, 0, 0, 0), (11, 0, 4, 0), (999, 0, 0, 0), (10, 0, 1, 0), (0, (-1), 0, 0), (66, 19, 92, 0), (999, 0, 0, 0), (999, 0, 0, 0), (14, 0, 0, 0), (80, 12, 49, 16), (999, 0, 0, 0), (999, 0, 0, 0), (11, 0, 5, 0), (999, 0, 0, 0), (90, 0, 0, 0), (10, 0, 1, 0), (67, 8, 92, 0), (999, 0, 0, 0), (999, 0, 0, 0), (11, 0, 5, 0), (999, 0, 0, 0), (72, 10, 99, 0), (999, 0, 0, 0), (999, 0, 0, 0), (14, 0, 0, 0), (80, 12, 61, 20), (999, 0, 0, 0), (999, 0, 0, 0), (11, 0, 4, 0), (999, 0, 0, 0), (90, 0, 0, 0), (95, 0, 0, 0), (22, 1, 5, 0), (999, 0, 0, 0), (999, 0, 0, 0), (72, (-45), 58, 0), (999, 0, 0, 0), (999, 0, 0, 0), (14, 0, 0, 0), (80, 12, 61, 20), (999, 0, 0, 0), (999, 0, 0, 0), (11, 0, 4, 0), (999, 0, 0, 0), (14, 0, 0, 0), (80, 12, 61, 20), (999, 0, 0, 0), (999, 0, 0, 0), (11, 0, 4, 0), (999, 0, 0, 0), (90, 0, 0, 0), (0, (-1), 0, 0), (66, 21, 141, 0), (999, 0, 0, 0), (999, 0, 0, 0), (14, 0, 0, 0), (14, 0, 0, 0), (80, 12, 61, 20), (999, 0, 0, 0), (999, 0, 0, 0), (11, 0, 4, 0), (999, 0, 0, 0), (90, 0, 0, 0), (110, 0, 225, 71), (999, 0, 0, 0), (999, 0, 0, 0), (60, 7, 141, 0), (999, 0, 0, 0), (999, 0, 0, 0), (0, (-1), 0, 0), (72, 10, 148, 0), (999, 0, 0, 0), (999, 0, 0, 0), (14, 0, 0, 0), (80, 12, 61, 20), (999, 0, 0, 0), (999, 0, 0, 0), (11, 0, 4, 0), (999, 0, 0, 0), (90, 0, 0, 0), (95, 0, 0, 0), (14, 0, 0, 0), (50, 0, 0, 0), (80, 12, 196, 13), (999, 0, 0, 0), (999, 0, 0, 0), (0, 1, 0, 0), (30, 0, 0, 0), (82, 12, 196, 13), (999, 0, 0, 0), (999, 0, 0, 0), (11, 0, 4, 0), (999, 0, 0, 0), (130, 0, 0, 0)]
def M_add_99 {ρ : Type} (kr : Int → zD → Option ρ) (r58 : Int → Int → Int → zD → Option ρ) (a1 a4 a5 t0 t1 : Int) (s : zD) : Option ρ :=
zix 12 t1 fun j1 =>
zlet (zup s 16 j1 t0) fun s2 =>
r58 a1 a4 (wr (a5 + 1)) s2
def M_add_92 {ρ : Type} (kr : Int → zD → Option ρ) (r58 : Int → Int → Int → zD → Option ρ) (a1 a4 a5 t0 : Int) (s : zD) : Option ρ :=
zix 12 a4 fun j1 =>
M_add_99 kr r58 a1 a4 a5 (s 16 j1) t0 s
def M_add_148 {ρ : Type} (kr : Int → zD → Option ρ) (a4 t0 t1 : Int) (s : zD) : Option ρ :=
zix 12 t1 fun j1 =>
zlet (zup s 16 j1 t0) fun s2 =>
zlet (zup s2 0 13 (wr ((s2 0 13) + 1))) fun s3 =>
kr a4 s3
def M_add_141 {ρ : Type} (kr : Int → zD → Option ρ) (a4 t0 : Int) (s : zD) : Option ρ :=
zix 12 a4 fun j1 =>
M_add_148 kr a4 (s 16 j1) t0 s
def M_add_58b {ρ : Type} (kr : Int → zD → Option ρ) (r58 : Int → Int → Int → zD → Option ρ) (a1 a4 a5 : Int) (s : zD) : Option ρ :=
if a5 < a4 then (if a1 = (-1) then M_add_92 kr r58 a1 a4 a5 a4 s
else zix 12 a5 fun j5 =>
if (s 12 j5) = a1 then M_add_99 kr r58 a1 a4 a5 a5 a4 s
else M_add_92 kr r58 a1 a4 a5 a4 s)
else zix 12 a4 fun j1 =>
if (s 16 j1) = (-1) then M_add_141 kr a4 a4 s
else zix 12 a4 fun j2 =>
M_isOver (s 16 j2) s  fun v3 s4 =>
if v3 = 0 then M_add_141 kr a4 a4 s4
else M_add_148 kr a4 (-1) a4 s4
def M_add_58 {ρ : Type} (kr : Int → zD → Option ρ) : Int → Int → Int → zD → Option ρ := zit (fun _ _ _ _ => none) (M_add_58b kr) zN
def M_add {ρ : Type} (a1 a2 a3 : Int) (s : zD) (kr : Int → zD → Option ρ) : Option ρ :=
zix 12 (s 0 13) fun j1 =>
zlet (zup s 10 j1 113) fun s2 =>
zix 12 (s 0 13) fun j3 =>
zlet (zup s2 12 j3 a1) fun s4 =>
zix 12 (s 0 13) fun j5 =>
zlet (zup s4 11 j5 a2) fun s6 =>
zix 12 (s 0 13) fun j7 =>
zlet (zup s6 15 j7 a3) fun s8 =>
zix 12 (s 0 13) fun j9 =>
zlet (zup s8 17 j9 (-1)) fun s10 =>
zix 12 (s 0 13) fun j11 =>
zlet (zup s10 16 j11 (-1)) fun s12 =>
M_add_58 kr a1 (s 0 13) 0 s12
set_option maxRecDepth 100000 in
theorem qe_M_add_99 {ρ : Type} (kr : Int → zD → Option ρ) (r58 : Int → Int → Int → zD → Option ρ) (a1 a4 a5 t0 t1 : Int) (s : zD) : M_add_99 kr r58 a1 a4 a5 t0 t1 s = zseg zPP false zfinM (zcal []) (zget (999, 0, 0, 0) zc_M_add) (zcut [(58, [true, true, false, false, true, true]), (92, [true, true, false, false, true, true]), (99, [true, true, false, false, true, true]), (141, [true, false, false, false, true, false]), (148, [true, false, false, false, true, false])]) (zorc [(58, [some (2, some 0), some (0, none), none, none, some (0, none), some (0, none)], [], fun xs h => match xs with
  | [a1, a4, a5] => r58 a1 a4 a5 (zhd h)
  | _ => none)]) (fun v h => kr v (zhd h)) (fun _ _ => none) 400 99 [some (2, 0), some (0, a1), none, none, some (0, a4), some (0, a5)] [(0, t0), (0, t1), (2, 16)] (zM s) := by rfl
set_option maxRecDepth 100000 in
theorem qe_M_add_92 {ρ : Type} (kr : Int → zD → Option ρ) (r58 : Int → Int → Int → zD → Option ρ) (a1 a4 a5 t0 : Int) (s : zD) : M_add_92 kr r58 a1 a4 a5 t0 s = zseg zPP false zfinM (zcal []) (zget (999, 0, 0, 0) zc_M_add) (zcut [(58, [true, true, false, false, true, true]), (92, [true, true, false, false, true, true]), (99, [true, true, false, false, true, true]), (141, [true, false, false, false, true, false]), (148, [true, false, false, false, true, false])]) (zorc [(99, [some (2, some 0), some (0, none), none, none, some (0, none), some (0, none)], [(0, none), (0, none), (2, some 16)], fun xs h => match xs with
  | [a1, a4, a5, t0, t1] => M_add_99 kr r58 a1 a4 a5 t0 t1 (zhd h)
  | _ => none)]) (fun v h => kr v (zhd h)) (fun _ _ => none) 400 92 [some (2, 0), some (0, a1), none, none, some (0, a4), some (0, a5)] [(0, t0), (2, 16)] (zM s) := by rfl
set_option maxRecDepth 100000 in
theorem qe_M_add_148 {ρ : Type} (kr : Int → zD → Option ρ) (a4 t0 t1 : Int) (s : zD) : M_add_148 kr a4 t0 t1 s = zseg zPP false zfinM (zcal []) (zget (999, 0, 0, 0) zc_M_add) (zcut [(58, [true, true, false, false, true, true]), (92, [true, true, false, false, true, true]), (99, [true, true, false, false, true, true]), (141, [true, false, false, false, true, false]), (148, [true, false, false, false, true, false])]) (zorc []) (fun v h => kr v (zhd h)) (fun _ _ => none) 400 148 [some (2, 0), none, none, none, some (0, a4), none] [(0, t0), (0, t1), (2, 16)] (zM s) := by rfl
set_option maxRecDepth 100000 in
theorem qe_M_add_141 {ρ : Type} (kr : Int → zD → Option ρ) (a4 t0 : Int) (s : zD) : M_add_141 kr a4 t0 s = zseg zPP false zfinM (zcal []) (zget (999, 0, 0, 0) zc_M_add) (zcut [(58, [true, true, false, false, true, true]), (92, [true, true, false, false, true, true]), (99, [true, true, false, false, true, true]), (141, [true, false, false, false, true, false]), (148, [true, false, false, false, true, false])]) (zorc [(148, [some (2, some 0), none, none, none, some (0, none), none], [(0, none), (0, none), (2, some 16)], fun xs h => match xs with
  | [a4, t0, t1] => M_add_148 kr a4 t0 t1 (zhd h)
  | _ => none)]) (fun v h => kr v (zhd h)) (fun _ _ => none) 400 141 [some (2, 0), none, none, none, some (0, a4), none] [(0, t0), (2, 16)] (zM s) := by rfl
set_option maxRecDepth 100000 in
theorem qe_M_add_58b {ρ : Type} (kr : Int → zD → Option ρ) (r58 : Int → Int → Int → zD → Option ρ) (a1 a4 a5 : Int) (s : zD) : M_add_58b kr r58 a1 a4 a5 s = zseg zPP false zfinM (zcal [(71, [some 0, none], fun xs h kr kt => match xs with
  | [x0] => M_isOver x0 (zhd h) (fun v s => kr v (zM s))
  | _ => none)]) (zget (999, 0, 0, 0) zc_M_add) (zcut [(58, [true, true, false, false, true, true]), (92, [true, true, false, false, true, true]), (99, [true, true, false, false, true, true]), (141, [true, false, false, false, true, false]), (148, [true, false, false, false, true, false])]) (zorc [(92, [some (2, some 0), some (0, none), none, none, some (0, none), some (0, none)], [(0, none), (2, some 16)], fun xs h => match xs with
  | [a1, a4, a5, t0] => M_add_92 kr r58 a1 a4 a5 t0 (zhd h)
  | _ => none), (99, [some (2, some 0), some (0, none), none, none, some (0, none), some (0, none)], [(0, none), (0, none), (2, some 16)], fun xs h => match xs with
  | [a1, a4, a5, t0, t1] => M_add_99 kr r58 a1 a4 a5 t0 t1 (zhd h)
  | _ => none), (141, [some (2, some 0), none, none, none, some (0, none), none], [(0, none), (2, some 16)], fun xs h => match xs with
  | [a4, t0] => M_add_141 kr a4 t0 (zhd h)
  | _ => none), (148, [some (2, some 0), none, none, none, some (0, none), none], [(0, none), (0, none), (2, some 16)], fun xs h => match xs with
  | [a4, t0, t1] => M_add_148 kr a4 t0 t1 (zhd h)
  | _ => none)]) (fun v h => kr v (zhd h)) (fun _ _ => none) 400 58 [some (2, 0), some (0, a1), none, none, some (0, a4), some (0, a5)] [] (zM s) := by rfl
set_option maxRecDepth 100000 in
theorem qe_M_add {ρ : Type} (kr : Int → zD → Option ρ) (a1 a2 a3 : Int) (s : zD) : M_add a1 a2 a3 s kr = zseg zPP false zfinM (zcal []) (zget (999, 0, 0, 0) zc_M_add) (zcut [(58, [true, true, false, false, true, true]), (92, [true, true, false, false, true, true]), (99, [true, true, false, false, true, true]), (141, [true, false, false, false, true, false]), (148, [true, false, false, false, true, false])]) (zorc [(58, [some (2, some 0), some (0, none), none, none, some (0, none), some (0, none)], [], fun xs h => match xs with
  | [a1, a4, a5] => M_add_58 kr a1 a4 a5 (zhd h)
  | _ => none)]) (fun v h => kr v (zhd h)) (fun _ _ => none) 400 0 [some (2, 0), some (0, a1), some (0, a2), some (0, a3), none, none] [] (zM s) := by rfl
def zc_M_launch : List zI := [(14, 0, 0, 0), (0, 0, 0, 0), (82, 12, 185, 0), (999, 0, 0, 0), (999, 0, 0, 0), (10, 0, 1, 0), (0, 0, 0, 0), (0, 1, 0, 0), (113, 0, 192, 57), (999, 0, 0, 0), (999, 0, 0, 0), (60, 26, 37, 0), (999, 0, 0, 0), (999, 0, 0, 0), (14, 0, 0, 0), (10, 0, 2, 0), (110, 0, 203, 59), (999, 0, 0, 0), (999, 0, 0, 0), (61, 18, 37, 0), (999, 0, 0, 0), (999, 0, 0, 0), (11, 0, 5, 0), (999, 0, 0, 0), (0, (-1), 0, 0), (66, 16, 41, 0), (999, 0, 0, 0), (999, 0, 0, 0), (14, 0, 0, 0), (11, 0, 5, 0), (999, 0, 0, 0), (110, 0, 228, 60), (999, 0, 0, 0), (999, 0, 0, 0), (60, 7, 41, 0), (999, 0, 0, 0), (999, 0, 0, 0), (0, 1, 0, 0), (72, 4, 42, 0), (999, 0, 0, 0), (999, 0, 0, 0), (0, 0, 0, 0), (17, 0, 6, 0), (999, 0, 0, 0), (14, 0, 0, 0), (11, 0, 6, 0), (999, 0, 0, 0), (0, 1, 0, 0), (110, 0, 199, 58), (999, 0, 0, 0), (999, 0, 0, 0), (61, 82, 133, 0), (999, 0, 0, 0), (999, 0, 0, 0), (14, 0, 0, 0), (10, 0, 3, 0), (0, 1, 0, 0), (1, 6, 0, 0), (999, 0, 0, 0), (113, 0, 192, 57), (999, 0, 0, 0), (999, 0, 0, 0), (60, 14, 76, 0), (999, 0, 0, 0), (999, 0, 0, 0), (11, 0, 4, 0), (999, 0, 0, 0), (0, 1, 0, 0), (1, 16, 0, 0), (999, 0, 0, 0), (113, 0, 192, 57), (999, 0, 0, 0), (999, 0, 0, 0), (61, 7, 80, 0), (999, 0, 0, 0), (999, 0, 0, 0), (0, 1, 0, 0), (72, 4, 81, 0), (999, 0, 0, 0), (999, 0, 0, 0), (0, 0, 0, 0), (0, 2, 0, 0), (110, 0, 199, 58), (999, 0, 0, 0), (999, 0, 0, 0), (61, 48, 133, 0), (999, 0, 0, 0), (999, 0, 0, 0), (14, 0, 0, 0), (14, 0, 0, 0), (10, 0, 2, 0), (11, 0, 4, 0), (999, 0, 0, 0), (110, 0, 219, 67), (999, 0, 0, 0), (999, 0, 0, 0), (61, 7, 103, 0), (999, 0, 0, 0), (999, 0, 0, 0), (0, 1, 0, 0), (72, 4, 104, 0), (999, 0, 0, 0), (999, 0, 0, 0), (0, 0, 0, 0), (0, 3, 0, 0), (110, 0, 199, 58), (999, 0, 0, 0), (999, 0, 0, 0), (61, 25, 133, 0), (999, 0, 0, 0), (999, 0, 0, 0), (14, 0, 0, 0), (14, 0, 0, 0), (80, 12, 196, 13), (999, 0, 0, 0), (999, 0, 0, 0), (1, 12, 0, 0), (999, 0, 0, 0), (67, 7, 125, 0), (999, 0, 0, 0), (999, 0, 0, 0), (0, 1, 0, 0), (72, 4, 126, 0), (999, 0, 0, 0), (999, 0, 0, 0), (0, 0, 0, 0), (0, 4, 0, 0), (110, 0, 199, 58), (999, 0, 0, 0), (999, 0, 0, 0), (60, 5, 135, 0), (999, 0, 0, 0), (999, 0, 0, 0), (0, 0, 0, 0), (130, 0, 0, 0), (14, 0, 0, 0), (10, 0, 1, 0), (10, 0, 2, 0), (11, 0, 5, 0), (999, 0, 0, 0), (110, 0, 231, 72), (999, 0, 0, 0), (999, 0, 0, 0), (17, 0, 7, 0), (999, 0, 0, 0), (14, 0, 0, 0), (80, 12, 52, 17), (999, 0, 0, 0), (999, 0, 0, 0), (11, 0, 7, 0), (999, 0, 0, 0), (10, 0, 3, 0), (95, 0, 0, 0), (14, 0, 0, 0), (80, 12, 55, 18), (999, 0, 0, 0), (999, 0, 0, 0), (11, 0, 7, 0), (999, 0, 0, 0), (11, 0, 4, 0), (999, 0, 0, 0), (95, 0, 0, 0), (14, 0, 0, 0), (80, 12, 26, 8), (999, 0, 0, 0), (999, 0, 0, 0), (10, 0, 2, 0), (0, 1, 0, 0), (96, 0, 0, 0), (11, 0, 7, 0), (999, 0, 0, 0), (130, 0, 0, 0)]
def M_launch_133 {ρ : Type} (kr : Int → zD → Option ρ) (s : zD) : Option ρ :=
kr 0 s
def M_launch_126 {ρ : Type} (kr : Int → zD → Option ρ) (a1 a2 a3 a4 a5 t0 : Int) (s : zD) : Option ρ :=
M_fails t0 4 s  fun v1 s2 =>
if v1 = 0 then (M_add a1 a2 a5 s2  fun v3 s4 =>
zix 12 v3 fun j5 =>
zlet (zup s4 13 j5 a3) fun s6 =>
zix 12 v3 fun j7 =>
zlet (zup s6 14 j7 a4) fun s8 =>
zix 4 a2 fun j9 =>
zlet (zup s8 5 j9 1) fun s10 =>
kr v3 s10)
else M_launch_133 kr s2
def M_launch_104 {ρ : Type} (kr : Int → zD → Option ρ) (a1 a2 a3 a4 a5 t0 : Int) (s : zD) : Option ρ :=
M_fails t0 3 s  fun v1 s2 =>
if v1 = 0 then (if (s2 0 13) = 12 then M_launch_126 kr a1 a2 a3 a4 a5 1 s2
else M_launch_126 kr a1 a2 a3 a4 a5 0 s2)
else M_launch_133 kr s2
def M_launch_81 {ρ : Type} (kr : Int → zD → Option ρ) (a1 a2 a3 a4 a5 t0 : Int) (s : zD) : Option ρ :=
M_fails t0 2 s  fun v1 s2 =>
if v1 = 0 then (M_fit a2 a4 s2  fun v3 s4 =>
if v3 = 0 then M_launch_104 kr a1 a2 a3 a4 a5 1 s4
else M_launch_104 kr a1 a2 a3 a4 a5 0 s4)
else M_launch_133 kr s2
def M_launch_76 {ρ : Type} (kr : Int → zD → Option ρ) (a1 a2 a3 a4 a5 : Int) (s : zD) : Option ρ :=
M_launch_81 kr a1 a2 a3 a4 a5 1 s
def M_launch_42 {ρ : Type} (kr : Int → zD → Option ρ) (a1 a2 a3 a4 a5 t0 : Int) (s : zD) : Option ρ :=
M_fails t0 1 s  fun v1 s2 =>
if v1 = 0 then (M_in a3 1 6 s2  fun v3 s4 =>
if v3 = 0 then M_launch_76 kr a1 a2 a3 a4 a5 s4
else M_in a4 1 16 s4  fun v5 s6 =>
if v5 = 0 then M_launch_76 kr a1 a2 a3 a4 a5 s6
else M_launch_81 kr a1 a2 a3 a4 a5 0 s6)
else M_launch_133 kr s2
def M_launch_37 {ρ : Type} (kr : Int → zD → Option ρ) (a1 a2 a3 a4 a5 : Int) (s : zD) : Option ρ :=
M_launch_42 kr a1 a2 a3 a4 a5 1 s
def M_launch_41 {ρ : Type} (kr : Int → zD → Option ρ) (a1 a2 a3 a4 a5 : Int) (s : zD) : Option ρ :=
M_launch_42 kr a1 a2 a3 a4 a5 0 s
def M_launch {ρ : Type} (a1 a2 a3 a4 a5 : Int) (s : zD) (kr : Int → zD → Option ρ) : Option ρ :=
zlet (zup s 0 0 0) fun s1 =>
M_in a1 0 1 s1  fun v2 s3 =>
if v2 = 0 then M_launch_37 kr a1 a2 a3 a4 a5 s3
else M_noKernel a2 s3  fun v4 s5 =>
if v4 = 0 then (if a5 = (-1) then M_launch_41 kr a1 a2 a3 a4 a5 s5
else M_noLaunch a5 s5  fun v6 s7 =>
if v6 = 0 then M_launch_41 kr a1 a2 a3 a4 a5 s7
else M_launch_37 kr a1 a2 a3 a4 a5 s7)
else M_launch_37 kr a1 a2 a3 a4 a5 s5
set_option maxRecDepth 100000 in
theorem qe_M_launch_133 {ρ : Type} (kr : Int → zD → Option ρ) (s : zD) : M_launch_133 kr s = zseg zPP false zfinM (zcal []) (zget (999, 0, 0, 0) zc_M_launch) (zcut [(37, [true, true, true, true, true, true, false, false]), (41, [true, true, true, true, true, true, false, false]), (42, [true, true, true, true, true, true, false, false]), (76, [true, true, true, true, true, true, false, false]), (81, [true, true, true, true, true, true, false, false]), (104, [true, true, true, true, true, true, false, false]), (126, [true, true, true, true, true, true, false, false]), (133, [false, false, false, false, false, false, false, false])]) (zorc []) (fun v h => kr v (zhd h)) (fun _ _ => none) 400 133 [none, none, none, none, none, none, none, none] [] (zM s) := by rfl
set_option maxRecDepth 100000 in
theorem qe_M_launch_126 {ρ : Type} (kr : Int → zD → Option ρ) (a1 a2 a3 a4 a5 t0 : Int) (s : zD) : M_launch_126 kr a1 a2 a3 a4 a5 t0 s = zseg zPP false zfinM (zcal [(58, [some 0, none, none], fun xs h kr kt => match xs with
  | [x0, x1] => M_fails x0 x1 (zhd h) (fun v s => kr v (zM s))
  | _ => none), (72, [some 0, none, none, none], fun xs h kr kt => match xs with
  | [x0, x1, x2] => M_add x0 x1 x2 (zhd h) (fun v s => kr v (zM s))
  | _ => none)]) (zget (999, 0, 0, 0) zc_M_launch) (zcut [(37, [true, true, true, true, true, true, false, false]), (41, [true, true, true, true, true, true, false, false]), (42, [true, true, true, true, true, true, false, false]), (76, [true, true, true, true, true, true, false, false]), (81, [true, true, true, true, true, true, false, false]), (104, [true, true, true, true, true, true, false, false]), (126, [true, true, true, true, true, true, false, false]), (133, [false, false, false, false, false, false, false, false])]) (zorc [(133, [none, none, none, none, none, none, none, none], [], fun xs h => match xs with
  | [] => M_launch_133 kr  (zhd h)
  | _ => none)]) (fun v h => kr v (zhd h)) (fun _ _ => none) 400 126 [some (2, 0), some (0, a1), some (0, a2), some (0, a3), some (0, a4), some (0, a5), none, none] [(0, t0), (2, 0)] (zM s) := by rfl
set_option maxRecDepth 100000 in
theorem qe_M_launch_104 {ρ : Type} (kr : Int → zD → Option ρ) (a1 a2 a3 a4 a5 t0 : Int) (s : zD) : M_launch_104 kr a1 a2 a3 a4 a5 t0 s = zseg zPP false zfinM (zcal [(58, [some 0, none, none], fun xs h kr kt => match xs with
  | [x0, x1] => M_fails x0 x1 (zhd h) (fun v s => kr v (zM s))
  | _ => none)]) (zget (999, 0, 0, 0) zc_M_launch) (zcut [(37, [true, true, true, true, true, true, false, false]), (41, [true, true, true, true, true, true, false, false]), (42, [true, true, true, true, true, true, false, false]), (76, [true, true, true, true, true, true, false, false]), (81, [true, true, true, true, true, true, false, false]), (104, [true, true, true, true, true, true, false, false]), (126, [true, true, true, true, true, true, false, false]), (133, [false, false, false, false, false, false, false, false])]) (zorc [(126, [some (2, some 0), some (0, none), some (0, none), some (0, none), some (0, none), some (0, none), none, none], [(0, none), (2, some 0)], fun xs h => match xs with
  | [a1, a2, a3, a4, a5, t0] => M_launch_126 kr a1 a2 a3 a4 a5 t0 (zhd h)
  | _ => none), (133, [none, none, none, none, none, none, none, none], [], fun xs h => match xs with
  | [] => M_launch_133 kr  (zhd h)
  | _ => none)]) (fun v h => kr v (zhd h)) (fun _ _ => none) 400 104 [some (2, 0), some (0, a1), some (0, a2), some (0, a3), some (0, a4), some (0, a5), none, none] [(0, t0), (2, 0)] (zM s) := by rfl
set_option maxRecDepth 100000 in
theorem qe_M_launch_81 {ρ : Type} (kr : Int → zD → Option ρ) (a1 a2 a3 a4 a5 t0 : Int) (s : zD) : M_launch_81 kr a1 a2 a3 a4 a5 t0 s = zseg zPP false zfinM (zcal [(58, [some 0, none, none], fun xs h kr kt => match xs with
  | [x0, x1] => M_fails x0 x1 (zhd h) (fun v s => kr v (zM s))
  | _ => none), (67, [some 0, none, none], fun xs h kr kt => match xs with
  | [x0, x1] => M_fit x0 x1 (zhd h) (fun v s => kr v (zM s))
  | _ => none)]) (zget (999, 0, 0, 0) zc_M_launch) (zcut [(37, [true, true, true, true, true, true, false, false]), (41, [true, true, true, true, true, true, false, false]), (42, [true, true, true, true, true, true, false, false]), (76, [true, true, true, true, true, true, false, false]), (81, [true, true, true, true, true, true, false, false]), (104, [true, true, true, true, true, true, false, false]), (126, [true, true, true, true, true, true, false, false]), (133, [false, false, false, false, false, false, false, false])]) (zorc [(104, [some (2, some 0), some (0, none), some (0, none), some (0, none), some (0, none), some (0, none), none, none], [(0, none), (2, some 0)], fun xs h => match xs with
  | [a1, a2, a3, a4, a5, t0] => M_launch_104 kr a1 a2 a3 a4 a5 t0 (zhd h)
  | _ => none), (133, [none, none, none, none, none, none, none, none], [], fun xs h => match xs with
  | [] => M_launch_133 kr  (zhd h)
  | _ => none)]) (fun v h => kr v (zhd h)) (fun _ _ => none) 400 81 [some (2, 0), some (0, a1), some (0, a2), some (0, a3), some (0, a4), some (0, a5), none, none] [(0, t0), (2, 0)] (zM s) := by rfl
set_option maxRecDepth 100000 in
theorem qe_M_launch_76 {ρ : Type} (kr : Int → zD → Option ρ) (a1 a2 a3 a4 a5 : Int) (s : zD) : M_launch_76 kr a1 a2 a3 a4 a5 s = zseg zPP false zfinM (zcal []) (zget (999, 0, 0, 0) zc_M_launch) (zcut [(37, [true, true, true, true, true, true, false, false]), (41, [true, true, true, true, true, true, false, false]), (42, [true, true, true, true, true, true, false, false]), (76, [true, true, true, true, true, true, false, false]), (81, [true, true, true, true, true, true, false, false]), (104, [true, true, true, true, true, true, false, false]), (126, [true, true, true, true, true, true, false, false]), (133, [false, false, false, false, false, false, false, false])]) (zorc [(81, [some (2, some 0), some (0, none), some (0, none), some (0, none), some (0, none), some (0, none), none, none], [(0, none), (2, some 0)], fun xs h => match xs with
  | [a1, a2, a3, a4, a5, t0] => M_launch_81 kr a1 a2 a3 a4 a5 t0 (zhd h)
  | _ => none)]) (fun v h => kr v (zhd h)) (fun _ _ => none) 400 76 [some (2, 0), some (0, a1), some (0, a2), some (0, a3), some (0, a4), some (0, a5), none, none] [(2, 0)] (zM s) := by rfl
set_option maxRecDepth 100000 in
theorem qe_M_launch_42 {ρ : Type} (kr : Int → zD → Option ρ) (a1 a2 a3 a4 a5 t0 : Int) (s : zD) : M_launch_42 kr a1 a2 a3 a4 a5 t0 s = zseg zPP false zfinM (zcal [(57, [none, none, none], fun xs h kr kt => match xs with
  | [x0, x1, x2] => M_in x0 x1 x2 (zhd h) (fun v s => kr v (zM s))
  | _ => none), (58, [some 0, none, none], fun xs h kr kt => match xs with
  | [x0, x1] => M_fails x0 x1 (zhd h) (fun v s => kr v (zM s))
  | _ => none)]) (zget (999, 0, 0, 0) zc_M_launch) (zcut [(37, [true, true, true, true, true, true, false, false]), (41, [true, true, true, true, true, true, false, false]), (42, [true, true, true, true, true, true, false, false]), (76, [true, true, true, true, true, true, false, false]), (81, [true, true, true, true, true, true, false, false]), (104, [true, true, true, true, true, true, false, false]), (126, [true, true, true, true, true, true, false, false]), (133, [false, false, false, false, false, false, false, false])]) (zorc [(76, [some (2, some 0), some (0, none), some (0, none), some (0, none), some (0, none), some (0, none), none, none], [(2, some 0)], fun xs h => match xs with
  | [a1, a2, a3, a4, a5] => M_launch_76 kr a1 a2 a3 a4 a5 (zhd h)
  | _ => none), (81, [some (2, some 0), some (0, none), some (0, none), some (0, none), some (0, none), some (0, none), none, none], [(0, none), (2, some 0)], fun xs h => match xs with
  | [a1, a2, a3, a4, a5, t0] => M_launch_81 kr a1 a2 a3 a4 a5 t0 (zhd h)
  | _ => none), (133, [none, none, none, none, none, none, none, none], [], fun xs h => match xs with
  | [] => M_launch_133 kr  (zhd h)
  | _ => none)]) (fun v h => kr v (zhd h)) (fun _ _ => none) 400 42 [some (2, 0), some (0, a1), some (0, a2), some (0, a3), some (0, a4), some (0, a5), none, none] [(0, t0)] (zM s) := by rfl
set_option maxRecDepth 100000 in
theorem qe_M_launch_37 {ρ : Type} (kr : Int → zD → Option ρ) (a1 a2 a3 a4 a5 : Int) (s : zD) : M_launch_37 kr a1 a2 a3 a4 a5 s = zseg zPP false zfinM (zcal []) (zget (999, 0, 0, 0) zc_M_launch) (zcut [(37, [true, true, true, true, true, true, false, false]), (41, [true, true, true, true, true, true, false, false]), (42, [true, true, true, true, true, true, false, false]), (76, [true, true, true, true, true, true, false, false]), (81, [true, true, true, true, true, true, false, false]), (104, [true, true, true, true, true, true, false, false]), (126, [true, true, true, true, true, true, false, false]), (133, [false, false, false, false, false, false, false, false])]) (zorc [(42, [some (2, some 0), some (0, none), some (0, none), some (0, none), some (0, none), some (0, none), none, none], [(0, none)], fun xs h => match xs with
  | [a1, a2, a3, a4, a5, t0] => M_launch_42 kr a1 a2 a3 a4 a5 t0 (zhd h)
  | _ => none)]) (fun v h => kr v (zhd h)) (fun _ _ => none) 400 37 [some (2, 0), some (0, a1), some (0, a2), some (0, a3), some (0, a4), some (0, a5), none, none] [] (zM s) := by rfl
set_option maxRecDepth 100000 in
theorem qe_M_launch_41 {ρ : Type} (kr : Int → zD → Option ρ) (a1 a2 a3 a4 a5 : Int) (s : zD) : M_launch_41 kr a1 a2 a3 a4 a5 s = zseg zPP false zfinM (zcal []) (zget (999, 0, 0, 0) zc_M_launch) (zcut [(37, [true, true, true, true, true, true, false, false]), (41, [true, true, true, true, true, true, false, false]), (42, [true, true, true, true, true, true, false, false]), (76, [true, true, true, true, true, true, false, false]), (81, [true, true, true, true, true, true, false, false]), (104, [true, true, true, true, true, true, false, false]), (126, [true, true, true, true, true, true, false, false]), (133, [false, false, false, false, false, false, false, false])]) (zorc [(42, [some (2, some 0), some (0, none), some (0, none), some (0, none), some (0, none), some (0, none), none, none], [(0, none)], fun xs h => match xs with
  | [a1, a2, a3, a4, a5, t0] => M_launch_42 kr a1 a2 a3 a4 a5 t0 (zhd h)
  | _ => none)]) (fun v h => kr v (zhd h)) (fun _ _ => none) 400 41 [some (2, 0), some (0, a1), some (0, a2), some (0, a3), some (0, a4), some (0, a5), none, none] [] (zM s) := by rfl
set_option maxRecDepth 100000 in
theorem qe_M_launch {ρ : Type} (kr : Int → zD → Option ρ) (a1 a2 a3 a4 a5 : Int) (s : zD) : M_launch a1 a2 a3 a4 a5 s kr = zseg zPP false zfinM (zcal [(57, [none, none, none], fun xs h kr kt => match xs with
  | [x0, x1, x2] => M_in x0 x1 x2 (zhd h) (fun v s => kr v (zM s))
  | _ => none), (59, [some 0, none], fun xs h kr kt => match xs with
  | [x0] => M_noKernel x0 (zhd h) (fun v s => kr v (zM s))
  | _ => none), (60, [some 0, none], fun xs h kr kt => match xs with
  | [x0] => M_noLaunch x0 (zhd h) (fun v s => kr v (zM s))
  | _ => none)]) (zget (999, 0, 0, 0) zc_M_launch) (zcut [(37, [true, true, true, true, true, true, false, false]), (41, [true, true, true, true, true, true, false, false]), (42, [true, true, true, true, true, true, false, false]), (76, [true, true, true, true, true, true, false, false]), (81, [true, true, true, true, true, true, false, false]), (104, [true, true, true, true, true, true, false, false]), (126, [true, true, true, true, true, true, false, false]), (133, [false, false, false, false, false, false, false, false])]) (zorc [(37, [some (2, some 0), some (0, none), some (0, none), some (0, none), some (0, none), some (0, none), none, none], [], fun xs h => match xs with
  | [a1, a2, a3, a4, a5] => M_launch_37 kr a1 a2 a3 a4 a5 (zhd h)
  | _ => none), (41, [some (2, some 0), some (0, none), some (0, none), some (0, none), some (0, none), some (0, none), none, none], [], fun xs h => match xs with
  | [a1, a2, a3, a4, a5] => M_launch_41 kr a1 a2 a3 a4 a5 (zhd h)
  | _ => none)]) (fun v h => kr v (zhd h)) (fun _ _ => none) 400 0 [some (2, 0), some (0, a1), some (0, a2), some (0, a3), some (0, a4), some (0, a5), none, none] [] (zM s) := by rfl
def zc_M_copy : List zI := [(14, 0, 0, 0), (0, 0, 0, 0), (82, 12, 185, 0), (999, 0, 0, 0), (999, 0, 0, 0), (10, 0, 1, 0), (0, 0, 0, 0), (0, 1, 0, 0), (113, 0, 192, 57), (999, 0, 0, 0), (999, 0, 0, 0), (60, 18, 29, 0), (999, 0, 0, 0), (999, 0, 0, 0), (11, 0, 5, 0), (999, 0, 0, 0), (0, (-1), 0, 0), (66, 16, 33, 0), (999, 0, 0, 0), (999, 0, 0, 0), (14, 0, 0, 0), (11, 0, 5, 0), (999, 0, 0, 0), (110, 0, 228, 60), (999, 0, 0, 0), (999, 0, 0, 0), (60, 7, 33, 0), (999, 0, 0, 0), (999, 0, 0, 0), (0, 1, 0, 0), (72, 4, 34, 0), (999, 0, 0, 0), (999, 0, 0, 0), (0, 0, 0, 0), (17, 0, 6, 0), (999, 0, 0, 0), (11, 0, 4, 0), (999, 0, 0, 0), (0, 1, 0, 0), (1, 64, 0, 0), (999, 0, 0, 0), (113, 0, 192, 57), (999, 0, 0, 0), (999, 0, 0, 0), (60, 35, 79, 0), (999, 0, 0, 0), (999, 0, 0, 0), (10, 0, 2, 0), (113, 0, 222, 61), (999, 0, 0, 0), (999, 0, 0, 0), (61, 28, 79, 0), (999, 0, 0, 0), (999, 0, 0, 0), (10, 0, 3, 0), (113, 0, 222, 61), (999, 0, 0, 0), (999, 0, 0, 0), (61, 21, 79, 0), (999, 0, 0, 0), (999, 0, 0, 0), (10, 0, 2, 0), (11, 0, 4, 0), (999, 0, 0, 0), (30, 0, 0, 0), (1, 64, 0, 0), (999, 0, 0, 0), (70, 12, 79, 0), (999, 0, 0, 0), (999, 0, 0, 0), (10, 0, 3, 0), (11, 0, 4, 0), (999, 0, 0, 0), (30, 0, 0, 0), (1, 64, 0, 0), (999, 0, 0, 0), (71, 7, 83, 0), (999, 0, 0, 0), (999, 0, 0, 0), (0, 1, 0, 0), (72, 4, 84, 0), (999, 0, 0, 0), (999, 0, 0, 0), (0, 0, 0, 0), (17, 0, 7, 0), (999, 0, 0, 0), (14, 0, 0, 0), (11, 0, 6, 0), (999, 0, 0, 0), (0, 1, 0, 0), (110, 0, 199, 58), (999, 0, 0, 0), (999, 0, 0, 0), (61, 35, 128, 0), (999, 0, 0, 0), (999, 0, 0, 0), (14, 0, 0, 0), (11, 0, 7, 0), (999, 0, 0, 0), (0, 2, 0, 0), (110, 0, 199, 58), (999, 0, 0, 0), (999, 0, 0, 0), (61, 25, 128, 0), (999, 0, 0, 0), (999, 0, 0, 0), (14, 0, 0, 0), (14, 0, 0, 0), (80, 12, 196, 13), (999, 0, 0, 0), (999, 0, 0, 0), (1, 12, 0, 0), (999, 0, 0, 0), (67, 7, 120, 0), (999, 0, 0, 0), (999, 0, 0, 0), (0, 1, 0, 0), (72, 4, 121, 0), (999, 0, 0, 0), (999, 0, 0, 0), (0, 0, 0, 0), (0, 3, 0, 0), (110, 0, 199, 58), (999, 0, 0, 0), (999, 0, 0, 0), (60, 5, 130, 0), (999, 0, 0, 0), (999, 0, 0, 0), (0, 0, 0, 0), (130, 0, 0, 0), (14, 0, 0, 0), (10, 0, 1, 0), (0, (-1), 0, 0), (11, 0, 5, 0), (999, 0, 0, 0), (110, 0, 231, 72), (999, 0, 0, 0), (999, 0, 0, 0), (17, 0, 8, 0), (999, 0, 0, 0), (14, 0, 0, 0), (80, 12, 76, 25), (999, 0, 0, 0), (999, 0, 0, 0), (11, 0, 8, 0), (999, 0, 0, 0), (10, 0, 2, 0), (95, 0, 0, 0), (14, 0, 0, 0), (80, 12, 79, 26), (999, 0, 0, 0), (999, 0, 0, 0), (11, 0, 8, 0), (999, 0, 0, 0), (10, 0, 3, 0), (95, 0, 0, 0), (14, 0, 0, 0), (80, 12, 82, 27), (999, 0, 0, 0), (999, 0, 0, 0), (11, 0, 8, 0), (999, 0, 0, 0), (11, 0, 4, 0), (999, 0, 0, 0), (95, 0, 0, 0), (11, 0, 8, 0), (999, 0, 0, 0), (130, 0, 0, 0)]
def M_copy_128 {ρ : Type} (kr : Int → zD → Option ρ) (s : zD) : Option ρ :=
kr 0 s
def M_copy_121 {ρ : Type} (kr : Int → zD → Option ρ) (a1 a2 a3 a4 a5 t0 : Int) (s : zD) : Option ρ :=
M_fails t0 3 s  fun v1 s2 =>
if v1 = 0 then (M_add a1 (-1) a5 s2  fun v3 s4 =>
zix 12 v3 fun j5 =>
zlet (zup s4 21 j5 a2) fun s6 =>
zix 12 v3 fun j7 =>
zlet (zup s6 22 j7 a3) fun s8 =>
zix 12 v3 fun j9 =>
zlet (zup s8 23 j9 a4) fun s10 =>
kr v3 s10)
else M_copy_128 kr s2
def M_copy_84 {ρ : Type} (kr : Int → zD → Option ρ) (a1 a2 a3 a4 a5 a6 t0 : Int) (s : zD) : Option ρ :=
M_fails a6 1 s  fun v1 s2 =>
if v1 = 0 then (M_fails t0 2 s2  fun v3 s4 =>
if v3 = 0 then (if (s4 0 13) = 12 then M_copy_121 kr a1 a2 a3 a4 a5 1 s4
else M_copy_121 kr a1 a2 a3 a4 a5 0 s4)
else M_copy_128 kr s4)
else M_copy_128 kr s2
def M_copy_79 {ρ : Type} (kr : Int → zD → Option ρ) (a1 a2 a3 a4 a5 a6 : Int) (s : zD) : Option ρ :=
M_copy_84 kr a1 a2 a3 a4 a5 a6 1 s
def M_copy_34 {ρ : Type} (kr : Int → zD → Option ρ) (a1 a2 a3 a4 a5 t0 : Int) (s : zD) : Option ρ :=
M_in a4 1 64 s  fun v1 s2 =>
if v1 = 0 then M_copy_79 kr a1 a2 a3 a4 a5 t0 s2
else M_noCell a2 s2  fun v3 s4 =>
if v3 = 0 then (M_noCell a3 s4  fun v5 s6 =>
if v5 = 0 then (if 64 < (wr (a2 + a4)) then M_copy_79 kr a1 a2 a3 a4 a5 t0 s6
else if 64 < (wr (a3 + a4)) then M_copy_79 kr a1 a2 a3 a4 a5 t0 s6
else M_copy_84 kr a1 a2 a3 a4 a5 t0 0 s6)
else M_copy_79 kr a1 a2 a3 a4 a5 t0 s6)
else M_copy_79 kr a1 a2 a3 a4 a5 t0 s4
def M_copy_29 {ρ : Type} (kr : Int → zD → Option ρ) (a1 a2 a3 a4 a5 : Int) (s : zD) : Option ρ :=
M_copy_34 kr a1 a2 a3 a4 a5 1 s
def M_copy_33 {ρ : Type} (kr : Int → zD → Option ρ) (a1 a2 a3 a4 a5 : Int) (s : zD) : Option ρ :=
M_copy_34 kr a1 a2 a3 a4 a5 0 s
def M_copy {ρ : Type} (a1 a2 a3 a4 a5 : Int) (s : zD) (kr : Int → zD → Option ρ) : Option ρ :=
zlet (zup s 0 0 0) fun s1 =>
M_in a1 0 1 s1  fun v2 s3 =>
if v2 = 0 then M_copy_29 kr a1 a2 a3 a4 a5 s3
else if a5 = (-1) then M_copy_33 kr a1 a2 a3 a4 a5 s3
else M_noLaunch a5 s3  fun v4 s5 =>
if v4 = 0 then M_copy_33 kr a1 a2 a3 a4 a5 s5
else M_copy_29 kr a1 a2 a3 a4 a5 s5
set_option maxRecDepth 100000 in
theorem qe_M_copy_128 {ρ : Type} (kr : Int → zD → Option ρ) (s : zD) : M_copy_128 kr s = zseg zPP false zfinM (zcal []) (zget (999, 0, 0, 0) zc_M_copy) (zcut [(29, [true, true, true, true, true, true, false, false, false]), (33, [true, true, true, true, true, true, false, false, false]), (34, [true, true, true, true, true, true, false, false, false]), (79, [true, true, true, true, true, true, true, false, false]), (84, [true, true, true, true, true, true, true, false, false]), (121, [true, true, true, true, true, true, false, false, false]), (128, [false, false, false, false, false, false, false, false, false])]) (zorc []) (fun v h => kr v (zhd h)) (fun _ _ => none) 400 128 [none, none, none, none, none, none, none, none, none] [] (zM s) := by rfl
set_option maxRecDepth 100000 in
theorem qe_M_copy_121 {ρ : Type} (kr : Int → zD → Option ρ) (a1 a2 a3 a4 a5 t0 : Int) (s : zD) : M_copy_121 kr a1 a2 a3 a4 a5 t0 s = zseg zPP false zfinM (zcal [(58, [some 0, none, none], fun xs h kr kt => match xs with
  | [x0, x1] => M_fails x0 x1 (zhd h) (fun v s => kr v (zM s))
  | _ => none), (72, [some 0, none, none, none], fun xs h kr kt => match xs with
  | [x0, x1, x2] => M_add x0 x1 x2 (zhd h) (fun v s => kr v (zM s))
  | _ => none)]) (zget (999, 0, 0, 0) zc_M_copy) (zcut [(29, [true, true, true, true, true, true, false, false, false]), (33, [true, true, true, true, true, true, false, false, false]), (34, [true, true, true, true, true, true, false, false, false]), (79, [true, true, true, true, true, true, true, false, false]), (84, [true, true, true, true, true, true, true, false, false]), (121, [true, true, true, true, true, true, false, false, false]), (128, [false, false, false, false, false, false, false, false, false])]) (zorc [(128, [none, none, none, none, none, none, none, none, none], [], fun xs h => match xs with
  | [] => M_copy_128 kr  (zhd h)
  | _ => none)]) (fun v h => kr v (zhd h)) (fun _ _ => none) 400 121 [some (2, 0), some (0, a1), some (0, a2), some (0, a3), some (0, a4), some (0, a5), none, none, none] [(0, t0), (2, 0)] (zM s) := by rfl
set_option maxRecDepth 100000 in
theorem qe_M_copy_84 {ρ : Type} (kr : Int → zD → Option ρ) (a1 a2 a3 a4 a5 a6 t0 : Int) (s : zD) : M_copy_84 kr a1 a2 a3 a4 a5 a6 t0 s = zseg zPP false zfinM (zcal [(58, [some 0, none, none], fun xs h kr kt => match xs with
  | [x0, x1] => M_fails x0 x1 (zhd h) (fun v s => kr v (zM s))
  | _ => none)]) (zget (999, 0, 0, 0) zc_M_copy) (zcut [(29, [true, true, true, true, true, true, false, false, false]), (33, [true, true, true, true, true, true, false, false, false]), (34, [true, true, true, true, true, true, false, false, false]), (79, [true, true, true, true, true, true, true, false, false]), (84, [true, true, true, true, true, true, true, false, false]), (121, [true, true, true, true, true, true, false, false, false]), (128, [false, false, false, false, false, false, false, false, false])]) (zorc [(121, [some (2, some 0), some (0, none), some (0, none), some (0, none), some (0, none), some (0, none), none, none, none], [(0, none), (2, some 0)], fun xs h => match xs with
  | [a1, a2, a3, a4, a5, t0] => M_copy_121 kr a1 a2 a3 a4 a5 t0 (zhd h)
  | _ => none), (128, [none, none, none, none, none, none, none, none, none], [], fun xs h => match xs with
  | [] => M_copy_128 kr  (zhd h)
  | _ => none)]) (fun v h => kr v (zhd h)) (fun _ _ => none) 400 84 [some (2, 0), some (0, a1), some (0, a2), some (0, a3), some (0, a4), some (0, a5), some (0, a6), none, none] [(0, t0)] (zM s) := by rfl
set_option maxRecDepth 100000 in
theorem qe_M_copy_79 {ρ : Type} (kr : Int → zD → Option ρ) (a1 a2 a3 a4 a5 a6 : Int) (s : zD) : M_copy_79 kr a1 a2 a3 a4 a5 a6 s = zseg zPP false zfinM (zcal []) (zget (999, 0, 0, 0) zc_M_copy) (zcut [(29, [true, true, true, true, true, true, false, false, false]), (33, [true, true, true, true, true, true, false, false, false]), (34, [true, true, true, true, true, true, false, false, false]), (79, [true, true, true, true, true, true, true, false, false]), (84, [true, true, true, true, true, true, true, false, false]), (121, [true, true, true, true, true, true, false, false, false]), (128, [false, false, false, false, false, false, false, false, false])]) (zorc [(84, [some (2, some 0), some (0, none), some (0, none), some (0, none), some (0, none), some (0, none), some (0, none), none, none], [(0, none)], fun xs h => match xs with
  | [a1, a2, a3, a4, a5, a6, t0] => M_copy_84 kr a1 a2 a3 a4 a5 a6 t0 (zhd h)
  | _ => none)]) (fun v h => kr v (zhd h)) (fun _ _ => none) 400 79 [some (2, 0), some (0, a1), some (0, a2), some (0, a3), some (0, a4), some (0, a5), some (0, a6), none, none] [] (zM s) := by rfl
set_option maxRecDepth 100000 in
theorem qe_M_copy_34 {ρ : Type} (kr : Int → zD → Option ρ) (a1 a2 a3 a4 a5 t0 : Int) (s : zD) : M_copy_34 kr a1 a2 a3 a4 a5 t0 s = zseg zPP false zfinM (zcal [(57, [none, none, none], fun xs h kr kt => match xs with
  | [x0, x1, x2] => M_in x0 x1 x2 (zhd h) (fun v s => kr v (zM s))
  | _ => none), (61, [none], fun xs h kr kt => match xs with
  | [x0] => M_noCell x0 (zhd h) (fun v s => kr v (zM s))
  | _ => none)]) (zget (999, 0, 0, 0) zc_M_copy) (zcut [(29, [true, true, true, true, true, true, false, false, false]), (33, [true, true, true, true, true, true, false, false, false]), (34, [true, true, true, true, true, true, false, false, false]), (79, [true, true, true, true, true, true, true, false, false]), (84, [true, true, true, true, true, true, true, false, false]), (121, [true, true, true, true, true, true, false, false, false]), (128, [false, false, false, false, false, false, false, false, false])]) (zorc [(79, [some (2, some 0), some (0, none), some (0, none), some (0, none), some (0, none), some (0, none), some (0, none), none, none], [], fun xs h => match xs with
  | [a1, a2, a3, a4, a5, a6] => M_copy_79 kr a1 a2 a3 a4 a5 a6 (zhd h)
  | _ => none), (84, [some (2, some 0), some (0, none), some (0, none), some (0, none), some (0, none), some (0, none), some (0, none), none, none], [(0, none)], fun xs h => match xs with
  | [a1, a2, a3, a4, a5, a6, t0] => M_copy_84 kr a1 a2 a3 a4 a5 a6 t0 (zhd h)
  | _ => none)]) (fun v h => kr v (zhd h)) (fun _ _ => none) 400 34 [some (2, 0), some (0, a1), some (0, a2), some (0, a3), some (0, a4), some (0, a5), none, none, none] [(0, t0)] (zM s) := by rfl
set_option maxRecDepth 100000 in
theorem qe_M_copy_29 {ρ : Type} (kr : Int → zD → Option ρ) (a1 a2 a3 a4 a5 : Int) (s : zD) : M_copy_29 kr a1 a2 a3 a4 a5 s = zseg zPP false zfinM (zcal []) (zget (999, 0, 0, 0) zc_M_copy) (zcut [(29, [true, true, true, true, true, true, false, false, false]), (33, [true, true, true, true, true, true, false, false, false]), (34, [true, true, true, true, true, true, false, false, false]), (79, [true, true, true, true, true, true, true, false, false]), (84, [true, true, true, true, true, true, true, false, false]), (121, [true, true, true, true, true, true, false, false, false]), (128, [false, false, false, false, false, false, false, false, false])]) (zorc [(34, [some (2, some 0), some (0, none), some (0, none), some (0, none), some (0, none), some (0, none), none, none, none], [(0, none)], fun xs h => match xs with
  | [a1, a2, a3, a4, a5, t0] => M_copy_34 kr a1 a2 a3 a4 a5 t0 (zhd h)
  | _ => none)]) (fun v h => kr v (zhd h)) (fun _ _ => none) 400 29 [some (2, 0), some (0, a1), some (0, a2), some (0, a3), some (0, a4), some (0, a5), none, none, none] [] (zM s) := by rfl
set_option maxRecDepth 100000 in
theorem qe_M_copy_33 {ρ : Type} (kr : Int → zD → Option ρ) (a1 a2 a3 a4 a5 : Int) (s : zD) : M_copy_33 kr a1 a2 a3 a4 a5 s = zseg zPP false zfinM (zcal []) (zget (999, 0, 0, 0) zc_M_copy) (zcut [(29, [true, true, true, true, true, true, false, false, false]), (33, [true, true, true, true, true, true, false, false, false]), (34, [true, true, true, true, true, true, false, false, false]), (79, [true, true, true, true, true, true, true, false, false]), (84, [true, true, true, true, true, true, true, false, false]), (121, [true, true, true, true, true, true, false, false, false]), (128, [false, false, false, false, false, false, false, false, false])]) (zorc [(34, [some (2, some 0), some (0, none), some (0, none), some (0, none), some (0, none), some (0, none), none, none, none], [(0, none)], fun xs h => match xs with
  | [a1, a2, a3, a4, a5, t0] => M_copy_34 kr a1 a2 a3 a4 a5 t0 (zhd h)
  | _ => none)]) (fun v h => kr v (zhd h)) (fun _ _ => none) 400 33 [some (2, 0), some (0, a1), some (0, a2), some (0, a3), some (0, a4), some (0, a5), none, none, none] [] (zM s) := by rfl
set_option maxRecDepth 100000 in
theorem qe_M_copy {ρ : Type} (kr : Int → zD → Option ρ) (a1 a2 a3 a4 a5 : Int) (s : zD) : M_copy a1 a2 a3 a4 a5 s kr = zseg zPP false zfinM (zcal [(57, [none, none, none], fun xs h kr kt => match xs with
  | [x0, x1, x2] => M_in x0 x1 x2 (zhd h) (fun v s => kr v (zM s))
  | _ => none), (60, [some 0, none], fun xs h kr kt => match xs with
  | [x0] => M_noLaunch x0 (zhd h) (fun v s => kr v (zM s))
  | _ => none)]) (zget (999, 0, 0, 0) zc_M_copy) (zcut [(29, [true, true, true, true, true, true, false, false, false]), (33, [true, true, true, true, true, true, false, false, false]), (34, [true, true, true, true, true, true, false, false, false]), (79, [true, true, true, true, true, true, true, false, false]), (84, [true, true, true, true, true, true, true, false, false]), (121, [true, true, true, true, true, true, false, false, false]), (128, [false, false, false, false, false, false, false, false, false])]) (zorc [(29, [some (2, some 0), some (0, none), some (0, none), some (0, none), some (0, none), some (0, none), none, none, none], [], fun xs h => match xs with
  | [a1, a2, a3, a4, a5] => M_copy_29 kr a1 a2 a3 a4 a5 (zhd h)
  | _ => none), (33, [some (2, some 0), some (0, none), some (0, none), some (0, none), some (0, none), some (0, none), none, none, none], [], fun xs h => match xs with
  | [a1, a2, a3, a4, a5] => M_copy_33 kr a1 a2 a3 a4 a5 (zhd h)
  | _ => none)]) (fun v h => kr v (zhd h)) (fun _ _ => none) 400 0 [some (2, 0), some (0, a1), some (0, a2), some (0, a3), some (0, a4), some (0, a5), none, none, none] [] (zM s) := by rfl
def zc_M_launchChild : List zI := [(14, 0, 0, 0), (10, 0, 2, 0), (110, 0, 203, 59), (999, 0, 0, 0), (999, 0, 0, 0), (61, 36, 41, 0), (999, 0, 0, 0), (999, 0, 0, 0), (10, 0, 3, 0), (0, 1, 0, 0), (1, 16, 0, 0), (999, 0, 0, 0), (113, 0, 192, 57), (999, 0, 0, 0), (999, 0, 0, 0), (60, 26, 41, 0), (999, 0, 0, 0), (999, 0, 0, 0), (14, 0, 0, 0), (80, 12, 196, 13), (999, 0, 0, 0), (999, 0, 0, 0), (1, 12, 0, 0), (999, 0, 0, 0), (69, 17, 41, 0), (999, 0, 0, 0), (999, 0, 0, 0), (14, 0, 0, 0), (80, 12, 67, 22), (999, 0, 0, 0), (999, 0, 0, 0), (10, 0, 1, 0), (90, 0, 0, 0), (0, 2, 0, 0), (69, 7, 41, 0), (999, 0, 0, 0), (999, 0, 0, 0), (0, 1, 0, 0), (72, 4, 42, 0), (999, 0, 0, 0), (999, 0, 0, 0), (0, 0, 0, 0), (17, 0, 4, 0), (999, 0, 0, 0), (11, 0, 4, 0), (999, 0, 0, 0), (60, 16, 62, 0), (999, 0, 0, 0), (999, 0, 0, 0), (14, 0, 0, 0), (10, 0, 2, 0), (10, 0, 3, 0), (110, 0, 219, 67), (999, 0, 0, 0), (999, 0, 0, 0), (65, 7, 62, 0), (999, 0, 0, 0), (999, 0, 0, 0), (0, 1, 0, 0), (72, 4, 63, 0), (999, 0, 0, 0), (999, 0, 0, 0), (0, 0, 0, 0), (17, 0, 4, 0), (999, 0, 0, 0), (11, 0, 4, 0), (999, 0, 0, 0), (61, 15, 82, 0), (999, 0, 0, 0), (999, 0, 0, 0), (14, 0, 0, 0), (50, 0, 0, 0), (80, 12, 235, 61), (999, 0, 0, 0), (999, 0, 0, 0), (0, 1, 0, 0), (30, 0, 0, 0), (82, 12, 235, 61), (999, 0, 0, 0), (999, 0, 0, 0), (0, 0, 0, 0), (130, 0, 1, 0), (14, 0, 0, 0), (0, (-1), 0, 0), (10, 0, 2, 0), (0, (-1), 0, 0), (110, 0, 231, 72), (999, 0, 0, 0), (999, 0, 0, 0), (17, 0, 5, 0), (999, 0, 0, 0), (14, 0, 0, 0), (80, 12, 52, 17), (999, 0, 0, 0), (999, 0, 0, 0), (11, 0, 5, 0), (999, 0, 0, 0), (0, 1, 0, 0), (95, 0, 0, 0), (14, 0, 0, 0), (80, 12, 55, 18), (999, 0, 0, 0), (999, 0, 0, 0), (11, 0, 5, 0), (999, 0, 0, 0), (10, 0, 3, 0), (95, 0, 0, 0), (14, 0, 0, 0), (80, 12, 64, 21), (999, 0, 0, 0), (999, 0, 0, 0), (11, 0, 5, 0), (999, 0, 0, 0), (10, 0, 1, 0), (95, 0, 0, 0), (14, 0, 0, 0), (80, 12, 67, 22), (999, 0, 0, 0), (999, 0, 0, 0), (11, 0, 5, 0), (999, 0, 0, 0), (14, 0, 0, 0), (80, 12, 67, 22), (999, 0, 0, 0), (999, 0, 0, 0), (10, 0, 1, 0), (90, 0, 0, 0), (0, 1, 0, 0), (30, 0, 0, 0), (95, 0, 0, 0), (14, 0, 0, 0), (80, 12, 26, 8), (999, 0, 0, 0), (999, 0, 0, 0), (10, 0, 2, 0), (0, 1, 0, 0), (96, 0, 0, 0), (0, 1, 0, 0), (130, 0, 1, 0)]
def M_launchChild_63 {ρ : Type} (kr : Int → zD → Option ρ) (a1 a2 a3 t0 : Int) (s : zD) : Option ρ :=
if t0 = 0 then (zlet (zup s 0 61 (wr ((s 0 61) + 1))) fun s14 =>
kr 0 s14)
else M_add (-1) a2 (-1) s  fun v1 s2 =>
zix 12 v1 fun j3 =>
zlet (zup s2 13 j3 1) fun s4 =>
zix 12 v1 fun j5 =>
zlet (zup s4 14 j5 a3) fun s6 =>
zix 12 v1 fun j7 =>
zlet (zup s6 17 j7 a1) fun s8 =>
zix 12 a1 fun j9 =>
zix 12 v1 fun j10 =>
zlet (zup s8 18 j10 (wr ((s8 18 j9) + 1))) fun s11 =>
zix 4 a2 fun j12 =>
zlet (zup s11 5 j12 1) fun s13 =>
kr 1 s13
def M_launchChild_62 {ρ : Type} (kr : Int → zD → Option ρ) (a1 a2 a3 : Int) (s : zD) : Option ρ :=
M_launchChild_63 kr a1 a2 a3 0 s
def M_launchChild_42 {ρ : Type} (kr : Int → zD → Option ρ) (a1 a2 a3 t0 : Int) (s : zD) : Option ρ :=
if t0 = 0 then M_launchChild_62 kr a1 a2 a3 s
else M_fit a2 a3 s  fun v1 s2 =>
if 0 < v1 then M_launchChild_63 kr a1 a2 a3 1 s2
else M_launchChild_62 kr a1 a2 a3 s2
def M_launchChild_41 {ρ : Type} (kr : Int → zD → Option ρ) (a1 a2 a3 : Int) (s : zD) : Option ρ :=
M_launchChild_42 kr a1 a2 a3 0 s
def M_launchChild {ρ : Type} (a1 a2 a3 : Int) (s : zD) (kr : Int → zD → Option ρ) : Option ρ :=
M_noKernel a2 s  fun v1 s2 =>
if v1 = 0 then (M_in a3 1 16 s2  fun v3 s4 =>
if v3 = 0 then M_launchChild_41 kr a1 a2 a3 s4
else if (s4 0 13) < 12 then (zix 12 a1 fun j5 =>
if (s4 18 j5) < 2 then M_launchChild_42 kr a1 a2 a3 1 s4
else M_launchChild_41 kr a1 a2 a3 s4)
else M_launchChild_41 kr a1 a2 a3 s4)
else M_launchChild_41 kr a1 a2 a3 s2
set_option maxRecDepth 100000 in
theorem qe_M_launchChild_63 {ρ : Type} (kr : Int → zD → Option ρ) (a1 a2 a3 t0 : Int) (s : zD) : M_launchChild_63 kr a1 a2 a3 t0 s = zseg zPP false zfinM (zcal [(72, [some 0, none, none, none], fun xs h kr kt => match xs with
  | [x0, x1, x2] => M_add x0 x1 x2 (zhd h) (fun v s => kr v (zM s))
  | _ => none)]) (zget (999, 0, 0, 0) zc_M_launchChild) (zcut [(41, [true, true, true, true, false, false]), (42, [true, true, true, true, false, false]), (62, [true, true, true, true, false, false]), (63, [true, true, true, true, false, false])]) (zorc []) (fun v h => kr v (zhd h)) (fun _ _ => none) 400 63 [some (2, 0), some (0, a1), some (0, a2), some (0, a3), none, none] [(0, t0)] (zM s) := by rfl
set_option maxRecDepth 100000 in
theorem qe_M_launchChild_62 {ρ : Type} (kr : Int → zD → Option ρ) (a1 a2 a3 : Int) (s : zD) : M_launchChild_62 kr a1 a2 a3 s = zseg zPP false zfinM (zcal []) (zget (999, 0, 0, 0) zc_M_launchChild) (zcut [(41, [true, true, true, true, false, false]), (42, [true, true, true, true, false, false]), (62, [true, true, true, true, false, false]), (63, [true, true, true, true, false, false])]) (zorc [(63, [some (2, some 0), some (0, none), some (0, none), some (0, none), none, none], [(0, none)], fun xs h => match xs with
  | [a1, a2, a3, t0] => M_launchChild_63 kr a1 a2 a3 t0 (zhd h)
  | _ => none)]) (fun v h => kr v (zhd h)) (fun _ _ => none) 400 62 [some (2, 0), some (0, a1), some (0, a2), some (0, a3), none, none] [] (zM s) := by rfl
set_option maxRecDepth 100000 in
theorem qe_M_launchChild_42 {ρ : Type} (kr : Int → zD → Option ρ) (a1 a2 a3 t0 : Int) (s : zD) : M_launchChild_42 kr a1 a2 a3 t0 s = zseg zPP false zfinM (zcal [(67, [some 0, none, none], fun xs h kr kt => match xs with
  | [x0, x1] => M_fit x0 x1 (zhd h) (fun v s => kr v (zM s))
  | _ => none)]) (zget (999, 0, 0, 0) zc_M_launchChild) (zcut [(41, [true, true, true, true, false, false]), (42, [true, true, true, true, false, false]), (62, [true, true, true, true, false, false]), (63, [true, true, true, true, false, false])]) (zorc [(62, [some (2, some 0), some (0, none), some (0, none), some (0, none), none, none], [], fun xs h => match xs with
  | [a1, a2, a3] => M_launchChild_62 kr a1 a2 a3 (zhd h)
  | _ => none), (63, [some (2, some 0), some (0, none), some (0, none), some (0, none), none, none], [(0, none)], fun xs h => match xs with
  | [a1, a2, a3, t0] => M_launchChild_63 kr a1 a2 a3 t0 (zhd h)
  | _ => none)]) (fun v h => kr v (zhd h)) (fun _ _ => none) 400 42 [some (2, 0), some (0, a1), some (0, a2), some (0, a3), none, none] [(0, t0)] (zM s) := by rfl
set_option maxRecDepth 100000 in
theorem qe_M_launchChild_41 {ρ : Type} (kr : Int → zD → Option ρ) (a1 a2 a3 : Int) (s : zD) : M_launchChild_41 kr a1 a2 a3 s = zseg zPP false zfinM (zcal []) (zget (999, 0, 0, 0) zc_M_launchChild) (zcut [(41, [true, true, true, true, false, false]), (42, [true, true, true, true, false, false]), (62, [true, true, true, true, false, false]), (63, [true, true, true, true, false, false])]) (zorc [(42, [some (2, some 0), some (0, none), some (0, none), some (0, none), none, none], [(0, none)], fun xs h => match xs with
  | [a1, a2, a3, t0] => M_launchChild_42 kr a1 a2 a3 t0 (zhd h)
  | _ => none)]) (fun v h => kr v (zhd h)) (fun _ _ => none) 400 41 [some (2, 0), some (0, a1), some (0, a2), some (0, a3), none, none] [] (zM s) := by rfl
set_option maxRecDepth 100000 in
theorem qe_M_launchChild {ρ : Type} (kr : Int → zD → Option ρ) (a1 a2 a3 : Int) (s : zD) : M_launchChild a1 a2 a3 s kr = zseg zPP false zfinM (zcal [(57, [none, none, none], fun xs h kr kt => match xs with
  | [x0, x1, x2] => M_in x0 x1 x2 (zhd h) (fun v s => kr v (zM s))
  | _ => none), (59, [some 0, none], fun xs h kr kt => match xs with
  | [x0] => M_noKernel x0 (zhd h) (fun v s => kr v (zM s))
  | _ => none)]) (zget (999, 0, 0, 0) zc_M_launchChild) (zcut [(41, [true, true, true, true, false, false]), (42, [true, true, true, true, false, false]), (62, [true, true, true, true, false, false]), (63, [true, true, true, true, false, false])]) (zorc [(41, [some (2, some 0), some (0, none), some (0, none), some (0, none), none, none], [], fun xs h => match xs with
  | [a1, a2, a3] => M_launchChild_41 kr a1 a2 a3 (zhd h)
  | _ => none), (42, [some (2, some 0), some (0, none), some (0, none), some (0, none), none, none], [(0, none)], fun xs h => match xs with
  | [a1, a2, a3, t0] => M_launchChild_42 kr a1 a2 a3 t0 (zhd h)
  | _ => none)]) (fun v h => kr v (zhd h)) (fun _ _ => none) 400 0 [some (2, 0), some (0, a1), some (0, a2), some (0, a3), none, none] [] (zM s) := by rfl
def zc_M_launches : List zI := [(14, 0, 0, 0), (0, 0, 0, 0), (82, 12, 185, 0), (999, 0, 0, 0), (999, 0, 0, 0), (14, 0, 0, 0), (80, 12, 196, 13), (999, 0, 0, 0), (999, 0, 0, 0), (130, 0, 0, 0)]
def M_launches {ρ : Type} (s : zD) (kr : Int → zD → Option ρ) : Option ρ :=
zlet (zup s 0 0 0) fun s1 =>
kr (s1 0 13) s1
set_option maxRecDepth 100000 in
theorem qe_M_launches {ρ : Type} (kr : Int → zD → Option ρ) (s : zD) : M_launches  s kr = zseg zPP false zfinM (zcal []) (zget (999, 0, 0, 0) zc_M_launches) (zcut []) (zorc []) (fun v h => kr v (zhd h)) (fun _ _ => none) 400 0 [some (2, 0)] [] (zM s) := by rfl
def zc_M_state : List zI := [(14, 0, 0, 0), (0, 0, 0, 0), (82, 12, 185, 0), (999, 0, 0, 0), (999, 0, 0, 0), (14, 0, 0, 0), (14, 0, 0, 0), (10, 0, 1, 0), (110, 0, 228, 60), (999, 0, 0, 0), (999, 0, 0, 0), (0, 1, 0, 0), (110, 0, 199, 58), (999, 0, 0, 0), (999, 0, 0, 0), (60, 7, 22, 0), (999, 0, 0, 0), (999, 0, 0, 0), (0, 0, 0, 0), (72, 9, 28, 0), (999, 0, 0, 0), (999, 0, 0, 0), (14, 0, 0, 0), (80, 12, 43, 14), (999, 0, 0, 0), (999, 0, 0, 0), (10, 0, 1, 0), (92, 0, 0, 0), (130, 0, 2, 0)]
def M_state_28 {ρ : Type} (kr : Int → zD → Option ρ) (t0 : Int) (s : zD) : Option ρ :=
znar 2 t0 fun x1 => kr x1 s
def M_state {ρ : Type} (a1 : Int) (s : zD) (kr : Int → zD → Option ρ) : Option ρ :=
zlet (zup s 0 0 0) fun s1 =>
M_noLaunch a1 s1  fun v2 s3 =>
M_fails v2 1 s3  fun v4 s5 =>
if v4 = 0 then (zix 12 a1 fun j6 =>
M_state_28 kr (s5 10 j6) s5)
else M_state_28 kr 0 s5
set_option maxRecDepth 100000 in
theorem qe_M_state_28 {ρ : Type} (kr : Int → zD → Option ρ) (t0 : Int) (s : zD) : M_state_28 kr t0 s = zseg zPP false zfinM (zcal []) (zget (999, 0, 0, 0) zc_M_state) (zcut [(28, [false, false])]) (zorc []) (fun v h => kr v (zhd h)) (fun _ _ => none) 400 28 [none, none] [(0, t0)] (zM s) := by rfl
set_option maxRecDepth 100000 in
theorem qe_M_state {ρ : Type} (kr : Int → zD → Option ρ) (a1 : Int) (s : zD) : M_state a1 s kr = zseg zPP false zfinM (zcal [(58, [some 0, none, none], fun xs h kr kt => match xs with
  | [x0, x1] => M_fails x0 x1 (zhd h) (fun v s => kr v (zM s))
  | _ => none), (60, [some 0, none], fun xs h kr kt => match xs with
  | [x0] => M_noLaunch x0 (zhd h) (fun v s => kr v (zM s))
  | _ => none)]) (zget (999, 0, 0, 0) zc_M_state) (zcut [(28, [false, false])]) (zorc [(28, [none, none], [(0, none)], fun xs h => match xs with
  | [t0] => M_state_28 kr t0 (zhd h)
  | _ => none)]) (fun v h => kr v (zhd h)) (fun _ _ => none) 400 0 [some (2, 0), some (0, a1)] [] (zM s) := by rfl
def zc_M_parent : List zI := [(14, 0, 0, 0), (0, 0, 0, 0), (82, 12, 185, 0), (999, 0, 0, 0), (999, 0, 0, 0), (14, 0, 0, 0), (14, 0, 0, 0), (10, 0, 1, 0), (110, 0, 228, 60), (999, 0, 0, 0), (999, 0, 0, 0), (0, 1, 0, 0), (110, 0, 199, 58), (999, 0, 0, 0), (999, 0, 0, 0), (61, 26, 41, 0), (999, 0, 0, 0), (999, 0, 0, 0), (14, 0, 0, 0), (14, 0, 0, 0), (80, 12, 64, 21), (999, 0, 0, 0), (999, 0, 0, 0), (10, 0, 1, 0), (90, 0, 0, 0), (0, (-1), 0, 0), (67, 7, 33, 0), (999, 0, 0, 0), (999, 0, 0, 0), (0, 1, 0, 0), (72, 4, 34, 0), (999, 0, 0, 0), (999, 0, 0, 0), (0, 0, 0, 0), (0, 2, 0, 0), (110, 0, 199, 58), (999, 0, 0, 0), (999, 0, 0, 0), (60, 7, 45, 0), (999, 0, 0, 0), (999, 0, 0, 0), (0, 0, 0, 0), (72, 9, 51, 0), (999, 0, 0, 0), (999, 0, 0, 0), (14, 0, 0, 0), (80, 12, 64, 21), (999, 0, 0, 0), (999, 0, 0, 0), (10, 0, 1, 0), (90, 0, 0, 0), (130, 0, 0, 0)]
def M_parent_51 {ρ : Type} (kr : Int → zD → Option ρ) (t0 : Int) (s : zD) : Option ρ :=
kr t0 s
def M_parent_41 {ρ : Type} (kr : Int → zD → Option ρ) (s : zD) : Option ρ :=
M_parent_51 kr 0 s
def M_parent_34 {ρ : Type} (kr : Int → zD → Option ρ) (a1 t0 : Int) (s : zD) : Option ρ :=
M_fails t0 2 s  fun v1 s2 =>
if v1 = 0 then (zix 12 a1 fun j3 =>
M_parent_51 kr (s2 17 j3) s2)
else M_parent_41 kr s2
def M_parent {ρ : Type} (a1 : Int) (s : zD) (kr : Int → zD → Option ρ) : Option ρ :=
zlet (zup s 0 0 0) fun s1 =>
M_noLaunch a1 s1  fun v2 s3 =>
M_fails v2 1 s3  fun v4 s5 =>
if v4 = 0 then (zix 12 a1 fun j6 =>
if (s5 17 j6) = (-1) then M_parent_34 kr a1 1 s5
else M_parent_34 kr a1 0 s5)
else M_parent_41 kr s5
set_option maxRecDepth 100000 in
theorem qe_M_parent_51 {ρ : Type} (kr : Int → zD → Option ρ) (t0 : Int) (s : zD) : M_parent_51 kr t0 s = zseg zPP false zfinM (zcal []) (zget (999, 0, 0, 0) zc_M_parent) (zcut [(34, [true, true]), (41, [false, false]), (51, [false, false])]) (zorc []) (fun v h => kr v (zhd h)) (fun _ _ => none) 400 51 [none, none] [(0, t0)] (zM s) := by rfl
set_option maxRecDepth 100000 in
theorem qe_M_parent_41 {ρ : Type} (kr : Int → zD → Option ρ) (s : zD) : M_parent_41 kr s = zseg zPP false zfinM (zcal []) (zget (999, 0, 0, 0) zc_M_parent) (zcut [(34, [true, true]), (41, [false, false]), (51, [false, false])]) (zorc [(51, [none, none], [(0, none)], fun xs h => match xs with
  | [t0] => M_parent_51 kr t0 (zhd h)
  | _ => none)]) (fun v h => kr v (zhd h)) (fun _ _ => none) 400 41 [none, none] [] (zM s) := by rfl
set_option maxRecDepth 100000 in
theorem qe_M_parent_34 {ρ : Type} (kr : Int → zD → Option ρ) (a1 t0 : Int) (s : zD) : M_parent_34 kr a1 t0 s = zseg zPP false zfinM (zcal [(58, [some 0, none, none], fun xs h kr kt => match xs with
  | [x0, x1] => M_fails x0 x1 (zhd h) (fun v s => kr v (zM s))
  | _ => none)]) (zget (999, 0, 0, 0) zc_M_parent) (zcut [(34, [true, true]), (41, [false, false]), (51, [false, false])]) (zorc [(41, [none, none], [], fun xs h => match xs with
  | [] => M_parent_41 kr  (zhd h)
  | _ => none), (51, [none, none], [(0, none)], fun xs h => match xs with
  | [t0] => M_parent_51 kr t0 (zhd h)
  | _ => none)]) (fun v h => kr v (zhd h)) (fun _ _ => none) 400 34 [some (2, 0), some (0, a1)] [(0, t0), (2, 0)] (zM s) := by rfl
set_option maxRecDepth 100000 in
theorem qe_M_parent {ρ : Type} (kr : Int → zD → Option ρ) (a1 : Int) (s : zD) : M_parent a1 s kr = zseg zPP false zfinM (zcal [(58, [some 0, none, none], fun xs h kr kt => match xs with
  | [x0, x1] => M_fails x0 x1 (zhd h) (fun v s => kr v (zM s))
  | _ => none), (60, [some 0, none], fun xs h kr kt => match xs with
  | [x0] => M_noLaunch x0 (zhd h) (fun v s => kr v (zM s))
  | _ => none)]) (zget (999, 0, 0, 0) zc_M_parent) (zcut [(34, [true, true]), (41, [false, false]), (51, [false, false])]) (zorc [(34, [some (2, some 0), some (0, none)], [(0, none), (2, some 0)], fun xs h => match xs with
  | [a1, t0] => M_parent_34 kr a1 t0 (zhd h)
  | _ => none), (41, [none, none], [], fun xs h => match xs with
  | [] => M_parent_41 kr  (zhd h)
  | _ => none)]) (fun v h => kr v (zhd h)) (fun _ _ => none) 400 0 [some (2, 0), some (0, a1)] [] (zM s) := by rfl
def zc_M_given : List zI := [(14, 0, 0, 0), (0, 0, 0, 0), (82, 12, 185, 0), (999, 0, 0, 0), (999, 0, 0, 0), (14, 0, 0, 0), (14, 0, 0, 0), (10, 0, 1, 0), (110, 0, 228, 60), (999, 0, 0, 0), (999, 0, 0, 0), (0, 1, 0, 0), (110, 0, 199, 58), (999, 0, 0, 0), (999, 0, 0, 0), (60, 7, 22, 0), (999, 0, 0, 0), (999, 0, 0, 0), (0, 0, 0, 0), (72, 9, 28, 0), (999, 0, 0, 0), (999, 0, 0, 0), (14, 0, 0, 0), (80, 12, 70, 23), (999, 0, 0, 0), (999, 0, 0, 0), (10, 0, 1, 0), (90, 0, 0, 0), (130, 0, 0, 0)]
def M_given_28 {ρ : Type} (kr : Int → zD → Option ρ) (t0 : Int) (s : zD) : Option ρ :=
kr t0 s
def M_given {ρ : Type} (a1 : Int) (s : zD) (kr : Int → zD → Option ρ) : Option ρ :=
zlet (zup s 0 0 0) fun s1 =>
M_noLaunch a1 s1  fun v2 s3 =>
M_fails v2 1 s3  fun v4 s5 =>
if v4 = 0 then (zix 12 a1 fun j6 =>
M_given_28 kr (s5 19 j6) s5)
else M_given_28 kr 0 s5
set_option maxRecDepth 100000 in
theorem qe_M_given_28 {ρ : Type} (kr : Int → zD → Option ρ) (t0 : Int) (s : zD) : M_given_28 kr t0 s = zseg zPP false zfinM (zcal []) (zget (999, 0, 0, 0) zc_M_given) (zcut [(28, [false, false])]) (zorc []) (fun v h => kr v (zhd h)) (fun _ _ => none) 400 28 [none, none] [(0, t0)] (zM s) := by rfl
set_option maxRecDepth 100000 in
theorem qe_M_given {ρ : Type} (kr : Int → zD → Option ρ) (a1 : Int) (s : zD) : M_given a1 s kr = zseg zPP false zfinM (zcal [(58, [some 0, none, none], fun xs h kr kt => match xs with
  | [x0, x1] => M_fails x0 x1 (zhd h) (fun v s => kr v (zM s))
  | _ => none), (60, [some 0, none], fun xs h kr kt => match xs with
  | [x0] => M_noLaunch x0 (zhd h) (fun v s => kr v (zM s))
  | _ => none)]) (zget (999, 0, 0, 0) zc_M_given) (zcut [(28, [false, false])]) (zorc [(28, [none, none], [(0, none)], fun xs h => match xs with
  | [t0] => M_given_28 kr t0 (zhd h)
  | _ => none)]) (fun v h => kr v (zhd h)) (fun _ _ => none) 400 0 [some (2, 0), some (0, a1)] [] (zM s) := by rfl
