def zc_Bl_isAllWaiting : List zI := [(14, 0, 0, 0), (80, 10, 30, 2), (999, 0, 0, 0), (999, 0, 0, 0), (14, 0, 0, 0), (80, 10, 30, 2), (999, 0, 0, 0), (999, 0, 0, 0), (100, 0, 0, 36), (113, 0, 86, 254), (999, 0, 0, 0), (999, 0, 0, 0), (61, 22, 34, 0), (999, 0, 0, 0), (999, 0, 0, 0), (14, 0, 0, 0), (80, 10, 30, 2), (999, 0, 0, 0), (999, 0, 0, 0), (14, 0, 0, 0), (80, 10, 30, 2), (999, 0, 0, 0), (999, 0, 0, 0), (100, 0, 0, 36), (113, 0, 90, 255), (999, 0, 0, 0), (999, 0, 0, 0), (73, 7, 34, 0), (999, 0, 0, 0), (999, 0, 0, 0), (0, 1, 0, 0), (72, 4, 35, 0), (999, 0, 0, 0), (999, 0, 0, 0), (0, 0, 0, 0), (130, 0, 1, 0)]
def Bl_isAllWaiting_35 {ρ : Type} (kr : Int → zH → Option ρ) (t0 : Int) (h : zH) : Option ρ :=
znar 1 t0 fun x1 => kr x1 h
def Bl_isAllWaiting_34 {ρ : Type} (kr : Int → zH → Option ρ) (h : zH) : Option ρ :=
Bl_isAllWaiting_35 kr 0 h
def Bl_isAllWaiting {ρ : Type} (a0 : Int) (h : zH) (kr : Int → zH → Option ρ) : Option ρ :=
zob h 10 a0 fun p1 =>
zob h 10 a0 fun p2 =>
zob h 36 (zhd h p2 2) fun p3 =>
Th_isAnyRunning (zhd h p1 2) (zhl h p3 : Int) h  fun v4 h5 =>
if v4 = 0 then (zob h5 10 a0 fun p6 =>
zob h5 10 a0 fun p7 =>
zob h5 36 (zhd h5 p7 2) fun p8 =>
Th_lowestOfWaiting (zhd h5 p6 2) (zhl h5 p8 : Int) h5  fun v9 h10 =>
if v9 < 0 then Bl_isAllWaiting_34 kr h10
else Bl_isAllWaiting_35 kr 1 h10)
else Bl_isAllWaiting_34 kr h5
set_option maxRecDepth 100000 in
theorem qe_Bl_isAllWaiting_35 {ρ : Type} (kr : Int → zH → Option ρ) (t0 : Int) (h : zH) : Bl_isAllWaiting_35 kr t0 h = zseg zPP true (fun _ _ => none) (zcal []) (zget (999, 0, 0, 0) zc_Bl_isAllWaiting) (zcut [(34, [false]), (35, [false])]) (zorc []) kr (fun _ _ => none) 400 35 [none] [(0, t0)] h := by rfl
set_option maxRecDepth 100000 in
theorem qe_Bl_isAllWaiting_34 {ρ : Type} (kr : Int → zH → Option ρ) (h : zH) : Bl_isAllWaiting_34 kr h = zseg zPP true (fun _ _ => none) (zcal []) (zget (999, 0, 0, 0) zc_Bl_isAllWaiting) (zcut [(34, [false]), (35, [false])]) (zorc [(35, [none], [(0, none)], fun xs h => match xs with
  | [t0] => Bl_isAllWaiting_35 kr t0 h
  | _ => none)]) kr (fun _ _ => none) 400 34 [none] [] h := by rfl
set_option maxRecDepth 100000 in
theorem qe_Bl_isAllWaiting {ρ : Type} (kr : Int → zH → Option ρ) (a0 : Int) (h : zH) : Bl_isAllWaiting a0 h kr = zseg zPP true (fun _ _ => none) (zcal [(254, [none, none], fun xs h kr kt => match xs with
  | [x0, x1] => Th_isAnyRunning x0 x1 h kr
  | _ => none), (255, [none, none], fun xs h kr kt => match xs with
  | [x0, x1] => Th_lowestOfWaiting x0 x1 h kr
  | _ => none)]) (zget (999, 0, 0, 0) zc_Bl_isAllWaiting) (zcut [(34, [false]), (35, [false])]) (zorc [(34, [none], [], fun xs h => match xs with
  | [] => Bl_isAllWaiting_34 kr  h
  | _ => none), (35, [none], [(0, none)], fun xs h => match xs with
  | [t0] => Bl_isAllWaiting_35 kr t0 h
  | _ => none)]) kr (fun _ _ => none) 400 0 [some (2, a0)] [] h := by rfl
def zc_Th_isEnded : List zI := [(14, 0, 0, 0), (80, 6, 34, 4), (999, 0, 0, 0), (999, 0, 0, 0), (1, 101, 0, 0), (999, 0, 0, 0), (67, 7, 13, 0), (999, 0, 0, 0), (999, 0, 0, 0), (0, 1, 0, 0), (72, 4, 14, 0), (999, 0, 0, 0), (999, 0, 0, 0), (0, 0, 0, 0), (130, 0, 1, 0)]
def Th_isEnded_14 {ρ : Type} (kr : Int → zH → Option ρ) (t0 : Int) (h : zH) : Option ρ :=
znar 1 t0 fun x1 => kr x1 h
def Th_isEnded {ρ : Type} (a0 : Int) (h : zH) (kr : Int → zH → Option ρ) : Option ρ :=
zob h 6 a0 fun p1 =>
if (zhd h p1 4) = 101 then Th_isEnded_14 kr 1 h
else Th_isEnded_14 kr 0 h
set_option maxRecDepth 100000 in
theorem qe_Th_isEnded_14 {ρ : Type} (kr : Int → zH → Option ρ) (t0 : Int) (h : zH) : Th_isEnded_14 kr t0 h = zseg zPP true (fun _ _ => none) (zcal []) (zget (999, 0, 0, 0) zc_Th_isEnded) (zcut [(14, [false])]) (zorc []) kr (fun _ _ => none) 400 14 [none] [(0, t0)] h := by rfl
set_option maxRecDepth 100000 in
theorem qe_Th_isEnded {ρ : Type} (kr : Int → zH → Option ρ) (a0 : Int) (h : zH) : Th_isEnded a0 h kr = zseg zPP true (fun _ _ => none) (zcal []) (zget (999, 0, 0, 0) zc_Th_isEnded) (zcut [(14, [false])]) (zorc [(14, [none], [(0, none)], fun xs h => match xs with
  | [t0] => Th_isEnded_14 kr t0 h
  | _ => none)]) kr (fun _ _ => none) 400 0 [some (2, a0)] [] h := by rfl
def zc_Gr_hasEnded : List zI := [(0, 0, 0, 0), (16, 0, 1, 0), (10, 0, 1, 0), (0, 4, 0, 0), (69, 28, 32, 0), (999, 0, 0, 0), (999, 0, 0, 0), (14, 0, 0, 0), (10, 0, 1, 0), (110, 0, 35, 194), (999, 0, 0, 0), (999, 0, 0, 0), (20, 0, 2, 0), (14, 0, 2, 0), (73, 12, 26, 0), (999, 0, 0, 0), (999, 0, 0, 0), (14, 0, 2, 0), (110, 0, 58, 248), (999, 0, 0, 0), (999, 0, 0, 0), (61, 5, 26, 0), (999, 0, 0, 0), (999, 0, 0, 0), (0, 0, 0, 0), (130, 0, 1, 0), (22, 1, 1, 0), (999, 0, 0, 0), (999, 0, 0, 0), (72, (-27), 2, 0), (999, 0, 0, 0), (999, 0, 0, 0), (0, 1, 0, 0), (130, 0, 1, 0)]
def Gr_hasEnded_26 {ρ : Type} (kr : Int → zH → Option ρ) (r2 : Int → Int → zH → Option ρ) (a0 a1 : Int) (h : zH) : Option ρ :=
r2 a0 (wr (a1 + 1)) h
def Gr_hasEnded_2b {ρ : Type} (kr : Int → zH → Option ρ) (r2 : Int → Int → zH → Option ρ) (a0 a1 : Int) (h : zH) : Option ρ :=
if a1 < 4 then (zob h 11 a0 fun _ =>
Gr_threadIn a0 a1 h  fun v1 h2 =>
if v1 < 0 then Gr_hasEnded_26 kr r2 a0 a1 h2
else zob h2 6 v1 fun _ =>
Th_isEnded v1 h2  fun v3 h4 =>
if v3 = 0 then kr 0 h4
else Gr_hasEnded_26 kr r2 a0 a1 h4)
else kr 1 h
def Gr_hasEnded_2 {ρ : Type} (kr : Int → zH → Option ρ) : Int → Int → zH → Option ρ := zit (fun _ _ _ => none) (Gr_hasEnded_2b kr) zN
def Gr_hasEnded {ρ : Type} (a0 : Int) (h : zH) (kr : Int → zH → Option ρ) : Option ρ :=
Gr_hasEnded_2 kr a0 0 h
set_option maxRecDepth 100000 in
theorem qe_Gr_hasEnded_26 {ρ : Type} (kr : Int → zH → Option ρ) (r2 : Int → Int → zH → Option ρ) (a0 a1 : Int) (h : zH) : Gr_hasEnded_26 kr r2 a0 a1 h = zseg zPP true (fun _ _ => none) (zcal []) (zget (999, 0, 0, 0) zc_Gr_hasEnded) (zcut [(2, [true, true, false]), (26, [true, true, false])]) (zorc [(2, [some (2, none), some (0, none), none], [], fun xs h => match xs with
  | [a0, a1] => r2 a0 a1 h
  | _ => none)]) kr (fun _ _ => none) 400 26 [some (2, a0), some (0, a1), none] [] h := by rfl
set_option maxRecDepth 100000 in
theorem qe_Gr_hasEnded_2b {ρ : Type} (kr : Int → zH → Option ρ) (r2 : Int → Int → zH → Option ρ) (a0 a1 : Int) (h : zH) : Gr_hasEnded_2b kr r2 a0 a1 h = zseg zPP true (fun _ _ => none) (zcal [(194, [none, none], fun xs h kr kt => match xs with
  | [x0, x1] => Gr_threadIn x0 x1 h kr
  | _ => none), (248, [none], fun xs h kr kt => match xs with
  | [x0] => Th_isEnded x0 h kr
  | _ => none)]) (zget (999, 0, 0, 0) zc_Gr_hasEnded) (zcut [(2, [true, true, false]), (26, [true, true, false])]) (zorc [(26, [some (2, none), some (0, none), none], [], fun xs h => match xs with
  | [a0, a1] => Gr_hasEnded_26 kr r2 a0 a1 h
  | _ => none)]) kr (fun _ _ => none) 400 2 [some (2, a0), some (0, a1), none] [] h := by rfl
set_option maxRecDepth 100000 in
theorem qe_Gr_hasEnded {ρ : Type} (kr : Int → zH → Option ρ) (a0 : Int) (h : zH) : Gr_hasEnded a0 h kr = zseg zPP true (fun _ _ => none) (zcal []) (zget (999, 0, 0, 0) zc_Gr_hasEnded) (zcut [(2, [true, true, false]), (26, [true, true, false])]) (zorc [(2, [some (2, none), some (0, none), none], [], fun xs h => match xs with
  | [a0, a1] => Gr_hasEnded_2 kr a0 a1 h
  | _ => none)]) kr (fun _ _ => none) 400 0 [some (2, a0), none, none] [] h := by rfl
def zc_Bl_writeEndedGroups : List zI := [(0, 0, 0, 0), (16, 0, 2, 0), (10, 0, 2, 0), (14, 0, 0, 0), (80, 10, 57, 3), (999, 0, 0, 0), (999, 0, 0, 0), (100, 0, 0, 41), (69, 32, 40, 0), (999, 0, 0, 0), (999, 0, 0, 0), (14, 0, 0, 0), (80, 10, 57, 3), (999, 0, 0, 0), (999, 0, 0, 0), (10, 0, 2, 0), (94, 0, 0, 11), (110, 0, 120, 200), (999, 0, 0, 0), (999, 0, 0, 0), (60, 14, 34, 0), (999, 0, 0, 0), (999, 0, 0, 0), (14, 0, 0, 0), (80, 10, 57, 3), (999, 0, 0, 0), (999, 0, 0, 0), (10, 0, 2, 0), (94, 0, 0, 11), (14, 0, 1, 0), (110, 0, 124, 208), (999, 0, 0, 0), (999, 0, 0, 0), (52, 0, 0, 0), (22, 1, 2, 0), (999, 0, 0, 0), (999, 0, 0, 0), (72, (-35), 2, 0), (999, 0, 0, 0), (999, 0, 0, 0), (133, 0, 0, 0)]
def Bl_writeEndedGroups_34 {ρ : Type} (kr : Int → zH → Option ρ) (r2 : Int → Int → Int → zH → Option ρ) (a0 a1 a2 : Int) (h : zH) : Option ρ :=
r2 a0 a1 (wr (a2 + 1)) h
def Bl_writeEndedGroups_2b {ρ : Type} (kr : Int → zH → Option ρ) (r2 : Int → Int → Int → zH → Option ρ) (a0 a1 a2 : Int) (h : zH) : Option ρ :=
zob h 10 a0 fun p1 =>
zob h 41 (zhd h p1 3) fun p2 =>
if a2 < (zhl h p2 : Int) then (zob h 10 a0 fun p3 =>
zob h 41 (zhd h p3 3) fun p5 =>
zix (zhl h p5) a2 fun j4 =>
zob h 11 (zhd h p5 j4) fun _ =>
Gr_hasEnded (zhd h p5 j4) h  fun v6 h7 =>
if v6 = 0 then Bl_writeEndedGroups_34 kr r2 a0 a1 a2 h7
else zob h7 10 a0 fun p8 =>
zob h7 41 (zhd h7 p8 3) fun p10 =>
zix (zhl h7 p10) a2 fun j9 =>
zob h7 11 (zhd h7 p10 j9) fun _ =>
Gr_writeAll (zhd h7 p10 j9) a1 h7  fun v11 h12 =>
Bl_writeEndedGroups_34 kr r2 a0 a1 a2 h12)
else kr 0 h
def Bl_writeEndedGroups_2 {ρ : Type} (kr : Int → zH → Option ρ) : Int → Int → Int → zH → Option ρ := zit (fun _ _ _ _ => none) (Bl_writeEndedGroups_2b kr) zN
def Bl_writeEndedGroups {ρ : Type} (a0 a1 : Int) (h : zH) (kr : Int → zH → Option ρ) : Option ρ :=
Bl_writeEndedGroups_2 kr a0 a1 0 h
set_option maxRecDepth 100000 in
theorem qe_Bl_writeEndedGroups_34 {ρ : Type} (kr : Int → zH → Option ρ) (r2 : Int → Int → Int → zH → Option ρ) (a0 a1 a2 : Int) (h : zH) : Bl_writeEndedGroups_34 kr r2 a0 a1 a2 h = zseg zPP true (fun _ _ => none) (zcal []) (zget (999, 0, 0, 0) zc_Bl_writeEndedGroups) (zcut [(2, [true, true, true]), (34, [true, true, true])]) (zorc [(2, [some (2, none), some (2, none), some (0, none)], [], fun xs h => match xs with
  | [a0, a1, a2] => r2 a0 a1 a2 h
  | _ => none)]) kr (fun _ _ => none) 400 34 [some (2, a0), some (2, a1), some (0, a2)] [] h := by rfl
set_option maxRecDepth 100000 in
theorem qe_Bl_writeEndedGroups_2b {ρ : Type} (kr : Int → zH → Option ρ) (r2 : Int → Int → Int → zH → Option ρ) (a0 a1 a2 : Int) (h : zH) : Bl_writeEndedGroups_2b kr r2 a0 a1 a2 h = zseg zPP true (fun _ _ => none) (zcal [(200, [none], fun xs h kr kt => match xs with
  | [x0] => Gr_hasEnded x0 h kr
  | _ => none), (208, [none, none], fun xs h kr kt => match xs with
  | [x0, x1] => Gr_writeAll x0 x1 h kr
  | _ => none)]) (zget (999, 0, 0, 0) zc_Bl_writeEndedGroups) (zcut [(2, [true, true, true]), (34, [true, true, true])]) (zorc [(34, [some (2, none), some (2, none), some (0, none)], [], fun xs h => match xs with
  | [a0, a1, a2] => Bl_writeEndedGroups_34 kr r2 a0 a1 a2 h
  | _ => none)]) kr (fun _ _ => none) 400 2 [some (2, a0), some (2, a1), some (0, a2)] [] h := by rfl
set_option maxRecDepth 100000 in
theorem qe_Bl_writeEndedGroups {ρ : Type} (kr : Int → zH → Option ρ) (a0 a1 : Int) (h : zH) : Bl_writeEndedGroups a0 a1 h kr = zseg zPP true (fun _ _ => none) (zcal []) (zget (999, 0, 0, 0) zc_Bl_writeEndedGroups) (zcut [(2, [true, true, true]), (34, [true, true, true])]) (zorc [(2, [some (2, none), some (2, none), some (0, none)], [], fun xs h => match xs with
  | [a0, a1, a2] => Bl_writeEndedGroups_2 kr a0 a1 a2 h
  | _ => none)]) kr (fun _ _ => none) 400 0 [some (2, a0), some (2, a1), none] [] h := by rfl
def zc_Bl_lowestWaiting : List zI := [(14, 0, 0, 0), (80, 10, 30, 2), (999, 0, 0, 0), (999, 0, 0, 0), (14, 0, 0, 0), (80, 10, 30, 2), (999, 0, 0, 0), (999, 0, 0, 0), (100, 0, 0, 36), (113, 0, 90, 255), (999, 0, 0, 0), (999, 0, 0, 0), (132, 0, 0, 0)]
def Bl_lowestWaiting {ρ : Type} (a0 : Int) (h : zH) (kr : Int → zH → Option ρ) : Option ρ :=
zob h 10 a0 fun p1 =>
zob h 10 a0 fun p2 =>
zob h 36 (zhd h p2 2) fun p3 =>
Th_lowestOfWaiting (zhd h p1 2) (zhl h p3 : Int) h  fun v4 h5 =>
kr v4 h5
set_option maxRecDepth 100000 in
theorem qe_Bl_lowestWaiting {ρ : Type} (kr : Int → zH → Option ρ) (a0 : Int) (h : zH) : Bl_lowestWaiting a0 h kr = zseg zPP true (fun _ _ => none) (zcal [(255, [none, none], fun xs h kr kt => match xs with
  | [x0, x1] => Th_lowestOfWaiting x0 x1 h kr
  | _ => none)]) (zget (999, 0, 0, 0) zc_Bl_lowestWaiting) (zcut []) (zorc []) kr (fun _ _ => none) 400 0 [some (2, a0)] [] h := by rfl
def zc_Th_release : List zI := [(0, 0, 0, 0), (17, 0, 4, 0), (999, 0, 0, 0), (11, 0, 4, 0), (999, 0, 0, 0), (10, 0, 1, 0), (69, 39, 45, 0), (999, 0, 0, 0), (999, 0, 0, 0), (11, 0, 4, 0), (999, 0, 0, 0), (14, 0, 0, 0), (100, 0, 0, 36), (69, 32, 45, 0), (999, 0, 0, 0), (999, 0, 0, 0), (14, 0, 0, 0), (11, 0, 4, 0), (999, 0, 0, 0), (94, 0, 0, 6), (110, 0, 70, 247), (999, 0, 0, 0), (999, 0, 0, 0), (60, 16, 39, 0), (999, 0, 0, 0), (999, 0, 0, 0), (14, 0, 0, 0), (11, 0, 4, 0), (999, 0, 0, 0), (94, 0, 0, 6), (80, 6, 63, 3), (999, 0, 0, 0), (999, 0, 0, 0), (10, 0, 2, 0), (66, 5, 39, 0), (999, 0, 0, 0), (999, 0, 0, 0), (0, 0, 0, 0), (130, 0, 1, 0), (22, 1, 4, 0), (999, 0, 0, 0), (999, 0, 0, 0), (72, (-39), 3, 0), (999, 0, 0, 0), (999, 0, 0, 0), (0, 0, 0, 0), (17, 0, 4, 0), (999, 0, 0, 0), (11, 0, 4, 0), (999, 0, 0, 0), (10, 0, 1, 0), (69, 46, 97, 0), (999, 0, 0, 0), (999, 0, 0, 0), (11, 0, 4, 0), (999, 0, 0, 0), (14, 0, 0, 0), (100, 0, 0, 36), (69, 39, 97, 0), (999, 0, 0, 0), (999, 0, 0, 0), (14, 0, 0, 0), (11, 0, 4, 0), (999, 0, 0, 0), (94, 0, 0, 6), (110, 0, 70, 247), (999, 0, 0, 0), (999, 0, 0, 0), (60, 23, 91, 0), (999, 0, 0, 0), (999, 0, 0, 0), (14, 0, 0, 0), (11, 0, 4, 0), (999, 0, 0, 0), (94, 0, 0, 6), (1, 114, 0, 0), (999, 0, 0, 0), (82, 6, 34, 4), (999, 0, 0, 0), (999, 0, 0, 0), (14, 0, 0, 0), (11, 0, 4, 0), (999, 0, 0, 0), (94, 0, 0, 6), (10, 0, 2, 0), (0, 1, 0, 0), (30, 0, 0, 0), (10, 0, 3, 0), (110, 0, 38, 253), (999, 0, 0, 0), (999, 0, 0, 0), (22, 1, 4, 0), (999, 0, 0, 0), (999, 0, 0, 0), (72, (-46), 48, 0), (999, 0, 0, 0), (999, 0, 0, 0), (0, 1, 0, 0), (130, 0, 1, 0)]
def Th_release_39 {ρ : Type} (kr : Int → zH → Option ρ) (r3 : Int → Int → Int → Int → Int → zH → Option ρ) (a0 a1 a2 a3 a4 : Int) (h : zH) : Option ρ :=
r3 a0 a1 a2 a3 (wr (a4 + 1)) h
def Th_release_91 {ρ : Type} (kr : Int → zH → Option ρ) (r48 : Int → Int → Int → Int → Int → zH → Option ρ) (a0 a1 a2 a3 a4 : Int) (h : zH) : Option ρ :=
r48 a0 a1 a2 a3 (wr (a4 + 1)) h
def Th_release_97 {ρ : Type} (kr : Int → zH → Option ρ) (h : zH) : Option ρ :=
kr 1 h
def Th_release_48b {ρ : Type} (kr : Int → zH → Option ρ) (r48 : Int → Int → Int → Int → Int → zH → Option ρ) (a0 a1 a2 a3 a4 : Int) (h : zH) : Option ρ :=
if a4 < a1 then (zob h 36 a0 fun p1 =>
if a4 < (zhl h p1 : Int) then (zob h 36 a0 fun p3 =>
zix (zhl h p3) a4 fun j2 =>
zob h 6 (zhd h p3 j2) fun _ =>
Th_isWaiting (zhd h p3 j2) h  fun v4 h5 =>
if v4 = 0 then Th_release_91 kr r48 a0 a1 a2 a3 a4 h5
else zob h5 36 a0 fun p7 =>
zix (zhl h5 p7) a4 fun j6 =>
zob h5 6 (zhd h5 p7 j6) fun p8 =>
zlet (zset h5 p8 4 114) fun h9 =>
zob h9 36 a0 fun p11 =>
zix (zhl h9 p11) a4 fun j10 =>
zob h9 6 (zhd h9 p11 j10) fun _ =>
Th_goTo (zhd h9 p11 j10) (wr (a2 + 1)) a3 h9  fun _ h13 =>
Th_release_91 kr r48 a0 a1 a2 a3 a4 h13)
else Th_release_97 kr h)
else Th_release_97 kr h
def Th_release_48 {ρ : Type} (kr : Int → zH → Option ρ) : Int → Int → Int → Int → Int → zH → Option ρ := zit (fun _ _ _ _ _ _ => none) (Th_release_48b kr) zN
def Th_release_45 {ρ : Type} (kr : Int → zH → Option ρ) (a0 a1 a2 a3 : Int) (h : zH) : Option ρ :=
Th_release_48 kr a0 a1 a2 a3 0 h
def Th_release_3b {ρ : Type} (kr : Int → zH → Option ρ) (r3 : Int → Int → Int → Int → Int → zH → Option ρ) (a0 a1 a2 a3 a4 : Int) (h : zH) : Option ρ :=
if a4 < a1 then (zob h 36 a0 fun p1 =>
if a4 < (zhl h p1 : Int) then (zob h 36 a0 fun p3 =>
zix (zhl h p3) a4 fun j2 =>
zob h 6 (zhd h p3 j2) fun _ =>
Th_isWaiting (zhd h p3 j2) h  fun v4 h5 =>
if v4 = 0 then Th_release_39 kr r3 a0 a1 a2 a3 a4 h5
else zob h5 36 a0 fun p7 =>
zix (zhl h5 p7) a4 fun j6 =>
zob h5 6 (zhd h5 p7 j6) fun p8 =>
if (zhd h5 p8 3) = a2 then Th_release_39 kr r3 a0 a1 a2 a3 a4 h5
else kr 0 h5)
else Th_release_45 kr a0 a1 a2 a3 h)
else Th_release_45 kr a0 a1 a2 a3 h
def Th_release_3 {ρ : Type} (kr : Int → zH → Option ρ) : Int → Int → Int → Int → Int → zH → Option ρ := zit (fun _ _ _ _ _ _ => none) (Th_release_3b kr) zN
def Th_release {ρ : Type} (a0 a1 a2 a3 : Int) (h : zH) (kr : Int → zH → Option ρ) : Option ρ :=
Th_release_3 kr a0 a1 a2 a3 0 h
set_option maxRecDepth 100000 in
theorem qe_Th_release_39 {ρ : Type} (kr : Int → zH → Option ρ) (r3 : Int → Int → Int → Int → Int → zH → Option ρ) (a0 a1 a2 a3 a4 : Int) (h : zH) : Th_release_39 kr r3 a0 a1 a2 a3 a4 h = zseg zPP true (fun _ _ => none) (zcal []) (zget (999, 0, 0, 0) zc_Th_release) (zcut [(3, [true, true, true, true, true]), (39, [true, true, true, true, true]), (45, [true, true, true, true, false]), (48, [true, true, true, true, true]), (91, [true, true, true, true, true]), (97, [false, false, false, false, false])]) (zorc [(3, [some (2, none), some (0, none), some (0, none), some (0, none), some (0, none)], [], fun xs h => match xs with
  | [a0, a1, a2, a3, a4] => r3 a0 a1 a2 a3 a4 h
  | _ => none)]) kr (fun _ _ => none) 400 39 [some (2, a0), some (0, a1), some (0, a2), some (0, a3), some (0, a4)] [] h := by rfl
set_option maxRecDepth 100000 in
theorem qe_Th_release_91 {ρ : Type} (kr : Int → zH → Option ρ) (r48 : Int → Int → Int → Int → Int → zH → Option ρ) (a0 a1 a2 a3 a4 : Int) (h : zH) : Th_release_91 kr r48 a0 a1 a2 a3 a4 h = zseg zPP true (fun _ _ => none) (zcal []) (zget (999, 0, 0, 0) zc_Th_release) (zcut [(3, [true, true, true, true, true]), (39, [true, true, true, true, true]), (45, [true, true, true, true, false]), (48, [true, true, true, true, true]), (91, [true, true, true, true, true]), (97, [false, false, false, false, false])]) (zorc [(48, [some (2, none), some (0, none), some (0, none), some (0, none), some (0, none)], [], fun xs h => match xs with
  | [a0, a1, a2, a3, a4] => r48 a0 a1 a2 a3 a4 h
  | _ => none)]) kr (fun _ _ => none) 400 91 [some (2, a0), some (0, a1), some (0, a2), some (0, a3), some (0, a4)] [] h := by rfl
set_option maxRecDepth 100000 in
theorem qe_Th_release_97 {ρ : Type} (kr : Int → zH → Option ρ) (h : zH) : Th_release_97 kr h = zseg zPP true (fun _ _ => none) (zcal []) (zget (999, 0, 0, 0) zc_Th_release) (zcut [(3, [true, true, true, true, true]), (39, [true, true, true, true, true]), (45, [true, true, true, true, false]), (48, [true, true, true, true, true]), (91, [true, true, true, true, true]), (97, [false, false, false, false, false])]) (zorc []) kr (fun _ _ => none) 400 97 [none, none, none, none, none] [] h := by rfl
set_option maxRecDepth 100000 in
theorem qe_Th_release_48b {ρ : Type} (kr : Int → zH → Option ρ) (r48 : Int → Int → Int → Int → Int → zH → Option ρ) (a0 a1 a2 a3 a4 : Int) (h : zH) : Th_release_48b kr r48 a0 a1 a2 a3 a4 h = zseg zPP true (fun _ _ => none) (zcal [(247, [none], fun xs h kr kt => match xs with
  | [x0] => Th_isWaiting x0 h kr
  | _ => none), (253, [none, none, none], fun xs h kr kt => match xs with
  | [x0, x1, x2] => Th_goTo x0 x1 x2 h kr
  | _ => none)]) (zget (999, 0, 0, 0) zc_Th_release) (zcut [(3, [true, true, true, true, true]), (39, [true, true, true, true, true]), (45, [true, true, true, true, false]), (48, [true, true, true, true, true]), (91, [true, true, true, true, true]), (97, [false, false, false, false, false])]) (zorc [(91, [some (2, none), some (0, none), some (0, none), some (0, none), some (0, none)], [], fun xs h => match xs with
  | [a0, a1, a2, a3, a4] => Th_release_91 kr r48 a0 a1 a2 a3 a4 h
  | _ => none), (97, [none, none, none, none, none], [], fun xs h => match xs with
  | [] => Th_release_97 kr  h
  | _ => none)]) kr (fun _ _ => none) 400 48 [some (2, a0), some (0, a1), some (0, a2), some (0, a3), some (0, a4)] [] h := by rfl
set_option maxRecDepth 100000 in
theorem qe_Th_release_45 {ρ : Type} (kr : Int → zH → Option ρ) (a0 a1 a2 a3 : Int) (h : zH) : Th_release_45 kr a0 a1 a2 a3 h = zseg zPP true (fun _ _ => none) (zcal []) (zget (999, 0, 0, 0) zc_Th_release) (zcut [(3, [true, true, true, true, true]), (39, [true, true, true, true, true]), (45, [true, true, true, true, false]), (48, [true, true, true, true, true]), (91, [true, true, true, true, true]), (97, [false, false, false, false, false])]) (zorc [(48, [some (2, none), some (0, none), some (0, none), some (0, none), some (0, none)], [], fun xs h => match xs with
  | [a0, a1, a2, a3, a4] => Th_release_48 kr a0 a1 a2 a3 a4 h
  | _ => none)]) kr (fun _ _ => none) 400 45 [some (2, a0), some (0, a1), some (0, a2), some (0, a3), none] [] h := by rfl
set_option maxRecDepth 100000 in
theorem qe_Th_release_3b {ρ : Type} (kr : Int → zH → Option ρ) (r3 : Int → Int → Int → Int → Int → zH → Option ρ) (a0 a1 a2 a3 a4 : Int) (h : zH) : Th_release_3b kr r3 a0 a1 a2 a3 a4 h = zseg zPP true (fun _ _ => none) (zcal [(247, [none], fun xs h kr kt => match xs with
  | [x0] => Th_isWaiting x0 h kr
  | _ => none)]) (zget (999, 0, 0, 0) zc_Th_release) (zcut [(3, [true, true, true, true, true]), (39, [true, true, true, true, true]), (45, [true, true, true, true, false]), (48, [true, true, true, true, true]), (91, [true, true, true, true, true]), (97, [false, false, false, false, false])]) (zorc [(39, [some (2, none), some (0, none), some (0, none), some (0, none), some (0, none)], [], fun xs h => match xs with
  | [a0, a1, a2, a3, a4] => Th_release_39 kr r3 a0 a1 a2 a3 a4 h
  | _ => none), (45, [some (2, none), some (0, none), some (0, none), some (0, none), none], [], fun xs h => match xs with
  | [a0, a1, a2, a3] => Th_release_45 kr a0 a1 a2 a3 h
  | _ => none)]) kr (fun _ _ => none) 400 3 [some (2, a0), some (0, a1), some (0, a2), some (0, a3), some (0, a4)] [] h := by rfl
set_option maxRecDepth 100000 in
theorem qe_Th_release {ρ : Type} (kr : Int → zH → Option ρ) (a0 a1 a2 a3 : Int) (h : zH) : Th_release a0 a1 a2 a3 h kr = zseg zPP true (fun _ _ => none) (zcal []) (zget (999, 0, 0, 0) zc_Th_release) (zcut [(3, [true, true, true, true, true]), (39, [true, true, true, true, true]), (45, [true, true, true, true, false]), (48, [true, true, true, true, true]), (91, [true, true, true, true, true]), (97, [false, false, false, false, false])]) (zorc [(3, [some (2, none), some (0, none), some (0, none), some (0, none), some (0, none)], [], fun xs h => match xs with
  | [a0, a1, a2, a3, a4] => Th_release_3 kr a0 a1 a2 a3 a4 h
  | _ => none)]) kr (fun _ _ => none) 400 0 [some (2, a0), some (0, a1), some (0, a2), some (0, a3), none] [] h := by rfl
def zc_Bl_passBarrier : List zI := [(14, 0, 0, 0), (80, 10, 30, 2), (999, 0, 0, 0), (999, 0, 0, 0), (14, 0, 0, 0), (80, 10, 30, 2), (999, 0, 0, 0), (999, 0, 0, 0), (100, 0, 0, 36), (10, 0, 1, 0), (14, 0, 0, 0), (80, 10, 15, 0), (999, 0, 0, 0), (999, 0, 0, 0), (80, 9, 33, 5), (999, 0, 0, 0), (999, 0, 0, 0), (80, 7, 45, 3), (999, 0, 0, 0), (999, 0, 0, 0), (113, 0, 94, 256), (999, 0, 0, 0), (999, 0, 0, 0), (61, 5, 28, 0), (999, 0, 0, 0), (999, 0, 0, 0), (0, 0, 0, 0), (130, 0, 1, 0), (14, 0, 0, 0), (80, 10, 9, 5), (999, 0, 0, 0), (999, 0, 0, 0), (0, 0, 0, 0), (113, 0, 98, 3), (999, 0, 0, 0), (999, 0, 0, 0), (14, 0, 0, 0), (80, 10, 66, 6), (999, 0, 0, 0), (999, 0, 0, 0), (0, 0, 0, 0), (113, 0, 98, 3), (999, 0, 0, 0), (999, 0, 0, 0), (0, 1, 0, 0), (130, 0, 1, 0)]
def Bl_passBarrier {ρ : Type} (a0 a1 : Int) (h : zH) (kr : Int → zH → Option ρ) : Option ρ :=
zob h 10 a0 fun p1 =>
zob h 10 a0 fun p2 =>
zob h 36 (zhd h p2 2) fun p3 =>
zob h 10 a0 fun p4 =>
zob h 9 (zhd h p4 0) fun p5 =>
zob h 7 (zhd h p5 5) fun p6 =>
Th_release (zhd h p1 2) (zhl h p3 : Int) a1 (zhd h p6 3) h  fun v7 h8 =>
if v7 = 0 then kr 0 h8
else zob h8 10 a0 fun p9 =>
Ar_fill (zhd h8 p9 5) 0 h8  fun _ h11 =>
zob h11 10 a0 fun p12 =>
Ar_fill (zhd h11 p12 6) 0 h11  fun _ h14 =>
kr 1 h14
set_option maxRecDepth 100000 in
theorem qe_Bl_passBarrier {ρ : Type} (kr : Int → zH → Option ρ) (a0 a1 : Int) (h : zH) : Bl_passBarrier a0 a1 h kr = zseg zPP true (fun _ _ => none) (zcal [(3, [none, none], fun xs h kr kt => match xs with
  | [x0, x1] => Ar_fill x0 x1 h kr
  | _ => none), (256, [none, none, none, none], fun xs h kr kt => match xs with
  | [x0, x1, x2, x3] => Th_release x0 x1 x2 x3 h kr
  | _ => none)]) (zget (999, 0, 0, 0) zc_Bl_passBarrier) (zcut []) (zorc []) kr (fun _ _ => none) 400 0 [some (2, a0), some (0, a1)] [] h := by rfl
def zc_Co_lookAtBarrier : List zI := [(14, 0, 1, 0), (110, 0, 355, 165), (999, 0, 0, 0), (999, 0, 0, 0), (20, 0, 2, 0), (14, 0, 2, 0), (74, 4, 10, 0), (999, 0, 0, 0), (999, 0, 0, 0), (133, 0, 0, 0), (14, 0, 1, 0), (14, 0, 2, 0), (80, 6, 359, 3), (999, 0, 0, 0), (999, 0, 0, 0), (110, 0, 362, 166), (999, 0, 0, 0), (999, 0, 0, 0), (60, 27, 45, 0), (999, 0, 0, 0), (999, 0, 0, 0), (14, 0, 0, 0), (80, 2, 25, 3), (999, 0, 0, 0), (999, 0, 0, 0), (50, 0, 0, 0), (80, 4, 365, 6), (999, 0, 0, 0), (999, 0, 0, 0), (0, 1, 0, 0), (30, 0, 0, 0), (82, 4, 365, 6), (999, 0, 0, 0), (999, 0, 0, 0), (14, 0, 1, 0), (14, 0, 0, 0), (80, 2, 9, 1), (999, 0, 0, 0), (999, 0, 0, 0), (110, 0, 346, 169), (999, 0, 0, 0), (999, 0, 0, 0), (72, 18, 60, 0), (999, 0, 0, 0), (999, 0, 0, 0), (14, 0, 0, 0), (14, 0, 1, 0), (14, 0, 2, 0), (80, 6, 180, 0), (999, 0, 0, 0), (999, 0, 0, 0), (14, 0, 2, 0), (80, 6, 359, 3), (999, 0, 0, 0), (999, 0, 0, 0), (1, 98, 0, 0), (999, 0, 0, 0), (110, 0, 185, 191), (999, 0, 0, 0), (999, 0, 0, 0), (133, 0, 0, 0)]
def Co_lookAtBarrier_60 {ρ : Type} (kr : Int → zH → Option ρ) (h : zH) : Option ρ :=
kr 0 h
def Co_lookAtBarrier {ρ : Type} (a0 a1 : Int) (h : zH) (kr : Int → zH → Option ρ) : Option ρ :=
zob h 10 a1 fun _ =>
Bl_lowestWaiting a1 h  fun v1 h2 =>
if v1 < 0 then kr 0 h2
else zob h2 6 v1 fun p3 =>
zob h2 10 a1 fun _ =>
Bl_passBarrier a1 (zhd h2 p3 3) h2  fun v4 h5 =>
if v4 = 0 then (zob h5 6 v1 fun p6 =>
zob h5 6 v1 fun p7 =>
zob h5 2 a0 fun _ =>
Co_fail a0 a1 (zhd h5 p6 0) (zhd h5 p7 3) 98 h5  fun _ h9 =>
Co_lookAtBarrier_60 kr h9)
else zob h5 2 a0 fun p10 =>
zob h5 4 (zhd h5 p10 3) fun p11 =>
zob h5 4 (zhd h5 p10 3) fun p12 =>
zlet (zset h5 p12 6 (wr ((zhd h5 p11 6) + 1))) fun h13 =>
zob h13 2 a0 fun p14 =>
zob h13 10 a1 fun _ =>
Bl_writeEndedGroups a1 (zhd h13 p14 1) h13  fun _ h16 =>
Co_lookAtBarrier_60 kr h16
set_option maxRecDepth 100000 in
theorem qe_Co_lookAtBarrier_60 {ρ : Type} (kr : Int → zH → Option ρ) (h : zH) : Co_lookAtBarrier_60 kr h = zseg zPP true (fun _ _ => none) (zcal []) (zget (999, 0, 0, 0) zc_Co_lookAtBarrier) (zcut [(60, [false, false, false])]) (zorc []) kr (fun _ _ => none) 400 60 [none, none, none] [] h := by rfl
set_option maxRecDepth 100000 in
theorem qe_Co_lookAtBarrier {ρ : Type} (kr : Int → zH → Option ρ) (a0 a1 : Int) (h : zH) : Co_lookAtBarrier a0 a1 h kr = zseg zPP true (fun _ _ => none) (zcal [(165, [none], fun xs h kr kt => match xs with
  | [x0] => Bl_lowestWaiting x0 h kr
  | _ => none), (166, [none, none], fun xs h kr kt => match xs with
  | [x0, x1] => Bl_passBarrier x0 x1 h kr
  | _ => none), (169, [none, none], fun xs h kr kt => match xs with
  | [x0, x1] => Bl_writeEndedGroups x0 x1 h kr
  | _ => none), (191, [none, none, none, none, none], fun xs h kr kt => match xs with
  | [x0, x1, x2, x3, x4] => Co_fail x0 x1 x2 x3 x4 h kr
  | _ => none)]) (zget (999, 0, 0, 0) zc_Co_lookAtBarrier) (zcut [(60, [false, false, false])]) (zorc [(60, [none, none, none], [], fun xs h => match xs with
  | [] => Co_lookAtBarrier_60 kr  h
  | _ => none)]) kr (fun _ _ => none) 400 0 [some (2, a0), some (2, a1), none] [] h := by rfl
def zc_Co_settle : List zI := [(14, 0, 1, 0), (14, 0, 0, 0), (80, 2, 9, 1), (999, 0, 0, 0), (999, 0, 0, 0), (110, 0, 346, 169), (999, 0, 0, 0), (999, 0, 0, 0), (14, 0, 1, 0), (110, 0, 349, 164), (999, 0, 0, 0), (999, 0, 0, 0), (60, 8, 20, 0), (999, 0, 0, 0), (999, 0, 0, 0), (14, 0, 0, 0), (14, 0, 1, 0), (110, 0, 352, 189), (999, 0, 0, 0), (999, 0, 0, 0), (14, 0, 0, 0), (14, 0, 1, 0), (110, 0, 130, 190), (999, 0, 0, 0), (999, 0, 0, 0), (133, 0, 0, 0)]
def Co_settle_20 {ρ : Type} (kr : Int → zH → Option ρ) (a0 a1 : Int) (h : zH) : Option ρ :=
zob h 2 a0 fun _ =>
Co_endIfEnded a0 a1 h  fun _ h2 =>
kr 0 h2
def Co_settle {ρ : Type} (a0 a1 : Int) (h : zH) (kr : Int → zH → Option ρ) : Option ρ :=
zob h 2 a0 fun p1 =>
zob h 10 a1 fun _ =>
Bl_writeEndedGroups a1 (zhd h p1 1) h  fun _ h3 =>
zob h3 10 a1 fun _ =>
Bl_isAllWaiting a1 h3  fun v4 h5 =>
if v4 = 0 then Co_settle_20 kr a0 a1 h5
else zob h5 2 a0 fun _ =>
Co_lookAtBarrier a0 a1 h5  fun _ h7 =>
Co_settle_20 kr a0 a1 h7
set_option maxRecDepth 100000 in
theorem qe_Co_settle_20 {ρ : Type} (kr : Int → zH → Option ρ) (a0 a1 : Int) (h : zH) : Co_settle_20 kr a0 a1 h = zseg zPP true (fun _ _ => none) (zcal [(190, [none, none], fun xs h kr kt => match xs with
  | [x0, x1] => Co_endIfEnded x0 x1 h kr
  | _ => none)]) (zget (999, 0, 0, 0) zc_Co_settle) (zcut [(20, [true, true])]) (zorc []) kr (fun _ _ => none) 400 20 [some (2, a0), some (2, a1)] [] h := by rfl
set_option maxRecDepth 100000 in
theorem qe_Co_settle {ρ : Type} (kr : Int → zH → Option ρ) (a0 a1 : Int) (h : zH) : Co_settle a0 a1 h kr = zseg zPP true (fun _ _ => none) (zcal [(164, [none], fun xs h kr kt => match xs with
  | [x0] => Bl_isAllWaiting x0 h kr
  | _ => none), (169, [none, none], fun xs h kr kt => match xs with
  | [x0, x1] => Bl_writeEndedGroups x0 x1 h kr
  | _ => none), (189, [none, none], fun xs h kr kt => match xs with
  | [x0, x1] => Co_lookAtBarrier x0 x1 h kr
  | _ => none)]) (zget (999, 0, 0, 0) zc_Co_settle) (zcut [(20, [true, true])]) (zorc [(20, [some (2, none), some (2, none)], [], fun xs h => match xs with
  | [a0, a1] => Co_settle_20 kr a0 a1 h
  | _ => none)]) kr (fun _ _ => none) 400 0 [some (2, a0), some (2, a1)] [] h := by rfl
def zc_La_isSpoiled : List zI := [(14, 0, 0, 0), (80, 9, 11, 10), (999, 0, 0, 0), (999, 0, 0, 0), (1, 102, 0, 0), (999, 0, 0, 0), (66, 12, 18, 0), (999, 0, 0, 0), (999, 0, 0, 0), (14, 0, 0, 0), (80, 9, 11, 10), (999, 0, 0, 0), (999, 0, 0, 0), (1, 120, 0, 0), (999, 0, 0, 0), (67, 7, 22, 0), (999, 0, 0, 0), (999, 0, 0, 0), (0, 1, 0, 0), (72, 4, 23, 0), (999, 0, 0, 0), (999, 0, 0, 0), (0, 0, 0, 0), (130, 0, 1, 0)]
def La_isSpoiled_23 {ρ : Type} (kr : Int → zH → Option ρ) (t0 : Int) (h : zH) : Option ρ :=
znar 1 t0 fun x1 => kr x1 h
def La_isSpoiled_18 {ρ : Type} (kr : Int → zH → Option ρ) (h : zH) : Option ρ :=
La_isSpoiled_23 kr 1 h
def La_isSpoiled {ρ : Type} (a0 : Int) (h : zH) (kr : Int → zH → Option ρ) : Option ρ :=
zob h 9 a0 fun p1 =>
if (zhd h p1 10) = 102 then La_isSpoiled_18 kr h
else zob h 9 a0 fun p2 =>
if (zhd h p2 10) = 120 then La_isSpoiled_18 kr h
else La_isSpoiled_23 kr 0 h
set_option maxRecDepth 100000 in
theorem qe_La_isSpoiled_23 {ρ : Type} (kr : Int → zH → Option ρ) (t0 : Int) (h : zH) : La_isSpoiled_23 kr t0 h = zseg zPP true (fun _ _ => none) (zcal []) (zget (999, 0, 0, 0) zc_La_isSpoiled) (zcut [(18, [false]), (23, [false])]) (zorc []) kr (fun _ _ => none) 400 23 [none] [(0, t0)] h := by rfl
set_option maxRecDepth 100000 in
theorem qe_La_isSpoiled_18 {ρ : Type} (kr : Int → zH → Option ρ) (h : zH) : La_isSpoiled_18 kr h = zseg zPP true (fun _ _ => none) (zcal []) (zget (999, 0, 0, 0) zc_La_isSpoiled) (zcut [(18, [false]), (23, [false])]) (zorc [(23, [none], [(0, none)], fun xs h => match xs with
  | [t0] => La_isSpoiled_23 kr t0 h
  | _ => none)]) kr (fun _ _ => none) 400 18 [none] [] h := by rfl
set_option maxRecDepth 100000 in
theorem qe_La_isSpoiled {ρ : Type} (kr : Int → zH → Option ρ) (a0 : Int) (h : zH) : La_isSpoiled a0 h kr = zseg zPP true (fun _ _ => none) (zcal []) (zget (999, 0, 0, 0) zc_La_isSpoiled) (zcut [(18, [false]), (23, [false])]) (zorc [(18, [none], [], fun xs h => match xs with
  | [] => La_isSpoiled_18 kr  h
  | _ => none), (23, [none], [(0, none)], fun xs h => match xs with
  | [t0] => La_isSpoiled_23 kr t0 h
  | _ => none)]) kr (fun _ _ => none) 400 0 [some (2, a0)] [] h := by rfl
def zc_Le_decide : List zI := [(14, 0, 0, 0), (80, 9, 87, 2), (999, 0, 0, 0), (999, 0, 0, 0), (73, 13, 17, 0), (999, 0, 0, 0), (999, 0, 0, 0), (14, 0, 0, 0), (80, 9, 87, 2), (999, 0, 0, 0), (999, 0, 0, 0), (110, 0, 90, 223), (999, 0, 0, 0), (999, 0, 0, 0), (61, 20, 34, 0), (999, 0, 0, 0), (999, 0, 0, 0), (14, 0, 0, 0), (80, 9, 93, 3), (999, 0, 0, 0), (999, 0, 0, 0), (73, 22, 43, 0), (999, 0, 0, 0), (999, 0, 0, 0), (14, 0, 0, 0), (80, 9, 93, 3), (999, 0, 0, 0), (999, 0, 0, 0), (110, 0, 90, 223), (999, 0, 0, 0), (999, 0, 0, 0), (60, 12, 43, 0), (999, 0, 0, 0), (999, 0, 0, 0), (14, 0, 0, 0), (1, 120, 0, 0), (999, 0, 0, 0), (82, 9, 79, 10), (999, 0, 0, 0), (999, 0, 0, 0), (72, 26, 66, 0), (999, 0, 0, 0), (999, 0, 0, 0), (14, 0, 0, 0), (80, 9, 93, 3), (999, 0, 0, 0), (999, 0, 0, 0), (73, 13, 60, 0), (999, 0, 0, 0), (999, 0, 0, 0), (14, 0, 0, 0), (80, 9, 93, 3), (999, 0, 0, 0), (999, 0, 0, 0), (110, 0, 38, 222), (999, 0, 0, 0), (999, 0, 0, 0), (60, 9, 66, 0), (999, 0, 0, 0), (999, 0, 0, 0), (14, 0, 0, 0), (1, 114, 0, 0), (999, 0, 0, 0), (82, 9, 79, 10), (999, 0, 0, 0), (999, 0, 0, 0), (133, 0, 0, 0)]
def Le_decide_66 {ρ : Type} (kr : Int → zH → Option ρ) (h : zH) : Option ρ :=
kr 0 h
def Le_decide_34 {ρ : Type} (kr : Int → zH → Option ρ) (a0 : Int) (h : zH) : Option ρ :=
zob h 9 a0 fun p1 =>
zlet (zset h p1 10 120) fun h2 =>
Le_decide_66 kr h2
def Le_decide_60 {ρ : Type} (kr : Int → zH → Option ρ) (a0 : Int) (h : zH) : Option ρ :=
zob h 9 a0 fun p1 =>
zlet (zset h p1 10 114) fun h2 =>
Le_decide_66 kr h2
def Le_decide_43 {ρ : Type} (kr : Int → zH → Option ρ) (a0 : Int) (h : zH) : Option ρ :=
zob h 9 a0 fun p1 =>
if (zhd h p1 3) < 0 then Le_decide_60 kr a0 h
else zob h 9 a0 fun p2 =>
zob h 9 (zhd h p2 3) fun _ =>
La_isOver (zhd h p2 3) h  fun v3 h4 =>
if v3 = 0 then Le_decide_66 kr h4
else Le_decide_60 kr a0 h4
def Le_decide_17 {ρ : Type} (kr : Int → zH → Option ρ) (a0 : Int) (h : zH) : Option ρ :=
zob h 9 a0 fun p1 =>
if (zhd h p1 3) < 0 then Le_decide_43 kr a0 h
else zob h 9 a0 fun p2 =>
zob h 9 (zhd h p2 3) fun _ =>
La_isSpoiled (zhd h p2 3) h  fun v3 h4 =>
if v3 = 0 then Le_decide_43 kr a0 h4
else Le_decide_34 kr a0 h4
def Le_decide {ρ : Type} (a0 : Int) (h : zH) (kr : Int → zH → Option ρ) : Option ρ :=
zob h 9 a0 fun p1 =>
if (zhd h p1 2) < 0 then Le_decide_17 kr a0 h
else zob h 9 a0 fun p2 =>
zob h 9 (zhd h p2 2) fun _ =>
La_isSpoiled (zhd h p2 2) h  fun v3 h4 =>
if v3 = 0 then Le_decide_17 kr a0 h4
else Le_decide_34 kr a0 h4
set_option maxRecDepth 100000 in
theorem qe_Le_decide_66 {ρ : Type} (kr : Int → zH → Option ρ) (h : zH) : Le_decide_66 kr h = zseg zPP true (fun _ _ => none) (zcal []) (zget (999, 0, 0, 0) zc_Le_decide) (zcut [(17, [true]), (34, [true]), (43, [true]), (60, [true]), (66, [false])]) (zorc []) kr (fun _ _ => none) 400 66 [none] [] h := by rfl
set_option maxRecDepth 100000 in
theorem qe_Le_decide_34 {ρ : Type} (kr : Int → zH → Option ρ) (a0 : Int) (h : zH) : Le_decide_34 kr a0 h = zseg zPP true (fun _ _ => none) (zcal []) (zget (999, 0, 0, 0) zc_Le_decide) (zcut [(17, [true]), (34, [true]), (43, [true]), (60, [true]), (66, [false])]) (zorc [(66, [none], [], fun xs h => match xs with
  | [] => Le_decide_66 kr  h
  | _ => none)]) kr (fun _ _ => none) 400 34 [some (2, a0)] [] h := by rfl
set_option maxRecDepth 100000 in
theorem qe_Le_decide_60 {ρ : Type} (kr : Int → zH → Option ρ) (a0 : Int) (h : zH) : Le_decide_60 kr a0 h = zseg zPP true (fun _ _ => none) (zcal []) (zget (999, 0, 0, 0) zc_Le_decide) (zcut [(17, [true]), (34, [true]), (43, [true]), (60, [true]), (66, [false])]) (zorc [(66, [none], [], fun xs h => match xs with
  | [] => Le_decide_66 kr  h
  | _ => none)]) kr (fun _ _ => none) 400 60 [some (2, a0)] [] h := by rfl
set_option maxRecDepth 100000 in
theorem qe_Le_decide_43 {ρ : Type} (kr : Int → zH → Option ρ) (a0 : Int) (h : zH) : Le_decide_43 kr a0 h = zseg zPP true (fun _ _ => none) (zcal [(222, [none], fun xs h kr kt => match xs with
  | [x0] => La_isOver x0 h kr
  | _ => none)]) (zget (999, 0, 0, 0) zc_Le_decide) (zcut [(17, [true]), (34, [true]), (43, [true]), (60, [true]), (66, [false])]) (zorc [(60, [some (2, none)], [], fun xs h => match xs with
  | [a0] => Le_decide_60 kr a0 h
  | _ => none), (66, [none], [], fun xs h => match xs with
  | [] => Le_decide_66 kr  h
  | _ => none)]) kr (fun _ _ => none) 400 43 [some (2, a0)] [] h := by rfl
set_option maxRecDepth 100000 in
theorem qe_Le_decide_17 {ρ : Type} (kr : Int → zH → Option ρ) (a0 : Int) (h : zH) : Le_decide_17 kr a0 h = zseg zPP true (fun _ _ => none) (zcal [(223, [none], fun xs h kr kt => match xs with
  | [x0] => La_isSpoiled x0 h kr
  | _ => none)]) (zget (999, 0, 0, 0) zc_Le_decide) (zcut [(17, [true]), (34, [true]), (43, [true]), (60, [true]), (66, [false])]) (zorc [(34, [some (2, none)], [], fun xs h => match xs with
  | [a0] => Le_decide_34 kr a0 h
  | _ => none), (43, [some (2, none)], [], fun xs h => match xs with
  | [a0] => Le_decide_43 kr a0 h
  | _ => none)]) kr (fun _ _ => none) 400 17 [some (2, a0)] [] h := by rfl
set_option maxRecDepth 100000 in
theorem qe_Le_decide {ρ : Type} (kr : Int → zH → Option ρ) (a0 : Int) (h : zH) : Le_decide a0 h kr = zseg zPP true (fun _ _ => none) (zcal [(223, [none], fun xs h kr kt => match xs with
  | [x0] => La_isSpoiled x0 h kr
  | _ => none)]) (zget (999, 0, 0, 0) zc_Le_decide) (zcut [(17, [true]), (34, [true]), (43, [true]), (60, [true]), (66, [false])]) (zorc [(17, [some (2, none)], [], fun xs h => match xs with
  | [a0] => Le_decide_17 kr a0 h
  | _ => none), (34, [some (2, none)], [], fun xs h => match xs with
  | [a0] => Le_decide_34 kr a0 h
  | _ => none)]) kr (fun _ _ => none) 400 0 [some (2, a0)] [] h := by rfl
def zc_Le_startIn : List zI := [(0, 0, 0, 0), (16, 0, 2, 0), (10, 0, 2, 0), (14, 0, 0, 0), (80, 1, 31, 3), (999, 0, 0, 0), (999, 0, 0, 0), (69, 55, 62, 0), (999, 0, 0, 0), (999, 0, 0, 0), (14, 0, 0, 0), (80, 1, 19, 1), (999, 0, 0, 0), (999, 0, 0, 0), (10, 0, 2, 0), (94, 0, 0, 9), (20, 0, 3, 0), (14, 0, 3, 0), (80, 9, 52, 1), (999, 0, 0, 0), (999, 0, 0, 0), (10, 0, 1, 0), (67, 34, 56, 0), (999, 0, 0, 0), (999, 0, 0, 0), (14, 0, 3, 0), (110, 0, 38, 222), (999, 0, 0, 0), (999, 0, 0, 0), (60, 6, 35, 0), (999, 0, 0, 0), (999, 0, 0, 0), (72, 24, 56, 0), (999, 0, 0, 0), (999, 0, 0, 0), (14, 0, 3, 0), (80, 9, 79, 10), (999, 0, 0, 0), (999, 0, 0, 0), (1, 113, 0, 0), (999, 0, 0, 0), (67, 7, 48, 0), (999, 0, 0, 0), (999, 0, 0, 0), (14, 0, 3, 0), (113, 0, 83, 241), (999, 0, 0, 0), (999, 0, 0, 0), (14, 0, 3, 0), (110, 0, 38, 222), (999, 0, 0, 0), (999, 0, 0, 0), (61, 4, 56, 0), (999, 0, 0, 0), (999, 0, 0, 0), (133, 0, 0, 0), (22, 1, 2, 0), (999, 0, 0, 0), (999, 0, 0, 0), (72, (-57), 2, 0), (999, 0, 0, 0), (999, 0, 0, 0), (133, 0, 0, 0)]
def Le_startIn_56 {ρ : Type} (kr : Int → zH → Option ρ) (r2 : Int → Int → Int → zH → Option ρ) (a0 a1 a2 : Int) (h : zH) : Option ρ :=
r2 a0 a1 (wr (a2 + 1)) h
def Le_startIn_48 {ρ : Type} (kr : Int → zH → Option ρ) (r2 : Int → Int → Int → zH → Option ρ) (a0 a1 a2 a3 : Int) (h : zH) : Option ρ :=
zob h 9 a3 fun _ =>
La_isOver a3 h  fun v1 h2 =>
if v1 = 0 then kr 0 h2
else Le_startIn_56 kr r2 a0 a1 a2 h2
def Le_startIn_2b {ρ : Type} (kr : Int → zH → Option ρ) (r2 : Int → Int → Int → zH → Option ρ) (a0 a1 a2 : Int) (h : zH) : Option ρ :=
zob h 1 a0 fun p1 =>
if a2 < (zhd h p1 3) then (zob h 1 a0 fun p2 =>
zob h 39 (zhd h p2 1) fun p4 =>
zix (zhl h p4) a2 fun j3 =>
zob h 9 (zhd h p4 j3) fun p5 =>
if (zhd h p5 1) = a1 then (zob h 9 (zhd h p4 j3) fun _ =>
La_isOver (zhd h p4 j3) h  fun v6 h7 =>
if v6 = 0 then (zob h7 9 (zhd h p4 j3) fun p8 =>
if (zhd h7 p8 10) = 113 then (Le_decide (zhd h p4 j3) h7  fun _ h10 =>
Le_startIn_48 kr r2 a0 a1 a2 (zhd h p4 j3) h10)
else Le_startIn_48 kr r2 a0 a1 a2 (zhd h p4 j3) h7)
else Le_startIn_56 kr r2 a0 a1 a2 h7)
else Le_startIn_56 kr r2 a0 a1 a2 h)
else kr 0 h
def Le_startIn_2 {ρ : Type} (kr : Int → zH → Option ρ) : Int → Int → Int → zH → Option ρ := zit (fun _ _ _ _ => none) (Le_startIn_2b kr) zN
def Le_startIn {ρ : Type} (a0 a1 : Int) (h : zH) (kr : Int → zH → Option ρ) : Option ρ :=
Le_startIn_2 kr a0 a1 0 h
set_option maxRecDepth 100000 in
theorem qe_Le_startIn_56 {ρ : Type} (kr : Int → zH → Option ρ) (r2 : Int → Int → Int → zH → Option ρ) (a0 a1 a2 : Int) (h : zH) : Le_startIn_56 kr r2 a0 a1 a2 h = zseg zPP true (fun _ _ => none) (zcal []) (zget (999, 0, 0, 0) zc_Le_startIn) (zcut [(2, [true, true, true, false]), (48, [true, true, true, true]), (56, [true, true, true, false])]) (zorc [(2, [some (2, none), some (0, none), some (0, none), none], [], fun xs h => match xs with
  | [a0, a1, a2] => r2 a0 a1 a2 h
  | _ => none)]) kr (fun _ _ => none) 400 56 [some (2, a0), some (0, a1), some (0, a2), none] [] h := by rfl
set_option maxRecDepth 100000 in
theorem qe_Le_startIn_48 {ρ : Type} (kr : Int → zH → Option ρ) (r2 : Int → Int → Int → zH → Option ρ) (a0 a1 a2 a3 : Int) (h : zH) : Le_startIn_48 kr r2 a0 a1 a2 a3 h = zseg zPP true (fun _ _ => none) (zcal [(222, [none], fun xs h kr kt => match xs with
  | [x0] => La_isOver x0 h kr
  | _ => none)]) (zget (999, 0, 0, 0) zc_Le_startIn) (zcut [(2, [true, true, true, false]), (48, [true, true, true, true]), (56, [true, true, true, false])]) (zorc [(56, [some (2, none), some (0, none), some (0, none), none], [], fun xs h => match xs with
  | [a0, a1, a2] => Le_startIn_56 kr r2 a0 a1 a2 h
  | _ => none)]) kr (fun _ _ => none) 400 48 [some (2, a0), some (0, a1), some (0, a2), some (2, a3)] [] h := by rfl
set_option maxRecDepth 100000 in
theorem qe_Le_startIn_2b {ρ : Type} (kr : Int → zH → Option ρ) (r2 : Int → Int → Int → zH → Option ρ) (a0 a1 a2 : Int) (h : zH) : Le_startIn_2b kr r2 a0 a1 a2 h = zseg zPP true (fun _ _ => none) (zcal [(222, [none], fun xs h kr kt => match xs with
  | [x0] => La_isOver x0 h kr
  | _ => none), (241, [none], fun xs h kr kt => match xs with
  | [x0] => Le_decide x0 h kr
  | _ => none)]) (zget (999, 0, 0, 0) zc_Le_startIn) (zcut [(2, [true, true, true, false]), (48, [true, true, true, true]), (56, [true, true, true, false])]) (zorc [(48, [some (2, none), some (0, none), some (0, none), some (2, none)], [], fun xs h => match xs with
  | [a0, a1, a2, a3] => Le_startIn_48 kr r2 a0 a1 a2 a3 h
  | _ => none), (56, [some (2, none), some (0, none), some (0, none), none], [], fun xs h => match xs with
  | [a0, a1, a2] => Le_startIn_56 kr r2 a0 a1 a2 h
  | _ => none)]) kr (fun _ _ => none) 400 2 [some (2, a0), some (0, a1), some (0, a2), none] [] h := by rfl
set_option maxRecDepth 100000 in
theorem qe_Le_startIn {ρ : Type} (kr : Int → zH → Option ρ) (a0 a1 : Int) (h : zH) : Le_startIn a0 a1 h kr = zseg zPP true (fun _ _ => none) (zcal []) (zget (999, 0, 0, 0) zc_Le_startIn) (zcut [(2, [true, true, true, false]), (48, [true, true, true, true]), (56, [true, true, true, false])]) (zorc [(2, [some (2, none), some (0, none), some (0, none), none], [], fun xs h => match xs with
  | [a0, a1, a2] => Le_startIn_2 kr a0 a1 a2 h
  | _ => none)]) kr (fun _ _ => none) 400 0 [some (2, a0), some (0, a1), none, none] [] h := by rfl
def zc_Le_startQueued : List zI := [(0, 0, 0, 0), (16, 0, 1, 0), (10, 0, 1, 0), (0, 2, 0, 0), (69, 14, 18, 0), (999, 0, 0, 0), (999, 0, 0, 0), (14, 0, 0, 0), (10, 0, 1, 0), (110, 0, 71, 240), (999, 0, 0, 0), (999, 0, 0, 0), (22, 1, 1, 0), (999, 0, 0, 0), (999, 0, 0, 0), (72, (-13), 2, 0), (999, 0, 0, 0), (999, 0, 0, 0), (0, 0, 0, 0), (16, 0, 1, 0), (10, 0, 1, 0), (14, 0, 0, 0), (80, 1, 31, 3), (999, 0, 0, 0), (999, 0, 0, 0), (69, 46, 71, 0), (999, 0, 0, 0), (999, 0, 0, 0), (14, 0, 0, 0), (80, 1, 19, 1), (999, 0, 0, 0), (999, 0, 0, 0), (10, 0, 1, 0), (94, 0, 0, 9), (80, 9, 75, 4), (999, 0, 0, 0), (999, 0, 0, 0), (73, 28, 65, 0), (999, 0, 0, 0), (999, 0, 0, 0), (14, 0, 0, 0), (80, 1, 19, 1), (999, 0, 0, 0), (999, 0, 0, 0), (10, 0, 1, 0), (94, 0, 0, 9), (80, 9, 79, 10), (999, 0, 0, 0), (999, 0, 0, 0), (1, 113, 0, 0), (999, 0, 0, 0), (67, 14, 65, 0), (999, 0, 0, 0), (999, 0, 0, 0), (14, 0, 0, 0), (80, 1, 19, 1), (999, 0, 0, 0), (999, 0, 0, 0), (10, 0, 1, 0), (94, 0, 0, 9), (1, 114, 0, 0), (999, 0, 0, 0), (82, 9, 79, 10), (999, 0, 0, 0), (999, 0, 0, 0), (22, 1, 1, 0), (999, 0, 0, 0), (999, 0, 0, 0), (72, (-48), 20, 0), (999, 0, 0, 0), (999, 0, 0, 0), (133, 0, 0, 0)]
def Le_startQueued_65 {ρ : Type} (kr : Int → zH → Option ρ) (r20 : Int → Int → zH → Option ρ) (a0 a1 : Int) (h : zH) : Option ρ :=
r20 a0 (wr (a1 + 1)) h
def Le_startQueued_20b {ρ : Type} (kr : Int → zH → Option ρ) (r20 : Int → Int → zH → Option ρ) (a0 a1 : Int) (h : zH) : Option ρ :=
zob h 1 a0 fun p1 =>
if a1 < (zhd h p1 3) then (zob h 1 a0 fun p2 =>
zob h 39 (zhd h p2 1) fun p4 =>
zix (zhl h p4) a1 fun j3 =>
zob h 9 (zhd h p4 j3) fun p5 =>
if (zhd h p5 4) < 0 then Le_startQueued_65 kr r20 a0 a1 h
else zob h 1 a0 fun p6 =>
zob h 39 (zhd h p6 1) fun p8 =>
zix (zhl h p8) a1 fun j7 =>
zob h 9 (zhd h p8 j7) fun p9 =>
if (zhd h p9 10) = 113 then (zob h 1 a0 fun p10 =>
zob h 39 (zhd h p10 1) fun p12 =>
zix (zhl h p12) a1 fun j11 =>
zob h 9 (zhd h p12 j11) fun p13 =>
zlet (zset h p13 10 114) fun h14 =>
Le_startQueued_65 kr r20 a0 a1 h14)
else Le_startQueued_65 kr r20 a0 a1 h)
else kr 0 h
def Le_startQueued_20 {ρ : Type} (kr : Int → zH → Option ρ) : Int → Int → zH → Option ρ := zit (fun _ _ _ => none) (Le_startQueued_20b kr) zN
def Le_startQueued_2b {ρ : Type} (kr : Int → zH → Option ρ) (r2 : Int → Int → zH → Option ρ) (a0 a1 : Int) (h : zH) : Option ρ :=
if a1 < 2 then (zob h 1 a0 fun _ =>
Le_startIn a0 a1 h  fun _ h2 =>
r2 a0 (wr (a1 + 1)) h2)
else Le_startQueued_20 kr a0 0 h
def Le_startQueued_2 {ρ : Type} (kr : Int → zH → Option ρ) : Int → Int → zH → Option ρ := zit (fun _ _ _ => none) (Le_startQueued_2b kr) zN
def Le_startQueued {ρ : Type} (a0 : Int) (h : zH) (kr : Int → zH → Option ρ) : Option ρ :=
Le_startQueued_2 kr a0 0 h
set_option maxRecDepth 100000 in
theorem qe_Le_startQueued_65 {ρ : Type} (kr : Int → zH → Option ρ) (r20 : Int → Int → zH → Option ρ) (a0 a1 : Int) (h : zH) : Le_startQueued_65 kr r20 a0 a1 h = zseg zPP true (fun _ _ => none) (zcal []) (zget (999, 0, 0, 0) zc_Le_startQueued) (zcut [(2, [true, true]), (20, [true, true]), (65, [true, true])]) (zorc [(20, [some (2, none), some (0, none)], [], fun xs h => match xs with
  | [a0, a1] => r20 a0 a1 h
  | _ => none)]) kr (fun _ _ => none) 400 65 [some (2, a0), some (0, a1)] [] h := by rfl
set_option maxRecDepth 100000 in
theorem qe_Le_startQueued_20b {ρ : Type} (kr : Int → zH → Option ρ) (r20 : Int → Int → zH → Option ρ) (a0 a1 : Int) (h : zH) : Le_startQueued_20b kr r20 a0 a1 h = zseg zPP true (fun _ _ => none) (zcal []) (zget (999, 0, 0, 0) zc_Le_startQueued) (zcut [(2, [true, true]), (20, [true, true]), (65, [true, true])]) (zorc [(65, [some (2, none), some (0, none)], [], fun xs h => match xs with
  | [a0, a1] => Le_startQueued_65 kr r20 a0 a1 h
  | _ => none)]) kr (fun _ _ => none) 400 20 [some (2, a0), some (0, a1)] [] h := by rfl
set_option maxRecDepth 100000 in
theorem qe_Le_startQueued_2b {ρ : Type} (kr : Int → zH → Option ρ) (r2 : Int → Int → zH → Option ρ) (a0 a1 : Int) (h : zH) : Le_startQueued_2b kr r2 a0 a1 h = zseg zPP true (fun _ _ => none) (zcal [(240, [none, none], fun xs h kr kt => match xs with
  | [x0, x1] => Le_startIn x0 x1 h kr
  | _ => none)]) (zget (999, 0, 0, 0) zc_Le_startQueued) (zcut [(2, [true, true]), (20, [true, true]), (65, [true, true])]) (zorc [(2, [some (2, none), some (0, none)], [], fun xs h => match xs with
  | [a0, a1] => r2 a0 a1 h
  | _ => none), (20, [some (2, none), some (0, none)], [], fun xs h => match xs with
  | [a0, a1] => Le_startQueued_20 kr a0 a1 h
  | _ => none)]) kr (fun _ _ => none) 400 2 [some (2, a0), some (0, a1)] [] h := by rfl
set_option maxRecDepth 100000 in
theorem qe_Le_startQueued {ρ : Type} (kr : Int → zH → Option ρ) (a0 : Int) (h : zH) : Le_startQueued a0 h kr = zseg zPP true (fun _ _ => none) (zcal []) (zget (999, 0, 0, 0) zc_Le_startQueued) (zcut [(2, [true, true]), (20, [true, true]), (65, [true, true])]) (zorc [(2, [some (2, none), some (0, none)], [], fun xs h => match xs with
  | [a0, a1] => Le_startQueued_2 kr a0 a1 h
  | _ => none)]) kr (fun _ _ => none) 400 0 [some (2, a0), none] [] h := by rfl
def zc_Gr_canAct : List zI := [(14, 0, 0, 0), (110, 0, 50, 196), (999, 0, 0, 0), (999, 0, 0, 0), (0, (-1), 0, 0), (66, 15, 20, 0), (999, 0, 0, 0), (999, 0, 0, 0), (10, 0, 1, 0), (14, 0, 0, 0), (80, 11, 61, 6), (999, 0, 0, 0), (999, 0, 0, 0), (68, 7, 20, 0), (999, 0, 0, 0), (999, 0, 0, 0), (0, 1, 0, 0), (72, 4, 21, 0), (999, 0, 0, 0), (999, 0, 0, 0), (0, 0, 0, 0), (130, 0, 1, 0)]
def Gr_canAct_21 {ρ : Type} (kr : Int → zH → Option ρ) (t0 : Int) (h : zH) : Option ρ :=
znar 1 t0 fun x1 => kr x1 h
def Gr_canAct_20 {ρ : Type} (kr : Int → zH → Option ρ) (h : zH) : Option ρ :=
Gr_canAct_21 kr 0 h
def Gr_canAct {ρ : Type} (a0 a1 : Int) (h : zH) (kr : Int → zH → Option ρ) : Option ρ :=
zob h 11 a0 fun _ =>
Gr_leastPlace a0 h  fun v1 h2 =>
if v1 = (-1) then Gr_canAct_20 kr h2
else zob h2 11 a0 fun p3 =>
if a1 < (zhd h2 p3 6) then Gr_canAct_20 kr h2
else Gr_canAct_21 kr 1 h2
set_option maxRecDepth 100000 in
theorem qe_Gr_canAct_21 {ρ : Type} (kr : Int → zH → Option ρ) (t0 : Int) (h : zH) : Gr_canAct_21 kr t0 h = zseg zPP true (fun _ _ => none) (zcal []) (zget (999, 0, 0, 0) zc_Gr_canAct) (zcut [(20, [false, false]), (21, [false, false])]) (zorc []) kr (fun _ _ => none) 400 21 [none, none] [(0, t0)] h := by rfl
set_option maxRecDepth 100000 in
theorem qe_Gr_canAct_20 {ρ : Type} (kr : Int → zH → Option ρ) (h : zH) : Gr_canAct_20 kr h = zseg zPP true (fun _ _ => none) (zcal []) (zget (999, 0, 0, 0) zc_Gr_canAct) (zcut [(20, [false, false]), (21, [false, false])]) (zorc [(21, [none, none], [(0, none)], fun xs h => match xs with
  | [t0] => Gr_canAct_21 kr t0 h
  | _ => none)]) kr (fun _ _ => none) 400 20 [none, none] [] h := by rfl
set_option maxRecDepth 100000 in
theorem qe_Gr_canAct {ρ : Type} (kr : Int → zH → Option ρ) (a0 a1 : Int) (h : zH) : Gr_canAct a0 a1 h kr = zseg zPP true (fun _ _ => none) (zcal [(196, [none], fun xs h kr kt => match xs with
  | [x0] => Gr_leastPlace x0 h kr
  | _ => none)]) (zget (999, 0, 0, 0) zc_Gr_canAct) (zcut [(20, [false, false]), (21, [false, false])]) (zorc [(20, [none, none], [], fun xs h => match xs with
  | [] => Gr_canAct_20 kr  h
  | _ => none), (21, [none, none], [(0, none)], fun xs h => match xs with
  | [t0] => Gr_canAct_21 kr t0 h
  | _ => none)]) kr (fun _ _ => none) 400 0 [some (2, a0), some (0, a1)] [] h := by rfl
def zc_Un_indexOfLast : List zI := [(0, 0, 0, 0), (16, 0, 1, 0), (10, 0, 1, 0), (14, 0, 0, 0), (80, 3, 21, 2), (999, 0, 0, 0), (999, 0, 0, 0), (69, 24, 31, 0), (999, 0, 0, 0), (999, 0, 0, 0), (14, 0, 0, 0), (80, 3, 11, 0), (999, 0, 0, 0), (999, 0, 0, 0), (10, 0, 1, 0), (94, 0, 0, 11), (14, 0, 0, 0), (80, 3, 85, 3), (999, 0, 0, 0), (999, 0, 0, 0), (76, 5, 25, 0), (999, 0, 0, 0), (999, 0, 0, 0), (10, 0, 1, 0), (130, 0, 0, 0), (22, 1, 1, 0), (999, 0, 0, 0), (999, 0, 0, 0), (72, (-26), 2, 0), (999, 0, 0, 0), (999, 0, 0, 0), (0, (-1), 0, 0), (130, 0, 0, 0)]
def Un_indexOfLast_2b {ρ : Type} (kr : Int → zH → Option ρ) (r2 : Int → Int → zH → Option ρ) (a0 a1 : Int) (h : zH) : Option ρ :=
zob h 3 a0 fun p1 =>
if a1 < (zhd h p1 2) then (zob h 3 a0 fun p2 =>
zob h 41 (zhd h p2 0) fun p4 =>
zix (zhl h p4) a1 fun j3 =>
zob h 3 a0 fun p5 =>
if (zhd h p4 j3) = (zhd h p5 3) then kr a1 h
else r2 a0 (wr (a1 + 1)) h)
else kr (-1) h
def Un_indexOfLast_2 {ρ : Type} (kr : Int → zH → Option ρ) : Int → Int → zH → Option ρ := zit (fun _ _ _ => none) (Un_indexOfLast_2b kr) zN
def Un_indexOfLast {ρ : Type} (a0 : Int) (h : zH) (kr : Int → zH → Option ρ) : Option ρ :=
Un_indexOfLast_2 kr a0 0 h
set_option maxRecDepth 100000 in
theorem qe_Un_indexOfLast_2b {ρ : Type} (kr : Int → zH → Option ρ) (r2 : Int → Int → zH → Option ρ) (a0 a1 : Int) (h : zH) : Un_indexOfLast_2b kr r2 a0 a1 h = zseg zPP true (fun _ _ => none) (zcal []) (zget (999, 0, 0, 0) zc_Un_indexOfLast) (zcut [(2, [true, true])]) (zorc [(2, [some (2, none), some (0, none)], [], fun xs h => match xs with
  | [a0, a1] => r2 a0 a1 h
  | _ => none)]) kr (fun _ _ => none) 400 2 [some (2, a0), some (0, a1)] [] h := by rfl
set_option maxRecDepth 100000 in
theorem qe_Un_indexOfLast {ρ : Type} (kr : Int → zH → Option ρ) (a0 : Int) (h : zH) : Un_indexOfLast a0 h kr = zseg zPP true (fun _ _ => none) (zcal []) (zget (999, 0, 0, 0) zc_Un_indexOfLast) (zcut [(2, [true, true])]) (zorc [(2, [some (2, none), some (0, none)], [], fun xs h => match xs with
  | [a0, a1] => Un_indexOfLast_2 kr a0 a1 h
  | _ => none)]) kr (fun _ _ => none) 400 0 [some (2, a0), none] [] h := by rfl
def zc_Un_choose : List zI := [(10, 0, 1, 0), (1, 97, 0, 0), (999, 0, 0, 0), (67, 12, 15, 0), (999, 0, 0, 0), (999, 0, 0, 0), (14, 0, 0, 0), (110, 0, 78, 275), (999, 0, 0, 0), (999, 0, 0, 0), (0, 1, 0, 0), (30, 0, 0, 0), (72, 4, 16, 0), (999, 0, 0, 0), (999, 0, 0, 0), (0, 0, 0, 0), (16, 0, 3, 0), (0, 0, 0, 0), (17, 0, 4, 0), (999, 0, 0, 0), (11, 0, 4, 0), (999, 0, 0, 0), (14, 0, 0, 0), (80, 3, 21, 2), (999, 0, 0, 0), (999, 0, 0, 0), (69, 68, 94, 0), (999, 0, 0, 0), (999, 0, 0, 0), (10, 0, 1, 0), (1, 121, 0, 0), (999, 0, 0, 0), (67, 15, 47, 0), (999, 0, 0, 0), (999, 0, 0, 0), (14, 0, 0, 0), (80, 3, 21, 2), (999, 0, 0, 0), (999, 0, 0, 0), (0, 1, 0, 0), (31, 0, 0, 0), (11, 0, 4, 0), (999, 0, 0, 0), (31, 0, 0, 0), (72, 12, 56, 0), (999, 0, 0, 0), (999, 0, 0, 0), (10, 0, 3, 0), (11, 0, 4, 0), (999, 0, 0, 0), (30, 0, 0, 0), (14, 0, 0, 0), (80, 3, 21, 2), (999, 0, 0, 0), (999, 0, 0, 0), (34, 0, 0, 0), (17, 0, 5, 0), (999, 0, 0, 0), (14, 0, 0, 0), (80, 3, 11, 0), (999, 0, 0, 0), (999, 0, 0, 0), (11, 0, 5, 0), (999, 0, 0, 0), (94, 0, 0, 11), (10, 0, 2, 0), (110, 0, 81, 201), (999, 0, 0, 0), (999, 0, 0, 0), (60, 19, 88, 0), (999, 0, 0, 0), (999, 0, 0, 0), (14, 0, 0, 0), (14, 0, 0, 0), (80, 3, 11, 0), (999, 0, 0, 0), (999, 0, 0, 0), (11, 0, 5, 0), (999, 0, 0, 0), (94, 0, 0, 11), (82, 3, 85, 3), (999, 0, 0, 0), (999, 0, 0, 0), (14, 0, 0, 0), (80, 3, 85, 3), (999, 0, 0, 0), (999, 0, 0, 0), (132, 0, 0, 0), (22, 1, 4, 0), (999, 0, 0, 0), (999, 0, 0, 0), (72, (-71), 20, 0), (999, 0, 0, 0), (999, 0, 0, 0), (7, 0, 0, 0), (132, 0, 0, 0)]
def Un_choose_56 {ρ : Type} (kr : Int → zH → Option ρ) (r20 : Int → Int → Int → Int → Int → zH → Option ρ) (a0 a1 a2 a3 a4 t0 : Int) (h : zH) : Option ρ :=
zob h 3 a0 fun p1 =>
zob h 41 (zhd h p1 0) fun p3 =>
zix (zhl h p3) t0 fun j2 =>
zob h 11 (zhd h p3 j2) fun _ =>
Gr_canAct (zhd h p3 j2) a2 h  fun v4 h5 =>
if v4 = 0 then r20 a0 a1 a2 a3 (wr (a4 + 1)) h5
else zob h5 3 a0 fun p6 =>
zob h5 41 (zhd h5 p6 0) fun p8 =>
zix (zhl h5 p8) t0 fun j7 =>
zob h5 3 a0 fun p9 =>
zlet (zset h5 p9 3 (zhd h5 p8 j7)) fun h10 =>
zob h10 3 a0 fun p11 =>
kr (zhd h10 p11 3) h10
def Un_choose_20b {ρ : Type} (kr : Int → zH → Option ρ) (r20 : Int → Int → Int → Int → Int → zH → Option ρ) (a0 a1 a2 a3 a4 : Int) (h : zH) : Option ρ :=
zob h 3 a0 fun p1 =>
if a4 < (zhd h p1 2) then (if a1 = 121 then (zob h 3 a0 fun p3 =>
Un_choose_56 kr r20 a0 a1 a2 a3 a4 (wr ((wr ((zhd h p3 2) - 1)) - a4)) h)
else zob h 3 a0 fun p2 =>
if zhd h p2 2 = 0 then none else Un_choose_56 kr r20 a0 a1 a2 a3 a4 (Int.tmod (wr (a3 + a4)) (zhd h p2 2)) h)
else kr (-1) h
def Un_choose_20 {ρ : Type} (kr : Int → zH → Option ρ) : Int → Int → Int → Int → Int → zH → Option ρ := zit (fun _ _ _ _ _ _ => none) (Un_choose_20b kr) zN
def Un_choose_16 {ρ : Type} (kr : Int → zH → Option ρ) (a0 a1 a2 t0 : Int) (h : zH) : Option ρ :=
Un_choose_20 kr a0 a1 a2 t0 0 h
def Un_choose {ρ : Type} (a0 a1 a2 : Int) (h : zH) (kr : Int → zH → Option ρ) : Option ρ :=
if a1 = 97 then (zob h 3 a0 fun _ =>
Un_indexOfLast a0 h  fun v1 h2 =>
Un_choose_16 kr a0 a1 a2 (wr (v1 + 1)) h2)
else Un_choose_16 kr a0 a1 a2 0 h
set_option maxRecDepth 100000 in
theorem qe_Un_choose_56 {ρ : Type} (kr : Int → zH → Option ρ) (r20 : Int → Int → Int → Int → Int → zH → Option ρ) (a0 a1 a2 a3 a4 t0 : Int) (h : zH) : Un_choose_56 kr r20 a0 a1 a2 a3 a4 t0 h = zseg zPP true (fun _ _ => none) (zcal [(201, [none, none], fun xs h kr kt => match xs with
  | [x0, x1] => Gr_canAct x0 x1 h kr
  | _ => none)]) (zget (999, 0, 0, 0) zc_Un_choose) (zcut [(16, [true, true, true, false, false, false]), (20, [true, true, true, true, true, false]), (56, [true, true, true, true, true, false])]) (zorc [(20, [some (2, none), some (0, none), some (0, none), some (0, none), some (0, none), none], [], fun xs h => match xs with
  | [a0, a1, a2, a3, a4] => r20 a0 a1 a2 a3 a4 h
  | _ => none)]) kr (fun _ _ => none) 400 56 [some (2, a0), some (0, a1), some (0, a2), some (0, a3), some (0, a4), none] [(0, t0)] h := by rfl
set_option maxRecDepth 100000 in
theorem qe_Un_choose_20b {ρ : Type} (kr : Int → zH → Option ρ) (r20 : Int → Int → Int → Int → Int → zH → Option ρ) (a0 a1 a2 a3 a4 : Int) (h : zH) : Un_choose_20b kr r20 a0 a1 a2 a3 a4 h = zseg zPP true (fun _ _ => none) (zcal []) (zget (999, 0, 0, 0) zc_Un_choose) (zcut [(16, [true, true, true, false, false, false]), (20, [true, true, true, true, true, false]), (56, [true, true, true, true, true, false])]) (zorc [(56, [some (2, none), some (0, none), some (0, none), some (0, none), some (0, none), none], [(0, none)], fun xs h => match xs with
  | [a0, a1, a2, a3, a4, t0] => Un_choose_56 kr r20 a0 a1 a2 a3 a4 t0 h
  | _ => none)]) kr (fun _ _ => none) 400 20 [some (2, a0), some (0, a1), some (0, a2), some (0, a3), some (0, a4), none] [] h := by rfl
set_option maxRecDepth 100000 in
theorem qe_Un_choose_16 {ρ : Type} (kr : Int → zH → Option ρ) (a0 a1 a2 t0 : Int) (h : zH) : Un_choose_16 kr a0 a1 a2 t0 h = zseg zPP true (fun _ _ => none) (zcal []) (zget (999, 0, 0, 0) zc_Un_choose) (zcut [(16, [true, true, true, false, false, false]), (20, [true, true, true, true, true, false]), (56, [true, true, true, true, true, false])]) (zorc [(20, [some (2, none), some (0, none), some (0, none), some (0, none), some (0, none), none], [], fun xs h => match xs with
  | [a0, a1, a2, a3, a4] => Un_choose_20 kr a0 a1 a2 a3 a4 h
  | _ => none)]) kr (fun _ _ => none) 400 16 [some (2, a0), some (0, a1), some (0, a2), none, none, none] [(0, t0)] h := by rfl
set_option maxRecDepth 100000 in
theorem qe_Un_choose {ρ : Type} (kr : Int → zH → Option ρ) (a0 a1 a2 : Int) (h : zH) : Un_choose a0 a1 a2 h kr = zseg zPP true (fun _ _ => none) (zcal [(275, [none], fun xs h kr kt => match xs with
  | [x0] => Un_indexOfLast x0 h kr
  | _ => none)]) (zget (999, 0, 0, 0) zc_Un_choose) (zcut [(16, [true, true, true, false, false, false]), (20, [true, true, true, true, true, false]), (56, [true, true, true, true, true, false])]) (zorc [(16, [some (2, none), some (0, none), some (0, none), none, none, none], [(0, none)], fun xs h => match xs with
  | [a0, a1, a2, t0] => Un_choose_16 kr a0 a1 a2 t0 h
  | _ => none)]) kr (fun _ _ => none) 400 0 [some (2, a0), some (0, a1), some (0, a2), none, none, none] [] h := by rfl
def zc_Co_letCycleCome : List zI := [(14, 0, 0, 0), (80, 2, 39, 0), (999, 0, 0, 0), (999, 0, 0, 0), (110, 0, 43, 239), (999, 0, 0, 0), (999, 0, 0, 0), (14, 0, 0, 0), (110, 0, 48, 172), (999, 0, 0, 0), (999, 0, 0, 0), (14, 0, 0, 0), (110, 0, 51, 173), (999, 0, 0, 0), (999, 0, 0, 0), (0, 0, 0, 0), (16, 0, 1, 0), (10, 0, 1, 0), (0, 2, 0, 0), (69, 53, 72, 0), (999, 0, 0, 0), (999, 0, 0, 0), (14, 0, 0, 0), (80, 2, 18, 2), (999, 0, 0, 0), (999, 0, 0, 0), (10, 0, 1, 0), (94, 0, 0, 3), (14, 0, 0, 0), (80, 2, 29, 5), (999, 0, 0, 0), (999, 0, 0, 0), (14, 0, 0, 0), (80, 2, 54, 4), (999, 0, 0, 0), (999, 0, 0, 0), (110, 0, 58, 274), (999, 0, 0, 0), (999, 0, 0, 0), (20, 0, 2, 0), (14, 0, 2, 0), (73, 25, 66, 0), (999, 0, 0, 0), (999, 0, 0, 0), (14, 0, 0, 0), (14, 0, 0, 0), (80, 2, 18, 2), (999, 0, 0, 0), (999, 0, 0, 0), (10, 0, 1, 0), (94, 0, 0, 3), (14, 0, 2, 0), (110, 0, 62, 177), (999, 0, 0, 0), (999, 0, 0, 0), (60, 11, 66, 0), (999, 0, 0, 0), (999, 0, 0, 0), (14, 0, 0, 0), (14, 0, 2, 0), (80, 11, 66, 0), (999, 0, 0, 0), (999, 0, 0, 0), (110, 0, 72, 188), (999, 0, 0, 0), (999, 0, 0, 0), (22, 1, 1, 0), (999, 0, 0, 0), (999, 0, 0, 0), (72, (-52), 17, 0), (999, 0, 0, 0), (999, 0, 0, 0), (14, 0, 0, 0), (80, 2, 54, 4), (999, 0, 0, 0), (999, 0, 0, 0), (0, 3, 0, 0), (34, 0, 0, 0), (0, 2, 0, 0), (67, 7, 86, 0), (999, 0, 0, 0), (999, 0, 0, 0), (14, 0, 0, 0), (110, 0, 76, 176), (999, 0, 0, 0), (999, 0, 0, 0), (14, 0, 0, 0), (50, 0, 0, 0), (80, 2, 54, 4), (999, 0, 0, 0), (999, 0, 0, 0), (0, 1, 0, 0), (30, 0, 0, 0), (82, 2, 54, 4), (999, 0, 0, 0), (999, 0, 0, 0), (133, 0, 0, 0)]
def Co_letCycleCome_66 {ρ : Type} (kr : Int → zH → Option ρ) (r17 : Int → Int → zH → Option ρ) (a0 a1 : Int) (h : zH) : Option ρ :=
r17 a0 (wr (a1 + 1)) h
def Co_letCycleCome_86 {ρ : Type} (kr : Int → zH → Option ρ) (a0 : Int) (h : zH) : Option ρ :=
zob h 2 a0 fun p1 =>
zob h 2 a0 fun p2 =>
zlet (zset h p2 4 (wr ((zhd h p1 4) + 1))) fun h3 =>
kr 0 h3
def Co_letCycleCome_17b {ρ : Type} (kr : Int → zH → Option ρ) (r17 : Int → Int → zH → Option ρ) (a0 a1 : Int) (h : zH) : Option ρ :=
if a1 < 2 then (zob h 2 a0 fun p4 =>
zob h 33 (zhd h p4 2) fun p6 =>
zix (zhl h p6) a1 fun j5 =>
zob h 2 a0 fun p7 =>
zob h 2 a0 fun p8 =>
zob h 3 (zhd h p6 j5) fun _ =>
Un_choose (zhd h p6 j5) (zhd h p7 5) (zhd h p8 4) h  fun v9 h10 =>
if v9 < 0 then Co_letCycleCome_66 kr r17 a0 a1 h10
else zob h10 2 a0 fun p11 =>
zob h10 33 (zhd h10 p11 2) fun p13 =>
zix (zhl h10 p13) a1 fun j12 =>
zob h10 2 a0 fun _ =>
Co_carryOut a0 (zhd h10 p13 j12) v9 h10  fun v14 h15 =>
if v14 = 0 then Co_letCycleCome_66 kr r17 a0 a1 h15
else zob h15 11 v9 fun p16 =>
zob h15 2 a0 fun _ =>
Co_settle a0 (zhd h15 p16 0) h15  fun _ h18 =>
Co_letCycleCome_66 kr r17 a0 a1 h18)
else zob h 2 a0 fun p1 =>
if (Int.tmod (zhd h p1 4) 3) = 2 then (zob h 2 a0 fun _ =>
Co_writeFirstOfBuffers a0 h  fun _ h3 =>
Co_letCycleCome_86 kr a0 h3)
else Co_letCycleCome_86 kr a0 h
def Co_letCycleCome_17 {ρ : Type} (kr : Int → zH → Option ρ) : Int → Int → zH → Option ρ := zit (fun _ _ _ => none) (Co_letCycleCome_17b kr) zN
def Co_letCycleCome {ρ : Type} (a0 : Int) (h : zH) (kr : Int → zH → Option ρ) : Option ρ :=
zob h 2 a0 fun p1 =>
zob h 1 (zhd h p1 0) fun _ =>
Le_startQueued (zhd h p1 0) h  fun _ h3 =>
zob h3 2 a0 fun _ =>
Co_moveCopies a0 h3  fun _ h5 =>
zob h5 2 a0 fun _ =>
Co_giveBlocks a0 h5  fun _ h7 =>
Co_letCycleCome_17 kr a0 0 h7
set_option maxRecDepth 100000 in
theorem qe_Co_letCycleCome_66 {ρ : Type} (kr : Int → zH → Option ρ) (r17 : Int → Int → zH → Option ρ) (a0 a1 : Int) (h : zH) : Co_letCycleCome_66 kr r17 a0 a1 h = zseg zPP true (fun _ _ => none) (zcal []) (zget (999, 0, 0, 0) zc_Co_letCycleCome) (zcut [(17, [true, true, false]), (66, [true, true, false]), (86, [true, false, false])]) (zorc [(17, [some (2, none), some (0, none), none], [], fun xs h => match xs with
  | [a0, a1] => r17 a0 a1 h
  | _ => none)]) kr (fun _ _ => none) 400 66 [some (2, a0), some (0, a1), none] [] h := by rfl
set_option maxRecDepth 100000 in
theorem qe_Co_letCycleCome_86 {ρ : Type} (kr : Int → zH → Option ρ) (a0 : Int) (h : zH) : Co_letCycleCome_86 kr a0 h = zseg zPP true (fun _ _ => none) (zcal []) (zget (999, 0, 0, 0) zc_Co_letCycleCome) (zcut [(17, [true, true, false]), (66, [true, true, false]), (86, [true, false, false])]) (zorc []) kr (fun _ _ => none) 400 86 [some (2, a0), none, none] [] h := by rfl
set_option maxRecDepth 100000 in
theorem qe_Co_letCycleCome_17b {ρ : Type} (kr : Int → zH → Option ρ) (r17 : Int → Int → zH → Option ρ) (a0 a1 : Int) (h : zH) : Co_letCycleCome_17b kr r17 a0 a1 h = zseg zPP true (fun _ _ => none) (zcal [(176, [none], fun xs h kr kt => match xs with
  | [x0] => Co_writeFirstOfBuffers x0 h kr
  | _ => none), (177, [none, none, none], fun xs h kr kt => match xs with
  | [x0, x1, x2] => Co_carryOut x0 x1 x2 h kr
  | _ => none), (188, [none, none], fun xs h kr kt => match xs with
  | [x0, x1] => Co_settle x0 x1 h kr
  | _ => none), (274, [none, none, none], fun xs h kr kt => match xs with
  | [x0, x1, x2] => Un_choose x0 x1 x2 h kr
  | _ => none)]) (zget (999, 0, 0, 0) zc_Co_letCycleCome) (zcut [(17, [true, true, false]), (66, [true, true, false]), (86, [true, false, false])]) (zorc [(66, [some (2, none), some (0, none), none], [], fun xs h => match xs with
  | [a0, a1] => Co_letCycleCome_66 kr r17 a0 a1 h
  | _ => none), (86, [some (2, none), none, none], [], fun xs h => match xs with
  | [a0] => Co_letCycleCome_86 kr a0 h
  | _ => none)]) kr (fun _ _ => none) 400 17 [some (2, a0), some (0, a1), none] [] h := by rfl
set_option maxRecDepth 100000 in
theorem qe_Co_letCycleCome {ρ : Type} (kr : Int → zH → Option ρ) (a0 : Int) (h : zH) : Co_letCycleCome a0 h kr = zseg zPP true (fun _ _ => none) (zcal [(172, [none], fun xs h kr kt => match xs with
  | [x0] => Co_moveCopies x0 h kr
  | _ => none), (173, [none], fun xs h kr kt => match xs with
  | [x0] => Co_giveBlocks x0 h kr
  | _ => none), (239, [none], fun xs h kr kt => match xs with
  | [x0] => Le_startQueued x0 h kr
  | _ => none)]) (zget (999, 0, 0, 0) zc_Co_letCycleCome) (zcut [(17, [true, true, false]), (66, [true, true, false]), (86, [true, false, false])]) (zorc [(17, [some (2, none), some (0, none), none], [], fun xs h => match xs with
  | [a0, a1] => Co_letCycleCome_17 kr a0 a1 h
  | _ => none)]) kr (fun _ _ => none) 400 0 [some (2, a0), none, none] [] h := by rfl
def zc_X_step : List zI := [(10, 0, 1, 0), (0, 1, 0, 0), (1, 100, 0, 0), (999, 0, 0, 0), (113, 0, 32, 48), (999, 0, 0, 0), (999, 0, 0, 0), (61, 11, 18, 0), (999, 0, 0, 0), (999, 0, 0, 0), (134, 38, 36, 1), (999, 0, 0, 0), (999, 0, 0, 0), (999, 0, 0, 0), (999, 0, 0, 0), (999, 0, 0, 0), (999, 0, 0, 0), (999, 0, 0, 0), (14, 0, 0, 0), (80, 0, 21, 1), (999, 0, 0, 0), (999, 0, 0, 0), (80, 2, 141, 3), (999, 0, 0, 0), (999, 0, 0, 0), (80, 4, 145, 0), (999, 0, 0, 0), (999, 0, 0, 0), (18, 0, 2, 0), (0, 0, 0, 0), (17, 0, 4, 0), (999, 0, 0, 0), (11, 0, 4, 0), (999, 0, 0, 0), (10, 0, 1, 0), (69, 16, 51, 0), (999, 0, 0, 0), (999, 0, 0, 0), (14, 0, 0, 0), (80, 0, 21, 1), (999, 0, 0, 0), (999, 0, 0, 0), (110, 0, 151, 171), (999, 0, 0, 0), (999, 0, 0, 0), (22, 1, 4, 0), (999, 0, 0, 0), (999, 0, 0, 0), (72, (-16), 32, 0), (999, 0, 0, 0), (999, 0, 0, 0), (14, 0, 0, 0), (80, 0, 21, 1), (999, 0, 0, 0), (999, 0, 0, 0), (80, 2, 141, 3), (999, 0, 0, 0), (999, 0, 0, 0), (80, 4, 145, 0), (999, 0, 0, 0), (999, 0, 0, 0), (12, 0, 2, 0), (46, 0, 0, 0), (43, 0, 0, 0), (130, 0, 0, 0)]
def X_step_32b {ρ : Type} (kr : Int → zH → Option ρ) (kt : Nat → zH → Option ρ) (r32 : Int → Int → Int → Int → zH → Option ρ) (a0 a1 a2 a4 : Int) (h : zH) : Option ρ :=
if a4 < a1 then (zob h 0 a0 fun p4 =>
zob h 2 (zhd h p4 1) fun _ =>
Co_letCycleCome (zhd h p4 1) h  fun _ h6 =>
r32 a0 a1 a2 (wr (a4 + 1)) h6)
else zob h 0 a0 fun p1 =>
zob h 2 (zhd h p1 1) fun p2 =>
zob h 4 (zhd h p2 3) fun p3 =>
kr (wr (wrl ((zhd h p3 0) - a2))) h
def X_step_32 {ρ : Type} (kr : Int → zH → Option ρ) (kt : Nat → zH → Option ρ) : Int → Int → Int → Int → zH → Option ρ := zit (fun _ _ _ _ _ => none) (X_step_32b kr kt) zN
def X_step {ρ : Type} (a0 a1 : Int) (h : zH) (kt : Nat → zH → Option ρ) (kr : Int → zH → Option ρ) : Option ρ :=
X_isWithin a1 1 100 h  fun v1 h2 =>
if v1 = 0 then zlet (zthrown h2) fun h6 => kt 1 h6
else zob h2 0 a0 fun p3 =>
zob h2 2 (zhd h2 p3 1) fun p4 =>
zob h2 4 (zhd h2 p4 3) fun p5 =>
X_step_32 kr kt a0 a1 (zhd h2 p5 0) 0 h2
set_option maxRecDepth 100000 in
theorem qe_X_step_32b {ρ : Type} (kr : Int → zH → Option ρ) (kt : Nat → zH → Option ρ) (r32 : Int → Int → Int → Int → zH → Option ρ) (a0 a1 a2 a4 : Int) (h : zH) : X_step_32b kr kt r32 a0 a1 a2 a4 h = zseg zPP true (fun _ _ => none) (zcal [(171, [none], fun xs h kr kt => match xs with
  | [x0] => Co_letCycleCome x0 h kr
  | _ => none)]) (zget (999, 0, 0, 0) zc_X_step) (zcut [(32, [true, true, true, false, true])]) (zorc [(32, [some (2, none), some (0, none), some (1, none), none, some (0, none)], [], fun xs h => match xs with
  | [a0, a1, a2, a4] => r32 a0 a1 a2 a4 h
  | _ => none)]) kr kt 400 32 [some (2, a0), some (0, a1), some (1, a2), none, some (0, a4)] [] h := by rfl
set_option maxRecDepth 100000 in
theorem qe_X_step {ρ : Type} (kr : Int → zH → Option ρ) (kt : Nat → zH → Option ρ) (a0 a1 : Int) (h : zH) : X_step a0 a1 h kt kr = zseg zPP true (fun _ _ => none) (zcal [(48, [none, none, none], fun xs h kr kt => match xs with
  | [x0, x1, x2] => X_isWithin x0 x1 x2 h kr
  | _ => none)]) (zget (999, 0, 0, 0) zc_X_step) (zcut [(32, [true, true, true, false, true])]) (zorc [(32, [some (2, none), some (0, none), some (1, none), none, some (0, none)], [], fun xs h => match xs with
  | [a0, a1, a2, a4] => X_step_32 kr kt a0 a1 a2 a4 h
  | _ => none)]) kr kt 400 0 [some (2, a0), some (0, a1), none, none, none] [] h := by rfl
def zc_Le_isAllOver : List zI := [(0, 0, 0, 0), (16, 0, 1, 0), (10, 0, 1, 0), (14, 0, 0, 0), (80, 1, 31, 3), (999, 0, 0, 0), (999, 0, 0, 0), (69, 23, 30, 0), (999, 0, 0, 0), (999, 0, 0, 0), (14, 0, 0, 0), (80, 1, 19, 1), (999, 0, 0, 0), (999, 0, 0, 0), (10, 0, 1, 0), (94, 0, 0, 9), (110, 0, 38, 222), (999, 0, 0, 0), (999, 0, 0, 0), (61, 5, 24, 0), (999, 0, 0, 0), (999, 0, 0, 0), (0, 0, 0, 0), (130, 0, 1, 0), (22, 1, 1, 0), (999, 0, 0, 0), (999, 0, 0, 0), (72, (-25), 2, 0), (999, 0, 0, 0), (999, 0, 0, 0), (0, 1, 0, 0), (130, 0, 1, 0)]
def Le_isAllOver_2b {ρ : Type} (kr : Int → zH → Option ρ) (r2 : Int → Int → zH → Option ρ) (a0 a1 : Int) (h : zH) : Option ρ :=
zob h 1 a0 fun p1 =>
if a1 < (zhd h p1 3) then (zob h 1 a0 fun p2 =>
zob h 39 (zhd h p2 1) fun p4 =>
zix (zhl h p4) a1 fun j3 =>
zob h 9 (zhd h p4 j3) fun _ =>
La_isOver (zhd h p4 j3) h  fun v5 h6 =>
if v5 = 0 then kr 0 h6
else r2 a0 (wr (a1 + 1)) h6)
else kr 1 h
def Le_isAllOver_2 {ρ : Type} (kr : Int → zH → Option ρ) : Int → Int → zH → Option ρ := zit (fun _ _ _ => none) (Le_isAllOver_2b kr) zN
def Le_isAllOver {ρ : Type} (a0 : Int) (h : zH) (kr : Int → zH → Option ρ) : Option ρ :=
Le_isAllOver_2 kr a0 0 h
set_option maxRecDepth 100000 in
theorem qe_Le_isAllOver_2b {ρ : Type} (kr : Int → zH → Option ρ) (r2 : Int → Int → zH → Option ρ) (a0 a1 : Int) (h : zH) : Le_isAllOver_2b kr r2 a0 a1 h = zseg zPP true (fun _ _ => none) (zcal [(222, [none], fun xs h kr kt => match xs with
  | [x0] => La_isOver x0 h kr
  | _ => none)]) (zget (999, 0, 0, 0) zc_Le_isAllOver) (zcut [(2, [true, true])]) (zorc [(2, [some (2, none), some (0, none)], [], fun xs h => match xs with
  | [a0, a1] => r2 a0 a1 h
  | _ => none)]) kr (fun _ _ => none) 400 2 [some (2, a0), some (0, a1)] [] h := by rfl
set_option maxRecDepth 100000 in
theorem qe_Le_isAllOver {ρ : Type} (kr : Int → zH → Option ρ) (a0 : Int) (h : zH) : Le_isAllOver a0 h kr = zseg zPP true (fun _ _ => none) (zcal []) (zget (999, 0, 0, 0) zc_Le_isAllOver) (zcut [(2, [true, true])]) (zorc [(2, [some (2, none), some (0, none)], [], fun xs h => match xs with
  | [a0, a1] => Le_isAllOver_2 kr a0 a1 h
  | _ => none)]) kr (fun _ _ => none) 400 0 [some (2, a0), none] [] h := by rfl
def zc_X_run : List zI := [(10, 0, 1, 0), (0, 1, 0, 0), (2, 500, 0, 0), (999, 0, 0, 0), (999, 0, 0, 0), (113, 0, 32, 48), (999, 0, 0, 0), (999, 0, 0, 0), (61, 11, 19, 0), (999, 0, 0, 0), (999, 0, 0, 0), (134, 38, 36, 1), (999, 0, 0, 0), (999, 0, 0, 0), (999, 0, 0, 0), (999, 0, 0, 0), (999, 0, 0, 0), (999, 0, 0, 0), (999, 0, 0, 0), (0, 0, 0, 0), (16, 0, 2, 0), (10, 0, 2, 0), (10, 0, 1, 0), (69, 26, 49, 0), (999, 0, 0, 0), (999, 0, 0, 0), (14, 0, 0, 0), (80, 0, 10, 0), (999, 0, 0, 0), (999, 0, 0, 0), (110, 0, 154, 238), (999, 0, 0, 0), (999, 0, 0, 0), (61, 16, 49, 0), (999, 0, 0, 0), (999, 0, 0, 0), (14, 0, 0, 0), (80, 0, 21, 1), (999, 0, 0, 0), (999, 0, 0, 0), (110, 0, 151, 171), (999, 0, 0, 0), (999, 0, 0, 0), (22, 1, 2, 0), (999, 0, 0, 0), (999, 0, 0, 0), (72, (-25), 21, 0), (999, 0, 0, 0), (999, 0, 0, 0), (10, 0, 2, 0), (130, 0, 0, 0)]
def X_run_49 {ρ : Type} (kr : Int → zH → Option ρ) (kt : Nat → zH → Option ρ) (a2 : Int) (h : zH) : Option ρ :=
kr a2 h
def X_run_21b {ρ : Type} (kr : Int → zH → Option ρ) (kt : Nat → zH → Option ρ) (r21 : Int → Int → Int → zH → Option ρ) (a0 a1 a2 : Int) (h : zH) : Option ρ :=
if a2 < a1 then (zob h 0 a0 fun p1 =>
zob h 1 (zhd h p1 0) fun _ =>
Le_isAllOver (zhd h p1 0) h  fun v2 h3 =>
if v2 = 0 then (zob h3 0 a0 fun p4 =>
zob h3 2 (zhd h3 p4 1) fun _ =>
Co_letCycleCome (zhd h3 p4 1) h3  fun _ h6 =>
r21 a0 a1 (wr (a2 + 1)) h6)
else X_run_49 kr kt a2 h3)
else X_run_49 kr kt a2 h
def X_run_21 {ρ : Type} (kr : Int → zH → Option ρ) (kt : Nat → zH → Option ρ) : Int → Int → Int → zH → Option ρ := zit (fun _ _ _ _ => none) (X_run_21b kr kt) zN
def X_run {ρ : Type} (a0 a1 : Int) (h : zH) (kt : Nat → zH → Option ρ) (kr : Int → zH → Option ρ) : Option ρ :=
X_isWithin a1 1 500 h  fun v1 h2 =>
if v1 = 0 then zlet (zthrown h2) fun h3 => kt 1 h3
else X_run_21 kr kt a0 a1 0 h2
set_option maxRecDepth 100000 in
theorem qe_X_run_49 {ρ : Type} (kr : Int → zH → Option ρ) (kt : Nat → zH → Option ρ) (a2 : Int) (h : zH) : X_run_49 kr kt a2 h = zseg zPP true (fun _ _ => none) (zcal []) (zget (999, 0, 0, 0) zc_X_run) (zcut [(21, [true, true, true]), (49, [false, false, true])]) (zorc []) kr kt 400 49 [none, none, some (0, a2)] [] h := by rfl
set_option maxRecDepth 100000 in
theorem qe_X_run_21b {ρ : Type} (kr : Int → zH → Option ρ) (kt : Nat → zH → Option ρ) (r21 : Int → Int → Int → zH → Option ρ) (a0 a1 a2 : Int) (h : zH) : X_run_21b kr kt r21 a0 a1 a2 h = zseg zPP true (fun _ _ => none) (zcal [(171, [none], fun xs h kr kt => match xs with
  | [x0] => Co_letCycleCome x0 h kr
  | _ => none), (238, [none], fun xs h kr kt => match xs with
  | [x0] => Le_isAllOver x0 h kr
  | _ => none)]) (zget (999, 0, 0, 0) zc_X_run) (zcut [(21, [true, true, true]), (49, [false, false, true])]) (zorc [(21, [some (2, none), some (0, none), some (0, none)], [], fun xs h => match xs with
  | [a0, a1, a2] => r21 a0 a1 a2 h
  | _ => none), (49, [none, none, some (0, none)], [], fun xs h => match xs with
  | [a2] => X_run_49 kr kt a2 h
  | _ => none)]) kr kt 400 21 [some (2, a0), some (0, a1), some (0, a2)] [] h := by rfl
set_option maxRecDepth 100000 in
theorem qe_X_run {ρ : Type} (kr : Int → zH → Option ρ) (kt : Nat → zH → Option ρ) (a0 a1 : Int) (h : zH) : X_run a0 a1 h kt kr = zseg zPP true (fun _ _ => none) (zcal [(48, [none, none, none], fun xs h kr kt => match xs with
  | [x0, x1, x2] => X_isWithin x0 x1 x2 h kr
  | _ => none)]) (zget (999, 0, 0, 0) zc_X_run) (zcut [(21, [true, true, true]), (49, [false, false, true])]) (zorc [(21, [some (2, none), some (0, none), some (0, none)], [], fun xs h => match xs with
  | [a0, a1, a2] => X_run_21 kr kt a0 a1 a2 h
  | _ => none)]) kr kt 400 0 [some (2, a0), some (0, a1), none] [] h := by rfl
def zc_X_setOrder : List zI := [(10, 0, 1, 0), (1, 111, 0, 0), (999, 0, 0, 0), (66, 23, 26, 0), (999, 0, 0, 0), (999, 0, 0, 0), (10, 0, 1, 0), (1, 121, 0, 0), (999, 0, 0, 0), (66, 17, 26, 0), (999, 0, 0, 0), (999, 0, 0, 0), (10, 0, 1, 0), (1, 97, 0, 0), (999, 0, 0, 0), (66, 11, 26, 0), (999, 0, 0, 0), (999, 0, 0, 0), (134, 38, 36, 1), (999, 0, 0, 0), (999, 0, 0, 0), (999, 0, 0, 0), (999, 0, 0, 0), (999, 0, 0, 0), (999, 0, 0, 0), (999, 0, 0, 0), (14, 0, 0, 0), (80, 0, 21, 1), (999, 0, 0, 0), (999, 0, 0, 0), (80, 2, 158, 5), (999, 0, 0, 0), (999, 0, 0, 0), (16, 0, 2, 0), (14, 0, 0, 0), (80, 0, 21, 1), (999, 0, 0, 0), (999, 0, 0, 0), (10, 0, 1, 0), (82, 2, 158, 5), (999, 0, 0, 0), (999, 0, 0, 0), (10, 0, 2, 0), (130, 0, 2, 0)]
def X_setOrder_26 {ρ : Type} (kr : Int → zH → Option ρ) (kt : Nat → zH → Option ρ) (a0 a1 : Int) (h : zH) : Option ρ :=
zob h 0 a0 fun p1 =>
zob h 2 (zhd h p1 1) fun p2 =>
zob h 0 a0 fun p3 =>
zob h 2 (zhd h p3 1) fun p4 =>
znar 2 a1 fun x5 =>
zlet (zset h p4 5 x5) fun h6 =>
znar 2 (zhd h p2 5) fun x7 => kr x7 h6
def X_setOrder {ρ : Type} (a0 a1 : Int) (h : zH) (kt : Nat → zH → Option ρ) (kr : Int → zH → Option ρ) : Option ρ :=
if a1 = 111 then X_setOrder_26 kr kt a0 a1 h
else if a1 = 121 then X_setOrder_26 kr kt a0 a1 h
else if a1 = 97 then X_setOrder_26 kr kt a0 a1 h
else zlet (zthrown h) fun h1 => kt 1 h1
set_option maxRecDepth 100000 in
theorem qe_X_setOrder_26 {ρ : Type} (kr : Int → zH → Option ρ) (kt : Nat → zH → Option ρ) (a0 a1 : Int) (h : zH) : X_setOrder_26 kr kt a0 a1 h = zseg zPP true (fun _ _ => none) (zcal []) (zget (999, 0, 0, 0) zc_X_setOrder) (zcut [(26, [true, true, false])]) (zorc []) kr kt 400 26 [some (2, a0), some (0, a1), none] [] h := by rfl
set_option maxRecDepth 100000 in
theorem qe_X_setOrder {ρ : Type} (kr : Int → zH → Option ρ) (kt : Nat → zH → Option ρ) (a0 a1 : Int) (h : zH) : X_setOrder a0 a1 h kt kr = zseg zPP true (fun _ _ => none) (zcal []) (zget (999, 0, 0, 0) zc_X_setOrder) (zcut [(26, [true, true, false])]) (zorc [(26, [some (2, none), some (0, none), none], [], fun xs h => match xs with
  | [a0, a1] => X_setOrder_26 kr kt a0 a1 h
  | _ => none)]) kr kt 400 0 [some (2, a0), some (0, a1), none] [] h := by rfl
def zc_X_cycle : List zI := [(14, 0, 0, 0), (80, 0, 21, 1), (999, 0, 0, 0), (999, 0, 0, 0), (80, 2, 161, 4), (999, 0, 0, 0), (999, 0, 0, 0), (130, 0, 0, 0)]
def X_cycle {ρ : Type} (a0 : Int) (h : zH) (kr : Int → zH → Option ρ) : Option ρ :=
zob h 0 a0 fun p1 =>
zob h 2 (zhd h p1 1) fun p2 =>
kr (zhd h p2 4) h
set_option maxRecDepth 100000 in
theorem qe_X_cycle {ρ : Type} (kr : Int → zH → Option ρ) (a0 : Int) (h : zH) : X_cycle a0 h kr = zseg zPP true (fun _ _ => none) (zcal []) (zget (999, 0, 0, 0) zc_X_cycle) (zcut []) (zorc []) kr (fun _ _ => none) 400 0 [some (2, a0)] [] h := by rfl
def zc_X_unitAt : List zI := [(10, 0, 1, 0), (0, 0, 0, 0), (0, 1, 0, 0), (113, 0, 32, 48), (999, 0, 0, 0), (999, 0, 0, 0), (61, 11, 17, 0), (999, 0, 0, 0), (999, 0, 0, 0), (134, 89, 87, 3), (999, 0, 0, 0), (999, 0, 0, 0), (999, 0, 0, 0), (999, 0, 0, 0), (999, 0, 0, 0), (999, 0, 0, 0), (999, 0, 0, 0), (14, 0, 0, 0), (80, 0, 21, 1), (999, 0, 0, 0), (999, 0, 0, 0), (80, 2, 287, 2), (999, 0, 0, 0), (999, 0, 0, 0), (10, 0, 1, 0), (94, 0, 0, 3), (132, 0, 0, 0)]
def X_unitAt {ρ : Type} (a0 a1 : Int) (h : zH) (kt : Nat → zH → Option ρ) (kr : Int → zH → Option ρ) : Option ρ :=
X_isWithin a1 0 1 h  fun v1 h2 =>
if v1 = 0 then zlet (zthrown h2) fun h7 => kt 3 h7
else zob h2 0 a0 fun p3 =>
zob h2 2 (zhd h2 p3 1) fun p4 =>
zob h2 33 (zhd h2 p4 2) fun p6 =>
zix (zhl h2 p6) a1 fun j5 =>
kr (zhd h2 p6 j5) h2
set_option maxRecDepth 100000 in
theorem qe_X_unitAt {ρ : Type} (kr : Int → zH → Option ρ) (kt : Nat → zH → Option ρ) (a0 a1 : Int) (h : zH) : X_unitAt a0 a1 h kt kr = zseg zPP true (fun _ _ => none) (zcal [(48, [none, none, none], fun xs h kr kt => match xs with
  | [x0, x1, x2] => X_isWithin x0 x1 x2 h kr
  | _ => none)]) (zget (999, 0, 0, 0) zc_X_unitAt) (zcut []) (zorc []) kr kt 400 0 [some (2, a0), some (0, a1)] [] h := by rfl
def zc_X_groups : List zI := [(14, 0, 0, 0), (10, 0, 1, 0), (110, 0, 164, 44), (999, 0, 0, 0), (999, 0, 0, 0), (80, 3, 168, 2), (999, 0, 0, 0), (999, 0, 0, 0), (130, 0, 0, 0)]
def X_groups {ρ : Type} (a0 a1 : Int) (h : zH) (kt : Nat → zH → Option ρ) (kr : Int → zH → Option ρ) : Option ρ :=
zob h 0 a0 fun _ =>
X_unitAt a0 a1 h (kt := kt) fun v1 h2 =>
zob h2 3 v1 fun p3 =>
kr (zhd h2 p3 2) h2
set_option maxRecDepth 100000 in
theorem qe_X_groups {ρ : Type} (kr : Int → zH → Option ρ) (kt : Nat → zH → Option ρ) (a0 a1 : Int) (h : zH) : X_groups a0 a1 h kt kr = zseg zPP true (fun _ _ => none) (zcal [(44, [none, none], fun xs h kr kt => match xs with
  | [x0, x1] => X_unitAt x0 x1 h kt kr
  | _ => none)]) (zget (999, 0, 0, 0) zc_X_groups) (zcut []) (zorc []) kr kt 400 0 [some (2, a0), some (0, a1)] [] h := by rfl
def zc_Un_groupOf : List zI := [(10, 0, 1, 0), (0, 0, 0, 0), (14, 0, 0, 0), (80, 3, 21, 2), (999, 0, 0, 0), (999, 0, 0, 0), (0, 1, 0, 0), (31, 0, 0, 0), (114, 0, 25, 48), (999, 0, 0, 0), (999, 0, 0, 0), (60, 12, 23, 0), (999, 0, 0, 0), (999, 0, 0, 0), (14, 0, 0, 0), (80, 3, 11, 0), (999, 0, 0, 0), (999, 0, 0, 0), (10, 0, 1, 0), (94, 0, 0, 11), (72, 4, 24, 0), (999, 0, 0, 0), (999, 0, 0, 0), (7, 0, 0, 0), (132, 0, 0, 0)]
def Un_groupOf_24 {ρ : Type} (kr : Int → zH → Option ρ) (t0 : Int) (h : zH) : Option ρ :=
kr t0 h
def Un_groupOf {ρ : Type} (a0 a1 : Int) (h : zH) (kr : Int → zH → Option ρ) : Option ρ :=
zob h 3 a0 fun p1 =>
X_isWithin a1 0 (wr ((zhd h p1 2) - 1)) h  fun v2 h3 =>
if v2 = 0 then Un_groupOf_24 kr (-1) h3
else zob h3 3 a0 fun p4 =>
zob h3 41 (zhd h3 p4 0) fun p6 =>
zix (zhl h3 p6) a1 fun j5 =>
Un_groupOf_24 kr (zhd h3 p6 j5) h3
set_option maxRecDepth 100000 in
theorem qe_Un_groupOf_24 {ρ : Type} (kr : Int → zH → Option ρ) (t0 : Int) (h : zH) : Un_groupOf_24 kr t0 h = zseg zPP true (fun _ _ => none) (zcal []) (zget (999, 0, 0, 0) zc_Un_groupOf) (zcut [(24, [false, false])]) (zorc []) kr (fun _ _ => none) 400 24 [none, none] [(2, t0)] h := by rfl
set_option maxRecDepth 100000 in
theorem qe_Un_groupOf {ρ : Type} (kr : Int → zH → Option ρ) (a0 a1 : Int) (h : zH) : Un_groupOf a0 a1 h kr = zseg zPP true (fun _ _ => none) (zcal [(48, [none, none, none], fun xs h kr kt => match xs with
  | [x0, x1, x2] => X_isWithin x0 x1 x2 h kr
  | _ => none)]) (zget (999, 0, 0, 0) zc_Un_groupOf) (zcut [(24, [false, false])]) (zorc [(24, [none, none], [(2, none)], fun xs h => match xs with
  | [t0] => Un_groupOf_24 kr t0 h
  | _ => none)]) kr (fun _ _ => none) 400 0 [some (2, a0), some (0, a1)] [] h := by rfl
def zc_X_groupAt : List zI := [(14, 0, 0, 0), (10, 0, 1, 0), (110, 0, 164, 44), (999, 0, 0, 0), (999, 0, 0, 0), (10, 0, 2, 0), (110, 0, 300, 266), (999, 0, 0, 0), (999, 0, 0, 0), (20, 0, 3, 0), (14, 0, 3, 0), (74, 11, 22, 0), (999, 0, 0, 0), (999, 0, 0, 0), (134, 89, 87, 3), (999, 0, 0, 0), (999, 0, 0, 0), (999, 0, 0, 0), (999, 0, 0, 0), (999, 0, 0, 0), (999, 0, 0, 0), (999, 0, 0, 0), (14, 0, 3, 0), (132, 0, 0, 0)]
def X_groupAt {ρ : Type} (a0 a1 a2 : Int) (h : zH) (kt : Nat → zH → Option ρ) (kr : Int → zH → Option ρ) : Option ρ :=
zob h 0 a0 fun _ =>
X_unitAt a0 a1 h (kt := kt) fun v1 h2 =>
zob h2 3 v1 fun _ =>
Un_groupOf v1 a2 h2  fun v3 h4 =>
if v3 < 0 then zlet (zthrown h4) fun h5 => kt 3 h5
else kr v3 h4
set_option maxRecDepth 100000 in
theorem qe_X_groupAt {ρ : Type} (kr : Int → zH → Option ρ) (kt : Nat → zH → Option ρ) (a0 a1 a2 : Int) (h : zH) : X_groupAt a0 a1 a2 h kt kr = zseg zPP true (fun _ _ => none) (zcal [(44, [none, none], fun xs h kr kt => match xs with
  | [x0, x1] => X_unitAt x0 x1 h kt kr
  | _ => none), (266, [none, none], fun xs h kr kt => match xs with
  | [x0, x1] => Un_groupOf x0 x1 h kr
  | _ => none)]) (zget (999, 0, 0, 0) zc_X_groupAt) (zcut []) (zorc []) kr kt 400 0 [some (2, a0), some (0, a1), some (0, a2), none] [] h := by rfl
def zc_X_threadAt : List zI := [(14, 0, 0, 0), (10, 0, 1, 0), (10, 0, 2, 0), (110, 0, 173, 45), (999, 0, 0, 0), (999, 0, 0, 0), (20, 0, 3, 0), (2, 1000, 0, 0), (999, 0, 0, 0), (999, 0, 0, 0), (14, 0, 3, 0), (80, 11, 177, 0), (999, 0, 0, 0), (999, 0, 0, 0), (80, 10, 183, 0), (999, 0, 0, 0), (999, 0, 0, 0), (80, 9, 113, 0), (999, 0, 0, 0), (999, 0, 0, 0), (32, 0, 0, 0), (1, 100, 0, 0), (999, 0, 0, 0), (14, 0, 3, 0), (80, 11, 177, 0), (999, 0, 0, 0), (999, 0, 0, 0), (80, 10, 188, 1), (999, 0, 0, 0), (999, 0, 0, 0), (32, 0, 0, 0), (30, 0, 0, 0), (14, 0, 3, 0), (80, 11, 189, 1), (999, 0, 0, 0), (999, 0, 0, 0), (30, 0, 0, 0), (130, 0, 0, 0)]
def X_threadAt {ρ : Type} (a0 a1 a2 : Int) (h : zH) (kt : Nat → zH → Option ρ) (kr : Int → zH → Option ρ) : Option ρ :=
zob h 0 a0 fun _ =>
X_groupAt a0 a1 a2 h (kt := kt) fun v1 h2 =>
zob h2 11 v1 fun p3 =>
zob h2 10 (zhd h2 p3 0) fun p4 =>
zob h2 9 (zhd h2 p4 0) fun p5 =>
zob h2 11 v1 fun p6 =>
zob h2 10 (zhd h2 p6 0) fun p7 =>
zob h2 11 v1 fun p8 =>
kr (wr ((wr ((wr (1000 * (zhd h2 p5 0))) + (wr (100 * (zhd h2 p7 1))))) + (zhd h2 p8 1))) h2
set_option maxRecDepth 100000 in
theorem qe_X_threadAt {ρ : Type} (kr : Int → zH → Option ρ) (kt : Nat → zH → Option ρ) (a0 a1 a2 : Int) (h : zH) : X_threadAt a0 a1 a2 h kt kr = zseg zPP true (fun _ _ => none) (zcal [(45, [none, none, none], fun xs h kr kt => match xs with
  | [x0, x1, x2] => X_groupAt x0 x1 x2 h kt kr
  | _ => none)]) (zget (999, 0, 0, 0) zc_X_threadAt) (zcut []) (zorc []) kr kt 400 0 [some (2, a0), some (0, a1), some (0, a2), none] [] h := by rfl
def zc_X_place : List zI := [(14, 0, 0, 0), (10, 0, 1, 0), (10, 0, 2, 0), (110, 0, 173, 45), (999, 0, 0, 0), (999, 0, 0, 0), (110, 0, 192, 196), (999, 0, 0, 0), (999, 0, 0, 0), (16, 0, 3, 0), (10, 0, 3, 0), (0, (-1), 0, 0), (67, 11, 23, 0), (999, 0, 0, 0), (999, 0, 0, 0), (134, 137, 135, 5), (999, 0, 0, 0), (999, 0, 0, 0), (999, 0, 0, 0), (999, 0, 0, 0), (999, 0, 0, 0), (999, 0, 0, 0), (999, 0, 0, 0), (10, 0, 3, 0), (130, 0, 0, 0)]
def X_place {ρ : Type} (a0 a1 a2 : Int) (h : zH) (kt : Nat → zH → Option ρ) (kr : Int → zH → Option ρ) : Option ρ :=
zob h 0 a0 fun _ =>
X_groupAt a0 a1 a2 h (kt := kt) fun v1 h2 =>
zob h2 11 v1 fun _ =>
Gr_leastPlace v1 h2  fun v3 h4 =>
if v3 = (-1) then zlet (zthrown h4) fun h5 => kt 5 h5
else kr v3 h4
set_option maxRecDepth 100000 in
theorem qe_X_place {ρ : Type} (kr : Int → zH → Option ρ) (kt : Nat → zH → Option ρ) (a0 a1 a2 : Int) (h : zH) : X_place a0 a1 a2 h kt kr = zseg zPP true (fun _ _ => none) (zcal [(45, [none, none, none], fun xs h kr kt => match xs with
  | [x0, x1, x2] => X_groupAt x0 x1 x2 h kt kr
  | _ => none), (196, [none], fun xs h kr kt => match xs with
  | [x0] => Gr_leastPlace x0 h kr
  | _ => none)]) (zget (999, 0, 0, 0) zc_X_place) (zcut []) (zorc []) kr kt 400 0 [some (2, a0), some (0, a1), some (0, a2), none] [] h := by rfl
def zc_X_mask : List zI := [(14, 0, 0, 0), (10, 0, 1, 0), (10, 0, 2, 0), (110, 0, 173, 45), (999, 0, 0, 0), (999, 0, 0, 0), (110, 0, 196, 197), (999, 0, 0, 0), (999, 0, 0, 0), (130, 0, 0, 0)]
def X_mask {ρ : Type} (a0 a1 a2 : Int) (h : zH) (kt : Nat → zH → Option ρ) (kr : Int → zH → Option ρ) : Option ρ :=
zob h 0 a0 fun _ =>
X_groupAt a0 a1 a2 h (kt := kt) fun v1 h2 =>
zob h2 11 v1 fun _ =>
Gr_lanesUnderMask v1 h2  fun v3 h4 =>
kr v3 h4
set_option maxRecDepth 100000 in
theorem qe_X_mask {ρ : Type} (kr : Int → zH → Option ρ) (kt : Nat → zH → Option ρ) (a0 a1 a2 : Int) (h : zH) : X_mask a0 a1 a2 h kt kr = zseg zPP true (fun _ _ => none) (zcal [(45, [none, none, none], fun xs h kr kt => match xs with
  | [x0, x1, x2] => X_groupAt x0 x1 x2 h kt kr
  | _ => none), (197, [none], fun xs h kr kt => match xs with
  | [x0] => Gr_lanesUnderMask x0 h kr
  | _ => none)]) (zget (999, 0, 0, 0) zc_X_mask) (zcut []) (zorc []) kr kt 400 0 [some (2, a0), some (0, a1), some (0, a2)] [] h := by rfl
def zc_Gr_isPlaceOfLower : List zI := [(0, 0, 0, 0), (16, 0, 2, 0), (10, 0, 2, 0), (10, 0, 1, 0), (69, 24, 28, 0), (999, 0, 0, 0), (999, 0, 0, 0), (14, 0, 0, 0), (10, 0, 2, 0), (110, 0, 46, 195), (999, 0, 0, 0), (999, 0, 0, 0), (14, 0, 0, 0), (10, 0, 1, 0), (110, 0, 46, 195), (999, 0, 0, 0), (999, 0, 0, 0), (67, 5, 22, 0), (999, 0, 0, 0), (999, 0, 0, 0), (0, 1, 0, 0), (130, 0, 1, 0), (22, 1, 2, 0), (999, 0, 0, 0), (999, 0, 0, 0), (72, (-23), 2, 0), (999, 0, 0, 0), (999, 0, 0, 0), (0, 0, 0, 0), (130, 0, 1, 0)]
def Gr_isPlaceOfLower_2b {ρ : Type} (kr : Int → zH → Option ρ) (r2 : Int → Int → Int → zH → Option ρ) (a0 a1 a2 : Int) (h : zH) : Option ρ :=
if a2 < a1 then (zob h 11 a0 fun _ =>
Gr_placeIn a0 a2 h  fun v1 h2 =>
zob h2 11 a0 fun _ =>
Gr_placeIn a0 a1 h2  fun v3 h4 =>
if v1 = v3 then kr 1 h4
else r2 a0 a1 (wr (a2 + 1)) h4)
else kr 0 h
def Gr_isPlaceOfLower_2 {ρ : Type} (kr : Int → zH → Option ρ) : Int → Int → Int → zH → Option ρ := zit (fun _ _ _ _ => none) (Gr_isPlaceOfLower_2b kr) zN
def Gr_isPlaceOfLower {ρ : Type} (a0 a1 : Int) (h : zH) (kr : Int → zH → Option ρ) : Option ρ :=
Gr_isPlaceOfLower_2 kr a0 a1 0 h
set_option maxRecDepth 100000 in
theorem qe_Gr_isPlaceOfLower_2b {ρ : Type} (kr : Int → zH → Option ρ) (r2 : Int → Int → Int → zH → Option ρ) (a0 a1 a2 : Int) (h : zH) : Gr_isPlaceOfLower_2b kr r2 a0 a1 a2 h = zseg zPP true (fun _ _ => none) (zcal [(195, [none, none], fun xs h kr kt => match xs with
  | [x0, x1] => Gr_placeIn x0 x1 h kr
  | _ => none)]) (zget (999, 0, 0, 0) zc_Gr_isPlaceOfLower) (zcut [(2, [true, true, true])]) (zorc [(2, [some (2, none), some (0, none), some (0, none)], [], fun xs h => match xs with
  | [a0, a1, a2] => r2 a0 a1 a2 h
  | _ => none)]) kr (fun _ _ => none) 400 2 [some (2, a0), some (0, a1), some (0, a2)] [] h := by rfl
set_option maxRecDepth 100000 in
theorem qe_Gr_isPlaceOfLower {ρ : Type} (kr : Int → zH → Option ρ) (a0 a1 : Int) (h : zH) : Gr_isPlaceOfLower a0 a1 h kr = zseg zPP true (fun _ _ => none) (zcal []) (zget (999, 0, 0, 0) zc_Gr_isPlaceOfLower) (zcut [(2, [true, true, true])]) (zorc [(2, [some (2, none), some (0, none), some (0, none)], [], fun xs h => match xs with
  | [a0, a1, a2] => Gr_isPlaceOfLower_2 kr a0 a1 a2 h
  | _ => none)]) kr (fun _ _ => none) 400 0 [some (2, a0), some (0, a1), none] [] h := by rfl
def zc_Gr_differentPlaces : List zI := [(0, 0, 0, 0), (16, 0, 1, 0), (0, 0, 0, 0), (16, 0, 2, 0), (10, 0, 2, 0), (0, 4, 0, 0), (69, 29, 35, 0), (999, 0, 0, 0), (999, 0, 0, 0), (14, 0, 0, 0), (10, 0, 2, 0), (110, 0, 46, 195), (999, 0, 0, 0), (999, 0, 0, 0), (0, (-1), 0, 0), (66, 14, 29, 0), (999, 0, 0, 0), (999, 0, 0, 0), (14, 0, 0, 0), (10, 0, 2, 0), (110, 0, 54, 199), (999, 0, 0, 0), (999, 0, 0, 0), (61, 6, 29, 0), (999, 0, 0, 0), (999, 0, 0, 0), (22, 1, 1, 0), (999, 0, 0, 0), (999, 0, 0, 0), (22, 1, 2, 0), (999, 0, 0, 0), (999, 0, 0, 0), (72, (-28), 4, 0), (999, 0, 0, 0), (999, 0, 0, 0), (10, 0, 1, 0), (130, 0, 0, 0)]
def Gr_differentPlaces_29 {ρ : Type} (kr : Int → zH → Option ρ) (r4 : Int → Int → Int → zH → Option ρ) (a0 a1 a2 : Int) (h : zH) : Option ρ :=
r4 a0 a1 (wr (a2 + 1)) h
def Gr_differentPlaces_4b {ρ : Type} (kr : Int → zH → Option ρ) (r4 : Int → Int → Int → zH → Option ρ) (a0 a1 a2 : Int) (h : zH) : Option ρ :=
if a2 < 4 then (zob h 11 a0 fun _ =>
Gr_placeIn a0 a2 h  fun v1 h2 =>
if v1 = (-1) then Gr_differentPlaces_29 kr r4 a0 a1 a2 h2
else zob h2 11 a0 fun _ =>
Gr_isPlaceOfLower a0 a2 h2  fun v3 h4 =>
if v3 = 0 then Gr_differentPlaces_29 kr r4 a0 (wr (a1 + 1)) a2 h4
else Gr_differentPlaces_29 kr r4 a0 a1 a2 h4)
else kr a1 h
def Gr_differentPlaces_4 {ρ : Type} (kr : Int → zH → Option ρ) : Int → Int → Int → zH → Option ρ := zit (fun _ _ _ _ => none) (Gr_differentPlaces_4b kr) zN
def Gr_differentPlaces {ρ : Type} (a0 : Int) (h : zH) (kr : Int → zH → Option ρ) : Option ρ :=
Gr_differentPlaces_4 kr a0 0 0 h
set_option maxRecDepth 100000 in
theorem qe_Gr_differentPlaces_29 {ρ : Type} (kr : Int → zH → Option ρ) (r4 : Int → Int → Int → zH → Option ρ) (a0 a1 a2 : Int) (h : zH) : Gr_differentPlaces_29 kr r4 a0 a1 a2 h = zseg zPP true (fun _ _ => none) (zcal []) (zget (999, 0, 0, 0) zc_Gr_differentPlaces) (zcut [(4, [true, true, true]), (29, [true, true, true])]) (zorc [(4, [some (2, none), some (0, none), some (0, none)], [], fun xs h => match xs with
  | [a0, a1, a2] => r4 a0 a1 a2 h
  | _ => none)]) kr (fun _ _ => none) 400 29 [some (2, a0), some (0, a1), some (0, a2)] [] h := by rfl
set_option maxRecDepth 100000 in
theorem qe_Gr_differentPlaces_4b {ρ : Type} (kr : Int → zH → Option ρ) (r4 : Int → Int → Int → zH → Option ρ) (a0 a1 a2 : Int) (h : zH) : Gr_differentPlaces_4b kr r4 a0 a1 a2 h = zseg zPP true (fun _ _ => none) (zcal [(195, [none, none], fun xs h kr kt => match xs with
  | [x0, x1] => Gr_placeIn x0 x1 h kr
  | _ => none), (199, [none, none], fun xs h kr kt => match xs with
  | [x0, x1] => Gr_isPlaceOfLower x0 x1 h kr
  | _ => none)]) (zget (999, 0, 0, 0) zc_Gr_differentPlaces) (zcut [(4, [true, true, true]), (29, [true, true, true])]) (zorc [(29, [some (2, none), some (0, none), some (0, none)], [], fun xs h => match xs with
  | [a0, a1, a2] => Gr_differentPlaces_29 kr r4 a0 a1 a2 h
  | _ => none)]) kr (fun _ _ => none) 400 4 [some (2, a0), some (0, a1), some (0, a2)] [] h := by rfl
set_option maxRecDepth 100000 in
theorem qe_Gr_differentPlaces {ρ : Type} (kr : Int → zH → Option ρ) (a0 : Int) (h : zH) : Gr_differentPlaces a0 h kr = zseg zPP true (fun _ _ => none) (zcal []) (zget (999, 0, 0, 0) zc_Gr_differentPlaces) (zcut [(4, [true, true, true]), (29, [true, true, true])]) (zorc [(4, [some (2, none), some (0, none), some (0, none)], [], fun xs h => match xs with
  | [a0, a1, a2] => Gr_differentPlaces_4 kr a0 a1 a2 h
  | _ => none)]) kr (fun _ _ => none) 400 0 [some (2, a0), none, none] [] h := by rfl
def zc_X_places : List zI := [(14, 0, 0, 0), (10, 0, 1, 0), (10, 0, 2, 0), (110, 0, 173, 45), (999, 0, 0, 0), (999, 0, 0, 0), (110, 0, 199, 198), (999, 0, 0, 0), (999, 0, 0, 0), (130, 0, 0, 0)]
def X_places {ρ : Type} (a0 a1 a2 : Int) (h : zH) (kt : Nat → zH → Option ρ) (kr : Int → zH → Option ρ) : Option ρ :=
zob h 0 a0 fun _ =>
X_groupAt a0 a1 a2 h (kt := kt) fun v1 h2 =>
zob h2 11 v1 fun _ =>
Gr_differentPlaces v1 h2  fun v3 h4 =>
kr v3 h4
set_option maxRecDepth 100000 in
theorem qe_X_places {ρ : Type} (kr : Int → zH → Option ρ) (kt : Nat → zH → Option ρ) (a0 a1 a2 : Int) (h : zH) : X_places a0 a1 a2 h kt kr = zseg zPP true (fun _ _ => none) (zcal [(45, [none, none, none], fun xs h kr kt => match xs with
  | [x0, x1, x2] => X_groupAt x0 x1 x2 h kt kr
  | _ => none), (198, [none], fun xs h kr kt => match xs with
  | [x0] => Gr_differentPlaces x0 h kr
  | _ => none)]) (zget (999, 0, 0, 0) zc_X_places) (zcut []) (zorc []) kr kt 400 0 [some (2, a0), some (0, a1), some (0, a2)] [] h := by rfl
def zc_Gr_whyIdle : List zI := [(14, 0, 0, 0), (110, 0, 50, 196), (999, 0, 0, 0), (999, 0, 0, 0), (0, (-1), 0, 0), (67, 18, 23, 0), (999, 0, 0, 0), (999, 0, 0, 0), (14, 0, 0, 0), (110, 0, 64, 200), (999, 0, 0, 0), (999, 0, 0, 0), (60, 8, 20, 0), (999, 0, 0, 0), (999, 0, 0, 0), (1, 101, 0, 0), (999, 0, 0, 0), (72, 5, 22, 0), (999, 0, 0, 0), (999, 0, 0, 0), (1, 98, 0, 0), (999, 0, 0, 0), (130, 0, 2, 0), (10, 0, 1, 0), (14, 0, 0, 0), (80, 11, 61, 6), (999, 0, 0, 0), (999, 0, 0, 0), (69, 8, 36, 0), (999, 0, 0, 0), (999, 0, 0, 0), (1, 100, 0, 0), (999, 0, 0, 0), (72, 5, 38, 0), (999, 0, 0, 0), (999, 0, 0, 0), (1, 45, 0, 0), (999, 0, 0, 0), (130, 0, 2, 0)]
def Gr_whyIdle_22 {ρ : Type} (kr : Int → zH → Option ρ) (t0 : Int) (h : zH) : Option ρ :=
znar 2 t0 fun x1 => kr x1 h
def Gr_whyIdle_38 {ρ : Type} (kr : Int → zH → Option ρ) (t0 : Int) (h : zH) : Option ρ :=
znar 2 t0 fun x1 => kr x1 h
def Gr_whyIdle {ρ : Type} (a0 a1 : Int) (h : zH) (kr : Int → zH → Option ρ) : Option ρ :=
zob h 11 a0 fun _ =>
Gr_leastPlace a0 h  fun v1 h2 =>
if v1 = (-1) then (zob h2 11 a0 fun _ =>
Gr_hasEnded a0 h2  fun v4 h5 =>
if v4 = 0 then Gr_whyIdle_22 kr 98 h5
else Gr_whyIdle_22 kr 101 h5)
else zob h2 11 a0 fun p3 =>
if a1 < (zhd h2 p3 6) then Gr_whyIdle_38 kr 100 h2
else Gr_whyIdle_38 kr 45 h2
set_option maxRecDepth 100000 in
theorem qe_Gr_whyIdle_22 {ρ : Type} (kr : Int → zH → Option ρ) (t0 : Int) (h : zH) : Gr_whyIdle_22 kr t0 h = zseg zPP true (fun _ _ => none) (zcal []) (zget (999, 0, 0, 0) zc_Gr_whyIdle) (zcut [(22, [false, false]), (38, [false, false])]) (zorc []) kr (fun _ _ => none) 400 22 [none, none] [(0, t0)] h := by rfl
set_option maxRecDepth 100000 in
theorem qe_Gr_whyIdle_38 {ρ : Type} (kr : Int → zH → Option ρ) (t0 : Int) (h : zH) : Gr_whyIdle_38 kr t0 h = zseg zPP true (fun _ _ => none) (zcal []) (zget (999, 0, 0, 0) zc_Gr_whyIdle) (zcut [(22, [false, false]), (38, [false, false])]) (zorc []) kr (fun _ _ => none) 400 38 [none, none] [(0, t0)] h := by rfl
set_option maxRecDepth 100000 in
theorem qe_Gr_whyIdle {ρ : Type} (kr : Int → zH → Option ρ) (a0 a1 : Int) (h : zH) : Gr_whyIdle a0 a1 h kr = zseg zPP true (fun _ _ => none) (zcal [(196, [none], fun xs h kr kt => match xs with
  | [x0] => Gr_leastPlace x0 h kr
  | _ => none), (200, [none], fun xs h kr kt => match xs with
  | [x0] => Gr_hasEnded x0 h kr
  | _ => none)]) (zget (999, 0, 0, 0) zc_Gr_whyIdle) (zcut [(22, [false, false]), (38, [false, false])]) (zorc [(22, [none, none], [(0, none)], fun xs h => match xs with
  | [t0] => Gr_whyIdle_22 kr t0 h
  | _ => none), (38, [none, none], [(0, none)], fun xs h => match xs with
  | [t0] => Gr_whyIdle_38 kr t0 h
  | _ => none)]) kr (fun _ _ => none) 400 0 [some (2, a0), some (0, a1)] [] h := by rfl
def zc_X_reason : List zI := [(14, 0, 0, 0), (10, 0, 1, 0), (10, 0, 2, 0), (110, 0, 173, 45), (999, 0, 0, 0), (999, 0, 0, 0), (14, 0, 0, 0), (80, 0, 21, 1), (999, 0, 0, 0), (999, 0, 0, 0), (80, 2, 161, 4), (999, 0, 0, 0), (999, 0, 0, 0), (110, 0, 202, 202), (999, 0, 0, 0), (999, 0, 0, 0), (130, 0, 2, 0)]
def X_reason {ρ : Type} (a0 a1 a2 : Int) (h : zH) (kt : Nat → zH → Option ρ) (kr : Int → zH → Option ρ) : Option ρ :=
zob h 0 a0 fun _ =>
X_groupAt a0 a1 a2 h (kt := kt) fun v1 h2 =>
zob h2 0 a0 fun p3 =>
zob h2 2 (zhd h2 p3 1) fun p4 =>
zob h2 11 v1 fun _ =>
Gr_whyIdle v1 (zhd h2 p4 4) h2  fun v5 h6 =>
znar 2 v5 fun x7 => kr x7 h6
set_option maxRecDepth 100000 in
theorem qe_X_reason {ρ : Type} (kr : Int → zH → Option ρ) (kt : Nat → zH → Option ρ) (a0 a1 a2 : Int) (h : zH) : X_reason a0 a1 a2 h kt kr = zseg zPP true (fun _ _ => none) (zcal [(45, [none, none, none], fun xs h kr kt => match xs with
  | [x0, x1, x2] => X_groupAt x0 x1 x2 h kt kr
  | _ => none), (202, [none, none], fun xs h kr kt => match xs with
  | [x0, x1] => Gr_whyIdle x0 x1 h kr
  | _ => none)]) (zget (999, 0, 0, 0) zc_X_reason) (zcut []) (zorc []) kr kt 400 0 [some (2, a0), some (0, a1), some (0, a2)] [] h := by rfl
def zc_X_register : List zI := [(14, 0, 0, 0), (10, 0, 1, 0), (10, 0, 2, 0), (110, 0, 173, 45), (999, 0, 0, 0), (999, 0, 0, 0), (21, 0, 5, 0), (999, 0, 0, 0), (15, 0, 5, 0), (999, 0, 0, 0), (10, 0, 3, 0), (110, 0, 206, 194), (999, 0, 0, 0), (999, 0, 0, 0), (21, 0, 6, 0), (999, 0, 0, 0), (15, 0, 6, 0), (999, 0, 0, 0), (73, 22, 40, 0), (999, 0, 0, 0), (999, 0, 0, 0), (15, 0, 5, 0), (999, 0, 0, 0), (80, 11, 177, 0), (999, 0, 0, 0), (999, 0, 0, 0), (80, 10, 183, 0), (999, 0, 0, 0), (999, 0, 0, 0), (80, 9, 210, 5), (999, 0, 0, 0), (999, 0, 0, 0), (11, 0, 4, 0), (999, 0, 0, 0), (110, 0, 214, 216), (999, 0, 0, 0), (999, 0, 0, 0), (61, 11, 48, 0), (999, 0, 0, 0), (999, 0, 0, 0), (134, 89, 87, 3), (999, 0, 0, 0), (999, 0, 0, 0), (999, 0, 0, 0), (999, 0, 0, 0), (999, 0, 0, 0), (999, 0, 0, 0), (999, 0, 0, 0), (15, 0, 6, 0), (999, 0, 0, 0), (11, 0, 4, 0), (999, 0, 0, 0), (110, 0, 217, 249), (999, 0, 0, 0), (999, 0, 0, 0), (130, 0, 0, 0)]
def X_register_40 {ρ : Type} (kr : Int → zH → Option ρ) (kt : Nat → zH → Option ρ) (h : zH) : Option ρ :=
zlet (zthrown h) fun h1 => kt 3 h1
def X_register {ρ : Type} (a0 a1 a2 a3 a4 : Int) (h : zH) (kt : Nat → zH → Option ρ) (kr : Int → zH → Option ρ) : Option ρ :=
zob h 0 a0 fun _ =>
X_groupAt a0 a1 a2 h (kt := kt) fun v1 h2 =>
zob h2 11 v1 fun _ =>
Gr_threadIn v1 a3 h2  fun v3 h4 =>
if v3 < 0 then X_register_40 kr kt h4
else zob h4 11 v1 fun p5 =>
zob h4 10 (zhd h4 p5 0) fun p6 =>
zob h4 9 (zhd h4 p6 0) fun p7 =>
zob h4 7 (zhd h4 p7 5) fun _ =>
Ke_hasRegister (zhd h4 p7 5) a4 h4  fun v8 h9 =>
if v8 = 0 then X_register_40 kr kt h9
else zob h9 6 v3 fun _ =>
Th_at v3 a4 h9  fun v10 h11 =>
kr v10 h11
set_option maxRecDepth 100000 in
theorem qe_X_register_40 {ρ : Type} (kr : Int → zH → Option ρ) (kt : Nat → zH → Option ρ) (h : zH) : X_register_40 kr kt h = zseg zPP true (fun _ _ => none) (zcal []) (zget (999, 0, 0, 0) zc_X_register) (zcut [(40, [false, false, false, false, false, false, false])]) (zorc []) kr kt 400 40 [none, none, none, none, none, none, none] [] h := by rfl
set_option maxRecDepth 100000 in
theorem qe_X_register {ρ : Type} (kr : Int → zH → Option ρ) (kt : Nat → zH → Option ρ) (a0 a1 a2 a3 a4 : Int) (h : zH) : X_register a0 a1 a2 a3 a4 h kt kr = zseg zPP true (fun _ _ => none) (zcal [(45, [none, none, none], fun xs h kr kt => match xs with
  | [x0, x1, x2] => X_groupAt x0 x1 x2 h kt kr
  | _ => none), (194, [none, none], fun xs h kr kt => match xs with
  | [x0, x1] => Gr_threadIn x0 x1 h kr
  | _ => none), (216, [none, none], fun xs h kr kt => match xs with
  | [x0, x1] => Ke_hasRegister x0 x1 h kr
  | _ => none), (249, [none, none], fun xs h kr kt => match xs with
  | [x0, x1] => Th_at x0 x1 h kr
  | _ => none)]) (zget (999, 0, 0, 0) zc_X_register) (zcut [(40, [false, false, false, false, false, false, false])]) (zorc [(40, [none, none, none, none, none, none, none], [], fun xs h => match xs with
  | [] => X_register_40 kr kt  h
  | _ => none)]) kr kt 400 0 [some (2, a0), some (0, a1), some (0, a2), some (0, a3), some (0, a4), none, none] [] h := by rfl
