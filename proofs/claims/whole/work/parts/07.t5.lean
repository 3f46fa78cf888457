def zc_X_shared : List zI := [(14, 0, 0, 0), (10, 0, 1, 0), (10, 0, 2, 0), (110, 0, 173, 45), (999, 0, 0, 0), (999, 0, 0, 0), (80, 11, 177, 0), (999, 0, 0, 0), (999, 0, 0, 0), (21, 0, 4, 0), (999, 0, 0, 0), (15, 0, 4, 0), (999, 0, 0, 0), (10, 0, 3, 0), (110, 0, 222, 162), (999, 0, 0, 0), (999, 0, 0, 0), (61, 11, 28, 0), (999, 0, 0, 0), (999, 0, 0, 0), (134, 89, 87, 3), (999, 0, 0, 0), (999, 0, 0, 0), (999, 0, 0, 0), (999, 0, 0, 0), (999, 0, 0, 0), (999, 0, 0, 0), (999, 0, 0, 0), (15, 0, 4, 0), (999, 0, 0, 0), (80, 10, 225, 4), (999, 0, 0, 0), (999, 0, 0, 0), (10, 0, 3, 0), (90, 0, 0, 0), (130, 0, 0, 0)]
def X_shared {ρ : Type} (a0 a1 a2 a3 : Int) (h : zH) (kt : Nat → zH → Option ρ) (kr : Int → zH → Option ρ) : Option ρ :=
zob h 0 a0 fun _ =>
X_groupAt a0 a1 a2 h (kt := kt) fun v1 h2 =>
zob h2 11 v1 fun p3 =>
zob h2 10 (zhd h2 p3 0) fun _ =>
Bl_hasShared (zhd h2 p3 0) a3 h2  fun v4 h5 =>
if v4 = 0 then zlet (zthrown h5) fun h9 => kt 3 h9
else zob h5 10 (zhd h2 p3 0) fun p6 =>
zob h5 20 (zhd h5 p6 4) fun p8 =>
zix (zhl h5 p8) a3 fun j7 =>
kr (zhd h5 p8 j7) h5
set_option maxRecDepth 100000 in
theorem qe_X_shared {ρ : Type} (kr : Int → zH → Option ρ) (kt : Nat → zH → Option ρ) (a0 a1 a2 a3 : Int) (h : zH) : X_shared a0 a1 a2 a3 h kt kr = zseg zPP true (fun _ _ => none) (zcal [(45, [none, none, none], fun xs h kr kt => match xs with
  | [x0, x1, x2] => X_groupAt x0 x1 x2 h kt kr
  | _ => none), (162, [none, none], fun xs h kr kt => match xs with
  | [x0, x1] => Bl_hasShared x0 x1 h kr
  | _ => none)]) (zget (999, 0, 0, 0) zc_X_shared) (zcut []) (zorc []) kr kt 400 0 [some (2, a0), some (0, a1), some (0, a2), some (0, a3), none] [] h := by rfl
def zc_X_buffered : List zI := [(14, 0, 0, 0), (10, 0, 1, 0), (10, 0, 2, 0), (110, 0, 173, 45), (999, 0, 0, 0), (999, 0, 0, 0), (80, 11, 228, 5), (999, 0, 0, 0), (999, 0, 0, 0), (130, 0, 0, 0)]
def X_buffered {ρ : Type} (a0 a1 a2 : Int) (h : zH) (kt : Nat → zH → Option ρ) (kr : Int → zH → Option ρ) : Option ρ :=
zob h 0 a0 fun _ =>
X_groupAt a0 a1 a2 h (kt := kt) fun v1 h2 =>
zob h2 11 v1 fun p3 =>
kr (zhd h2 p3 5) h2
set_option maxRecDepth 100000 in
theorem qe_X_buffered {ρ : Type} (kr : Int → zH → Option ρ) (kt : Nat → zH → Option ρ) (a0 a1 a2 : Int) (h : zH) : X_buffered a0 a1 a2 h kt kr = zseg zPP true (fun _ _ => none) (zcal [(45, [none, none, none], fun xs h kr kt => match xs with
  | [x0, x1, x2] => X_groupAt x0 x1 x2 h kt kr
  | _ => none)]) (zget (999, 0, 0, 0) zc_X_buffered) (zcut []) (zorc []) kr kt 400 0 [some (2, a0), some (0, a1), some (0, a2)] [] h := by rfl
def zc_X_failedAt : List zI := [(14, 0, 0, 0), (10, 0, 1, 0), (110, 0, 123, 42), (999, 0, 0, 0), (999, 0, 0, 0), (20, 0, 2, 0), (14, 0, 2, 0), (80, 9, 127, 10), (999, 0, 0, 0), (999, 0, 0, 0), (1, 102, 0, 0), (999, 0, 0, 0), (66, 11, 23, 0), (999, 0, 0, 0), (999, 0, 0, 0), (134, 137, 135, 5), (999, 0, 0, 0), (999, 0, 0, 0), (999, 0, 0, 0), (999, 0, 0, 0), (999, 0, 0, 0), (999, 0, 0, 0), (999, 0, 0, 0), (14, 0, 2, 0), (132, 0, 0, 0)]
def X_failedAt {ρ : Type} (a0 a1 : Int) (h : zH) (kt : Nat → zH → Option ρ) (kr : Int → zH → Option ρ) : Option ρ :=
zob h 0 a0 fun _ =>
X_launchAt a0 a1 h (kt := kt) fun v1 h2 =>
zob h2 9 v1 fun p3 =>
if (zhd h2 p3 10) = 102 then kr v1 h2
else zlet (zthrown h2) fun h4 => kt 5 h4
set_option maxRecDepth 100000 in
theorem qe_X_failedAt {ρ : Type} (kr : Int → zH → Option ρ) (kt : Nat → zH → Option ρ) (a0 a1 : Int) (h : zH) : X_failedAt a0 a1 h kt kr = zseg zPP true (fun _ _ => none) (zcal [(42, [none, none], fun xs h kr kt => match xs with
  | [x0, x1] => X_launchAt x0 x1 h kt kr
  | _ => none)]) (zget (999, 0, 0, 0) zc_X_failedAt) (zcut []) (zorc []) kr kt 400 0 [some (2, a0), some (0, a1), none] [] h := by rfl
def zc_X_fault : List zI := [(14, 0, 0, 0), (10, 0, 1, 0), (110, 0, 231, 43), (999, 0, 0, 0), (999, 0, 0, 0), (80, 9, 234, 11), (999, 0, 0, 0), (999, 0, 0, 0), (130, 0, 2, 0)]
def X_fault {ρ : Type} (a0 a1 : Int) (h : zH) (kt : Nat → zH → Option ρ) (kr : Int → zH → Option ρ) : Option ρ :=
zob h 0 a0 fun _ =>
X_failedAt a0 a1 h (kt := kt) fun v1 h2 =>
zob h2 9 v1 fun p3 =>
znar 2 (zhd h2 p3 11) fun x4 => kr x4 h2
set_option maxRecDepth 100000 in
theorem qe_X_fault {ρ : Type} (kr : Int → zH → Option ρ) (kt : Nat → zH → Option ρ) (a0 a1 : Int) (h : zH) : X_fault a0 a1 h kt kr = zseg zPP true (fun _ _ => none) (zcal [(43, [none, none], fun xs h kr kt => match xs with
  | [x0, x1] => X_failedAt x0 x1 h kt kr
  | _ => none)]) (zget (999, 0, 0, 0) zc_X_fault) (zcut []) (zorc []) kr kt 400 0 [some (2, a0), some (0, a1)] [] h := by rfl
def zc_X_faultAt : List zI := [(14, 0, 0, 0), (10, 0, 1, 0), (110, 0, 231, 43), (999, 0, 0, 0), (999, 0, 0, 0), (80, 9, 237, 12), (999, 0, 0, 0), (999, 0, 0, 0), (130, 0, 0, 0)]
def X_faultAt {ρ : Type} (a0 a1 : Int) (h : zH) (kt : Nat → zH → Option ρ) (kr : Int → zH → Option ρ) : Option ρ :=
zob h 0 a0 fun _ =>
X_failedAt a0 a1 h (kt := kt) fun v1 h2 =>
zob h2 9 v1 fun p3 =>
kr (zhd h2 p3 12) h2
set_option maxRecDepth 100000 in
theorem qe_X_faultAt {ρ : Type} (kr : Int → zH → Option ρ) (kt : Nat → zH → Option ρ) (a0 a1 : Int) (h : zH) : X_faultAt a0 a1 h kt kr = zseg zPP true (fun _ _ => none) (zcal [(43, [none, none], fun xs h kr kt => match xs with
  | [x0, x1] => X_failedAt x0 x1 h kt kr
  | _ => none)]) (zget (999, 0, 0, 0) zc_X_faultAt) (zcut []) (zorc []) kr kt 400 0 [some (2, a0), some (0, a1)] [] h := by rfl
def zc_X_isRacing : List zI := [(14, 0, 0, 0), (10, 0, 1, 0), (110, 0, 123, 42), (999, 0, 0, 0), (999, 0, 0, 0), (20, 0, 3, 0), (10, 0, 2, 0), (113, 0, 83, 49), (999, 0, 0, 0), (999, 0, 0, 0), (61, 11, 21, 0), (999, 0, 0, 0), (999, 0, 0, 0), (134, 89, 87, 3), (999, 0, 0, 0), (999, 0, 0, 0), (999, 0, 0, 0), (999, 0, 0, 0), (999, 0, 0, 0), (999, 0, 0, 0), (999, 0, 0, 0), (14, 0, 3, 0), (80, 9, 240, 17), (999, 0, 0, 0), (999, 0, 0, 0), (10, 0, 2, 0), (91, 0, 0, 0), (130, 0, 1, 0)]
def X_isRacing {ρ : Type} (a0 a1 a2 : Int) (h : zH) (kt : Nat → zH → Option ρ) (kr : Int → zH → Option ρ) : Option ρ :=
zob h 0 a0 fun _ =>
X_launchAt a0 a1 h (kt := kt) fun v1 h2 =>
X_isCell a2 h2  fun v3 h4 =>
if v3 = 0 then zlet (zthrown h4) fun h9 => kt 3 h9
else zob h4 9 v1 fun p5 =>
zob h4 21 (zhd h4 p5 17) fun p7 =>
zix (zhl h4 p7) a2 fun j6 =>
znar 1 (zhd h4 p7 j6) fun x8 => kr x8 h4
set_option maxRecDepth 100000 in
theorem qe_X_isRacing {ρ : Type} (kr : Int → zH → Option ρ) (kt : Nat → zH → Option ρ) (a0 a1 a2 : Int) (h : zH) : X_isRacing a0 a1 a2 h kt kr = zseg zPP true (fun _ _ => none) (zcal [(42, [none, none], fun xs h kr kt => match xs with
  | [x0, x1] => X_launchAt x0 x1 h kt kr
  | _ => none), (49, [none], fun xs h kr kt => match xs with
  | [x0] => X_isCell x0 h kr
  | _ => none)]) (zget (999, 0, 0, 0) zc_X_isRacing) (zcut []) (zorc []) kr kt 400 0 [some (2, a0), some (0, a1), some (0, a2), none] [] h := by rfl
def zc_X_races : List zI := [(14, 0, 0, 0), (10, 0, 1, 0), (110, 0, 123, 42), (999, 0, 0, 0), (999, 0, 0, 0), (80, 9, 244, 18), (999, 0, 0, 0), (999, 0, 0, 0), (130, 0, 0, 0)]
def X_races {ρ : Type} (a0 a1 : Int) (h : zH) (kt : Nat → zH → Option ρ) (kr : Int → zH → Option ρ) : Option ρ :=
zob h 0 a0 fun _ =>
X_launchAt a0 a1 h (kt := kt) fun v1 h2 =>
zob h2 9 v1 fun p3 =>
kr (zhd h2 p3 18) h2
set_option maxRecDepth 100000 in
theorem qe_X_races {ρ : Type} (kr : Int → zH → Option ρ) (kt : Nat → zH → Option ρ) (a0 a1 : Int) (h : zH) : X_races a0 a1 h kt kr = zseg zPP true (fun _ _ => none) (zcal [(42, [none, none], fun xs h kr kt => match xs with
  | [x0, x1] => X_launchAt x0 x1 h kt kr
  | _ => none)]) (zget (999, 0, 0, 0) zc_X_races) (zcut []) (zorc []) kr kt 400 0 [some (2, a0), some (0, a1)] [] h := by rfl
def zc_Ke_hasLetterOf : List zI := [(0, 0, 0, 0), (16, 0, 2, 0), (10, 0, 2, 0), (14, 0, 0, 0), (80, 7, 24, 3), (999, 0, 0, 0), (999, 0, 0, 0), (69, 24, 31, 0), (999, 0, 0, 0), (999, 0, 0, 0), (14, 0, 0, 0), (80, 7, 11, 2), (999, 0, 0, 0), (999, 0, 0, 0), (10, 0, 2, 0), (94, 0, 0, 8), (14, 0, 1, 1), (110, 0, 31, 210), (999, 0, 0, 0), (999, 0, 0, 0), (60, 5, 25, 0), (999, 0, 0, 0), (999, 0, 0, 0), (0, 1, 0, 0), (130, 0, 1, 0), (22, 1, 2, 0), (999, 0, 0, 0), (999, 0, 0, 0), (72, (-26), 2, 0), (999, 0, 0, 0), (999, 0, 0, 0), (0, 0, 0, 0), (130, 0, 1, 0)]
def Ke_hasLetterOf_2b {ρ : Type} (kr : Int → zH → Option ρ) (r2 : Int → Int → Int → zH → Option ρ) (a0 a1 a2 : Int) (h : zH) : Option ρ :=
zob h 7 a0 fun p1 =>
if a2 < (zhd h p1 3) then (zob h 7 a0 fun p2 =>
zob h 38 (zhd h p2 2) fun p4 =>
zix (zhl h p4) a2 fun j3 =>
zob h 8 (zhd h p4 j3) fun _ =>
In_isOneOf (zhd h p4 j3) a1 h  fun v5 h6 =>
if v5 = 0 then r2 a0 a1 (wr (a2 + 1)) h6
else kr 1 h6)
else kr 0 h
def Ke_hasLetterOf_2 {ρ : Type} (kr : Int → zH → Option ρ) : Int → Int → Int → zH → Option ρ := zit (fun _ _ _ _ => none) (Ke_hasLetterOf_2b kr) zN
def Ke_hasLetterOf {ρ : Type} (a0 a1 : Int) (h : zH) (kr : Int → zH → Option ρ) : Option ρ :=
Ke_hasLetterOf_2 kr a0 a1 0 h
set_option maxRecDepth 100000 in
theorem qe_Ke_hasLetterOf_2b {ρ : Type} (kr : Int → zH → Option ρ) (r2 : Int → Int → Int → zH → Option ρ) (a0 a1 a2 : Int) (h : zH) : Ke_hasLetterOf_2b kr r2 a0 a1 a2 h = zseg zPP true (fun _ _ => none) (zcal [(210, [none, none], fun xs h kr kt => match xs with
  | [x0, x1] => In_isOneOf x0 x1 h kr
  | _ => none)]) (zget (999, 0, 0, 0) zc_Ke_hasLetterOf) (zcut [(2, [true, true, true])]) (zorc [(2, [some (2, none), some (3, none), some (0, none)], [], fun xs h => match xs with
  | [a0, a1, a2] => r2 a0 a1 a2 h
  | _ => none)]) kr (fun _ _ => none) 400 2 [some (2, a0), some (3, a1), some (0, a2)] [] h := by rfl
set_option maxRecDepth 100000 in
theorem qe_Ke_hasLetterOf {ρ : Type} (kr : Int → zH → Option ρ) (a0 a1 : Int) (h : zH) : Ke_hasLetterOf a0 a1 h kr = zseg zPP true (fun _ _ => none) (zcal []) (zget (999, 0, 0, 0) zc_Ke_hasLetterOf) (zcut [(2, [true, true, true])]) (zorc [(2, [some (2, none), some (3, none), some (0, none)], [], fun xs h => match xs with
  | [a0, a1, a2] => Ke_hasLetterOf_2 kr a0 a1 a2 h
  | _ => none)]) kr (fun _ _ => none) 400 0 [some (2, a0), some (3, a1), none] [] h := by rfl
def zc_Re_begin : List zI := [(14, 0, 0, 0), (14, 0, 1, 0), (82, 5, 30, 4), (999, 0, 0, 0), (999, 0, 0, 0), (14, 0, 0, 0), (10, 0, 2, 0), (1, 16, 0, 0), (999, 0, 0, 0), (113, 0, 34, 1), (999, 0, 0, 0), (999, 0, 0, 0), (82, 5, 40, 5), (999, 0, 0, 0), (999, 0, 0, 0), (14, 0, 0, 0), (10, 0, 3, 0), (82, 5, 44, 6), (999, 0, 0, 0), (999, 0, 0, 0), (0, 0, 0, 0), (17, 0, 5, 0), (999, 0, 0, 0), (11, 0, 5, 0), (999, 0, 0, 0), (1, 64, 0, 0), (999, 0, 0, 0), (69, 29, 56, 0), (999, 0, 0, 0), (999, 0, 0, 0), (11, 0, 5, 0), (999, 0, 0, 0), (15, 0, 4, 0), (999, 0, 0, 0), (100, 0, 0, 20), (69, 21, 56, 0), (999, 0, 0, 0), (999, 0, 0, 0), (14, 0, 0, 0), (80, 5, 9, 0), (999, 0, 0, 0), (999, 0, 0, 0), (11, 0, 5, 0), (999, 0, 0, 0), (15, 0, 4, 0), (999, 0, 0, 0), (11, 0, 5, 0), (999, 0, 0, 0), (90, 0, 0, 0), (95, 0, 0, 0), (22, 1, 5, 0), (999, 0, 0, 0), (999, 0, 0, 0), (72, (-30), 23, 0), (999, 0, 0, 0), (999, 0, 0, 0), (133, 0, 0, 0)]
def Re_begin_56 {ρ : Type} (kr : Int → zH → Option ρ) (h : zH) : Option ρ :=
kr 0 h
def Re_begin_23b {ρ : Type} (kr : Int → zH → Option ρ) (r23 : Int → Int → Int → zH → Option ρ) (a0 a4 a5 : Int) (h : zH) : Option ρ :=
if a5 < 64 then (zob h 20 a4 fun p1 =>
if a5 < (zhl h p1 : Int) then (zob h 5 a0 fun p2 =>
zob h 20 a4 fun p4 =>
zix (zhl h p4) a5 fun j3 =>
zob h 20 (zhd h p2 0) fun p6 =>
zix (zhl h p6) a5 fun j5 =>
zlet (zset h p6 j5 (zhd h p4 j3)) fun h7 =>
r23 a0 a4 (wr (a5 + 1)) h7)
else Re_begin_56 kr h)
else Re_begin_56 kr h
def Re_begin_23 {ρ : Type} (kr : Int → zH → Option ρ) : Int → Int → Int → zH → Option ρ := zit (fun _ _ _ _ => none) (Re_begin_23b kr) zN
def Re_begin {ρ : Type} (a0 a1 a2 a3 a4 : Int) (h : zH) (kr : Int → zH → Option ρ) : Option ρ :=
zob h 5 a0 fun p1 =>
zlet (zset h p1 4 a1) fun h2 =>
Ma_min a2 16 h2  fun v3 h4 =>
zob h4 5 a0 fun p5 =>
zlet (zset h4 p5 5 v3) fun h6 =>
zob h6 5 a0 fun p7 =>
znar 1 a3 fun x8 =>
zlet (zset h6 p7 6 x8) fun h9 =>
Re_begin_23 kr a0 a4 0 h9
set_option maxRecDepth 100000 in
theorem qe_Re_begin_56 {ρ : Type} (kr : Int → zH → Option ρ) (h : zH) : Re_begin_56 kr h = zseg zPP true (fun _ _ => none) (zcal []) (zget (999, 0, 0, 0) zc_Re_begin) (zcut [(23, [true, false, false, false, true, true]), (56, [false, false, false, false, false, false])]) (zorc []) kr (fun _ _ => none) 400 56 [none, none, none, none, none, none] [] h := by rfl
set_option maxRecDepth 100000 in
theorem qe_Re_begin_23b {ρ : Type} (kr : Int → zH → Option ρ) (r23 : Int → Int → Int → zH → Option ρ) (a0 a4 a5 : Int) (h : zH) : Re_begin_23b kr r23 a0 a4 a5 h = zseg zPP true (fun _ _ => none) (zcal []) (zget (999, 0, 0, 0) zc_Re_begin) (zcut [(23, [true, false, false, false, true, true]), (56, [false, false, false, false, false, false])]) (zorc [(23, [some (2, none), none, none, none, some (2, none), some (0, none)], [], fun xs h => match xs with
  | [a0, a4, a5] => r23 a0 a4 a5 h
  | _ => none), (56, [none, none, none, none, none, none], [], fun xs h => match xs with
  | [] => Re_begin_56 kr  h
  | _ => none)]) kr (fun _ _ => none) 400 23 [some (2, a0), none, none, none, some (2, a4), some (0, a5)] [] h := by rfl
set_option maxRecDepth 100000 in
theorem qe_Re_begin {ρ : Type} (kr : Int → zH → Option ρ) (a0 a1 a2 a3 a4 : Int) (h : zH) : Re_begin a0 a1 a2 a3 a4 h kr = zseg zPP true (fun _ _ => none) (zcal [(1, [none, none], fun xs h kr kt => match xs with
  | [x0, x1] => Ma_min x0 x1 h kr
  | _ => none)]) (zget (999, 0, 0, 0) zc_Re_begin) (zcut [(23, [true, false, false, false, true, true]), (56, [false, false, false, false, false, false])]) (zorc [(23, [some (2, none), none, none, none, some (2, none), some (0, none)], [], fun xs h => match xs with
  | [a0, a4, a5] => Re_begin_23 kr a0 a4 a5 h
  | _ => none)]) kr (fun _ _ => none) 400 0 [some (2, a0), some (2, a1), some (0, a2), some (0, a3), some (2, a4), none] [] h := by rfl
def zc_Re_carryGlobal : List zI := [(10, 0, 3, 0), (114, 0, 129, 49), (999, 0, 0, 0), (999, 0, 0, 0), (61, 5, 9, 0), (999, 0, 0, 0), (999, 0, 0, 0), (0, 0, 0, 0), (130, 0, 1, 0), (14, 0, 2, 0), (80, 8, 132, 0), (999, 0, 0, 0), (999, 0, 0, 0), (1, 114, 0, 0), (999, 0, 0, 0), (67, 20, 35, 0), (999, 0, 0, 0), (999, 0, 0, 0), (14, 0, 1, 0), (14, 0, 2, 0), (80, 8, 136, 1), (999, 0, 0, 0), (999, 0, 0, 0), (14, 0, 0, 0), (80, 5, 9, 0), (999, 0, 0, 0), (999, 0, 0, 0), (10, 0, 3, 0), (90, 0, 0, 0), (110, 0, 139, 250), (999, 0, 0, 0), (999, 0, 0, 0), (72, 39, 71, 0), (999, 0, 0, 0), (999, 0, 0, 0), (14, 0, 2, 0), (80, 8, 132, 0), (999, 0, 0, 0), (999, 0, 0, 0), (1, 119, 0, 0), (999, 0, 0, 0), (67, 20, 61, 0), (999, 0, 0, 0), (999, 0, 0, 0), (14, 0, 0, 0), (80, 5, 9, 0), (999, 0, 0, 0), (999, 0, 0, 0), (10, 0, 3, 0), (14, 0, 1, 0), (14, 0, 2, 0), (80, 8, 142, 2), (999, 0, 0, 0), (999, 0, 0, 0), (110, 0, 106, 249), (999, 0, 0, 0), (999, 0, 0, 0), (95, 0, 0, 0), (72, 13, 71, 0), (999, 0, 0, 0), (999, 0, 0, 0), (14, 0, 0, 0), (80, 5, 9, 0), (999, 0, 0, 0), (999, 0, 0, 0), (10, 0, 3, 0), (14, 0, 1, 0), (14, 0, 2, 0), (114, 0, 145, 54), (999, 0, 0, 0), (999, 0, 0, 0), (0, 1, 0, 0), (130, 0, 1, 0)]
def Re_carryGlobal_71 {ρ : Type} (kr : Int → zH → Option ρ) (h : zH) : Option ρ :=
kr 1 h
def Re_carryGlobal {ρ : Type} (a0 a1 a2 a3 : Int) (h : zH) (kr : Int → zH → Option ρ) : Option ρ :=
X_isCell a3 h  fun v1 h2 =>
if v1 = 0 then kr 0 h2
else zob h2 8 a2 fun p3 =>
if (zhd h2 p3 0) = 114 then (zob h2 8 a2 fun p15 =>
zob h2 5 a0 fun p16 =>
zob h2 20 (zhd h2 p16 0) fun p18 =>
zix (zhl h2 p18) a3 fun j17 =>
zob h2 6 a1 fun _ =>
Th_set a1 (zhd h2 p15 1) (zhd h2 p18 j17) h2  fun _ h20 =>
Re_carryGlobal_71 kr h20)
else zob h2 8 a2 fun p4 =>
if (zhd h2 p4 0) = 119 then (zob h2 5 a0 fun p8 =>
zob h2 8 a2 fun p9 =>
zob h2 6 a1 fun _ =>
Th_at a1 (zhd h2 p9 2) h2  fun v10 h11 =>
zob h11 20 (zhd h2 p8 0) fun p13 =>
zix (zhl h11 p13) a3 fun j12 =>
zlet (zset h11 p13 j12 v10) fun h14 =>
Re_carryGlobal_71 kr h14)
else zob h2 5 a0 fun p5 =>
X_exchange (zhd h2 p5 0) a3 a1 a2 h2  fun _ h7 =>
Re_carryGlobal_71 kr h7
set_option maxRecDepth 100000 in
theorem qe_Re_carryGlobal_71 {ρ : Type} (kr : Int → zH → Option ρ) (h : zH) : Re_carryGlobal_71 kr h = zseg zPP true (fun _ _ => none) (zcal []) (zget (999, 0, 0, 0) zc_Re_carryGlobal) (zcut [(71, [false, false, false, false])]) (zorc []) kr (fun _ _ => none) 400 71 [none, none, none, none] [] h := by rfl
set_option maxRecDepth 100000 in
theorem qe_Re_carryGlobal {ρ : Type} (kr : Int → zH → Option ρ) (a0 a1 a2 a3 : Int) (h : zH) : Re_carryGlobal a0 a1 a2 a3 h kr = zseg zPP true (fun _ _ => none) (zcal [(49, [none], fun xs h kr kt => match xs with
  | [x0] => X_isCell x0 h kr
  | _ => none), (54, [none, none, none, none], fun xs h kr kt => match xs with
  | [x0, x1, x2, x3] => X_exchange x0 x1 x2 x3 h kr
  | _ => none), (249, [none, none], fun xs h kr kt => match xs with
  | [x0, x1] => Th_at x0 x1 h kr
  | _ => none), (250, [none, none, none], fun xs h kr kt => match xs with
  | [x0, x1, x2] => Th_set x0 x1 x2 h kr
  | _ => none)]) (zget (999, 0, 0, 0) zc_Re_carryGlobal) (zcut [(71, [false, false, false, false])]) (zorc [(71, [none, none, none, none], [], fun xs h => match xs with
  | [] => Re_carryGlobal_71 kr  h
  | _ => none)]) kr (fun _ _ => none) 400 0 [some (2, a0), some (2, a1), some (2, a2), some (0, a3)] [] h := by rfl
def zc_Re_carryShared : List zI := [(10, 0, 3, 0), (0, 0, 0, 0), (14, 0, 0, 0), (80, 5, 30, 4), (999, 0, 0, 0), (999, 0, 0, 0), (80, 7, 149, 1), (999, 0, 0, 0), (999, 0, 0, 0), (0, 1, 0, 0), (31, 0, 0, 0), (114, 0, 151, 48), (999, 0, 0, 0), (999, 0, 0, 0), (61, 5, 19, 0), (999, 0, 0, 0), (999, 0, 0, 0), (0, 0, 0, 0), (130, 0, 1, 0), (14, 0, 2, 0), (80, 8, 132, 0), (999, 0, 0, 0), (999, 0, 0, 0), (1, 82, 0, 0), (999, 0, 0, 0), (67, 20, 45, 0), (999, 0, 0, 0), (999, 0, 0, 0), (14, 0, 1, 0), (14, 0, 2, 0), (80, 8, 136, 1), (999, 0, 0, 0), (999, 0, 0, 0), (14, 0, 0, 0), (80, 5, 15, 1), (999, 0, 0, 0), (999, 0, 0, 0), (10, 0, 3, 0), (90, 0, 0, 0), (110, 0, 139, 250), (999, 0, 0, 0), (999, 0, 0, 0), (72, 17, 59, 0), (999, 0, 0, 0), (999, 0, 0, 0), (14, 0, 0, 0), (80, 5, 15, 1), (999, 0, 0, 0), (999, 0, 0, 0), (10, 0, 3, 0), (14, 0, 1, 0), (14, 0, 2, 0), (80, 8, 142, 2), (999, 0, 0, 0), (999, 0, 0, 0), (110, 0, 106, 249), (999, 0, 0, 0), (999, 0, 0, 0), (95, 0, 0, 0), (0, 1, 0, 0), (130, 0, 1, 0)]
def Re_carryShared_59 {ρ : Type} (kr : Int → zH → Option ρ) (h : zH) : Option ρ :=
kr 1 h
def Re_carryShared {ρ : Type} (a0 a1 a2 a3 : Int) (h : zH) (kr : Int → zH → Option ρ) : Option ρ :=
zob h 5 a0 fun p1 =>
zob h 7 (zhd h p1 4) fun p2 =>
X_isWithin a3 0 (wr ((zhd h p2 1) - 1)) h  fun v3 h4 =>
if v3 = 0 then kr 0 h4
else zob h4 8 a2 fun p5 =>
if (zhd h4 p5 0) = 82 then (zob h4 8 a2 fun p13 =>
zob h4 5 a0 fun p14 =>
zob h4 20 (zhd h4 p14 1) fun p16 =>
zix (zhl h4 p16) a3 fun j15 =>
zob h4 6 a1 fun _ =>
Th_set a1 (zhd h4 p13 1) (zhd h4 p16 j15) h4  fun _ h18 =>
Re_carryShared_59 kr h18)
else zob h4 5 a0 fun p6 =>
zob h4 8 a2 fun p7 =>
zob h4 6 a1 fun _ =>
Th_at a1 (zhd h4 p7 2) h4  fun v8 h9 =>
zob h9 20 (zhd h4 p6 1) fun p11 =>
zix (zhl h9 p11) a3 fun j10 =>
zlet (zset h9 p11 j10 v8) fun h12 =>
Re_carryShared_59 kr h12
set_option maxRecDepth 100000 in
theorem qe_Re_carryShared_59 {ρ : Type} (kr : Int → zH → Option ρ) (h : zH) : Re_carryShared_59 kr h = zseg zPP true (fun _ _ => none) (zcal []) (zget (999, 0, 0, 0) zc_Re_carryShared) (zcut [(59, [false, false, false, false])]) (zorc []) kr (fun _ _ => none) 400 59 [none, none, none, none] [] h := by rfl
set_option maxRecDepth 100000 in
theorem qe_Re_carryShared {ρ : Type} (kr : Int → zH → Option ρ) (a0 a1 a2 a3 : Int) (h : zH) : Re_carryShared a0 a1 a2 a3 h kr = zseg zPP true (fun _ _ => none) (zcal [(48, [none, none, none], fun xs h kr kt => match xs with
  | [x0, x1, x2] => X_isWithin x0 x1 x2 h kr
  | _ => none), (249, [none, none], fun xs h kr kt => match xs with
  | [x0, x1] => Th_at x0 x1 h kr
  | _ => none), (250, [none, none, none], fun xs h kr kt => match xs with
  | [x0, x1, x2] => Th_set x0 x1 x2 h kr
  | _ => none)]) (zget (999, 0, 0, 0) zc_Re_carryShared) (zcut [(59, [false, false, false, false])]) (zorc [(59, [none, none, none, none], [], fun xs h => match xs with
  | [] => Re_carryShared_59 kr  h
  | _ => none)]) kr (fun _ _ => none) 400 0 [some (2, a0), some (2, a1), some (2, a2), some (0, a3)] [] h := by rfl
def zc_Re_carry : List zI := [(14, 0, 1, 0), (14, 0, 2, 0), (110, 0, 100, 212), (999, 0, 0, 0), (999, 0, 0, 0), (110, 0, 106, 249), (999, 0, 0, 0), (999, 0, 0, 0), (16, 0, 3, 0), (14, 0, 2, 0), (8, 2, 110, 0), (999, 0, 0, 0), (110, 0, 112, 210), (999, 0, 0, 0), (999, 0, 0, 0), (60, 11, 26, 0), (999, 0, 0, 0), (999, 0, 0, 0), (14, 0, 0, 0), (14, 0, 1, 0), (14, 0, 2, 0), (10, 0, 3, 0), (110, 0, 116, 263), (999, 0, 0, 0), (999, 0, 0, 0), (130, 0, 1, 0), (14, 0, 2, 0), (8, 3, 120, 0), (999, 0, 0, 0), (110, 0, 112, 210), (999, 0, 0, 0), (999, 0, 0, 0), (60, 11, 43, 0), (999, 0, 0, 0), (999, 0, 0, 0), (14, 0, 0, 0), (14, 0, 1, 0), (14, 0, 2, 0), (10, 0, 3, 0), (110, 0, 122, 264), (999, 0, 0, 0), (999, 0, 0, 0), (130, 0, 1, 0), (14, 0, 1, 0), (14, 0, 2, 0), (110, 0, 125, 251), (999, 0, 0, 0), (999, 0, 0, 0), (0, 1, 0, 0), (130, 0, 1, 0)]
def Re_carry {ρ : Type} (a0 a1 a2 : Int) (h : zH) (kr : Int → zH → Option ρ) : Option ρ :=
zob h 8 a2 fun _ =>
In_cellRegister a2 h  fun v1 h2 =>
zob h2 6 a1 fun _ =>
Th_at a1 v1 h2  fun v3 h4 =>
zob h4 8 a2 fun _ =>
In_isOneOf a2 2 h4  fun v5 h6 =>
if v5 = 0 then (zob h6 8 a2 fun _ =>
In_isOneOf a2 3 h6  fun v7 h8 =>
if v7 = 0 then (zob h8 6 a1 fun _ =>
Th_reckon a1 a2 h8  fun _ h10 =>
kr 1 h10)
else zob h8 5 a0 fun _ =>
Re_carryShared a0 a1 a2 v3 h8  fun v11 h12 =>
znar 1 v11 fun x13 => kr x13 h12)
else zob h6 5 a0 fun _ =>
Re_carryGlobal a0 a1 a2 v3 h6  fun v14 h15 =>
znar 1 v14 fun x16 => kr x16 h15
set_option maxRecDepth 100000 in
theorem qe_Re_carry {ρ : Type} (kr : Int → zH → Option ρ) (a0 a1 a2 : Int) (h : zH) : Re_carry a0 a1 a2 h kr = zseg zPP true (fun _ _ => none) (zcal [(210, [none, none], fun xs h kr kt => match xs with
  | [x0, x1] => In_isOneOf x0 x1 h kr
  | _ => none), (212, [none], fun xs h kr kt => match xs with
  | [x0] => In_cellRegister x0 h kr
  | _ => none), (249, [none, none], fun xs h kr kt => match xs with
  | [x0, x1] => Th_at x0 x1 h kr
  | _ => none), (251, [none, none], fun xs h kr kt => match xs with
  | [x0, x1] => Th_reckon x0 x1 h kr
  | _ => none), (263, [none, none, none, none], fun xs h kr kt => match xs with
  | [x0, x1, x2, x3] => Re_carryGlobal x0 x1 x2 x3 h kr
  | _ => none), (264, [none, none, none, none], fun xs h kr kt => match xs with
  | [x0, x1, x2, x3] => Re_carryShared x0 x1 x2 x3 h kr
  | _ => none)]) (zget (999, 0, 0, 0) zc_Re_carry) (zcut []) (zorc []) kr (fun _ _ => none) 400 0 [some (2, a0), some (2, a1), some (2, a2), none] [] h := by rfl
def zc_Re_runThread : List zI := [(0, 0, 0, 0), (16, 0, 2, 0), (10, 0, 2, 0), (2, 200, 0, 0), (999, 0, 0, 0), (999, 0, 0, 0), (70, 83, 89, 0), (999, 0, 0, 0), (999, 0, 0, 0), (14, 0, 1, 0), (110, 0, 81, 246), (999, 0, 0, 0), (999, 0, 0, 0), (60, 76, 89, 0), (999, 0, 0, 0), (999, 0, 0, 0), (14, 0, 0, 0), (80, 5, 30, 4), (999, 0, 0, 0), (999, 0, 0, 0), (14, 0, 1, 0), (80, 6, 74, 3), (999, 0, 0, 0), (999, 0, 0, 0), (110, 0, 85, 215), (999, 0, 0, 0), (999, 0, 0, 0), (20, 0, 3, 0), (14, 0, 3, 0), (73, 27, 56, 0), (999, 0, 0, 0), (999, 0, 0, 0), (14, 0, 0, 0), (80, 5, 24, 3), (999, 0, 0, 0), (999, 0, 0, 0), (14, 0, 1, 0), (80, 6, 89, 0), (999, 0, 0, 0), (999, 0, 0, 0), (90, 0, 0, 0), (2, 200, 0, 0), (999, 0, 0, 0), (999, 0, 0, 0), (69, 12, 56, 0), (999, 0, 0, 0), (999, 0, 0, 0), (14, 0, 0, 0), (14, 0, 1, 0), (14, 0, 3, 0), (110, 0, 92, 262), (999, 0, 0, 0), (999, 0, 0, 0), (61, 5, 58, 0), (999, 0, 0, 0), (999, 0, 0, 0), (0, 0, 0, 0), (130, 0, 1, 0), (14, 0, 0, 0), (80, 5, 24, 3), (999, 0, 0, 0), (999, 0, 0, 0), (14, 0, 1, 0), (80, 6, 89, 0), (999, 0, 0, 0), (999, 0, 0, 0), (51, 0, 0, 0), (90, 0, 0, 0), (0, 1, 0, 0), (30, 0, 0, 0), (95, 0, 0, 0), (14, 0, 1, 0), (14, 0, 3, 0), (14, 0, 0, 0), (80, 5, 30, 4), (999, 0, 0, 0), (999, 0, 0, 0), (80, 7, 58, 3), (999, 0, 0, 0), (999, 0, 0, 0), (110, 0, 96, 252), (999, 0, 0, 0), (999, 0, 0, 0), (22, 1, 2, 0), (999, 0, 0, 0), (999, 0, 0, 0), (72, (-84), 2, 0), (999, 0, 0, 0), (999, 0, 0, 0), (14, 0, 1, 0), (110, 0, 81, 246), (999, 0, 0, 0), (999, 0, 0, 0), (61, 7, 100, 0), (999, 0, 0, 0), (999, 0, 0, 0), (0, 1, 0, 0), (72, 4, 101, 0), (999, 0, 0, 0), (999, 0, 0, 0), (0, 0, 0, 0), (130, 0, 1, 0)]
def Re_runThread_56 {ρ : Type} (kr : Int → zH → Option ρ) (h : zH) : Option ρ :=
kr 0 h
def Re_runThread_101 {ρ : Type} (kr : Int → zH → Option ρ) (t0 : Int) (h : zH) : Option ρ :=
znar 1 t0 fun x1 => kr x1 h
def Re_runThread_89 {ρ : Type} (kr : Int → zH → Option ρ) (a1 : Int) (h : zH) : Option ρ :=
zob h 6 a1 fun _ =>
Th_isRunning a1 h  fun v1 h2 =>
if v1 = 0 then Re_runThread_101 kr 1 h2
else Re_runThread_101 kr 0 h2
def Re_runThread_2b {ρ : Type} (kr : Int → zH → Option ρ) (r2 : Int → Int → Int → zH → Option ρ) (a0 a1 a2 : Int) (h : zH) : Option ρ :=
if 200 < a2 then Re_runThread_89 kr a1 h
else zob h 6 a1 fun _ =>
Th_isRunning a1 h  fun v1 h2 =>
if v1 = 0 then Re_runThread_89 kr a1 h2
else zob h2 5 a0 fun p3 =>
zob h2 6 a1 fun p4 =>
zob h2 7 (zhd h2 p3 4) fun _ =>
Ke_instructionAt (zhd h2 p3 4) (zhd h2 p4 3) h2  fun v5 h6 =>
if v5 < 0 then Re_runThread_56 kr h6
else zob h6 5 a0 fun p7 =>
zob h6 6 a1 fun p8 =>
zob h6 20 (zhd h6 p7 3) fun p10 =>
zix (zhl h6 p10) (zhd h6 p8 0) fun j9 =>
if (zhd h6 p10 j9) < 200 then (zob h6 5 a0 fun _ =>
Re_carry a0 a1 v5 h6  fun v11 h12 =>
if v11 = 0 then Re_runThread_56 kr h12
else zob h12 5 a0 fun p13 =>
zob h12 6 a1 fun p14 =>
zob h12 20 (zhd h12 p13 3) fun p16 =>
zix (zhl h12 p16) (zhd h12 p14 0) fun j15 =>
zob h12 20 (zhd h12 p13 3) fun p18 =>
zix (zhl h12 p18) (zhd h12 p14 0) fun j17 =>
zlet (zset h12 p18 j17 (wr ((zhd h12 p16 j15) + 1))) fun h19 =>
zob h19 5 a0 fun p20 =>
zob h19 7 (zhd h19 p20 4) fun p21 =>
zob h19 6 a1 fun _ =>
Th_goOn a1 v5 (zhd h19 p21 3) h19  fun _ h23 =>
r2 a0 a1 (wr (a2 + 1)) h23)
else Re_runThread_56 kr h6
def Re_runThread_2 {ρ : Type} (kr : Int → zH → Option ρ) : Int → Int → Int → zH → Option ρ := zit (fun _ _ _ _ => none) (Re_runThread_2b kr) zN
def Re_runThread {ρ : Type} (a0 a1 : Int) (h : zH) (kr : Int → zH → Option ρ) : Option ρ :=
Re_runThread_2 kr a0 a1 0 h
set_option maxRecDepth 100000 in
theorem qe_Re_runThread_56 {ρ : Type} (kr : Int → zH → Option ρ) (h : zH) : Re_runThread_56 kr h = zseg zPP true (fun _ _ => none) (zcal []) (zget (999, 0, 0, 0) zc_Re_runThread) (zcut [(2, [true, true, true, false]), (56, [false, false, false, false]), (89, [false, true, false, false]), (101, [false, false, false, false])]) (zorc []) kr (fun _ _ => none) 400 56 [none, none, none, none] [] h := by rfl
set_option maxRecDepth 100000 in
theorem qe_Re_runThread_101 {ρ : Type} (kr : Int → zH → Option ρ) (t0 : Int) (h : zH) : Re_runThread_101 kr t0 h = zseg zPP true (fun _ _ => none) (zcal []) (zget (999, 0, 0, 0) zc_Re_runThread) (zcut [(2, [true, true, true, false]), (56, [false, false, false, false]), (89, [false, true, false, false]), (101, [false, false, false, false])]) (zorc []) kr (fun _ _ => none) 400 101 [none, none, none, none] [(0, t0)] h := by rfl
set_option maxRecDepth 100000 in
theorem qe_Re_runThread_89 {ρ : Type} (kr : Int → zH → Option ρ) (a1 : Int) (h : zH) : Re_runThread_89 kr a1 h = zseg zPP true (fun _ _ => none) (zcal [(246, [none], fun xs h kr kt => match xs with
  | [x0] => Th_isRunning x0 h kr
  | _ => none)]) (zget (999, 0, 0, 0) zc_Re_runThread) (zcut [(2, [true, true, true, false]), (56, [false, false, false, false]), (89, [false, true, false, false]), (101, [false, false, false, false])]) (zorc [(101, [none, none, none, none], [(0, none)], fun xs h => match xs with
  | [t0] => Re_runThread_101 kr t0 h
  | _ => none)]) kr (fun _ _ => none) 400 89 [none, some (2, a1), none, none] [] h := by rfl
set_option maxRecDepth 100000 in
theorem qe_Re_runThread_2b {ρ : Type} (kr : Int → zH → Option ρ) (r2 : Int → Int → Int → zH → Option ρ) (a0 a1 a2 : Int) (h : zH) : Re_runThread_2b kr r2 a0 a1 a2 h = zseg zPP true (fun _ _ => none) (zcal [(215, [none, none], fun xs h kr kt => match xs with
  | [x0, x1] => Ke_instructionAt x0 x1 h kr
  | _ => none), (246, [none], fun xs h kr kt => match xs with
  | [x0] => Th_isRunning x0 h kr
  | _ => none), (252, [none, none, none], fun xs h kr kt => match xs with
  | [x0, x1, x2] => Th_goOn x0 x1 x2 h kr
  | _ => none), (262, [none, none, none], fun xs h kr kt => match xs with
  | [x0, x1, x2] => Re_carry x0 x1 x2 h kr
  | _ => none)]) (zget (999, 0, 0, 0) zc_Re_runThread) (zcut [(2, [true, true, true, false]), (56, [false, false, false, false]), (89, [false, true, false, false]), (101, [false, false, false, false])]) (zorc [(2, [some (2, none), some (2, none), some (0, none), none], [], fun xs h => match xs with
  | [a0, a1, a2] => r2 a0 a1 a2 h
  | _ => none), (56, [none, none, none, none], [], fun xs h => match xs with
  | [] => Re_runThread_56 kr  h
  | _ => none), (89, [none, some (2, none), none, none], [], fun xs h => match xs with
  | [a1] => Re_runThread_89 kr a1 h
  | _ => none)]) kr (fun _ _ => none) 400 2 [some (2, a0), some (2, a1), some (0, a2), none] [] h := by rfl
set_option maxRecDepth 100000 in
theorem qe_Re_runThread {ρ : Type} (kr : Int → zH → Option ρ) (a0 a1 : Int) (h : zH) : Re_runThread a0 a1 h kr = zseg zPP true (fun _ _ => none) (zcal []) (zget (999, 0, 0, 0) zc_Re_runThread) (zcut [(2, [true, true, true, false]), (56, [false, false, false, false]), (89, [false, true, false, false]), (101, [false, false, false, false])]) (zorc [(2, [some (2, none), some (2, none), some (0, none), none], [], fun xs h => match xs with
  | [a0, a1, a2] => Re_runThread_2 kr a0 a1 a2 h
  | _ => none)]) kr (fun _ _ => none) 400 0 [some (2, a0), some (2, a1), none, none] [] h := by rfl
def zc_Re_runBlock : List zI := [(14, 0, 0, 0), (80, 5, 15, 1), (999, 0, 0, 0), (999, 0, 0, 0), (0, 0, 0, 0), (113, 0, 52, 3), (999, 0, 0, 0), (999, 0, 0, 0), (14, 0, 0, 0), (80, 5, 24, 3), (999, 0, 0, 0), (999, 0, 0, 0), (0, 0, 0, 0), (113, 0, 52, 3), (999, 0, 0, 0), (999, 0, 0, 0), (0, 0, 0, 0), (16, 0, 2, 0), (10, 0, 2, 0), (14, 0, 0, 0), (80, 5, 40, 5), (999, 0, 0, 0), (999, 0, 0, 0), (69, 26, 49, 0), (999, 0, 0, 0), (999, 0, 0, 0), (14, 0, 0, 0), (80, 5, 20, 2), (999, 0, 0, 0), (999, 0, 0, 0), (10, 0, 2, 0), (94, 0, 0, 6), (10, 0, 1, 0), (14, 0, 0, 0), (80, 5, 30, 4), (999, 0, 0, 0), (999, 0, 0, 0), (80, 7, 58, 3), (999, 0, 0, 0), (999, 0, 0, 0), (110, 0, 63, 245), (999, 0, 0, 0), (999, 0, 0, 0), (22, 1, 2, 0), (999, 0, 0, 0), (999, 0, 0, 0), (72, (-28), 18, 0), (999, 0, 0, 0), (999, 0, 0, 0), (0, 0, 0, 0), (16, 0, 2, 0), (10, 0, 2, 0), (2, 200, 0, 0), (999, 0, 0, 0), (999, 0, 0, 0), (70, 103, 158, 0), (999, 0, 0, 0), (999, 0, 0, 0), (0, 0, 0, 0), (16, 0, 3, 0), (10, 0, 3, 0), (14, 0, 0, 0), (80, 5, 40, 5), (999, 0, 0, 0), (999, 0, 0, 0), (69, 42, 107, 0), (999, 0, 0, 0), (999, 0, 0, 0), (14, 0, 0, 0), (14, 0, 0, 0), (80, 5, 20, 2), (999, 0, 0, 0), (999, 0, 0, 0), (14, 0, 0, 0), (80, 5, 44, 6), (999, 0, 0, 0), (999, 0, 0, 0), (60, 14, 91, 0), (999, 0, 0, 0), (999, 0, 0, 0), (14, 0, 0, 0), (80, 5, 40, 5), (999, 0, 0, 0), (999, 0, 0, 0), (0, 1, 0, 0), (31, 0, 0, 0), (10, 0, 3, 0), (31, 0, 0, 0), (72, 4, 92, 0), (999, 0, 0, 0), (999, 0, 0, 0), (10, 0, 3, 0), (94, 0, 0, 6), (110, 0, 66, 261), (999, 0, 0, 0), (999, 0, 0, 0), (61, 5, 101, 0), (999, 0, 0, 0), (999, 0, 0, 0), (0, 0, 0, 0), (130, 0, 1, 0), (22, 1, 3, 0), (999, 0, 0, 0), (999, 0, 0, 0), (72, (-44), 60, 0), (999, 0, 0, 0), (999, 0, 0, 0), (14, 0, 0, 0), (80, 5, 20, 2), (999, 0, 0, 0), (999, 0, 0, 0), (14, 0, 0, 0), (80, 5, 40, 5), (999, 0, 0, 0), (999, 0, 0, 0), (113, 0, 70, 255), (999, 0, 0, 0), (999, 0, 0, 0), (20, 0, 3, 0), (14, 0, 3, 0), (74, 5, 125, 0), (999, 0, 0, 0), (999, 0, 0, 0), (0, 1, 0, 0), (130, 0, 1, 0), (14, 0, 0, 0), (80, 5, 20, 2), (999, 0, 0, 0), (999, 0, 0, 0), (14, 0, 0, 0), (80, 5, 40, 5), (999, 0, 0, 0), (999, 0, 0, 0), (14, 0, 3, 0), (80, 6, 74, 3), (999, 0, 0, 0), (999, 0, 0, 0), (14, 0, 0, 0), (80, 5, 30, 4), (999, 0, 0, 0), (999, 0, 0, 0), (80, 7, 58, 3), (999, 0, 0, 0), (999, 0, 0, 0), (113, 0, 77, 256), (999, 0, 0, 0), (999, 0, 0, 0), (61, 5, 152, 0), (999, 0, 0, 0), (999, 0, 0, 0), (0, 0, 0, 0), (130, 0, 1, 0), (22, 1, 2, 0), (999, 0, 0, 0), (999, 0, 0, 0), (72, (-104), 51, 0), (999, 0, 0, 0), (999, 0, 0, 0), (0, 0, 0, 0), (130, 0, 1, 0)]
def Re_runBlock_92 {ρ : Type} (kr : Int → zH → Option ρ) (r51 : Int → Int → zH → Option ρ) (r60 : Int → Int → Int → zH → Option ρ) (a0 a2 a3 t0 t1 t2 : Int) (h : zH) : Option ρ :=
zob h 36 t1 fun p2 =>
zix (zhl h p2) t0 fun j1 =>
zob h 5 t2 fun _ =>
Re_runThread t2 (zhd h p2 j1) h  fun v3 h4 =>
if v3 = 0 then kr 0 h4
else r60 a0 a2 (wr (a3 + 1)) h4
def Re_runBlock_60b {ρ : Type} (kr : Int → zH → Option ρ) (r51 : Int → Int → zH → Option ρ) (r60 : Int → Int → Int → zH → Option ρ) (a0 a2 a3 : Int) (h : zH) : Option ρ :=
zob h 5 a0 fun p1 =>
if a3 < (zhd h p1 5) then (zob h 5 a0 fun p13 =>
zob h 5 a0 fun p14 =>
if (zhd h p14 6) = 0 then Re_runBlock_92 kr r51 r60 a0 a2 a3 a3 (zhd h p13 2) a0 h
else zob h 5 a0 fun p15 =>
Re_runBlock_92 kr r51 r60 a0 a2 a3 (wr ((wr ((zhd h p15 5) - 1)) - a3)) (zhd h p13 2) a0 h)
else zob h 5 a0 fun p2 =>
zob h 5 a0 fun p3 =>
Th_lowestOfWaiting (zhd h p2 2) (zhd h p3 5) h  fun v4 h5 =>
if v4 < 0 then kr 1 h5
else zob h5 5 a0 fun p6 =>
zob h5 5 a0 fun p7 =>
zob h5 6 v4 fun p8 =>
zob h5 5 a0 fun p9 =>
zob h5 7 (zhd h5 p9 4) fun p10 =>
Th_release (zhd h5 p6 2) (zhd h5 p7 5) (zhd h5 p8 3) (zhd h5 p10 3) h5  fun v11 h12 =>
if v11 = 0 then kr 0 h12
else r51 a0 (wr (a2 + 1)) h12
def Re_runBlock_60 {ρ : Type} (kr : Int → zH → Option ρ) (r51 : Int → Int → zH → Option ρ) : Int → Int → Int → zH → Option ρ := zit (fun _ _ _ _ => none) (Re_runBlock_60b kr r51) zN
def Re_runBlock_51b {ρ : Type} (kr : Int → zH → Option ρ) (r51 : Int → Int → zH → Option ρ) (a0 a2 : Int) (h : zH) : Option ρ :=
if 200 < a2 then kr 0 h
else Re_runBlock_60 kr r51 a0 a2 0 h
def Re_runBlock_51 {ρ : Type} (kr : Int → zH → Option ρ) : Int → Int → zH → Option ρ := zit (fun _ _ _ => none) (Re_runBlock_51b kr) zN
def Re_runBlock_18b {ρ : Type} (kr : Int → zH → Option ρ) (r18 : Int → Int → Int → zH → Option ρ) (a0 a1 a2 : Int) (h : zH) : Option ρ :=
zob h 5 a0 fun p1 =>
if a2 < (zhd h p1 5) then (zob h 5 a0 fun p2 =>
zob h 36 (zhd h p2 2) fun p4 =>
zix (zhl h p4) a2 fun j3 =>
zob h 5 a0 fun p5 =>
zob h 7 (zhd h p5 4) fun p6 =>
zob h 6 (zhd h p4 j3) fun _ =>
Th_begin (zhd h p4 j3) a1 (zhd h p6 3) h  fun _ h8 =>
r18 a0 a1 (wr (a2 + 1)) h8)
else Re_runBlock_51 kr a0 0 h
def Re_runBlock_18 {ρ : Type} (kr : Int → zH → Option ρ) : Int → Int → Int → zH → Option ρ := zit (fun _ _ _ _ => none) (Re_runBlock_18b kr) zN
def Re_runBlock {ρ : Type} (a0 a1 : Int) (h : zH) (kr : Int → zH → Option ρ) : Option ρ :=
zob h 5 a0 fun p1 =>
Ar_fill (zhd h p1 1) 0 h  fun _ h3 =>
zob h3 5 a0 fun p4 =>
Ar_fill (zhd h3 p4 3) 0 h3  fun _ h6 =>
Re_runBlock_18 kr a0 a1 0 h6
set_option maxRecDepth 100000 in
theorem qe_Re_runBlock_92 {ρ : Type} (kr : Int → zH → Option ρ) (r51 : Int → Int → zH → Option ρ) (r60 : Int → Int → Int → zH → Option ρ) (a0 a2 a3 t0 t1 t2 : Int) (h : zH) : Re_runBlock_92 kr r51 r60 a0 a2 a3 t0 t1 t2 h = zseg zPP true (fun _ _ => none) (zcal [(261, [none, none], fun xs h kr kt => match xs with
  | [x0, x1] => Re_runThread x0 x1 h kr
  | _ => none)]) (zget (999, 0, 0, 0) zc_Re_runBlock) (zcut [(18, [true, true, true, false]), (51, [true, false, true, false]), (60, [true, false, true, true]), (92, [true, false, true, true])]) (zorc [(60, [some (2, none), none, some (0, none), some (0, none)], [], fun xs h => match xs with
  | [a0, a2, a3] => r60 a0 a2 a3 h
  | _ => none)]) kr (fun _ _ => none) 400 92 [some (2, a0), none, some (0, a2), some (0, a3)] [(0, t0), (2, t1), (2, t2)] h := by rfl
set_option maxRecDepth 100000 in
theorem qe_Re_runBlock_60b {ρ : Type} (kr : Int → zH → Option ρ) (r51 : Int → Int → zH → Option ρ) (r60 : Int → Int → Int → zH → Option ρ) (a0 a2 a3 : Int) (h : zH) : Re_runBlock_60b kr r51 r60 a0 a2 a3 h = zseg zPP true (fun _ _ => none) (zcal [(255, [none, none], fun xs h kr kt => match xs with
  | [x0, x1] => Th_lowestOfWaiting x0 x1 h kr
  | _ => none), (256, [none, none, none, none], fun xs h kr kt => match xs with
  | [x0, x1, x2, x3] => Th_release x0 x1 x2 x3 h kr
  | _ => none)]) (zget (999, 0, 0, 0) zc_Re_runBlock) (zcut [(18, [true, true, true, false]), (51, [true, false, true, false]), (60, [true, false, true, true]), (92, [true, false, true, true])]) (zorc [(51, [some (2, none), none, some (0, none), none], [], fun xs h => match xs with
  | [a0, a2] => r51 a0 a2 h
  | _ => none), (92, [some (2, none), none, some (0, none), some (0, none)], [(0, none), (2, none), (2, none)], fun xs h => match xs with
  | [a0, a2, a3, t0, t1, t2] => Re_runBlock_92 kr r51 r60 a0 a2 a3 t0 t1 t2 h
  | _ => none)]) kr (fun _ _ => none) 400 60 [some (2, a0), none, some (0, a2), some (0, a3)] [] h := by rfl
set_option maxRecDepth 100000 in
theorem qe_Re_runBlock_51b {ρ : Type} (kr : Int → zH → Option ρ) (r51 : Int → Int → zH → Option ρ) (a0 a2 : Int) (h : zH) : Re_runBlock_51b kr r51 a0 a2 h = zseg zPP true (fun _ _ => none) (zcal []) (zget (999, 0, 0, 0) zc_Re_runBlock) (zcut [(18, [true, true, true, false]), (51, [true, false, true, false]), (60, [true, false, true, true]), (92, [true, false, true, true])]) (zorc [(60, [some (2, none), none, some (0, none), some (0, none)], [], fun xs h => match xs with
  | [a0, a2, a3] => Re_runBlock_60 kr r51 a0 a2 a3 h
  | _ => none)]) kr (fun _ _ => none) 400 51 [some (2, a0), none, some (0, a2), none] [] h := by rfl
set_option maxRecDepth 100000 in
theorem qe_Re_runBlock_18b {ρ : Type} (kr : Int → zH → Option ρ) (r18 : Int → Int → Int → zH → Option ρ) (a0 a1 a2 : Int) (h : zH) : Re_runBlock_18b kr r18 a0 a1 a2 h = zseg zPP true (fun _ _ => none) (zcal [(245, [none, none, none], fun xs h kr kt => match xs with
  | [x0, x1, x2] => Th_begin x0 x1 x2 h kr
  | _ => none)]) (zget (999, 0, 0, 0) zc_Re_runBlock) (zcut [(18, [true, true, true, false]), (51, [true, false, true, false]), (60, [true, false, true, true]), (92, [true, false, true, true])]) (zorc [(18, [some (2, none), some (0, none), some (0, none), none], [], fun xs h => match xs with
  | [a0, a1, a2] => r18 a0 a1 a2 h
  | _ => none), (51, [some (2, none), none, some (0, none), none], [], fun xs h => match xs with
  | [a0, a2] => Re_runBlock_51 kr a0 a2 h
  | _ => none)]) kr (fun _ _ => none) 400 18 [some (2, a0), some (0, a1), some (0, a2), none] [] h := by rfl
set_option maxRecDepth 100000 in
theorem qe_Re_runBlock {ρ : Type} (kr : Int → zH → Option ρ) (a0 a1 : Int) (h : zH) : Re_runBlock a0 a1 h kr = zseg zPP true (fun _ _ => none) (zcal [(3, [none, none], fun xs h kr kt => match xs with
  | [x0, x1] => Ar_fill x0 x1 h kr
  | _ => none)]) (zget (999, 0, 0, 0) zc_Re_runBlock) (zcut [(18, [true, true, true, false]), (51, [true, false, true, false]), (60, [true, false, true, true]), (92, [true, false, true, true])]) (zorc [(18, [some (2, none), some (0, none), some (0, none), none], [], fun xs h => match xs with
  | [a0, a1, a2] => Re_runBlock_18 kr a0 a1 a2 h
  | _ => none)]) kr (fun _ _ => none) 400 0 [some (2, a0), some (0, a1), none, none] [] h := by rfl
def zc_Re_runBlocks : List zI := [(0, 0, 0, 0), (16, 0, 2, 0), (10, 0, 2, 0), (10, 0, 1, 0), (69, 34, 38, 0), (999, 0, 0, 0), (999, 0, 0, 0), (14, 0, 0, 0), (14, 0, 0, 0), (80, 5, 44, 6), (999, 0, 0, 0), (999, 0, 0, 0), (60, 11, 23, 0), (999, 0, 0, 0), (999, 0, 0, 0), (10, 0, 1, 0), (0, 1, 0, 0), (31, 0, 0, 0), (10, 0, 2, 0), (31, 0, 0, 0), (72, 4, 24, 0), (999, 0, 0, 0), (999, 0, 0, 0), (10, 0, 2, 0), (110, 0, 48, 260), (999, 0, 0, 0), (999, 0, 0, 0), (61, 5, 32, 0), (999, 0, 0, 0), (999, 0, 0, 0), (0, 0, 0, 0), (130, 0, 1, 0), (22, 1, 2, 0), (999, 0, 0, 0), (999, 0, 0, 0), (72, (-33), 2, 0), (999, 0, 0, 0), (999, 0, 0, 0), (0, 1, 0, 0), (130, 0, 1, 0)]
def Re_runBlocks_24 {ρ : Type} (kr : Int → zH → Option ρ) (r2 : Int → Int → Int → zH → Option ρ) (a0 a1 a2 t0 t1 : Int) (h : zH) : Option ρ :=
zob h 5 t1 fun _ =>
Re_runBlock t1 t0 h  fun v1 h2 =>
if v1 = 0 then kr 0 h2
else r2 a0 a1 (wr (a2 + 1)) h2
def Re_runBlocks_2b {ρ : Type} (kr : Int → zH → Option ρ) (r2 : Int → Int → Int → zH → Option ρ) (a0 a1 a2 : Int) (h : zH) : Option ρ :=
if a2 < a1 then (zob h 5 a0 fun p1 =>
if (zhd h p1 6) = 0 then Re_runBlocks_24 kr r2 a0 a1 a2 a2 a0 h
else Re_runBlocks_24 kr r2 a0 a1 a2 (wr ((wr (a1 - 1)) - a2)) a0 h)
else kr 1 h
def Re_runBlocks_2 {ρ : Type} (kr : Int → zH → Option ρ) : Int → Int → Int → zH → Option ρ := zit (fun _ _ _ _ => none) (Re_runBlocks_2b kr) zN
def Re_runBlocks {ρ : Type} (a0 a1 : Int) (h : zH) (kr : Int → zH → Option ρ) : Option ρ :=
Re_runBlocks_2 kr a0 a1 0 h
set_option maxRecDepth 100000 in
theorem qe_Re_runBlocks_24 {ρ : Type} (kr : Int → zH → Option ρ) (r2 : Int → Int → Int → zH → Option ρ) (a0 a1 a2 t0 t1 : Int) (h : zH) : Re_runBlocks_24 kr r2 a0 a1 a2 t0 t1 h = zseg zPP true (fun _ _ => none) (zcal [(260, [none, none], fun xs h kr kt => match xs with
  | [x0, x1] => Re_runBlock x0 x1 h kr
  | _ => none)]) (zget (999, 0, 0, 0) zc_Re_runBlocks) (zcut [(2, [true, true, true]), (24, [true, true, true])]) (zorc [(2, [some (2, none), some (0, none), some (0, none)], [], fun xs h => match xs with
  | [a0, a1, a2] => r2 a0 a1 a2 h
  | _ => none)]) kr (fun _ _ => none) 400 24 [some (2, a0), some (0, a1), some (0, a2)] [(0, t0), (2, t1)] h := by rfl
set_option maxRecDepth 100000 in
theorem qe_Re_runBlocks_2b {ρ : Type} (kr : Int → zH → Option ρ) (r2 : Int → Int → Int → zH → Option ρ) (a0 a1 a2 : Int) (h : zH) : Re_runBlocks_2b kr r2 a0 a1 a2 h = zseg zPP true (fun _ _ => none) (zcal []) (zget (999, 0, 0, 0) zc_Re_runBlocks) (zcut [(2, [true, true, true]), (24, [true, true, true])]) (zorc [(24, [some (2, none), some (0, none), some (0, none)], [(0, none), (2, none)], fun xs h => match xs with
  | [a0, a1, a2, t0, t1] => Re_runBlocks_24 kr r2 a0 a1 a2 t0 t1 h
  | _ => none)]) kr (fun _ _ => none) 400 2 [some (2, a0), some (0, a1), some (0, a2)] [] h := by rfl
set_option maxRecDepth 100000 in
theorem qe_Re_runBlocks {ρ : Type} (kr : Int → zH → Option ρ) (a0 a1 : Int) (h : zH) : Re_runBlocks a0 a1 h kr = zseg zPP true (fun _ _ => none) (zcal []) (zget (999, 0, 0, 0) zc_Re_runBlocks) (zcut [(2, [true, true, true]), (24, [true, true, true])]) (zorc [(2, [some (2, none), some (0, none), some (0, none)], [], fun xs h => match xs with
  | [a0, a1, a2] => Re_runBlocks_2 kr a0 a1 a2 h
  | _ => none)]) kr (fun _ _ => none) 400 0 [some (2, a0), some (0, a1), none] [] h := by rfl
def zc_X_serial : List zI := [(14, 0, 0, 0), (10, 0, 1, 0), (110, 0, 55, 41), (999, 0, 0, 0), (999, 0, 0, 0), (21, 0, 6, 0), (999, 0, 0, 0), (11, 0, 5, 0), (999, 0, 0, 0), (113, 0, 83, 49), (999, 0, 0, 0), (999, 0, 0, 0), (61, 11, 23, 0), (999, 0, 0, 0), (999, 0, 0, 0), (134, 89, 87, 3), (999, 0, 0, 0), (999, 0, 0, 0), (999, 0, 0, 0), (999, 0, 0, 0), (999, 0, 0, 0), (999, 0, 0, 0), (999, 0, 0, 0), (10, 0, 2, 0), (0, 1, 0, 0), (1, 6, 0, 0), (999, 0, 0, 0), (113, 0, 32, 48), (999, 0, 0, 0), (999, 0, 0, 0), (60, 13, 43, 0), (999, 0, 0, 0), (999, 0, 0, 0), (10, 0, 3, 0), (0, 1, 0, 0), (1, 16, 0, 0), (999, 0, 0, 0), (113, 0, 32, 48), (999, 0, 0, 0), (999, 0, 0, 0), (61, 11, 51, 0), (999, 0, 0, 0), (999, 0, 0, 0), (134, 38, 36, 1), (999, 0, 0, 0), (999, 0, 0, 0), (999, 0, 0, 0), (999, 0, 0, 0), (999, 0, 0, 0), (999, 0, 0, 0), (999, 0, 0, 0), (15, 0, 6, 0), (999, 0, 0, 0), (8, 0, 247, 0), (999, 0, 0, 0), (110, 0, 249, 217), (999, 0, 0, 0), (999, 0, 0, 0), (60, 11, 69, 0), (999, 0, 0, 0), (999, 0, 0, 0), (134, 99, 97, 4), (999, 0, 0, 0), (999, 0, 0, 0), (999, 0, 0, 0), (999, 0, 0, 0), (999, 0, 0, 0), (999, 0, 0, 0), (999, 0, 0, 0), (14, 0, 0, 0), (80, 0, 28, 2), (999, 0, 0, 0), (999, 0, 0, 0), (15, 0, 6, 0), (999, 0, 0, 0), (10, 0, 3, 0), (11, 0, 4, 0), (999, 0, 0, 0), (14, 0, 0, 0), (80, 0, 21, 1), (999, 0, 0, 0), (999, 0, 0, 0), (80, 2, 90, 1), (999, 0, 0, 0), (999, 0, 0, 0), (110, 0, 253, 258), (999, 0, 0, 0), (999, 0, 0, 0), (14, 0, 0, 0), (80, 0, 28, 2), (999, 0, 0, 0), (999, 0, 0, 0), (10, 0, 2, 0), (110, 0, 257, 259), (999, 0, 0, 0), (999, 0, 0, 0), (61, 11, 107, 0), (999, 0, 0, 0), (999, 0, 0, 0), (134, 45, 43, 2), (999, 0, 0, 0), (999, 0, 0, 0), (999, 0, 0, 0), (999, 0, 0, 0), (999, 0, 0, 0), (999, 0, 0, 0), (999, 0, 0, 0), (14, 0, 0, 0), (80, 0, 28, 2), (999, 0, 0, 0), (999, 0, 0, 0), (80, 5, 260, 0), (999, 0, 0, 0), (999, 0, 0, 0), (11, 0, 5, 0), (999, 0, 0, 0), (90, 0, 0, 0), (130, 0, 0, 0)]
def X_serial_43 {ρ : Type} (kr : Int → zH → Option ρ) (kt : Nat → zH → Option ρ) (h : zH) : Option ρ :=
zlet (zthrown h) fun h1 => kt 1 h1
def X_serial {ρ : Type} (a0 a1 a2 a3 a4 a5 : Int) (h : zH) (kt : Nat → zH → Option ρ) (kr : Int → zH → Option ρ) : Option ρ :=
zob h 0 a0 fun _ =>
X_kernelAt a0 a1 h (kt := kt) fun v1 h2 =>
X_isCell a5 h2  fun v3 h4 =>
if v3 = 0 then zlet (zthrown h4) fun h25 => kt 3 h25
else X_isWithin a2 1 6 h4  fun v5 h6 =>
if v5 = 0 then X_serial_43 kr kt h6
else X_isWithin a3 1 16 h6  fun v7 h8 =>
if v7 = 0 then X_serial_43 kr kt h8
else zob h8 7 v1 fun _ =>
Ke_hasLetterOf v1 0 h8  fun v9 h10 =>
if v9 = 0 then (zob h10 0 a0 fun p11 =>
zob h10 0 a0 fun p12 =>
zob h10 2 (zhd h10 p12 1) fun p13 =>
zob h10 5 (zhd h10 p11 2) fun _ =>
Re_begin (zhd h10 p11 2) v1 a3 a4 (zhd h10 p13 1) h10  fun _ h15 =>
zob h15 0 a0 fun p16 =>
zob h15 5 (zhd h15 p16 2) fun _ =>
Re_runBlocks (zhd h15 p16 2) a2 h15  fun v17 h18 =>
if v17 = 0 then zlet (zthrown h18) fun h23 => kt 2 h23
else zob h18 0 a0 fun p19 =>
zob h18 5 (zhd h18 p19 2) fun p20 =>
zob h18 20 (zhd h18 p20 0) fun p22 =>
zix (zhl h18 p22) a5 fun j21 =>
kr (zhd h18 p22 j21) h18)
else zlet (zthrown h10) fun h24 => kt 4 h24
set_option maxRecDepth 100000 in
theorem qe_X_serial_43 {ρ : Type} (kr : Int → zH → Option ρ) (kt : Nat → zH → Option ρ) (h : zH) : X_serial_43 kr kt h = zseg zPP true (fun _ _ => none) (zcal []) (zget (999, 0, 0, 0) zc_X_serial) (zcut [(43, [false, false, false, false, false, false, false])]) (zorc []) kr kt 400 43 [none, none, none, none, none, none, none] [] h := by rfl
set_option maxRecDepth 100000 in
theorem qe_X_serial {ρ : Type} (kr : Int → zH → Option ρ) (kt : Nat → zH → Option ρ) (a0 a1 a2 a3 a4 a5 : Int) (h : zH) : X_serial a0 a1 a2 a3 a4 a5 h kt kr = zseg zPP true (fun _ _ => none) (zcal [(41, [none, none], fun xs h kr kt => match xs with
  | [x0, x1] => X_kernelAt x0 x1 h kt kr
  | _ => none), (48, [none, none, none], fun xs h kr kt => match xs with
  | [x0, x1, x2] => X_isWithin x0 x1 x2 h kr
  | _ => none), (49, [none], fun xs h kr kt => match xs with
  | [x0] => X_isCell x0 h kr
  | _ => none), (217, [none, none], fun xs h kr kt => match xs with
  | [x0, x1] => Ke_hasLetterOf x0 x1 h kr
  | _ => none), (258, [none, none, none, none, none], fun xs h kr kt => match xs with
  | [x0, x1, x2, x3, x4] => Re_begin x0 x1 x2 x3 x4 h kr
  | _ => none), (259, [none, none], fun xs h kr kt => match xs with
  | [x0, x1] => Re_runBlocks x0 x1 h kr
  | _ => none)]) (zget (999, 0, 0, 0) zc_X_serial) (zcut [(43, [false, false, false, false, false, false, false])]) (zorc [(43, [none, none, none, none, none, none, none], [], fun xs h => match xs with
  | [] => X_serial_43 kr kt  h
  | _ => none)]) kr kt 400 0 [some (2, a0), some (0, a1), some (0, a2), some (0, a3), some (0, a4), some (0, a5), none] [] h := by rfl
def zc_X_lanes : List zI := [(14, 0, 0, 0), (80, 0, 21, 1), (999, 0, 0, 0), (999, 0, 0, 0), (80, 2, 141, 3), (999, 0, 0, 0), (999, 0, 0, 0), (80, 4, 261, 1), (999, 0, 0, 0), (999, 0, 0, 0), (131, 0, 0, 0)]
def X_lanes {ρ : Type} (a0 : Int) (h : zH) (kr : Int → zH → Option ρ) : Option ρ :=
zob h 0 a0 fun p1 =>
zob h 2 (zhd h p1 1) fun p2 =>
zob h 4 (zhd h p2 3) fun p3 =>
kr (zhd h p3 1) h
set_option maxRecDepth 100000 in
theorem qe_X_lanes {ρ : Type} (kr : Int → zH → Option ρ) (a0 : Int) (h : zH) : X_lanes a0 h kr = zseg zPP true (fun _ _ => none) (zcal []) (zget (999, 0, 0, 0) zc_X_lanes) (zcut []) (zorc []) kr (fun _ _ => none) 400 0 [some (2, a0)] [] h := by rfl
def zc_X_misses : List zI := [(14, 0, 0, 0), (80, 0, 21, 1), (999, 0, 0, 0), (999, 0, 0, 0), (80, 2, 141, 3), (999, 0, 0, 0), (999, 0, 0, 0), (80, 4, 264, 4), (999, 0, 0, 0), (999, 0, 0, 0), (130, 0, 0, 0)]
def X_misses {ρ : Type} (a0 : Int) (h : zH) (kr : Int → zH → Option ρ) : Option ρ :=
zob h 0 a0 fun p1 =>
zob h 2 (zhd h p1 1) fun p2 =>
zob h 4 (zhd h p2 3) fun p3 =>
kr (zhd h p3 4) h
set_option maxRecDepth 100000 in
theorem qe_X_misses {ρ : Type} (kr : Int → zH → Option ρ) (a0 : Int) (h : zH) : X_misses a0 h kr = zseg zPP true (fun _ _ => none) (zcal []) (zget (999, 0, 0, 0) zc_X_misses) (zcut []) (zorc []) kr (fun _ _ => none) 400 0 [some (2, a0)] [] h := by rfl
def zc_X_lost : List zI := [(14, 0, 0, 0), (80, 0, 21, 1), (999, 0, 0, 0), (999, 0, 0, 0), (80, 2, 141, 3), (999, 0, 0, 0), (999, 0, 0, 0), (80, 4, 267, 5), (999, 0, 0, 0), (999, 0, 0, 0), (130, 0, 0, 0)]
def X_lost {ρ : Type} (a0 : Int) (h : zH) (kr : Int → zH → Option ρ) : Option ρ :=
zob h 0 a0 fun p1 =>
zob h 2 (zhd h p1 1) fun p2 =>
zob h 4 (zhd h p2 3) fun p3 =>
kr (zhd h p3 5) h
set_option maxRecDepth 100000 in
theorem qe_X_lost {ρ : Type} (kr : Int → zH → Option ρ) (a0 : Int) (h : zH) : X_lost a0 h kr = zseg zPP true (fun _ _ => none) (zcal []) (zget (999, 0, 0, 0) zc_X_lost) (zcut []) (zorc []) kr (fun _ _ => none) 400 0 [some (2, a0)] [] h := by rfl
def zc_X_barriers : List zI := [(14, 0, 0, 0), (80, 0, 21, 1), (999, 0, 0, 0), (999, 0, 0, 0), (80, 2, 141, 3), (999, 0, 0, 0), (999, 0, 0, 0), (80, 4, 270, 6), (999, 0, 0, 0), (999, 0, 0, 0), (130, 0, 0, 0)]
def X_barriers {ρ : Type} (a0 : Int) (h : zH) (kr : Int → zH → Option ρ) : Option ρ :=
zob h 0 a0 fun p1 =>
zob h 2 (zhd h p1 1) fun p2 =>
zob h 4 (zhd h p2 3) fun p3 =>
kr (zhd h p3 6) h
set_option maxRecDepth 100000 in
theorem qe_X_barriers {ρ : Type} (kr : Int → zH → Option ρ) (a0 : Int) (h : zH) : X_barriers a0 h kr = zseg zPP true (fun _ _ => none) (zcal []) (zget (999, 0, 0, 0) zc_X_barriers) (zcut []) (zorc []) kr (fun _ _ => none) 400 0 [some (2, a0)] [] h := by rfl
def zc_X_refused : List zI := [(14, 0, 0, 0), (80, 0, 21, 1), (999, 0, 0, 0), (999, 0, 0, 0), (80, 2, 141, 3), (999, 0, 0, 0), (999, 0, 0, 0), (80, 4, 273, 7), (999, 0, 0, 0), (999, 0, 0, 0), (130, 0, 0, 0)]
def X_refused {ρ : Type} (a0 : Int) (h : zH) (kr : Int → zH → Option ρ) : Option ρ :=
zob h 0 a0 fun p1 =>
zob h 2 (zhd h p1 1) fun p2 =>
zob h 4 (zhd h p2 3) fun p3 =>
kr (zhd h p3 7) h
set_option maxRecDepth 100000 in
theorem qe_X_refused {ρ : Type} (kr : Int → zH → Option ρ) (a0 : Int) (h : zH) : X_refused a0 h kr = zseg zPP true (fun _ _ => none) (zcal []) (zget (999, 0, 0, 0) zc_X_refused) (zcut []) (zorc []) kr (fun _ _ => none) 400 0 [some (2, a0)] [] h := by rfl
def zc_Gr_isBufferWithinRoom : List zI := [(14, 0, 0, 0), (80, 11, 67, 5), (999, 0, 0, 0), (999, 0, 0, 0), (0, 4, 0, 0), (70, 7, 12, 0), (999, 0, 0, 0), (999, 0, 0, 0), (0, 1, 0, 0), (72, 4, 13, 0), (999, 0, 0, 0), (999, 0, 0, 0), (0, 0, 0, 0), (130, 0, 1, 0)]
def Gr_isBufferWithinRoom_13 {ρ : Type} (kr : Int → zH → Option ρ) (t0 : Int) (h : zH) : Option ρ :=
znar 1 t0 fun x1 => kr x1 h
def Gr_isBufferWithinRoom {ρ : Type} (a0 : Int) (h : zH) (kr : Int → zH → Option ρ) : Option ρ :=
zob h 11 a0 fun p1 =>
if 4 < (zhd h p1 5) then Gr_isBufferWithinRoom_13 kr 0 h
else Gr_isBufferWithinRoom_13 kr 1 h
set_option maxRecDepth 100000 in
theorem qe_Gr_isBufferWithinRoom_13 {ρ : Type} (kr : Int → zH → Option ρ) (t0 : Int) (h : zH) : Gr_isBufferWithinRoom_13 kr t0 h = zseg zPP true (fun _ _ => none) (zcal []) (zget (999, 0, 0, 0) zc_Gr_isBufferWithinRoom) (zcut [(13, [false])]) (zorc []) kr (fun _ _ => none) 400 13 [none] [(0, t0)] h := by rfl
set_option maxRecDepth 100000 in
theorem qe_Gr_isBufferWithinRoom {ρ : Type} (kr : Int → zH → Option ρ) (a0 : Int) (h : zH) : Gr_isBufferWithinRoom a0 h kr = zseg zPP true (fun _ _ => none) (zcal []) (zget (999, 0, 0, 0) zc_Gr_isBufferWithinRoom) (zcut [(13, [false])]) (zorc [(13, [none], [(0, none)], fun xs h => match xs with
  | [t0] => Gr_isBufferWithinRoom_13 kr t0 h
  | _ => none)]) kr (fun _ _ => none) 400 0 [some (2, a0)] [] h := by rfl
def zc_Un_isInOrder : List zI := [(0, 0, 0, 0), (16, 0, 1, 0), (10, 0, 1, 0), (14, 0, 0, 0), (80, 3, 21, 2), (999, 0, 0, 0), (999, 0, 0, 0), (69, 41, 48, 0), (999, 0, 0, 0), (999, 0, 0, 0), (14, 0, 0, 0), (80, 3, 11, 0), (999, 0, 0, 0), (999, 0, 0, 0), (10, 0, 1, 0), (94, 0, 0, 11), (110, 0, 95, 204), (999, 0, 0, 0), (999, 0, 0, 0), (60, 21, 40, 0), (999, 0, 0, 0), (999, 0, 0, 0), (14, 0, 0, 0), (80, 3, 11, 0), (999, 0, 0, 0), (999, 0, 0, 0), (10, 0, 1, 0), (94, 0, 0, 11), (80, 11, 48, 0), (999, 0, 0, 0), (999, 0, 0, 0), (80, 10, 61, 0), (999, 0, 0, 0), (999, 0, 0, 0), (110, 0, 99, 222), (999, 0, 0, 0), (999, 0, 0, 0), (60, 5, 42, 0), (999, 0, 0, 0), (999, 0, 0, 0), (0, 0, 0, 0), (130, 0, 1, 0), (22, 1, 1, 0), (999, 0, 0, 0), (999, 0, 0, 0), (72, (-43), 2, 0), (999, 0, 0, 0), (999, 0, 0, 0), (14, 0, 0, 0), (80, 3, 21, 2), (999, 0, 0, 0), (999, 0, 0, 0), (0, 4, 0, 0), (70, 25, 78, 0), (999, 0, 0, 0), (999, 0, 0, 0), (14, 0, 0, 0), (110, 0, 33, 268), (999, 0, 0, 0), (999, 0, 0, 0), (1, 64, 0, 0), (999, 0, 0, 0), (70, 16, 78, 0), (999, 0, 0, 0), (999, 0, 0, 0), (14, 0, 0, 0), (110, 0, 42, 269), (999, 0, 0, 0), (999, 0, 0, 0), (1, 32, 0, 0), (999, 0, 0, 0), (70, 7, 78, 0), (999, 0, 0, 0), (999, 0, 0, 0), (0, 1, 0, 0), (72, 4, 79, 0), (999, 0, 0, 0), (999, 0, 0, 0), (0, 0, 0, 0), (130, 0, 1, 0)]
def Un_isInOrder_40 {ρ : Type} (kr : Int → zH → Option ρ) (h : zH) : Option ρ :=
kr 0 h
def Un_isInOrder_79 {ρ : Type} (kr : Int → zH → Option ρ) (t0 : Int) (h : zH) : Option ρ :=
znar 1 t0 fun x1 => kr x1 h
def Un_isInOrder_78 {ρ : Type} (kr : Int → zH → Option ρ) (h : zH) : Option ρ :=
Un_isInOrder_79 kr 0 h
def Un_isInOrder_2b {ρ : Type} (kr : Int → zH → Option ρ) (r2 : Int → Int → zH → Option ρ) (a0 a1 : Int) (h : zH) : Option ρ :=
zob h 3 a0 fun p1 =>
if a1 < (zhd h p1 2) then (zob h 3 a0 fun p7 =>
zob h 41 (zhd h p7 0) fun p9 =>
zix (zhl h p9) a1 fun j8 =>
zob h 11 (zhd h p9 j8) fun _ =>
Gr_isBufferWithinRoom (zhd h p9 j8) h  fun v10 h11 =>
if v10 = 0 then Un_isInOrder_40 kr h11
else zob h11 3 a0 fun p12 =>
zob h11 41 (zhd h11 p12 0) fun p14 =>
zix (zhl h11 p14) a1 fun j13 =>
zob h11 11 (zhd h11 p14 j13) fun p15 =>
zob h11 10 (zhd h11 p15 0) fun p16 =>
zob h11 9 (zhd h11 p16 0) fun _ =>
La_isOver (zhd h11 p16 0) h11  fun v17 h18 =>
if v17 = 0 then r2 a0 (wr (a1 + 1)) h18
else Un_isInOrder_40 kr h18)
else zob h 3 a0 fun p2 =>
if 4 < (zhd h p2 2) then Un_isInOrder_78 kr h
else zob h 3 a0 fun _ =>
Un_usedRegisters a0 h  fun v3 h4 =>
if 64 < v3 then Un_isInOrder_78 kr h4
else zob h4 3 a0 fun _ =>
Un_usedShared a0 h4  fun v5 h6 =>
if 32 < v5 then Un_isInOrder_78 kr h6
else Un_isInOrder_79 kr 1 h6
def Un_isInOrder_2 {ρ : Type} (kr : Int → zH → Option ρ) : Int → Int → zH → Option ρ := zit (fun _ _ _ => none) (Un_isInOrder_2b kr) zN
def Un_isInOrder {ρ : Type} (a0 : Int) (h : zH) (kr : Int → zH → Option ρ) : Option ρ :=
Un_isInOrder_2 kr a0 0 h
set_option maxRecDepth 100000 in
theorem qe_Un_isInOrder_40 {ρ : Type} (kr : Int → zH → Option ρ) (h : zH) : Un_isInOrder_40 kr h = zseg zPP true (fun _ _ => none) (zcal []) (zget (999, 0, 0, 0) zc_Un_isInOrder) (zcut [(2, [true, true]), (40, [false, false]), (78, [false, false]), (79, [false, false])]) (zorc []) kr (fun _ _ => none) 400 40 [none, none] [] h := by rfl
set_option maxRecDepth 100000 in
theorem qe_Un_isInOrder_79 {ρ : Type} (kr : Int → zH → Option ρ) (t0 : Int) (h : zH) : Un_isInOrder_79 kr t0 h = zseg zPP true (fun _ _ => none) (zcal []) (zget (999, 0, 0, 0) zc_Un_isInOrder) (zcut [(2, [true, true]), (40, [false, false]), (78, [false, false]), (79, [false, false])]) (zorc []) kr (fun _ _ => none) 400 79 [none, none] [(0, t0)] h := by rfl
set_option maxRecDepth 100000 in
theorem qe_Un_isInOrder_78 {ρ : Type} (kr : Int → zH → Option ρ) (h : zH) : Un_isInOrder_78 kr h = zseg zPP true (fun _ _ => none) (zcal []) (zget (999, 0, 0, 0) zc_Un_isInOrder) (zcut [(2, [true, true]), (40, [false, false]), (78, [false, false]), (79, [false, false])]) (zorc [(79, [none, none], [(0, none)], fun xs h => match xs with
  | [t0] => Un_isInOrder_79 kr t0 h
  | _ => none)]) kr (fun _ _ => none) 400 78 [none, none] [] h := by rfl
set_option maxRecDepth 100000 in
theorem qe_Un_isInOrder_2b {ρ : Type} (kr : Int → zH → Option ρ) (r2 : Int → Int → zH → Option ρ) (a0 a1 : Int) (h : zH) : Un_isInOrder_2b kr r2 a0 a1 h = zseg zPP true (fun _ _ => none) (zcal [(204, [none], fun xs h kr kt => match xs with
  | [x0] => Gr_isBufferWithinRoom x0 h kr
  | _ => none), (222, [none], fun xs h kr kt => match xs with
  | [x0] => La_isOver x0 h kr
  | _ => none), (268, [none], fun xs h kr kt => match xs with
  | [x0] => Un_usedRegisters x0 h kr
  | _ => none), (269, [none], fun xs h kr kt => match xs with
  | [x0] => Un_usedShared x0 h kr
  | _ => none)]) (zget (999, 0, 0, 0) zc_Un_isInOrder) (zcut [(2, [true, true]), (40, [false, false]), (78, [false, false]), (79, [false, false])]) (zorc [(2, [some (2, none), some (0, none)], [], fun xs h => match xs with
  | [a0, a1] => r2 a0 a1 h
  | _ => none), (40, [none, none], [], fun xs h => match xs with
  | [] => Un_isInOrder_40 kr  h
  | _ => none), (78, [none, none], [], fun xs h => match xs with
  | [] => Un_isInOrder_78 kr  h
  | _ => none), (79, [none, none], [(0, none)], fun xs h => match xs with
  | [t0] => Un_isInOrder_79 kr t0 h
  | _ => none)]) kr (fun _ _ => none) 400 2 [some (2, a0), some (0, a1)] [] h := by rfl
set_option maxRecDepth 100000 in
theorem qe_Un_isInOrder {ρ : Type} (kr : Int → zH → Option ρ) (a0 : Int) (h : zH) : Un_isInOrder a0 h kr = zseg zPP true (fun _ _ => none) (zcal []) (zget (999, 0, 0, 0) zc_Un_isInOrder) (zcut [(2, [true, true]), (40, [false, false]), (78, [false, false]), (79, [false, false])]) (zorc [(2, [some (2, none), some (0, none)], [], fun xs h => match xs with
  | [a0, a1] => Un_isInOrder_2 kr a0 a1 h
  | _ => none)]) kr (fun _ _ => none) 400 0 [some (2, a0), none] [] h := by rfl
def zc_X_isSound : List zI := [(0, 0, 0, 0), (16, 0, 1, 0), (10, 0, 1, 0), (0, 2, 0, 0), (69, 26, 30, 0), (999, 0, 0, 0), (999, 0, 0, 0), (14, 0, 0, 0), (80, 0, 21, 1), (999, 0, 0, 0), (999, 0, 0, 0), (80, 2, 287, 2), (999, 0, 0, 0), (999, 0, 0, 0), (10, 0, 1, 0), (94, 0, 0, 3), (110, 0, 291, 277), (999, 0, 0, 0), (999, 0, 0, 0), (61, 5, 24, 0), (999, 0, 0, 0), (999, 0, 0, 0), (0, 0, 0, 0), (130, 0, 1, 0), (22, 1, 1, 0), (999, 0, 0, 0), (999, 0, 0, 0), (72, (-25), 2, 0), (999, 0, 0, 0), (999, 0, 0, 0), (0, 1, 0, 0), (130, 0, 1, 0)]
def X_isSound_2b {ρ : Type} (kr : Int → zH → Option ρ) (r2 : Int → Int → zH → Option ρ) (a0 a1 : Int) (h : zH) : Option ρ :=
if a1 < 2 then (zob h 0 a0 fun p1 =>
zob h 2 (zhd h p1 1) fun p2 =>
zob h 33 (zhd h p2 2) fun p4 =>
zix (zhl h p4) a1 fun j3 =>
zob h 3 (zhd h p4 j3) fun _ =>
Un_isInOrder (zhd h p4 j3) h  fun v5 h6 =>
if v5 = 0 then kr 0 h6
else r2 a0 (wr (a1 + 1)) h6)
else kr 1 h
def X_isSound_2 {ρ : Type} (kr : Int → zH → Option ρ) : Int → Int → zH → Option ρ := zit (fun _ _ _ => none) (X_isSound_2b kr) zN
def X_isSound {ρ : Type} (a0 : Int) (h : zH) (kr : Int → zH → Option ρ) : Option ρ :=
X_isSound_2 kr a0 0 h
set_option maxRecDepth 100000 in
theorem qe_X_isSound_2b {ρ : Type} (kr : Int → zH → Option ρ) (r2 : Int → Int → zH → Option ρ) (a0 a1 : Int) (h : zH) : X_isSound_2b kr r2 a0 a1 h = zseg zPP true (fun _ _ => none) (zcal [(277, [none], fun xs h kr kt => match xs with
  | [x0] => Un_isInOrder x0 h kr
  | _ => none)]) (zget (999, 0, 0, 0) zc_X_isSound) (zcut [(2, [true, true])]) (zorc [(2, [some (2, none), some (0, none)], [], fun xs h => match xs with
  | [a0, a1] => r2 a0 a1 h
  | _ => none)]) kr (fun _ _ => none) 400 2 [some (2, a0), some (0, a1)] [] h := by rfl
set_option maxRecDepth 100000 in
theorem qe_X_isSound {ρ : Type} (kr : Int → zH → Option ρ) (a0 : Int) (h : zH) : X_isSound a0 h kr = zseg zPP true (fun _ _ => none) (zcal []) (zget (999, 0, 0, 0) zc_X_isSound) (zcut [(2, [true, true])]) (zorc [(2, [some (2, none), some (0, none)], [], fun xs h => match xs with
  | [a0, a1] => X_isSound_2 kr a0 a1 h
  | _ => none)]) kr (fun _ _ => none) 400 0 [some (2, a0), none] [] h := by rfl
def zc_M_thrown : List zI := [(14, 0, 0, 0), (80, 12, 185, 0), (999, 0, 0, 0), (999, 0, 0, 0), (130, 0, 0, 0)]
def M_thrown {ρ : Type} (s : zD) (kr : Int → zD → Option ρ) : Option ρ :=
kr (s 0 0) s
set_option maxRecDepth 100000 in
theorem qe_M_thrown {ρ : Type} (kr : Int → zD → Option ρ) (s : zD) : M_thrown  s kr = zseg zPP false zfinM (zcal []) (zget (999, 0, 0, 0) zc_M_thrown) (zcut []) (zorc []) (fun v h => kr v (zhd h)) (fun _ _ => none) 400 0 [some (2, 0)] [] (zM s) := by rfl
def zc_M_in : List zI := [(10, 0, 0, 0), (10, 0, 1, 0), (68, 12, 14, 0), (999, 0, 0, 0), (999, 0, 0, 0), (10, 0, 0, 0), (10, 0, 2, 0), (70, 7, 14, 0), (999, 0, 0, 0), (999, 0, 0, 0), (0, 1, 0, 0), (72, 4, 15, 0), (999, 0, 0, 0), (999, 0, 0, 0), (0, 0, 0, 0), (130, 0, 1, 0)]
def M_in_15 {ρ : Type} (kr : Int → zD → Option ρ) (t0 : Int) (s : zD) : Option ρ :=
znar 1 t0 fun x1 => kr x1 s
def M_in_14 {ρ : Type} (kr : Int → zD → Option ρ) (s : zD) : Option ρ :=
M_in_15 kr 0 s
def M_in {ρ : Type} (a0 a1 a2 : Int) (s : zD) (kr : Int → zD → Option ρ) : Option ρ :=
if a0 < a1 then M_in_14 kr s
else if a2 < a0 then M_in_14 kr s
else M_in_15 kr 1 s
set_option maxRecDepth 100000 in
theorem qe_M_in_15 {ρ : Type} (kr : Int → zD → Option ρ) (t0 : Int) (s : zD) : M_in_15 kr t0 s = zseg zPP false zfinM (zcal []) (zget (999, 0, 0, 0) zc_M_in) (zcut [(14, [false, false, false]), (15, [false, false, false])]) (zorc []) (fun v h => kr v (zhd h)) (fun _ _ => none) 400 15 [none, none, none] [(0, t0)] (zM s) := by rfl
set_option maxRecDepth 100000 in
theorem qe_M_in_14 {ρ : Type} (kr : Int → zD → Option ρ) (s : zD) : M_in_14 kr s = zseg zPP false zfinM (zcal []) (zget (999, 0, 0, 0) zc_M_in) (zcut [(14, [false, false, false]), (15, [false, false, false])]) (zorc [(15, [none, none, none], [(0, none)], fun xs h => match xs with
  | [t0] => M_in_15 kr t0 (zhd h)
  | _ => none)]) (fun v h => kr v (zhd h)) (fun _ _ => none) 400 14 [none, none, none] [] (zM s) := by rfl
set_option maxRecDepth 100000 in
theorem qe_M_in {ρ : Type} (kr : Int → zD → Option ρ) (a0 a1 a2 : Int) (s : zD) : M_in a0 a1 a2 s kr = zseg zPP false zfinM (zcal []) (zget (999, 0, 0, 0) zc_M_in) (zcut [(14, [false, false, false]), (15, [false, false, false])]) (zorc [(14, [none, none, none], [], fun xs h => match xs with
  | [] => M_in_14 kr  (zhd h)
  | _ => none), (15, [none, none, none], [(0, none)], fun xs h => match xs with
  | [t0] => M_in_15 kr t0 (zhd h)
  | _ => none)]) (fun v h => kr v (zhd h)) (fun _ _ => none) 400 0 [some (0, a0), some (0, a1), some (0, a2)] [] (zM s) := by rfl
def zc_M_fails : List zI := [(10, 0, 1, 0), (60, 15, 16, 0), (999, 0, 0, 0), (999, 0, 0, 0), (14, 0, 0, 0), (80, 12, 185, 0), (999, 0, 0, 0), (999, 0, 0, 0), (61, 8, 16, 0), (999, 0, 0, 0), (999, 0, 0, 0), (14, 0, 0, 0), (10, 0, 2, 0), (82, 12, 185, 0), (999, 0, 0, 0), (999, 0, 0, 0), (14, 0, 0, 0), (80, 12, 185, 0), (999, 0, 0, 0), (999, 0, 0, 0), (60, 7, 27, 0), (999, 0, 0, 0), (999, 0, 0, 0), (0, 1, 0, 0), (72, 4, 28, 0), (999, 0, 0, 0), (999, 0, 0, 0), (0, 0, 0, 0), (130, 0, 1, 0)]
def M_fails_28 {ρ : Type} (kr : Int → zD → Option ρ) (t0 : Int) (s : zD) : Option ρ :=
znar 1 t0 fun x1 => kr x1 s
def M_fails_16 {ρ : Type} (kr : Int → zD → Option ρ) (s : zD) : Option ρ :=
if (s 0 0) = 0 then M_fails_28 kr 0 s
else M_fails_28 kr 1 s
def M_fails {ρ : Type} (a1 a2 : Int) (s : zD) (kr : Int → zD → Option ρ) : Option ρ :=
if a1 = 0 then M_fails_16 kr s
else if (s 0 0) = 0 then (zlet (zup s 0 0 a2) fun s1 =>
M_fails_16 kr s1)
else M_fails_16 kr s
set_option maxRecDepth 100000 in
theorem qe_M_fails_28 {ρ : Type} (kr : Int → zD → Option ρ) (t0 : Int) (s : zD) : M_fails_28 kr t0 s = zseg zPP false zfinM (zcal []) (zget (999, 0, 0, 0) zc_M_fails) (zcut [(16, [true, false, false]), (28, [false, false, false])]) (zorc []) (fun v h => kr v (zhd h)) (fun _ _ => none) 400 28 [none, none, none] [(0, t0)] (zM s) := by rfl
set_option maxRecDepth 100000 in
theorem qe_M_fails_16 {ρ : Type} (kr : Int → zD → Option ρ) (s : zD) : M_fails_16 kr s = zseg zPP false zfinM (zcal []) (zget (999, 0, 0, 0) zc_M_fails) (zcut [(16, [true, false, false]), (28, [false, false, false])]) (zorc [(28, [none, none, none], [(0, none)], fun xs h => match xs with
  | [t0] => M_fails_28 kr t0 (zhd h)
  | _ => none)]) (fun v h => kr v (zhd h)) (fun _ _ => none) 400 16 [some (2, 0), none, none] [] (zM s) := by rfl
set_option maxRecDepth 100000 in
theorem qe_M_fails {ρ : Type} (kr : Int → zD → Option ρ) (a1 a2 : Int) (s : zD) : M_fails a1 a2 s kr = zseg zPP false zfinM (zcal []) (zget (999, 0, 0, 0) zc_M_fails) (zcut [(16, [true, false, false]), (28, [false, false, false])]) (zorc [(16, [some (2, some 0), none, none], [], fun xs h => match xs with
  | [] => M_fails_16 kr  (zhd h)
  | _ => none)]) (fun v h => kr v (zhd h)) (fun _ _ => none) 400 0 [some (2, 0), some (0, a1), some (0, a2)] [] (zM s) := by rfl
def zc_M_noKernel : List zI := [(10, 0, 1, 0), (0, 0, 0, 0), (14, 0, 0, 0), (80, 12, 189, 4), (999, 0, 0, 0), (999, 0, 0, 0), (0, 1, 0, 0), (31, 0, 0, 0), (113, 0, 192, 57), (999, 0, 0, 0), (999, 0, 0, 0), (61, 7, 18, 0), (999, 0, 0, 0), (999, 0, 0, 0), (0, 1, 0, 0), (72, 4, 19, 0), (999, 0, 0, 0), (999, 0, 0, 0), (0, 0, 0, 0), (130, 0, 1, 0)]
def M_noKernel_19 {ρ : Type} (kr : Int → zD → Option ρ) (t0 : Int) (s : zD) : Option ρ :=
znar 1 t0 fun x1 => kr x1 s
def M_noKernel {ρ : Type} (a1 : Int) (s : zD) (kr : Int → zD → Option ρ) : Option ρ :=
M_in a1 0 (wr ((s 0 4) - 1)) s  fun v1 s2 =>
if v1 = 0 then M_noKernel_19 kr 1 s2
else M_noKernel_19 kr 0 s2
set_option maxRecDepth 100000 in
theorem qe_M_noKernel_19 {ρ : Type} (kr : Int → zD → Option ρ) (t0 : Int) (s : zD) : M_noKernel_19 kr t0 s = zseg zPP false zfinM (zcal []) (zget (999, 0, 0, 0) zc_M_noKernel) (zcut [(19, [false, false])]) (zorc []) (fun v h => kr v (zhd h)) (fun _ _ => none) 400 19 [none, none] [(0, t0)] (zM s) := by rfl
set_option maxRecDepth 100000 in
theorem qe_M_noKernel {ρ : Type} (kr : Int → zD → Option ρ) (a1 : Int) (s : zD) : M_noKernel a1 s kr = zseg zPP false zfinM (zcal [(57, [none, none, none], fun xs h kr kt => match xs with
  | [x0, x1, x2] => M_in x0 x1 x2 (zhd h) (fun v s => kr v (zM s))
  | _ => none)]) (zget (999, 0, 0, 0) zc_M_noKernel) (zcut [(19, [false, false])]) (zorc [(19, [none, none], [(0, none)], fun xs h => match xs with
  | [t0] => M_noKernel_19 kr t0 (zhd h)
  | _ => none)]) (fun v h => kr v (zhd h)) (fun _ _ => none) 400 0 [some (2, 0), some (0, a1)] [] (zM s) := by rfl
def zc_M_noLaunch : List zI := [(10, 0, 1, 0), (0, 0, 0, 0), (14, 0, 0, 0), (80, 12, 196, 13), (999, 0, 0, 0), (999, 0, 0, 0), (0, 1, 0, 0), (31, 0, 0, 0), (113, 0, 192, 57), (999, 0, 0, 0), (999, 0, 0, 0), (61, 7, 18, 0), (999, 0, 0, 0), (999, 0, 0, 0), (0, 1, 0, 0), (72, 4, 19, 0), (999, 0, 0, 0), (999, 0, 0, 0), (0, 0, 0, 0), (130, 0, 1, 0)]
def M_noLaunch_19 {ρ : Type} (kr : Int → zD → Option ρ) (t0 : Int) (s : zD) : Option ρ :=
znar 1 t0 fun x1 => kr x1 s
def M_noLaunch {ρ : Type} (a1 : Int) (s : zD) (kr : Int → zD → Option ρ) : Option ρ :=
M_in a1 0 (wr ((s 0 13) - 1)) s  fun v1 s2 =>
if v1 = 0 then M_noLaunch_19 kr 1 s2
else M_noLaunch_19 kr 0 s2
set_option maxRecDepth 100000 in
theorem qe_M_noLaunch_19 {ρ : Type} (kr : Int → zD → Option ρ) (t0 : Int) (s : zD) : M_noLaunch_19 kr t0 s = zseg zPP false zfinM (zcal []) (zget (999, 0, 0, 0) zc_M_noLaunch) (zcut [(19, [false, false])]) (zorc []) (fun v h => kr v (zhd h)) (fun _ _ => none) 400 19 [none, none] [(0, t0)] (zM s) := by rfl
set_option maxRecDepth 100000 in
theorem qe_M_noLaunch {ρ : Type} (kr : Int → zD → Option ρ) (a1 : Int) (s : zD) : M_noLaunch a1 s kr = zseg zPP false zfinM (zcal [(57, [none, none, none], fun xs h kr kt => match xs with
  | [x0, x1, x2] => M_in x0 x1 x2 (zhd h) (fun v s => kr v (zM s))
  | _ => none)]) (zget (999, 0, 0, 0) zc_M_noLaunch) (zcut [(19, [false, false])]) (zorc [(19, [none, none], [(0, none)], fun xs h => match xs with
  | [t0] => M_noLaunch_19 kr t0 (zhd h)
  | _ => none)]) (fun v h => kr v (zhd h)) (fun _ _ => none) 400 0 [some (2, 0), some (0, a1)] [] (zM s) := by rfl
def zc_M_noCell : List zI := [(10, 0, 0, 0), (0, 0, 0, 0), (1, 63, 0, 0), (999, 0, 0, 0), (113, 0, 192, 57), (999, 0, 0, 0), (999, 0, 0, 0), (61, 7, 14, 0), (999, 0, 0, 0), (999, 0, 0, 0), (0, 1, 0, 0), (72, 4, 15, 0), (999, 0, 0, 0), (999, 0, 0, 0), (0, 0, 0, 0), (130, 0, 1, 0)]
def M_noCell_15 {ρ : Type} (kr : Int → zD → Option ρ) (t0 : Int) (s : zD) : Option ρ :=
znar 1 t0 fun x1 => kr x1 s
def M_noCell {ρ : Type} (a0 : Int) (s : zD) (kr : Int → zD → Option ρ) : Option ρ :=
M_in a0 0 63 s  fun v1 s2 =>
if v1 = 0 then M_noCell_15 kr 1 s2
else M_noCell_15 kr 0 s2
set_option maxRecDepth 100000 in
theorem qe_M_noCell_15 {ρ : Type} (kr : Int → zD → Option ρ) (t0 : Int) (s : zD) : M_noCell_15 kr t0 s = zseg zPP false zfinM (zcal []) (zget (999, 0, 0, 0) zc_M_noCell) (zcut [(15, [false])]) (zorc []) (fun v h => kr v (zhd h)) (fun _ _ => none) 400 15 [none] [(0, t0)] (zM s) := by rfl
set_option maxRecDepth 100000 in
theorem qe_M_noCell {ρ : Type} (kr : Int → zD → Option ρ) (a0 : Int) (s : zD) : M_noCell a0 s kr = zseg zPP false zfinM (zcal [(57, [none, none, none], fun xs h kr kt => match xs with
  | [x0, x1, x2] => M_in x0 x1 x2 (zhd h) (fun v s => kr v (zM s))
  | _ => none)]) (zget (999, 0, 0, 0) zc_M_noCell) (zcut [(15, [false])]) (zorc [(15, [none], [(0, none)], fun xs h => match xs with
  | [t0] => M_noCell_15 kr t0 (zhd h)
  | _ => none)]) (fun v h => kr v (zhd h)) (fun _ _ => none) 400 0 [some (0, a0)] [] (zM s) := by rfl
def zc_M_addKernel : List zI := [(14, 0, 0, 0), (0, 0, 0, 0), (82, 12, 185, 0), (999, 0, 0, 0), (999, 0, 0, 0), (14, 0, 0, 0), (10, 0, 1, 0), (0, 1, 0, 0), (1, 8, 0, 0), (999, 0, 0, 0), (113, 0, 192, 57), (999, 0, 0, 0), (999, 0, 0, 0), (60, 13, 26, 0), (999, 0, 0, 0), (999, 0, 0, 0), (10, 0, 2, 0), (0, 0, 0, 0), (1, 16, 0, 0), (999, 0, 0, 0), (113, 0, 192, 57), (999, 0, 0, 0), (999, 0, 0, 0), (61, 7, 30, 0), (999, 0, 0, 0), (999, 0, 0, 0), (0, 1, 0, 0), (72, 4, 31, 0), (999, 0, 0, 0), (999, 0, 0, 0), (0, 0, 0, 0), (0, 1, 0, 0), (110, 0, 199, 58), (999, 0, 0, 0), (999, 0, 0, 0), (61, 24, 59, 0), (999, 0, 0, 0), (999, 0, 0, 0), (14, 0, 0, 0), (14, 0, 0, 0), (80, 12, 189, 4), (999, 0, 0, 0), (999, 0, 0, 0), (0, 4, 0, 0), (67, 7, 51, 0), (999, 0, 0, 0), (999, 0, 0, 0), (0, 1, 0, 0), (72, 4, 52, 0), (999, 0, 0, 0), (999, 0, 0, 0), (0, 0, 0, 0), (0, 2, 0, 0), (110, 0, 199, 58), (999, 0, 0, 0), (999, 0, 0, 0), (60, 5, 61, 0), (999, 0, 0, 0), (999, 0, 0, 0), (0, 0, 0, 0), (130, 0, 0, 0), (14, 0, 0, 0), (80, 12, 17, 5), (999, 0, 0, 0), (999, 0, 0, 0), (14, 0, 0, 0), (80, 12, 189, 4), (999, 0, 0, 0), (999, 0, 0, 0), (10, 0, 1, 0), (95, 0, 0, 0), (14, 0, 0, 0), (80, 12, 20, 6), (999, 0, 0, 0), (999, 0, 0, 0), (14, 0, 0, 0), (80, 12, 189, 4), (999, 0, 0, 0), (999, 0, 0, 0), (10, 0, 2, 0), (95, 0, 0, 0), (14, 0, 0, 0), (50, 0, 0, 0), (80, 12, 189, 4), (999, 0, 0, 0), (999, 0, 0, 0), (0, 1, 0, 0), (30, 0, 0, 0), (82, 12, 189, 4), (999, 0, 0, 0), (999, 0, 0, 0), (14, 0, 0, 0), (80, 12, 189, 4), (999, 0, 0, 0), (999, 0, 0, 0), (0, 1, 0, 0), (31, 0, 0, 0), (130, 0, 0, 0)]
def M_addKernel_59 {ρ : Type} (kr : Int → zD → Option ρ) (s : zD) : Option ρ :=
kr 0 s
def M_addKernel_52 {ρ : Type} (kr : Int → zD → Option ρ) (a1 a2 t0 : Int) (s : zD) : Option ρ :=
M_fails t0 2 s  fun v1 s2 =>
if v1 = 0 then (zix 4 (s2 0 4) fun j3 =>
zlet (zup s2 2 j3 a1) fun s4 =>
zix 4 (s4 0 4) fun j5 =>
zlet (zup s4 3 j5 a2) fun s6 =>
zlet (zup s6 0 4 (wr ((s6 0 4) + 1))) fun s7 =>
kr (wr ((s7 0 4) - 1)) s7)
else M_addKernel_59 kr s2
def M_addKernel_31 {ρ : Type} (kr : Int → zD → Option ρ) (a1 a2 t0 : Int) (s : zD) : Option ρ :=
M_fails t0 1 s  fun v1 s2 =>
if v1 = 0 then (if (s2 0 4) = 4 then M_addKernel_52 kr a1 a2 1 s2
else M_addKernel_52 kr a1 a2 0 s2)
else M_addKernel_59 kr s2
def M_addKernel_26 {ρ : Type} (kr : Int → zD → Option ρ) (a1 a2 : Int) (s : zD) : Option ρ :=
M_addKernel_31 kr a1 a2 1 s
def M_addKernel {ρ : Type} (a1 a2 : Int) (s : zD) (kr : Int → zD → Option ρ) : Option ρ :=
zlet (zup s 0 0 0) fun s1 =>
M_in a1 1 8 s1  fun v2 s3 =>
if v2 = 0 then M_addKernel_26 kr a1 a2 s3
else M_in a2 0 16 s3  fun v4 s5 =>
if v4 = 0 then M_addKernel_26 kr a1 a2 s5
else M_addKernel_31 kr a1 a2 0 s5
set_option maxRecDepth 100000 in
theorem qe_M_addKernel_59 {ρ : Type} (kr : Int → zD → Option ρ) (s : zD) : M_addKernel_59 kr s = zseg zPP false zfinM (zcal []) (zget (999, 0, 0, 0) zc_M_addKernel) (zcut [(26, [true, true, true]), (31, [true, true, true]), (52, [true, true, true]), (59, [false, false, false])]) (zorc []) (fun v h => kr v (zhd h)) (fun _ _ => none) 400 59 [none, none, none] [] (zM s) := by rfl
set_option maxRecDepth 100000 in
theorem qe_M_addKernel_52 {ρ : Type} (kr : Int → zD → Option ρ) (a1 a2 t0 : Int) (s : zD) : M_addKernel_52 kr a1 a2 t0 s = zseg zPP false zfinM (zcal [(58, [some 0, none, none], fun xs h kr kt => match xs with
  | [x0, x1] => M_fails x0 x1 (zhd h) (fun v s => kr v (zM s))
  | _ => none)]) (zget (999, 0, 0, 0) zc_M_addKernel) (zcut [(26, [true, true, true]), (31, [true, true, true]), (52, [true, true, true]), (59, [false, false, false])]) (zorc [(59, [none, none, none], [], fun xs h => match xs with
  | [] => M_addKernel_59 kr  (zhd h)
  | _ => none)]) (fun v h => kr v (zhd h)) (fun _ _ => none) 400 52 [some (2, 0), some (0, a1), some (0, a2)] [(0, t0), (2, 0)] (zM s) := by rfl
set_option maxRecDepth 100000 in
theorem qe_M_addKernel_31 {ρ : Type} (kr : Int → zD → Option ρ) (a1 a2 t0 : Int) (s : zD) : M_addKernel_31 kr a1 a2 t0 s = zseg zPP false zfinM (zcal [(58, [some 0, none, none], fun xs h kr kt => match xs with
  | [x0, x1] => M_fails x0 x1 (zhd h) (fun v s => kr v (zM s))
  | _ => none)]) (zget (999, 0, 0, 0) zc_M_addKernel) (zcut [(26, [true, true, true]), (31, [true, true, true]), (52, [true, true, true]), (59, [false, false, false])]) (zorc [(52, [some (2, some 0), some (0, none), some (0, none)], [(0, none), (2, some 0)], fun xs h => match xs with
  | [a1, a2, t0] => M_addKernel_52 kr a1 a2 t0 (zhd h)
  | _ => none), (59, [none, none, none], [], fun xs h => match xs with
  | [] => M_addKernel_59 kr  (zhd h)
  | _ => none)]) (fun v h => kr v (zhd h)) (fun _ _ => none) 400 31 [some (2, 0), some (0, a1), some (0, a2)] [(0, t0), (2, 0)] (zM s) := by rfl
set_option maxRecDepth 100000 in
theorem qe_M_addKernel_26 {ρ : Type} (kr : Int → zD → Option ρ) (a1 a2 : Int) (s : zD) : M_addKernel_26 kr a1 a2 s = zseg zPP false zfinM (zcal []) (zget (999, 0, 0, 0) zc_M_addKernel) (zcut [(26, [true, true, true]), (31, [true, true, true]), (52, [true, true, true]), (59, [false, false, false])]) (zorc [(31, [some (2, some 0), some (0, none), some (0, none)], [(0, none), (2, some 0)], fun xs h => match xs with
  | [a1, a2, t0] => M_addKernel_31 kr a1 a2 t0 (zhd h)
  | _ => none)]) (fun v h => kr v (zhd h)) (fun _ _ => none) 400 26 [some (2, 0), some (0, a1), some (0, a2)] [(2, 0)] (zM s) := by rfl
set_option maxRecDepth 100000 in
theorem qe_M_addKernel {ρ : Type} (kr : Int → zD → Option ρ) (a1 a2 : Int) (s : zD) : M_addKernel a1 a2 s kr = zseg zPP false zfinM (zcal [(57, [none, none, none], fun xs h kr kt => match xs with
  | [x0, x1, x2] => M_in x0 x1 x2 (zhd h) (fun v s => kr v (zM s))
  | _ => none)]) (zget (999, 0, 0, 0) zc_M_addKernel) (zcut [(26, [true, true, true]), (31, [true, true, true]), (52, [true, true, true]), (59, [false, false, false])]) (zorc [(26, [some (2, some 0), some (0, none), some (0, none)], [(2, some 0)], fun xs h => match xs with
  | [a1, a2] => M_addKernel_26 kr a1 a2 (zhd h)
  | _ => none), (31, [some (2, some 0), some (0, none), some (0, none)], [(0, none), (2, some 0)], fun xs h => match xs with
  | [a1, a2, t0] => M_addKernel_31 kr a1 a2 t0 (zhd h)
  | _ => none)]) (fun v h => kr v (zhd h)) (fun _ _ => none) 400 0 [some (2, 0), some (0, a1), some (0, a2)] [] (zM s) := by rfl
def zc_M_named : List zI := [(10, 0, 0, 0), (1, 43, 0, 0), (999, 0, 0, 0), (66, 45, 48, 0), (999, 0, 0, 0), (999, 0, 0, 0), (10, 0, 0, 0), (1, 45, 0, 0), (999, 0, 0, 0), (66, 39, 48, 0), (999, 0, 0, 0), (999, 0, 0, 0), (10, 0, 0, 0), (1, 42, 0, 0), (999, 0, 0, 0), (66, 33, 48, 0), (999, 0, 0, 0), (999, 0, 0, 0), (10, 0, 0, 0), (1, 60, 0, 0), (999, 0, 0, 0), (66, 27, 48, 0), (999, 0, 0, 0), (999, 0, 0, 0), (10, 0, 0, 0), (1, 61, 0, 0), (999, 0, 0, 0), (66, 21, 48, 0), (999, 0, 0, 0), (999, 0, 0, 0), (10, 0, 0, 0), (1, 97, 0, 0), (999, 0, 0, 0), (66, 15, 48, 0), (999, 0, 0, 0), (999, 0, 0, 0), (10, 0, 0, 0), (1, 120, 0, 0), (999, 0, 0, 0), (66, 9, 48, 0), (999, 0, 0, 0), (999, 0, 0, 0), (10, 0, 0, 0), (1, 115, 0, 0), (999, 0, 0, 0), (67, 6, 51, 0), (999, 0, 0, 0), (999, 0, 0, 0), (1, 7, 0, 0), (999, 0, 0, 0), (130, 0, 0, 0), (10, 0, 0, 0), (1, 114, 0, 0), (999, 0, 0, 0), (66, 27, 81, 0), (999, 0, 0, 0), (999, 0, 0, 0), (10, 0, 0, 0), (1, 119, 0, 0), (999, 0, 0, 0), (66, 21, 81, 0), (999, 0, 0, 0), (999, 0, 0, 0), (10, 0, 0, 0), (1, 82, 0, 0), (999, 0, 0, 0), (66, 15, 81, 0), (999, 0, 0, 0), (999, 0, 0, 0), (10, 0, 0, 0), (1, 87, 0, 0), (999, 0, 0, 0), (66, 9, 81, 0), (999, 0, 0, 0), (999, 0, 0, 0), (10, 0, 0, 0), (1, 118, 0, 0), (999, 0, 0, 0), (67, 6, 84, 0), (999, 0, 0, 0), (999, 0, 0, 0), (1, 6, 0, 0), (999, 0, 0, 0), (130, 0, 0, 0), (10, 0, 0, 0), (1, 107, 0, 0), (999, 0, 0, 0), (66, 27, 114, 0), (999, 0, 0, 0), (999, 0, 0, 0), (10, 0, 0, 0), (1, 116, 0, 0), (999, 0, 0, 0), (66, 21, 114, 0), (999, 0, 0, 0), (999, 0, 0, 0), (10, 0, 0, 0), (1, 110, 0, 0), (999, 0, 0, 0), (66, 15, 114, 0), (999, 0, 0, 0), (999, 0, 0, 0), (10, 0, 0, 0), (1, 108, 0, 0), (999, 0, 0, 0), (66, 9, 114, 0), (999, 0, 0, 0), (999, 0, 0, 0), (10, 0, 0, 0), (1, 122, 0, 0), (999, 0, 0, 0), (67, 5, 116, 0), (999, 0, 0, 0), (999, 0, 0, 0), (0, 4, 0, 0), (130, 0, 0, 0), (10, 0, 0, 0), (1, 99, 0, 0), (999, 0, 0, 0), (67, 7, 126, 0), (999, 0, 0, 0), (999, 0, 0, 0), (0, 5, 0, 0), (72, 32, 155, 0), (999, 0, 0, 0), (999, 0, 0, 0), (10, 0, 0, 0), (1, 106, 0, 0), (999, 0, 0, 0), (66, 21, 150, 0), (999, 0, 0, 0), (999, 0, 0, 0), (10, 0, 0, 0), (1, 98, 0, 0), (999, 0, 0, 0), (66, 15, 150, 0), (999, 0, 0, 0), (999, 0, 0, 0), (10, 0, 0, 0), (1, 102, 0, 0), (999, 0, 0, 0), (66, 9, 150, 0), (999, 0, 0, 0), (999, 0, 0, 0), (10, 0, 0, 0), (1, 101, 0, 0), (999, 0, 0, 0), (67, 7, 154, 0), (999, 0, 0, 0), (999, 0, 0, 0), (0, 0, 0, 0), (72, 4, 155, 0), (999, 0, 0, 0), (999, 0, 0, 0), (0, (-1), 0, 0), (130, 0, 0, 0)]
def M_named_48 {ρ : Type} (kr : Int → zD → Option ρ) (s : zD) : Option ρ :=
kr 7 s
def M_named_81 {ρ : Type} (kr : Int → zD → Option ρ) (s : zD) : Option ρ :=
kr 6 s
def M_named_114 {ρ : Type} (kr : Int → zD → Option ρ) (s : zD) : Option ρ :=
kr 4 s
def M_named_155 {ρ : Type} (kr : Int → zD → Option ρ) (t0 : Int) (s : zD) : Option ρ :=
kr t0 s
def M_named_150 {ρ : Type} (kr : Int → zD → Option ρ) (s : zD) : Option ρ :=
M_named_155 kr 0 s
def M_named {ρ : Type} (a0 : Int) (s : zD) (kr : Int → zD → Option ρ) : Option ρ :=
if a0 = 43 then M_named_48 kr s
else if a0 = 45 then M_named_48 kr s
else if a0 = 42 then M_named_48 kr s
else if a0 = 60 then M_named_48 kr s
else if a0 = 61 then M_named_48 kr s
else if a0 = 97 then M_named_48 kr s
else if a0 = 120 then M_named_48 kr s
else if a0 = 115 then M_named_48 kr s
else if a0 = 114 then M_named_81 kr s
else if a0 = 119 then M_named_81 kr s
else if a0 = 82 then M_named_81 kr s
else if a0 = 87 then M_named_81 kr s
else if a0 = 118 then M_named_81 kr s
else if a0 = 107 then M_named_114 kr s
else if a0 = 116 then M_named_114 kr s
else if a0 = 110 then M_named_114 kr s
else if a0 = 108 then M_named_114 kr s
else if a0 = 122 then M_named_114 kr s
else if a0 = 99 then M_named_155 kr 5 s
else if a0 = 106 then M_named_150 kr s
else if a0 = 98 then M_named_150 kr s
else if a0 = 102 then M_named_150 kr s
else if a0 = 101 then M_named_150 kr s
else M_named_155 kr (-1) s
set_option maxRecDepth 100000 in
theorem qe_M_named_48 {ρ : Type} (kr : Int → zD → Option ρ) (s : zD) : M_named_48 kr s = zseg zPP false zfinM (zcal []) (zget (999, 0, 0, 0) zc_M_named) (zcut [(48, [false]), (81, [false]), (114, [false]), (150, [false]), (155, [false])]) (zorc []) (fun v h => kr v (zhd h)) (fun _ _ => none) 400 48 [none] [] (zM s) := by rfl
set_option maxRecDepth 100000 in
theorem qe_M_named_81 {ρ : Type} (kr : Int → zD → Option ρ) (s : zD) : M_named_81 kr s = zseg zPP false zfinM (zcal []) (zget (999, 0, 0, 0) zc_M_named) (zcut [(48, [false]), (81, [false]), (114, [false]), (150, [false]), (155, [false])]) (zorc []) (fun v h => kr v (zhd h)) (fun _ _ => none) 400 81 [none] [] (zM s) := by rfl
set_option maxRecDepth 100000 in
theorem qe_M_named_114 {ρ : Type} (kr : Int → zD → Option ρ) (s : zD) : M_named_114 kr s = zseg zPP false zfinM (zcal []) (zget (999, 0, 0, 0) zc_M_named) (zcut [(48, [false]), (81, [false]), (114, [false]), (150, [false]), (155, [false])]) (zorc []) (fun v h => kr v (zhd h)) (fun _ _ => none) 400 114 [none] [] (zM s) := by rfl
set_option maxRecDepth 100000 in
theorem qe_M_named_155 {ρ : Type} (kr : Int → zD → Option ρ) (t0 : Int) (s : zD) : M_named_155 kr t0 s = zseg zPP false zfinM (zcal []) (zget (999, 0, 0, 0) zc_M_named) (zcut [(48, [false]), (81, [false]), (114, [false]), (150, [false]), (155, [false])]) (zorc []) (fun v h => kr v (zhd h)) (fun _ _ => none) 400 155 [none] [(0, t0)] (zM s) := by rfl
set_option maxRecDepth 100000 in
theorem qe_M_named_150 {ρ : Type} (kr : Int → zD → Option ρ) (s : zD) : M_named_150 kr s = zseg zPP false zfinM (zcal []) (zget (999, 0, 0, 0) zc_M_named) (zcut [(48, [false]), (81, [false]), (114, [false]), (150, [false]), (155, [false])]) (zorc [(155, [none], [(0, none)], fun xs h => match xs with
  | [t0] => M_named_155 kr t0 (zhd h)
  | _ => none)]) (fun v h => kr v (zhd h)) (fun _ _ => none) 400 150 [none] [] (zM s) := by rfl
set_option maxRecDepth 100000 in
theorem qe_M_named {ρ : Type} (kr : Int → zD → Option ρ) (a0 : Int) (s : zD) : M_named a0 s kr = zseg zPP false zfinM (zcal []) (zget (999, 0, 0, 0) zc_M_named) (zcut [(48, [false]), (81, [false]), (114, [false]), (150, [false]), (155, [false])]) (zorc [(48, [none], [], fun xs h => match xs with
  | [] => M_named_48 kr  (zhd h)
  | _ => none), (81, [none], [], fun xs h => match xs with
  | [] => M_named_81 kr  (zhd h)
  | _ => none), (114, [none], [], fun xs h => match xs with
  | [] => M_named_114 kr  (zhd h)
  | _ => none), (150, [none], [], fun xs h => match xs with
  | [] => M_named_150 kr  (zhd h)
  | _ => none), (155, [none], [(0, none)], fun xs h => match xs with
  | [t0] => M_named_155 kr t0 (zhd h)
  | _ => none)]) (fun v h => kr v (zhd h)) (fun _ _ => none) 400 0 [some (0, a0)] [] (zM s) := by rfl
