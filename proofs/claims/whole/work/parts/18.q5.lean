def zc_M_thrown : List zI := [(14, 0, 0, 112), (80, 12, 185, 0), (999, 0, 0, 0), (999, 0, 0, 0), (130, 0, 0, 0)]
def zu_M_thrown : List (Nat × List Bool) := []
set_option maxRecDepth 100000 in
theorem qg_M_thrown {ρ : Type} (kr : Int → zH → Option ρ) (h : zH) : (kr (zhD h 12 0 0) h) = zseg zPP false (zcal []) (zget (999, 0, 0, 0) zc_M_thrown) (zcut zu_M_thrown) (zorc []) kr (fun _ _ => none) 400 0 [some (112, 0)] [] h := by rfl
set_option maxRecDepth 100000 in
theorem qe_M_thrown {ρ : Type} (kr : Int → zH → Option ρ) (h : zH) : M_thrown h kr = zseg zPP false (zcal []) (zget (999, 0, 0, 0) zc_M_thrown) (zcut zu_M_thrown) (zorc []) kr (fun _ _ => none) 400 0 [some (112, 0)] [] h := qg_M_thrown kr h
def zc_M_in : List zI := [(10, 0, 0, 0), (10, 0, 1, 0), (68, 12, 14, 0), (999, 0, 0, 0), (999, 0, 0, 0), (10, 0, 0, 0), (10, 0, 2, 0), (70, 7, 14, 0), (999, 0, 0, 0), (999, 0, 0, 0), (0, 1, 0, 0), (72, 4, 15, 0), (999, 0, 0, 0), (999, 0, 0, 0), (0, 0, 0, 0), (130, 0, 1, 0)]
def zu_M_in : List (Nat × List Bool) := [(14, [false, false, false]), (15, [false, false, false])]
set_option maxRecDepth 100000 in
theorem qg_M_in_15 {ρ : Type} (kr : Int → zH → Option ρ) (t0 : Int) (h : zH) : (znar 1 t0 fun x1 => kr x1 h) = zseg zPP false (zcal []) (zget (999, 0, 0, 0) zc_M_in) (zcut zu_M_in) (zorc []) kr (fun _ _ => none) 400 15 [none, none, none] [(0, t0)] h := by rfl
set_option maxRecDepth 100000 in
theorem qe_M_in_15 {ρ : Type} (kr : Int → zH → Option ρ) (t0 : Int) (h : zH) : M_in_15 kr t0 h = zseg zPP false (zcal []) (zget (999, 0, 0, 0) zc_M_in) (zcut zu_M_in) (zorc []) kr (fun _ _ => none) 400 15 [none, none, none] [(0, t0)] h := qg_M_in_15 kr t0 h
set_option maxRecDepth 100000 in
theorem qg_M_in_14 {ρ : Type} (kr : Int → zH → Option ρ) (c15 : Int → zH → Option ρ) (h : zH) : (c15 0 h) = zseg zPP false (zcal []) (zget (999, 0, 0, 0) zc_M_in) (zcut zu_M_in) (zorc [(15, [none, none, none], [(0, none)], fun xs h => match xs with
  | [t0] => c15 t0 h
  | _ => none)]) kr (fun _ _ => none) 400 14 [none, none, none] [] h := by rfl
set_option maxRecDepth 100000 in
theorem qe_M_in_14 {ρ : Type} (kr : Int → zH → Option ρ) (h : zH) : M_in_14 kr h = zseg zPP false (zcal []) (zget (999, 0, 0, 0) zc_M_in) (zcut zu_M_in) (zorc [(15, [none, none, none], [(0, none)], fun xs h => match xs with
  | [t0] => M_in_15 kr t0 h
  | _ => none)]) kr (fun _ _ => none) 400 14 [none, none, none] [] h := qg_M_in_14 kr (M_in_15 kr) h
set_option maxRecDepth 100000 in
theorem qg_M_in {ρ : Type} (kr : Int → zH → Option ρ) (c14 : zH → Option ρ) (c15 : Int → zH → Option ρ) (a0 a1 a2 : Int) (h : zH) : (if a0 < a1 then c14 h
else if a2 < a0 then c14 h
else c15 1 h) = zseg zPP false (zcal []) (zget (999, 0, 0, 0) zc_M_in) (zcut zu_M_in) (zorc [(14, [none, none, none], [], fun xs h => match xs with
  | [] => c14 h
  | _ => none), (15, [none, none, none], [(0, none)], fun xs h => match xs with
  | [t0] => c15 t0 h
  | _ => none)]) kr (fun _ _ => none) 400 0 [some (0, a0), some (0, a1), some (0, a2)] [] h := by rfl
set_option maxRecDepth 100000 in
theorem qe_M_in {ρ : Type} (kr : Int → zH → Option ρ) (a0 a1 a2 : Int) (h : zH) : M_in a0 a1 a2 h kr = zseg zPP false (zcal []) (zget (999, 0, 0, 0) zc_M_in) (zcut zu_M_in) (zorc [(14, [none, none, none], [], fun xs h => match xs with
  | [] => M_in_14 kr h
  | _ => none), (15, [none, none, none], [(0, none)], fun xs h => match xs with
  | [t0] => M_in_15 kr t0 h
  | _ => none)]) kr (fun _ _ => none) 400 0 [some (0, a0), some (0, a1), some (0, a2)] [] h := qg_M_in kr (M_in_14 kr) (M_in_15 kr) a0 a1 a2 h
def zc_M_fails : List zI := [(10, 0, 1, 0), (60, 15, 16, 0), (999, 0, 0, 0), (999, 0, 0, 0), (14, 0, 0, 112), (80, 12, 185, 0), (999, 0, 0, 0), (999, 0, 0, 0), (61, 8, 16, 0), (999, 0, 0, 0), (999, 0, 0, 0), (14, 0, 0, 112), (10, 0, 2, 0), (82, 12, 185, 0), (999, 0, 0, 0), (999, 0, 0, 0), (14, 0, 0, 112), (80, 12, 185, 0), (999, 0, 0, 0), (999, 0, 0, 0), (60, 7, 27, 0), (999, 0, 0, 0), (999, 0, 0, 0), (0, 1, 0, 0), (72, 4, 28, 0), (999, 0, 0, 0), (999, 0, 0, 0), (0, 0, 0, 0), (130, 0, 1, 0)]
def zu_M_fails : List (Nat × List Bool) := [(16, [true, false, false]), (28, [false, false, false])]
set_option maxRecDepth 100000 in
theorem qg_M_fails_28 {ρ : Type} (kr : Int → zH → Option ρ) (t0 : Int) (h : zH) : (znar 1 t0 fun x1 => kr x1 h) = zseg zPP false (zcal []) (zget (999, 0, 0, 0) zc_M_fails) (zcut zu_M_fails) (zorc []) kr (fun _ _ => none) 400 28 [none, none, none] [(0, t0)] h := by rfl
set_option maxRecDepth 100000 in
theorem qe_M_fails_28 {ρ : Type} (kr : Int → zH → Option ρ) (t0 : Int) (h : zH) : M_fails_28 kr t0 h = zseg zPP false (zcal []) (zget (999, 0, 0, 0) zc_M_fails) (zcut zu_M_fails) (zorc []) kr (fun _ _ => none) 400 28 [none, none, none] [(0, t0)] h := qg_M_fails_28 kr t0 h
set_option maxRecDepth 100000 in
theorem qg_M_fails_16 {ρ : Type} (kr : Int → zH → Option ρ) (c28 : Int → zH → Option ρ) (h : zH) : (if (zhD h 12 0 0) = 0 then c28 0 h
else c28 1 h) = zseg zPP false (zcal []) (zget (999, 0, 0, 0) zc_M_fails) (zcut zu_M_fails) (zorc [(28, [none, none, none], [(0, none)], fun xs h => match xs with
  | [t0] => c28 t0 h
  | _ => none)]) kr (fun _ _ => none) 400 16 [some (112, 0), none, none] [] h := by rfl
set_option maxRecDepth 100000 in
theorem qe_M_fails_16 {ρ : Type} (kr : Int → zH → Option ρ) (h : zH) : M_fails_16 kr h = zseg zPP false (zcal []) (zget (999, 0, 0, 0) zc_M_fails) (zcut zu_M_fails) (zorc [(28, [none, none, none], [(0, none)], fun xs h => match xs with
  | [t0] => M_fails_28 kr t0 h
  | _ => none)]) kr (fun _ _ => none) 400 16 [some (112, 0), none, none] [] h := qg_M_fails_16 kr (M_fails_28 kr) h
set_option maxRecDepth 100000 in
theorem qg_M_fails {ρ : Type} (kr : Int → zH → Option ρ) (c16 : zH → Option ρ) (a1 a2 : Int) (h : zH) : (if a1 = 0 then c16 h
else if (zhD h 12 0 0) = 0 then (zlet (zset h 12 0 0 a2) fun h1 =>
c16 h1)
else c16 h) = zseg zPP false (zcal []) (zget (999, 0, 0, 0) zc_M_fails) (zcut zu_M_fails) (zorc [(16, [some (112, some 0), none, none], [], fun xs h => match xs with
  | [] => c16 h
  | _ => none)]) kr (fun _ _ => none) 400 0 [some (112, 0), some (0, a1), some (0, a2)] [] h := by rfl
set_option maxRecDepth 100000 in
theorem qe_M_fails {ρ : Type} (kr : Int → zH → Option ρ) (a1 a2 : Int) (h : zH) : M_fails a1 a2 h kr = zseg zPP false (zcal []) (zget (999, 0, 0, 0) zc_M_fails) (zcut zu_M_fails) (zorc [(16, [some (112, some 0), none, none], [], fun xs h => match xs with
  | [] => M_fails_16 kr h
  | _ => none)]) kr (fun _ _ => none) 400 0 [some (112, 0), some (0, a1), some (0, a2)] [] h := qg_M_fails kr (M_fails_16 kr) a1 a2 h
def zc_M_noKernel : List zI := [(10, 0, 1, 0), (0, 0, 0, 0), (14, 0, 0, 112), (80, 12, 189, 4), (999, 0, 0, 0), (999, 0, 0, 0), (0, 1, 0, 0), (31, 0, 0, 0), (113, 0, 192, 64), (999, 0, 0, 0), (999, 0, 0, 0), (61, 7, 18, 0), (999, 0, 0, 0), (999, 0, 0, 0), (0, 1, 0, 0), (72, 4, 19, 0), (999, 0, 0, 0), (999, 0, 0, 0), (0, 0, 0, 0), (130, 0, 1, 0)]
def zu_M_noKernel : List (Nat × List Bool) := [(19, [false, false])]
set_option maxRecDepth 100000 in
theorem qg_M_noKernel_19 {ρ : Type} (kr : Int → zH → Option ρ) (t0 : Int) (h : zH) : (znar 1 t0 fun x1 => kr x1 h) = zseg zPP false (zcal []) (zget (999, 0, 0, 0) zc_M_noKernel) (zcut zu_M_noKernel) (zorc []) kr (fun _ _ => none) 400 19 [none, none] [(0, t0)] h := by rfl
set_option maxRecDepth 100000 in
theorem qe_M_noKernel_19 {ρ : Type} (kr : Int → zH → Option ρ) (t0 : Int) (h : zH) : M_noKernel_19 kr t0 h = zseg zPP false (zcal []) (zget (999, 0, 0, 0) zc_M_noKernel) (zcut zu_M_noKernel) (zorc []) kr (fun _ _ => none) 400 19 [none, none] [(0, t0)] h := qg_M_noKernel_19 kr t0 h
set_option maxRecDepth 100000 in
theorem qg_M_noKernel {ρ : Type} (kr : Int → zH → Option ρ) (F_M_in : Int → Int → Int → zH → (Int → zH → Option ρ) → Option ρ) (c19 : Int → zH → Option ρ) (a1 : Int) (h : zH) : (F_M_in a1 0 (wr ((zhD h 12 0 4) - 1)) h  fun v1 h2 =>
if v1 = 0 then c19 1 h2
else c19 0 h2) = zseg zPP false (zcal [(64, [none, none, none], fun xs h kr kt => match xs with
  | [x0, x1, x2] => F_M_in x0 x1 x2 h kr
  | _ => none)]) (zget (999, 0, 0, 0) zc_M_noKernel) (zcut zu_M_noKernel) (zorc [(19, [none, none], [(0, none)], fun xs h => match xs with
  | [t0] => c19 t0 h
  | _ => none)]) kr (fun _ _ => none) 400 0 [some (112, 0), some (0, a1)] [] h := by rfl
set_option maxRecDepth 100000 in
theorem qe_M_noKernel {ρ : Type} (kr : Int → zH → Option ρ) (a1 : Int) (h : zH) : M_noKernel a1 h kr = zseg zPP false (zcal [(64, [none, none, none], fun xs h kr kt => match xs with
  | [x0, x1, x2] => M_in x0 x1 x2 h kr
  | _ => none)]) (zget (999, 0, 0, 0) zc_M_noKernel) (zcut zu_M_noKernel) (zorc [(19, [none, none], [(0, none)], fun xs h => match xs with
  | [t0] => M_noKernel_19 kr t0 h
  | _ => none)]) kr (fun _ _ => none) 400 0 [some (112, 0), some (0, a1)] [] h := qg_M_noKernel kr M_in (M_noKernel_19 kr) a1 h
def zc_M_noLaunch : List zI := [(10, 0, 1, 0), (0, 0, 0, 0), (14, 0, 0, 112), (80, 12, 196, 13), (999, 0, 0, 0), (999, 0, 0, 0), (0, 1, 0, 0), (31, 0, 0, 0), (113, 0, 192, 64), (999, 0, 0, 0), (999, 0, 0, 0), (61, 7, 18, 0), (999, 0, 0, 0), (999, 0, 0, 0), (0, 1, 0, 0), (72, 4, 19, 0), (999, 0, 0, 0), (999, 0, 0, 0), (0, 0, 0, 0), (130, 0, 1, 0)]
def zu_M_noLaunch : List (Nat × List Bool) := [(19, [false, false])]
set_option maxRecDepth 100000 in
theorem qg_M_noLaunch_19 {ρ : Type} (kr : Int → zH → Option ρ) (t0 : Int) (h : zH) : (znar 1 t0 fun x1 => kr x1 h) = zseg zPP false (zcal []) (zget (999, 0, 0, 0) zc_M_noLaunch) (zcut zu_M_noLaunch) (zorc []) kr (fun _ _ => none) 400 19 [none, none] [(0, t0)] h := by rfl
set_option maxRecDepth 100000 in
theorem qe_M_noLaunch_19 {ρ : Type} (kr : Int → zH → Option ρ) (t0 : Int) (h : zH) : M_noLaunch_19 kr t0 h = zseg zPP false (zcal []) (zget (999, 0, 0, 0) zc_M_noLaunch) (zcut zu_M_noLaunch) (zorc []) kr (fun _ _ => none) 400 19 [none, none] [(0, t0)] h := qg_M_noLaunch_19 kr t0 h
set_option maxRecDepth 100000 in
theorem qg_M_noLaunch {ρ : Type} (kr : Int → zH → Option ρ) (F_M_in : Int → Int → Int → zH → (Int → zH → Option ρ) → Option ρ) (c19 : Int → zH → Option ρ) (a1 : Int) (h : zH) : (F_M_in a1 0 (wr ((zhD h 12 0 13) - 1)) h  fun v1 h2 =>
if v1 = 0 then c19 1 h2
else c19 0 h2) = zseg zPP false (zcal [(64, [none, none, none], fun xs h kr kt => match xs with
  | [x0, x1, x2] => F_M_in x0 x1 x2 h kr
  | _ => none)]) (zget (999, 0, 0, 0) zc_M_noLaunch) (zcut zu_M_noLaunch) (zorc [(19, [none, none], [(0, none)], fun xs h => match xs with
  | [t0] => c19 t0 h
  | _ => none)]) kr (fun _ _ => none) 400 0 [some (112, 0), some (0, a1)] [] h := by rfl
set_option maxRecDepth 100000 in
theorem qe_M_noLaunch {ρ : Type} (kr : Int → zH → Option ρ) (a1 : Int) (h : zH) : M_noLaunch a1 h kr = zseg zPP false (zcal [(64, [none, none, none], fun xs h kr kt => match xs with
  | [x0, x1, x2] => M_in x0 x1 x2 h kr
  | _ => none)]) (zget (999, 0, 0, 0) zc_M_noLaunch) (zcut zu_M_noLaunch) (zorc [(19, [none, none], [(0, none)], fun xs h => match xs with
  | [t0] => M_noLaunch_19 kr t0 h
  | _ => none)]) kr (fun _ _ => none) 400 0 [some (112, 0), some (0, a1)] [] h := qg_M_noLaunch kr M_in (M_noLaunch_19 kr) a1 h
def zc_M_noCell : List zI := [(10, 0, 0, 0), (0, 0, 0, 0), (1, 63, 0, 0), (999, 0, 0, 0), (113, 0, 192, 64), (999, 0, 0, 0), (999, 0, 0, 0), (61, 7, 14, 0), (999, 0, 0, 0), (999, 0, 0, 0), (0, 1, 0, 0), (72, 4, 15, 0), (999, 0, 0, 0), (999, 0, 0, 0), (0, 0, 0, 0), (130, 0, 1, 0)]
def zu_M_noCell : List (Nat × List Bool) := [(15, [false])]
set_option maxRecDepth 100000 in
theorem qg_M_noCell_15 {ρ : Type} (kr : Int → zH → Option ρ) (t0 : Int) (h : zH) : (znar 1 t0 fun x1 => kr x1 h) = zseg zPP false (zcal []) (zget (999, 0, 0, 0) zc_M_noCell) (zcut zu_M_noCell) (zorc []) kr (fun _ _ => none) 400 15 [none] [(0, t0)] h := by rfl
set_option maxRecDepth 100000 in
theorem qe_M_noCell_15 {ρ : Type} (kr : Int → zH → Option ρ) (t0 : Int) (h : zH) : M_noCell_15 kr t0 h = zseg zPP false (zcal []) (zget (999, 0, 0, 0) zc_M_noCell) (zcut zu_M_noCell) (zorc []) kr (fun _ _ => none) 400 15 [none] [(0, t0)] h := qg_M_noCell_15 kr t0 h
set_option maxRecDepth 100000 in
theorem qg_M_noCell {ρ : Type} (kr : Int → zH → Option ρ) (F_M_in : Int → Int → Int → zH → (Int → zH → Option ρ) → Option ρ) (c15 : Int → zH → Option ρ) (a0 : Int) (h : zH) : (F_M_in a0 0 63 h  fun v1 h2 =>
if v1 = 0 then c15 1 h2
else c15 0 h2) = zseg zPP false (zcal [(64, [none, none, none], fun xs h kr kt => match xs with
  | [x0, x1, x2] => F_M_in x0 x1 x2 h kr
  | _ => none)]) (zget (999, 0, 0, 0) zc_M_noCell) (zcut zu_M_noCell) (zorc [(15, [none], [(0, none)], fun xs h => match xs with
  | [t0] => c15 t0 h
  | _ => none)]) kr (fun _ _ => none) 400 0 [some (0, a0)] [] h := by rfl
set_option maxRecDepth 100000 in
theorem qe_M_noCell {ρ : Type} (kr : Int → zH → Option ρ) (a0 : Int) (h : zH) : M_noCell a0 h kr = zseg zPP false (zcal [(64, [none, none, none], fun xs h kr kt => match xs with
  | [x0, x1, x2] => M_in x0 x1 x2 h kr
  | _ => none)]) (zget (999, 0, 0, 0) zc_M_noCell) (zcut zu_M_noCell) (zorc [(15, [none], [(0, none)], fun xs h => match xs with
  | [t0] => M_noCell_15 kr t0 h
  | _ => none)]) kr (fun _ _ => none) 400 0 [some (0, a0)] [] h := qg_M_noCell kr M_in (M_noCell_15 kr) a0 h
def zc_M_addKernel : List zI := [(14, 0, 0, 112), (0, 0, 0, 0), (82, 12, 185, 0), (999, 0, 0, 0), (999, 0, 0, 0), (14, 0, 0, 112), (10, 0, 1, 0), (0, 1, 0, 0), (1, 8, 0, 0), (999, 0, 0, 0), (113, 0, 192, 64), (999, 0, 0, 0), (999, 0, 0, 0), (60, 13, 26, 0), (999, 0, 0, 0), (999, 0, 0, 0), (10, 0, 2, 0), (0, 0, 0, 0), (1, 16, 0, 0), (999, 0, 0, 0), (113, 0, 192, 64), (999, 0, 0, 0), (999, 0, 0, 0), (61, 7, 30, 0), (999, 0, 0, 0), (999, 0, 0, 0), (0, 1, 0, 0), (72, 4, 31, 0), (999, 0, 0, 0), (999, 0, 0, 0), (0, 0, 0, 0), (0, 1, 0, 0), (110, 0, 199, 65), (999, 0, 0, 0), (999, 0, 0, 0), (61, 24, 59, 0), (999, 0, 0, 0), (999, 0, 0, 0), (14, 0, 0, 112), (14, 0, 0, 112), (80, 12, 189, 4), (999, 0, 0, 0), (999, 0, 0, 0), (0, 4, 0, 0), (67, 7, 51, 0), (999, 0, 0, 0), (999, 0, 0, 0), (0, 1, 0, 0), (72, 4, 52, 0), (999, 0, 0, 0), (999, 0, 0, 0), (0, 0, 0, 0), (0, 2, 0, 0), (110, 0, 199, 65), (999, 0, 0, 0), (999, 0, 0, 0), (60, 5, 61, 0), (999, 0, 0, 0), (999, 0, 0, 0), (0, 0, 0, 0), (130, 0, 0, 0), (14, 0, 0, 112), (80, 12, 17, 5), (999, 0, 0, 0), (999, 0, 0, 0), (14, 0, 0, 112), (80, 12, 189, 4), (999, 0, 0, 0), (999, 0, 0, 0), (10, 0, 1, 0), (95, 0, 0, 61), (14, 0, 0, 112), (80, 12, 20, 6), (999, 0, 0, 0), (999, 0, 0, 0), (14, 0, 0, 112), (80, 12, 189, 4), (999, 0, 0, 0), (999, 0, 0, 0), (10, 0, 2, 0), (95, 0, 0, 62), (14, 0, 0, 112), (50, 0, 0, 0), (80, 12, 189, 4), (999, 0, 0, 0), (999, 0, 0, 0), (0, 1, 0, 0), (30, 0, 0, 0), (82, 12, 189, 4), (999, 0, 0, 0), (999, 0, 0, 0), (14, 0, 0, 112), (80, 12, 189, 4), (999, 0, 0, 0), (999, 0, 0, 0), (0, 1, 0, 0), (31, 0, 0, 0), (130, 0, 0, 0)]
def zu_M_addKernel : List (Nat × List Bool) := [(26, [true, true, true]), (31, [true, true, true]), (52, [true, true, true]), (59, [false, false, false])]
set_option maxRecDepth 100000 in
theorem qg_M_addKernel_59 {ρ : Type} (kr : Int → zH → Option ρ) (h : zH) : (kr 0 h) = zseg zPP false (zcal []) (zget (999, 0, 0, 0) zc_M_addKernel) (zcut zu_M_addKernel) (zorc []) kr (fun _ _ => none) 400 59 [none, none, none] [] h := by rfl
set_option maxRecDepth 100000 in
theorem qe_M_addKernel_59 {ρ : Type} (kr : Int → zH → Option ρ) (h : zH) : M_addKernel_59 kr h = zseg zPP false (zcal []) (zget (999, 0, 0, 0) zc_M_addKernel) (zcut zu_M_addKernel) (zorc []) kr (fun _ _ => none) 400 59 [none, none, none] [] h := qg_M_addKernel_59 kr h
set_option maxRecDepth 100000 in
theorem qg_M_addKernel_52 {ρ : Type} (kr : Int → zH → Option ρ) (F_M_fails : Int → Int → zH → (Int → zH → Option ρ) → Option ρ) (c59 : zH → Option ρ) (a1 a2 t0 : Int) (h : zH) : (F_M_fails t0 2 h  fun v1 h2 =>
if v1 = 0 then (zix 4 (zhD h2 12 0 4) fun j3 =>
zlet (zset h2 61 0 j3 a1) fun h4 =>
zix 4 (zhD h4 12 0 4) fun j5 =>
zlet (zset h4 62 0 j5 a2) fun h6 =>
zlet (zset h6 12 0 4 (wr ((zhD h6 12 0 4) + 1))) fun h7 =>
kr (wr ((zhD h7 12 0 4) - 1)) h7)
else c59 h2) = zseg zPP false (zcal [(65, [some 0, none, none], fun xs h kr kt => match xs with
  | [x1, x2] => F_M_fails x1 x2 h kr
  | _ => none)]) (zget (999, 0, 0, 0) zc_M_addKernel) (zcut zu_M_addKernel) (zorc [(59, [none, none, none], [], fun xs h => match xs with
  | [] => c59 h
  | _ => none)]) kr (fun _ _ => none) 400 52 [some (112, 0), some (0, a1), some (0, a2)] [(0, t0), (112, 0)] h := by rfl
set_option maxRecDepth 100000 in
theorem qe_M_addKernel_52 {ρ : Type} (kr : Int → zH → Option ρ) (a1 a2 t0 : Int) (h : zH) : M_addKernel_52 kr a1 a2 t0 h = zseg zPP false (zcal [(65, [some 0, none, none], fun xs h kr kt => match xs with
  | [x1, x2] => M_fails x1 x2 h kr
  | _ => none)]) (zget (999, 0, 0, 0) zc_M_addKernel) (zcut zu_M_addKernel) (zorc [(59, [none, none, none], [], fun xs h => match xs with
  | [] => M_addKernel_59 kr h
  | _ => none)]) kr (fun _ _ => none) 400 52 [some (112, 0), some (0, a1), some (0, a2)] [(0, t0), (112, 0)] h := qg_M_addKernel_52 kr M_fails (M_addKernel_59 kr) a1 a2 t0 h
set_option maxRecDepth 100000 in
theorem qg_M_addKernel_31 {ρ : Type} (kr : Int → zH → Option ρ) (F_M_fails : Int → Int → zH → (Int → zH → Option ρ) → Option ρ) (c52 : Int → Int → Int → zH → Option ρ) (c59 : zH → Option ρ) (a1 a2 t0 : Int) (h : zH) : (F_M_fails t0 1 h  fun v1 h2 =>
if v1 = 0 then (if (zhD h2 12 0 4) = 4 then c52 a1 a2 1 h2
else c52 a1 a2 0 h2)
else c59 h2) = zseg zPP false (zcal [(65, [some 0, none, none], fun xs h kr kt => match xs with
  | [x1, x2] => F_M_fails x1 x2 h kr
  | _ => none)]) (zget (999, 0, 0, 0) zc_M_addKernel) (zcut zu_M_addKernel) (zorc [(52, [some (112, some 0), some (0, none), some (0, none)], [(0, none), (112, some 0)], fun xs h => match xs with
  | [a1, a2, t0] => c52 a1 a2 t0 h
  | _ => none), (59, [none, none, none], [], fun xs h => match xs with
  | [] => c59 h
  | _ => none)]) kr (fun _ _ => none) 400 31 [some (112, 0), some (0, a1), some (0, a2)] [(0, t0), (112, 0)] h := by rfl
set_option maxRecDepth 100000 in
theorem qe_M_addKernel_31 {ρ : Type} (kr : Int → zH → Option ρ) (a1 a2 t0 : Int) (h : zH) : M_addKernel_31 kr a1 a2 t0 h = zseg zPP false (zcal [(65, [some 0, none, none], fun xs h kr kt => match xs with
  | [x1, x2] => M_fails x1 x2 h kr
  | _ => none)]) (zget (999, 0, 0, 0) zc_M_addKernel) (zcut zu_M_addKernel) (zorc [(52, [some (112, some 0), some (0, none), some (0, none)], [(0, none), (112, some 0)], fun xs h => match xs with
  | [a1, a2, t0] => M_addKernel_52 kr a1 a2 t0 h
  | _ => none), (59, [none, none, none], [], fun xs h => match xs with
  | [] => M_addKernel_59 kr h
  | _ => none)]) kr (fun _ _ => none) 400 31 [some (112, 0), some (0, a1), some (0, a2)] [(0, t0), (112, 0)] h := qg_M_addKernel_31 kr M_fails (M_addKernel_52 kr) (M_addKernel_59 kr) a1 a2 t0 h
set_option maxRecDepth 100000 in
theorem qg_M_addKernel_26 {ρ : Type} (kr : Int → zH → Option ρ) (c31 : Int → Int → Int → zH → Option ρ) (a1 a2 : Int) (h : zH) : (c31 a1 a2 1 h) = zseg zPP false (zcal []) (zget (999, 0, 0, 0) zc_M_addKernel) (zcut zu_M_addKernel) (zorc [(31, [some (112, some 0), some (0, none), some (0, none)], [(0, none), (112, some 0)], fun xs h => match xs with
  | [a1, a2, t0] => c31 a1 a2 t0 h
  | _ => none)]) kr (fun _ _ => none) 400 26 [some (112, 0), some (0, a1), some (0, a2)] [(112, 0)] h := by rfl
set_option maxRecDepth 100000 in
theorem qe_M_addKernel_26 {ρ : Type} (kr : Int → zH → Option ρ) (a1 a2 : Int) (h : zH) : M_addKernel_26 kr a1 a2 h = zseg zPP false (zcal []) (zget (999, 0, 0, 0) zc_M_addKernel) (zcut zu_M_addKernel) (zorc [(31, [some (112, some 0), some (0, none), some (0, none)], [(0, none), (112, some 0)], fun xs h => match xs with
  | [a1, a2, t0] => M_addKernel_31 kr a1 a2 t0 h
  | _ => none)]) kr (fun _ _ => none) 400 26 [some (112, 0), some (0, a1), some (0, a2)] [(112, 0)] h := qg_M_addKernel_26 kr (M_addKernel_31 kr) a1 a2 h
set_option maxRecDepth 100000 in
theorem qg_M_addKernel {ρ : Type} (kr : Int → zH → Option ρ) (F_M_in : Int → Int → Int → zH → (Int → zH → Option ρ) → Option ρ) (c26 : Int → Int → zH → Option ρ) (c31 : Int → Int → Int → zH → Option ρ) (a1 a2 : Int) (h : zH) : (zlet (zset h 12 0 0 0) fun h1 =>
F_M_in a1 1 8 h1  fun v2 h3 =>
if v2 = 0 then c26 a1 a2 h3
else F_M_in a2 0 16 h3  fun v4 h5 =>
if v4 = 0 then c26 a1 a2 h5
else c31 a1 a2 0 h5) = zseg zPP false (zcal [(64, [none, none, none], fun xs h kr kt => match xs with
  | [x0, x1, x2] => F_M_in x0 x1 x2 h kr
  | _ => none)]) (zget (999, 0, 0, 0) zc_M_addKernel) (zcut zu_M_addKernel) (zorc [(26, [some (112, some 0), some (0, none), some (0, none)], [(112, some 0)], fun xs h => match xs with
  | [a1, a2] => c26 a1 a2 h
  | _ => none), (31, [some (112, some 0), some (0, none), some (0, none)], [(0, none), (112, some 0)], fun xs h => match xs with
  | [a1, a2, t0] => c31 a1 a2 t0 h
  | _ => none)]) kr (fun _ _ => none) 400 0 [some (112, 0), some (0, a1), some (0, a2)] [] h := by rfl
set_option maxRecDepth 100000 in
theorem qe_M_addKernel {ρ : Type} (kr : Int → zH → Option ρ) (a1 a2 : Int) (h : zH) : M_addKernel a1 a2 h kr = zseg zPP false (zcal [(64, [none, none, none], fun xs h kr kt => match xs with
  | [x0, x1, x2] => M_in x0 x1 x2 h kr
  | _ => none)]) (zget (999, 0, 0, 0) zc_M_addKernel) (zcut zu_M_addKernel) (zorc [(26, [some (112, some 0), some (0, none), some (0, none)], [(112, some 0)], fun xs h => match xs with
  | [a1, a2] => M_addKernel_26 kr a1 a2 h
  | _ => none), (31, [some (112, some 0), some (0, none), some (0, none)], [(0, none), (112, some 0)], fun xs h => match xs with
  | [a1, a2, t0] => M_addKernel_31 kr a1 a2 t0 h
  | _ => none)]) kr (fun _ _ => none) 400 0 [some (112, 0), some (0, a1), some (0, a2)] [] h := qg_M_addKernel kr M_in (M_addKernel_26 kr) (M_addKernel_31 kr) a1 a2 h
def zc_M_named : List zI := [(10, 0, 0, 0), (1, 43, 0, 0), (999, 0, 0, 0), (66, 45, 48, 0), (999, 0, 0, 0), (999, 0, 0, 0), (10, 0, 0, 0), (1, 45, 0, 0), (999, 0, 0, 0), (66, 39, 48, 0), (999, 0, 0, 0), (999, 0, 0, 0), (10, 0, 0, 0), (1, 42, 0, 0), (999, 0, 0, 0), (66, 33, 48, 0), (999, 0, 0, 0), (999, 0, 0, 0), (10, 0, 0, 0), (1, 60, 0, 0), (999, 0, 0, 0), (66, 27, 48, 0), (999, 0, 0, 0), (999, 0, 0, 0), (10, 0, 0, 0), (1, 61, 0, 0), (999, 0, 0, 0), (66, 21, 48, 0), (999, 0, 0, 0), (999, 0, 0, 0), (10, 0, 0, 0), (1, 97, 0, 0), (999, 0, 0, 0), (66, 15, 48, 0), (999, 0, 0, 0), (999, 0, 0, 0), (10, 0, 0, 0), (1, 120, 0, 0), (999, 0, 0, 0), (66, 9, 48, 0), (999, 0, 0, 0), (999, 0, 0, 0), (10, 0, 0, 0), (1, 115, 0, 0), (999, 0, 0, 0), (67, 6, 51, 0), (999, 0, 0, 0), (999, 0, 0, 0), (1, 7, 0, 0), (999, 0, 0, 0), (130, 0, 0, 0), (10, 0, 0, 0), (1, 114, 0, 0), (999, 0, 0, 0), (66, 27, 81, 0), (999, 0, 0, 0), (999, 0, 0, 0), (10, 0, 0, 0), (1, 119, 0, 0), (999, 0, 0, 0), (66, 21, 81, 0), (999, 0, 0, 0), (999, 0, 0, 0), (10, 0, 0, 0), (1, 82, 0, 0), (999, 0, 0, 0), (66, 15, 81, 0), (999, 0, 0, 0), (999, 0, 0, 0), (10, 0, 0, 0), (1, 87, 0, 0), (999, 0, 0, 0), (66, 9, 81, 0), (999, 0, 0, 0), (999, 0, 0, 0), (10, 0, 0, 0), (1, 118, 0, 0), (999, 0, 0, 0), (67, 6, 84, 0), (999, 0, 0, 0), (999, 0, 0, 0), (1, 6, 0, 0), (999, 0, 0, 0), (130, 0, 0, 0), (10, 0, 0, 0), (1, 107, 0, 0), (999, 0, 0, 0), (66, 27, 114, 0), (999, 0, 0, 0), (999, 0, 0, 0), (10, 0, 0, 0), (1, 116, 0, 0), (999, 0, 0, 0), (66, 21, 114, 0), (999, 0, 0, 0), (999, 0, 0, 0), (10, 0, 0, 0), (1, 110, 0, 0), (999, 0, 0, 0), (66, 15, 114, 0), (999, 0, 0, 0), (999, 0, 0, 0), (10, 0, 0, 0), (1, 108, 0, 0), (999, 0, 0, 0), (66, 9, 114, 0), (999, 0, 0, 0), (999, 0, 0, 0), (10, 0, 0, 0), (1, 122, 0, 0), (999, 0, 0, 0), (67, 5, 116, 0), (999, 0, 0, 0), (999, 0, 0, 0), (0, 4, 0, 0), (130, 0, 0, 0), (10, 0, 0, 0), (1, 99, 0, 0), (999, 0, 0, 0), (67, 7, 126, 0), (999, 0, 0, 0), (999, 0, 0, 0), (0, 5, 0, 0), (72, 32, 155, 0), (999, 0, 0, 0), (999, 0, 0, 0), (10, 0, 0, 0), (1, 106, 0, 0), (999, 0, 0, 0), (66, 21, 150, 0), (999, 0, 0, 0), (999, 0, 0, 0), (10, 0, 0, 0), (1, 98, 0, 0), (999, 0, 0, 0), (66, 15, 150, 0), (999, 0, 0, 0), (999, 0, 0, 0), (10, 0, 0, 0), (1, 102, 0, 0), (999, 0, 0, 0), (66, 9, 150, 0), (999, 0, 0, 0), (999, 0, 0, 0), (10, 0, 0, 0), (1, 101, 0, 0), (999, 0, 0, 0), (67, 7, 154, 0), (999, 0, 0, 0), (999, 0, 0, 0), (0, 0, 0, 0), (72, 4, 155, 0), (999, 0, 0, 0), (999, 0, 0, 0), (0, (-1), 0, 0), (130, 0, 0, 0)]
def zu_M_named : List (Nat × List Bool) := [(48, [false]), (81, [false]), (114, [false]), (150, [false]), (155, [false])]
set_option maxRecDepth 100000 in
theorem qg_M_named_48 {ρ : Type} (kr : Int → zH → Option ρ) (h : zH) : (kr 7 h) = zseg zPP false (zcal []) (zget (999, 0, 0, 0) zc_M_named) (zcut zu_M_named) (zorc []) kr (fun _ _ => none) 400 48 [none] [] h := by rfl
set_option maxRecDepth 100000 in
theorem qe_M_named_48 {ρ : Type} (kr : Int → zH → Option ρ) (h : zH) : M_named_48 kr h = zseg zPP false (zcal []) (zget (999, 0, 0, 0) zc_M_named) (zcut zu_M_named) (zorc []) kr (fun _ _ => none) 400 48 [none] [] h := qg_M_named_48 kr h
set_option maxRecDepth 100000 in
theorem qg_M_named_81 {ρ : Type} (kr : Int → zH → Option ρ) (h : zH) : (kr 6 h) = zseg zPP false (zcal []) (zget (999, 0, 0, 0) zc_M_named) (zcut zu_M_named) (zorc []) kr (fun _ _ => none) 400 81 [none] [] h := by rfl
set_option maxRecDepth 100000 in
theorem qe_M_named_81 {ρ : Type} (kr : Int → zH → Option ρ) (h : zH) : M_named_81 kr h = zseg zPP false (zcal []) (zget (999, 0, 0, 0) zc_M_named) (zcut zu_M_named) (zorc []) kr (fun _ _ => none) 400 81 [none] [] h := qg_M_named_81 kr h
set_option maxRecDepth 100000 in
theorem qg_M_named_114 {ρ : Type} (kr : Int → zH → Option ρ) (h : zH) : (kr 4 h) = zseg zPP false (zcal []) (zget (999, 0, 0, 0) zc_M_named) (zcut zu_M_named) (zorc []) kr (fun _ _ => none) 400 114 [none] [] h := by rfl
set_option maxRecDepth 100000 in
theorem qe_M_named_114 {ρ : Type} (kr : Int → zH → Option ρ) (h : zH) : M_named_114 kr h = zseg zPP false (zcal []) (zget (999, 0, 0, 0) zc_M_named) (zcut zu_M_named) (zorc []) kr (fun _ _ => none) 400 114 [none] [] h := qg_M_named_114 kr h
set_option maxRecDepth 100000 in
theorem qg_M_named_155 {ρ : Type} (kr : Int → zH → Option ρ) (t0 : Int) (h : zH) : (kr t0 h) = zseg zPP false (zcal []) (zget (999, 0, 0, 0) zc_M_named) (zcut zu_M_named) (zorc []) kr (fun _ _ => none) 400 155 [none] [(0, t0)] h := by rfl
set_option maxRecDepth 100000 in
theorem qe_M_named_155 {ρ : Type} (kr : Int → zH → Option ρ) (t0 : Int) (h : zH) : M_named_155 kr t0 h = zseg zPP false (zcal []) (zget (999, 0, 0, 0) zc_M_named) (zcut zu_M_named) (zorc []) kr (fun _ _ => none) 400 155 [none] [(0, t0)] h := qg_M_named_155 kr t0 h
set_option maxRecDepth 100000 in
theorem qg_M_named_150 {ρ : Type} (kr : Int → zH → Option ρ) (c155 : Int → zH → Option ρ) (h : zH) : (c155 0 h) = zseg zPP false (zcal []) (zget (999, 0, 0, 0) zc_M_named) (zcut zu_M_named) (zorc [(155, [none], [(0, none)], fun xs h => match xs with
  | [t0] => c155 t0 h
  | _ => none)]) kr (fun _ _ => none) 400 150 [none] [] h := by rfl
set_option maxRecDepth 100000 in
theorem qe_M_named_150 {ρ : Type} (kr : Int → zH → Option ρ) (h : zH) : M_named_150 kr h = zseg zPP false (zcal []) (zget (999, 0, 0, 0) zc_M_named) (zcut zu_M_named) (zorc [(155, [none], [(0, none)], fun xs h => match xs with
  | [t0] => M_named_155 kr t0 h
  | _ => none)]) kr (fun _ _ => none) 400 150 [none] [] h := qg_M_named_150 kr (M_named_155 kr) h
set_option maxRecDepth 100000 in
theorem qg_M_named {ρ : Type} (kr : Int → zH → Option ρ) (c48 : zH → Option ρ) (c81 : zH → Option ρ) (c114 : zH → Option ρ) (c150 : zH → Option ρ) (c155 : Int → zH → Option ρ) (a0 : Int) (h : zH) : (if a0 = 43 then c48 h
else if a0 = 45 then c48 h
else if a0 = 42 then c48 h
else if a0 = 60 then c48 h
else if a0 = 61 then c48 h
else if a0 = 97 then c48 h
else if a0 = 120 then c48 h
else if a0 = 115 then c48 h
else if a0 = 114 then c81 h
else if a0 = 119 then c81 h
else if a0 = 82 then c81 h
else if a0 = 87 then c81 h
else if a0 = 118 then c81 h
else if a0 = 107 then c114 h
else if a0 = 116 then c114 h
else if a0 = 110 then c114 h
else if a0 = 108 then c114 h
else if a0 = 122 then c114 h
else if a0 = 99 then c155 5 h
else if a0 = 106 then c150 h
else if a0 = 98 then c150 h
else if a0 = 102 then c150 h
else if a0 = 101 then c150 h
else c155 (-1) h) = zseg zPP false (zcal []) (zget (999, 0, 0, 0) zc_M_named) (zcut zu_M_named) (zorc [(48, [none], [], fun xs h => match xs with
  | [] => c48 h
  | _ => none), (81, [none], [], fun xs h => match xs with
  | [] => c81 h
  | _ => none), (114, [none], [], fun xs h => match xs with
  | [] => c114 h
  | _ => none), (150, [none], [], fun xs h => match xs with
  | [] => c150 h
  | _ => none), (155, [none], [(0, none)], fun xs h => match xs with
  | [t0] => c155 t0 h
  | _ => none)]) kr (fun _ _ => none) 400 0 [some (0, a0)] [] h := by rfl
set_option maxRecDepth 100000 in
theorem qe_M_named {ρ : Type} (kr : Int → zH → Option ρ) (a0 : Int) (h : zH) : M_named a0 h kr = zseg zPP false (zcal []) (zget (999, 0, 0, 0) zc_M_named) (zcut zu_M_named) (zorc [(48, [none], [], fun xs h => match xs with
  | [] => M_named_48 kr h
  | _ => none), (81, [none], [], fun xs h => match xs with
  | [] => M_named_81 kr h
  | _ => none), (114, [none], [], fun xs h => match xs with
  | [] => M_named_114 kr h
  | _ => none), (150, [none], [], fun xs h => match xs with
  | [] => M_named_150 kr h
  | _ => none), (155, [none], [(0, none)], fun xs h => match xs with
  | [t0] => M_named_155 kr t0 h
  | _ => none)]) kr (fun _ _ => none) 400 0 [some (0, a0)] [] h := qg_M_named kr (M_named_48 kr) (M_named_81 kr) (M_named_114 kr) (M_named_150 kr) (M_named_155 kr) a0 h
def zc_M_code : List zI := [(14, 0, 0, 112), (0, 0, 0, 0), (82, 12, 185, 0), (999, 0, 0, 0), (999, 0, 0, 0), (14, 0, 0, 112), (14, 0, 0, 112), (10, 0, 1, 0), (110, 0, 203, 66), (999, 0, 0, 0), (999, 0, 0, 0), (0, 1, 0, 0), (110, 0, 199, 65), (999, 0, 0, 0), (999, 0, 0, 0), (60, 5, 20, 0), (999, 0, 0, 0), (999, 0, 0, 0), (0, 0, 0, 0), (130, 0, 0, 0), (10, 0, 2, 0), (113, 0, 207, 70), (999, 0, 0, 0), (999, 0, 0, 0), (17, 0, 6, 0), (999, 0, 0, 0), (14, 0, 0, 112), (80, 12, 17, 5), (999, 0, 0, 0), (999, 0, 0, 0), (10, 0, 1, 0), (90, 0, 0, 61), (0, 1, 0, 0), (31, 0, 0, 0), (17, 0, 7, 0), (999, 0, 0, 0), (11, 0, 6, 0), (999, 0, 0, 0), (0, (-1), 0, 0), (66, 56, 95, 0), (999, 0, 0, 0), (999, 0, 0, 0), (11, 0, 6, 0), (999, 0, 0, 0), (0, 4, 0, 0), (36, 0, 0, 0), (65, 13, 59, 0), (999, 0, 0, 0), (999, 0, 0, 0), (10, 0, 3, 0), (0, 0, 0, 0), (11, 0, 7, 0), (999, 0, 0, 0), (113, 0, 192, 64), (999, 0, 0, 0), (999, 0, 0, 0), (60, 39, 95, 0), (999, 0, 0, 0), (999, 0, 0, 0), (11, 0, 6, 0), (999, 0, 0, 0), (0, 2, 0, 0), (36, 0, 0, 0), (65, 14, 77, 0), (999, 0, 0, 0), (999, 0, 0, 0), (11, 0, 4, 0), (999, 0, 0, 0), (0, 0, 0, 0), (11, 0, 7, 0), (999, 0, 0, 0), (113, 0, 192, 64), (999, 0, 0, 0), (999, 0, 0, 0), (60, 21, 95, 0), (999, 0, 0, 0), (999, 0, 0, 0), (11, 0, 6, 0), (999, 0, 0, 0), (0, 1, 0, 0), (36, 0, 0, 0), (65, 18, 99, 0), (999, 0, 0, 0), (999, 0, 0, 0), (11, 0, 5, 0), (999, 0, 0, 0), (0, 0, 0, 0), (11, 0, 7, 0), (999, 0, 0, 0), (113, 0, 192, 64), (999, 0, 0, 0), (999, 0, 0, 0), (61, 7, 99, 0), (999, 0, 0, 0), (999, 0, 0, 0), (0, 1, 0, 0), (72, 4, 100, 0), (999, 0, 0, 0), (999, 0, 0, 0), (0, 0, 0, 0), (17, 0, 8, 0), (999, 0, 0, 0), (10, 0, 2, 0), (1, 122, 0, 0), (999, 0, 0, 0), (66, 9, 114, 0), (999, 0, 0, 0), (999, 0, 0, 0), (10, 0, 2, 0), (1, 106, 0, 0), (999, 0, 0, 0), (67, 14, 125, 0), (999, 0, 0, 0), (999, 0, 0, 0), (11, 0, 4, 0), (999, 0, 0, 0), (0, 0, 0, 0), (1, 39, 0, 0), (999, 0, 0, 0), (113, 0, 192, 64), (999, 0, 0, 0), (999, 0, 0, 0), (60, 19, 141, 0), (999, 0, 0, 0), (999, 0, 0, 0), (10, 0, 2, 0), (1, 99, 0, 0), (999, 0, 0, 0), (67, 17, 145, 0), (999, 0, 0, 0), (999, 0, 0, 0), (11, 0, 4, 0), (999, 0, 0, 0), (0, 0, 0, 0), (0, 3, 0, 0), (113, 0, 192, 64), (999, 0, 0, 0), (999, 0, 0, 0), (61, 7, 145, 0), (999, 0, 0, 0), (999, 0, 0, 0), (0, 1, 0, 0), (72, 4, 146, 0), (999, 0, 0, 0), (999, 0, 0, 0), (0, 0, 0, 0), (17, 0, 9, 0), (999, 0, 0, 0), (14, 0, 0, 112), (11, 0, 8, 0), (999, 0, 0, 0), (61, 8, 159, 0), (999, 0, 0, 0), (999, 0, 0, 0), (11, 0, 9, 0), (999, 0, 0, 0), (60, 7, 163, 0), (999, 0, 0, 0), (999, 0, 0, 0), (0, 1, 0, 0), (72, 4, 164, 0), (999, 0, 0, 0), (999, 0, 0, 0), (0, 0, 0, 0), (0, 2, 0, 0), (110, 0, 199, 65), (999, 0, 0, 0), (999, 0, 0, 0), (61, 36, 204, 0), (999, 0, 0, 0), (999, 0, 0, 0), (14, 0, 0, 112), (14, 0, 0, 112), (80, 12, 23, 7), (999, 0, 0, 0), (999, 0, 0, 0), (10, 0, 1, 0), (90, 0, 0, 63), (1, 40, 0, 0), (999, 0, 0, 0), (66, 12, 192, 0), (999, 0, 0, 0), (999, 0, 0, 0), (14, 0, 0, 112), (80, 12, 26, 8), (999, 0, 0, 0), (999, 0, 0, 0), (10, 0, 1, 0), (91, 0, 0, 64), (60, 7, 196, 0), (999, 0, 0, 0), (999, 0, 0, 0), (0, 1, 0, 0), (72, 4, 197, 0), (999, 0, 0, 0), (999, 0, 0, 0), (0, 0, 0, 0), (0, 3, 0, 0), (110, 0, 199, 65), (999, 0, 0, 0), (999, 0, 0, 0), (60, 5, 206, 0), (999, 0, 0, 0), (999, 0, 0, 0), (0, 0, 0, 0), (130, 0, 0, 0), (1, 40, 0, 0), (999, 0, 0, 0), (10, 0, 1, 0), (32, 0, 0, 0), (14, 0, 0, 112), (80, 12, 23, 7), (999, 0, 0, 0), (999, 0, 0, 0), (10, 0, 1, 0), (90, 0, 0, 63), (30, 0, 0, 0), (17, 0, 10, 0), (999, 0, 0, 0), (14, 0, 0, 112), (80, 12, 30, 9), (999, 0, 0, 0), (999, 0, 0, 0), (11, 0, 10, 0), (999, 0, 0, 0), (10, 0, 2, 0), (97, 0, 0, 65), (14, 0, 0, 112), (80, 12, 34, 10), (999, 0, 0, 0), (999, 0, 0, 0), (11, 0, 10, 0), (999, 0, 0, 0), (10, 0, 3, 0), (95, 0, 0, 66), (14, 0, 0, 112), (80, 12, 37, 11), (999, 0, 0, 0), (999, 0, 0, 0), (11, 0, 10, 0), (999, 0, 0, 0), (11, 0, 4, 0), (999, 0, 0, 0), (95, 0, 0, 67), (14, 0, 0, 112), (80, 12, 40, 12), (999, 0, 0, 0), (999, 0, 0, 0), (11, 0, 10, 0), (999, 0, 0, 0), (11, 0, 5, 0), (999, 0, 0, 0), (95, 0, 0, 68), (14, 0, 0, 112), (80, 12, 23, 7), (999, 0, 0, 0), (999, 0, 0, 0), (10, 0, 1, 0), (51, 0, 0, 0), (90, 0, 0, 63), (0, 1, 0, 0), (30, 0, 0, 0), (95, 0, 0, 63), (14, 0, 0, 112), (80, 12, 23, 7), (999, 0, 0, 0), (999, 0, 0, 0), (10, 0, 1, 0), (90, 0, 0, 63), (0, 1, 0, 0), (31, 0, 0, 0), (130, 0, 0, 0)]
def zu_M_code : List (Nat × List Bool) := [(59, [true, true, true, true, true, true, true, true, false, false, false]), (77, [true, true, true, true, true, true, true, true, false, false, false]), (95, [true, true, true, true, true, true, false, false, false, false, false]), (99, [true, true, true, true, true, true, false, false, false, false, false]), (100, [true, true, true, true, true, true, false, false, false, false, false]), (114, [true, true, true, true, true, true, false, false, true, false, false]), (125, [true, true, true, true, true, true, false, false, true, false, false]), (141, [true, true, true, true, true, true, false, false, true, false, false]), (145, [true, true, true, true, true, true, false, false, true, false, false]), (146, [true, true, true, true, true, true, false, false, true, false, false]), (159, [true, true, true, true, true, true, false, false, false, false, false]), (164, [true, true, true, true, true, true, false, false, false, false, false]), (192, [true, true, true, true, true, true, false, false, false, false, false]), (197, [true, true, true, true, true, true, false, false, false, false, false]), (204, [false, false, false, false, false, false, false, false, false, false, false])]
set_option maxRecDepth 100000 in
theorem qg_M_code_204 {ρ : Type} (kr : Int → zH → Option ρ) (h : zH) : (kr 0 h) = zseg zPP false (zcal []) (zget (999, 0, 0, 0) zc_M_code) (zcut zu_M_code) (zorc []) kr (fun _ _ => none) 400 204 [none, none, none, none, none, none, none, none, none, none, none] [] h := by rfl
set_option maxRecDepth 100000 in
theorem qe_M_code_204 {ρ : Type} (kr : Int → zH → Option ρ) (h : zH) : M_code_204 kr h = zseg zPP false (zcal []) (zget (999, 0, 0, 0) zc_M_code) (zcut zu_M_code) (zorc []) kr (fun _ _ => none) 400 204 [none, none, none, none, none, none, none, none, none, none, none] [] h := qg_M_code_204 kr h
set_option maxRecDepth 100000 in
theorem qg_M_code_197 {ρ : Type} (kr : Int → zH → Option ρ) (F_M_fails : Int → Int → zH → (Int → zH → Option ρ) → Option ρ) (c204 : zH → Option ρ) (a1 a2 a3 a4 a5 t0 : Int) (h : zH) : (F_M_fails t0 3 h  fun v1 h2 =>
if v1 = 0 then (zix 4 a1 fun j3 =>
zix 160 (wr ((wr (40 * a1)) + (zhD h2 63 0 j3))) fun j4 =>
znar 2 a2 fun x5 =>
zlet (zset h2 65 0 j4 x5) fun h6 =>
zix 160 (wr ((wr (40 * a1)) + (zhD h2 63 0 j3))) fun j7 =>
zlet (zset h6 66 0 j7 a3) fun h8 =>
zix 160 (wr ((wr (40 * a1)) + (zhD h2 63 0 j3))) fun j9 =>
zlet (zset h8 67 0 j9 a4) fun h10 =>
zix 160 (wr ((wr (40 * a1)) + (zhD h2 63 0 j3))) fun j11 =>
zlet (zset h10 68 0 j11 a5) fun h12 =>
zix 4 a1 fun j13 =>
zix 4 a1 fun j14 =>
zlet (zset h12 63 0 j14 (wr ((zhD h12 63 0 j13) + 1))) fun h15 =>
zix 4 a1 fun j16 =>
kr (wr ((zhD h15 63 0 j16) - 1)) h15)
else c204 h2) = zseg zPP false (zcal [(65, [some 0, none, none], fun xs h kr kt => match xs with
  | [x1, x2] => F_M_fails x1 x2 h kr
  | _ => none)]) (zget (999, 0, 0, 0) zc_M_code) (zcut zu_M_code) (zorc [(204, [none, none, none, none, none, none, none, none, none, none, none], [], fun xs h => match xs with
  | [] => c204 h
  | _ => none)]) kr (fun _ _ => none) 400 197 [some (112, 0), some (0, a1), some (0, a2), some (0, a3), some (0, a4), some (0, a5), none, none, none, none, none] [(0, t0), (112, 0)] h := by rfl
set_option maxRecDepth 100000 in
theorem qe_M_code_197 {ρ : Type} (kr : Int → zH → Option ρ) (a1 a2 a3 a4 a5 t0 : Int) (h : zH) : M_code_197 kr a1 a2 a3 a4 a5 t0 h = zseg zPP false (zcal [(65, [some 0, none, none], fun xs h kr kt => match xs with
  | [x1, x2] => M_fails x1 x2 h kr
  | _ => none)]) (zget (999, 0, 0, 0) zc_M_code) (zcut zu_M_code) (zorc [(204, [none, none, none, none, none, none, none, none, none, none, none], [], fun xs h => match xs with
  | [] => M_code_204 kr h
  | _ => none)]) kr (fun _ _ => none) 400 197 [some (112, 0), some (0, a1), some (0, a2), some (0, a3), some (0, a4), some (0, a5), none, none, none, none, none] [(0, t0), (112, 0)] h := qg_M_code_197 kr M_fails (M_code_204 kr) a1 a2 a3 a4 a5 t0 h
set_option maxRecDepth 100000 in
theorem qg_M_code_192 {ρ : Type} (kr : Int → zH → Option ρ) (c197 : Int → Int → Int → Int → Int → Int → zH → Option ρ) (a1 a2 a3 a4 a5 : Int) (h : zH) : (c197 a1 a2 a3 a4 a5 1 h) = zseg zPP false (zcal []) (zget (999, 0, 0, 0) zc_M_code) (zcut zu_M_code) (zorc [(197, [some (112, some 0), some (0, none), some (0, none), some (0, none), some (0, none), some (0, none), none, none, none, none, none], [(0, none), (112, some 0)], fun xs h => match xs with
  | [a1, a2, a3, a4, a5, t0] => c197 a1 a2 a3 a4 a5 t0 h
  | _ => none)]) kr (fun _ _ => none) 400 192 [some (112, 0), some (0, a1), some (0, a2), some (0, a3), some (0, a4), some (0, a5), none, none, none, none, none] [(112, 0)] h := by rfl
set_option maxRecDepth 100000 in
theorem qe_M_code_192 {ρ : Type} (kr : Int → zH → Option ρ) (a1 a2 a3 a4 a5 : Int) (h : zH) : M_code_192 kr a1 a2 a3 a4 a5 h = zseg zPP false (zcal []) (zget (999, 0, 0, 0) zc_M_code) (zcut zu_M_code) (zorc [(197, [some (112, some 0), some (0, none), some (0, none), some (0, none), some (0, none), some (0, none), none, none, none, none, none], [(0, none), (112, some 0)], fun xs h => match xs with
  | [a1, a2, a3, a4, a5, t0] => M_code_197 kr a1 a2 a3 a4 a5 t0 h
  | _ => none)]) kr (fun _ _ => none) 400 192 [some (112, 0), some (0, a1), some (0, a2), some (0, a3), some (0, a4), some (0, a5), none, none, none, none, none] [(112, 0)] h := qg_M_code_192 kr (M_code_197 kr) a1 a2 a3 a4 a5 h
set_option maxRecDepth 100000 in
theorem qg_M_code_164 {ρ : Type} (kr : Int → zH → Option ρ) (F_M_fails : Int → Int → zH → (Int → zH → Option ρ) → Option ρ) (c192 : Int → Int → Int → Int → Int → zH → Option ρ) (c197 : Int → Int → Int → Int → Int → Int → zH → Option ρ) (c204 : zH → Option ρ) (a1 a2 a3 a4 a5 t0 : Int) (h : zH) : (F_M_fails t0 2 h  fun v1 h2 =>
if v1 = 0 then (zix 4 a1 fun j3 =>
if (zhD h2 63 0 j3) = 40 then c192 a1 a2 a3 a4 a5 h2
else zix 4 a1 fun j4 =>
if (zhD h2 64 0 j4) = 0 then c197 a1 a2 a3 a4 a5 0 h2
else c192 a1 a2 a3 a4 a5 h2)
else c204 h2) = zseg zPP false (zcal [(65, [some 0, none, none], fun xs h kr kt => match xs with
  | [x1, x2] => F_M_fails x1 x2 h kr
  | _ => none)]) (zget (999, 0, 0, 0) zc_M_code) (zcut zu_M_code) (zorc [(192, [some (112, some 0), some (0, none), some (0, none), some (0, none), some (0, none), some (0, none), none, none, none, none, none], [(112, some 0)], fun xs h => match xs with
  | [a1, a2, a3, a4, a5] => c192 a1 a2 a3 a4 a5 h
  | _ => none), (197, [some (112, some 0), some (0, none), some (0, none), some (0, none), some (0, none), some (0, none), none, none, none, none, none], [(0, none), (112, some 0)], fun xs h => match xs with
  | [a1, a2, a3, a4, a5, t0] => c197 a1 a2 a3 a4 a5 t0 h
  | _ => none), (204, [none, none, none, none, none, none, none, none, none, none, none], [], fun xs h => match xs with
  | [] => c204 h
  | _ => none)]) kr (fun _ _ => none) 400 164 [some (112, 0), some (0, a1), some (0, a2), some (0, a3), some (0, a4), some (0, a5), none, none, none, none, none] [(0, t0), (112, 0)] h := by rfl
set_option maxRecDepth 100000 in
theorem qe_M_code_164 {ρ : Type} (kr : Int → zH → Option ρ) (a1 a2 a3 a4 a5 t0 : Int) (h : zH) : M_code_164 kr a1 a2 a3 a4 a5 t0 h = zseg zPP false (zcal [(65, [some 0, none, none], fun xs h kr kt => match xs with
  | [x1, x2] => M_fails x1 x2 h kr
  | _ => none)]) (zget (999, 0, 0, 0) zc_M_code) (zcut zu_M_code) (zorc [(192, [some (112, some 0), some (0, none), some (0, none), some (0, none), some (0, none), some (0, none), none, none, none, none, none], [(112, some 0)], fun xs h => match xs with
  | [a1, a2, a3, a4, a5] => M_code_192 kr a1 a2 a3 a4 a5 h
  | _ => none), (197, [some (112, some 0), some (0, none), some (0, none), some (0, none), some (0, none), some (0, none), none, none, none, none, none], [(0, none), (112, some 0)], fun xs h => match xs with
  | [a1, a2, a3, a4, a5, t0] => M_code_197 kr a1 a2 a3 a4 a5 t0 h
  | _ => none), (204, [none, none, none, none, none, none, none, none, none, none, none], [], fun xs h => match xs with
  | [] => M_code_204 kr h
  | _ => none)]) kr (fun _ _ => none) 400 164 [some (112, 0), some (0, a1), some (0, a2), some (0, a3), some (0, a4), some (0, a5), none, none, none, none, none] [(0, t0), (112, 0)] h := qg_M_code_164 kr M_fails (M_code_192 kr) (M_code_197 kr) (M_code_204 kr) a1 a2 a3 a4 a5 t0 h
set_option maxRecDepth 100000 in
theorem qg_M_code_159 {ρ : Type} (kr : Int → zH → Option ρ) (c164 : Int → Int → Int → Int → Int → Int → zH → Option ρ) (a1 a2 a3 a4 a5 : Int) (h : zH) : (c164 a1 a2 a3 a4 a5 1 h) = zseg zPP false (zcal []) (zget (999, 0, 0, 0) zc_M_code) (zcut zu_M_code) (zorc [(164, [some (112, some 0), some (0, none), some (0, none), some (0, none), some (0, none), some (0, none), none, none, none, none, none], [(0, none), (112, some 0)], fun xs h => match xs with
  | [a1, a2, a3, a4, a5, t0] => c164 a1 a2 a3 a4 a5 t0 h
  | _ => none)]) kr (fun _ _ => none) 400 159 [some (112, 0), some (0, a1), some (0, a2), some (0, a3), some (0, a4), some (0, a5), none, none, none, none, none] [(112, 0)] h := by rfl
set_option maxRecDepth 100000 in
theorem qe_M_code_159 {ρ : Type} (kr : Int → zH → Option ρ) (a1 a2 a3 a4 a5 : Int) (h : zH) : M_code_159 kr a1 a2 a3 a4 a5 h = zseg zPP false (zcal []) (zget (999, 0, 0, 0) zc_M_code) (zcut zu_M_code) (zorc [(164, [some (112, some 0), some (0, none), some (0, none), some (0, none), some (0, none), some (0, none), none, none, none, none, none], [(0, none), (112, some 0)], fun xs h => match xs with
  | [a1, a2, a3, a4, a5, t0] => M_code_164 kr a1 a2 a3 a4 a5 t0 h
  | _ => none)]) kr (fun _ _ => none) 400 159 [some (112, 0), some (0, a1), some (0, a2), some (0, a3), some (0, a4), some (0, a5), none, none, none, none, none] [(112, 0)] h := qg_M_code_159 kr (M_code_164 kr) a1 a2 a3 a4 a5 h
set_option maxRecDepth 100000 in
theorem qg_M_code_146 {ρ : Type} (kr : Int → zH → Option ρ) (c159 : Int → Int → Int → Int → Int → zH → Option ρ) (c164 : Int → Int → Int → Int → Int → Int → zH → Option ρ) (a1 a2 a3 a4 a5 a8 t0 : Int) (h : zH) : (if a8 = 0 then (if t0 = 0 then c164 a1 a2 a3 a4 a5 0 h
else c159 a1 a2 a3 a4 a5 h)
else c159 a1 a2 a3 a4 a5 h) = zseg zPP false (zcal []) (zget (999, 0, 0, 0) zc_M_code) (zcut zu_M_code) (zorc [(159, [some (112, some 0), some (0, none), some (0, none), some (0, none), some (0, none), some (0, none), none, none, none, none, none], [(112, some 0)], fun xs h => match xs with
  | [a1, a2, a3, a4, a5] => c159 a1 a2 a3 a4 a5 h
  | _ => none), (164, [some (112, some 0), some (0, none), some (0, none), some (0, none), some (0, none), some (0, none), none, none, none, none, none], [(0, none), (112, some 0)], fun xs h => match xs with
  | [a1, a2, a3, a4, a5, t0] => c164 a1 a2 a3 a4 a5 t0 h
  | _ => none)]) kr (fun _ _ => none) 400 146 [some (112, 0), some (0, a1), some (0, a2), some (0, a3), some (0, a4), some (0, a5), none, none, some (0, a8), none, none] [(0, t0)] h := by rfl
set_option maxRecDepth 100000 in
theorem qe_M_code_146 {ρ : Type} (kr : Int → zH → Option ρ) (a1 a2 a3 a4 a5 a8 t0 : Int) (h : zH) : M_code_146 kr a1 a2 a3 a4 a5 a8 t0 h = zseg zPP false (zcal []) (zget (999, 0, 0, 0) zc_M_code) (zcut zu_M_code) (zorc [(159, [some (112, some 0), some (0, none), some (0, none), some (0, none), some (0, none), some (0, none), none, none, none, none, none], [(112, some 0)], fun xs h => match xs with
  | [a1, a2, a3, a4, a5] => M_code_159 kr a1 a2 a3 a4 a5 h
  | _ => none), (164, [some (112, some 0), some (0, none), some (0, none), some (0, none), some (0, none), some (0, none), none, none, none, none, none], [(0, none), (112, some 0)], fun xs h => match xs with
  | [a1, a2, a3, a4, a5, t0] => M_code_164 kr a1 a2 a3 a4 a5 t0 h
  | _ => none)]) kr (fun _ _ => none) 400 146 [some (112, 0), some (0, a1), some (0, a2), some (0, a3), some (0, a4), some (0, a5), none, none, some (0, a8), none, none] [(0, t0)] h := qg_M_code_146 kr (M_code_159 kr) (M_code_164 kr) a1 a2 a3 a4 a5 a8 t0 h
set_option maxRecDepth 100000 in
theorem qg_M_code_141 {ρ : Type} (kr : Int → zH → Option ρ) (c146 : Int → Int → Int → Int → Int → Int → Int → zH → Option ρ) (a1 a2 a3 a4 a5 a8 : Int) (h : zH) : (c146 a1 a2 a3 a4 a5 a8 1 h) = zseg zPP false (zcal []) (zget (999, 0, 0, 0) zc_M_code) (zcut zu_M_code) (zorc [(146, [some (112, some 0), some (0, none), some (0, none), some (0, none), some (0, none), some (0, none), none, none, some (0, none), none, none], [(0, none)], fun xs h => match xs with
  | [a1, a2, a3, a4, a5, a8, t0] => c146 a1 a2 a3 a4 a5 a8 t0 h
  | _ => none)]) kr (fun _ _ => none) 400 141 [some (112, 0), some (0, a1), some (0, a2), some (0, a3), some (0, a4), some (0, a5), none, none, some (0, a8), none, none] [] h := by rfl
set_option maxRecDepth 100000 in
theorem qe_M_code_141 {ρ : Type} (kr : Int → zH → Option ρ) (a1 a2 a3 a4 a5 a8 : Int) (h : zH) : M_code_141 kr a1 a2 a3 a4 a5 a8 h = zseg zPP false (zcal []) (zget (999, 0, 0, 0) zc_M_code) (zcut zu_M_code) (zorc [(146, [some (112, some 0), some (0, none), some (0, none), some (0, none), some (0, none), some (0, none), none, none, some (0, none), none, none], [(0, none)], fun xs h => match xs with
  | [a1, a2, a3, a4, a5, a8, t0] => M_code_146 kr a1 a2 a3 a4 a5 a8 t0 h
  | _ => none)]) kr (fun _ _ => none) 400 141 [some (112, 0), some (0, a1), some (0, a2), some (0, a3), some (0, a4), some (0, a5), none, none, some (0, a8), none, none] [] h := qg_M_code_141 kr (M_code_146 kr) a1 a2 a3 a4 a5 a8 h
set_option maxRecDepth 100000 in
theorem qg_M_code_145 {ρ : Type} (kr : Int → zH → Option ρ) (c146 : Int → Int → Int → Int → Int → Int → Int → zH → Option ρ) (a1 a2 a3 a4 a5 a8 : Int) (h : zH) : (c146 a1 a2 a3 a4 a5 a8 0 h) = zseg zPP false (zcal []) (zget (999, 0, 0, 0) zc_M_code) (zcut zu_M_code) (zorc [(146, [some (112, some 0), some (0, none), some (0, none), some (0, none), some (0, none), some (0, none), none, none, some (0, none), none, none], [(0, none)], fun xs h => match xs with
  | [a1, a2, a3, a4, a5, a8, t0] => c146 a1 a2 a3 a4 a5 a8 t0 h
  | _ => none)]) kr (fun _ _ => none) 400 145 [some (112, 0), some (0, a1), some (0, a2), some (0, a3), some (0, a4), some (0, a5), none, none, some (0, a8), none, none] [] h := by rfl
set_option maxRecDepth 100000 in
theorem qe_M_code_145 {ρ : Type} (kr : Int → zH → Option ρ) (a1 a2 a3 a4 a5 a8 : Int) (h : zH) : M_code_145 kr a1 a2 a3 a4 a5 a8 h = zseg zPP false (zcal []) (zget (999, 0, 0, 0) zc_M_code) (zcut zu_M_code) (zorc [(146, [some (112, some 0), some (0, none), some (0, none), some (0, none), some (0, none), some (0, none), none, none, some (0, none), none, none], [(0, none)], fun xs h => match xs with
  | [a1, a2, a3, a4, a5, a8, t0] => M_code_146 kr a1 a2 a3 a4 a5 a8 t0 h
  | _ => none)]) kr (fun _ _ => none) 400 145 [some (112, 0), some (0, a1), some (0, a2), some (0, a3), some (0, a4), some (0, a5), none, none, some (0, a8), none, none] [] h := qg_M_code_145 kr (M_code_146 kr) a1 a2 a3 a4 a5 a8 h
set_option maxRecDepth 100000 in
theorem qg_M_code_125 {ρ : Type} (kr : Int → zH → Option ρ) (F_M_in : Int → Int → Int → zH → (Int → zH → Option ρ) → Option ρ) (c141 : Int → Int → Int → Int → Int → Int → zH → Option ρ) (c145 : Int → Int → Int → Int → Int → Int → zH → Option ρ) (a1 a2 a3 a4 a5 a8 : Int) (h : zH) : (if a2 = 99 then (F_M_in a4 0 3 h  fun v1 h2 =>
if v1 = 0 then c141 a1 a2 a3 a4 a5 a8 h2
else c145 a1 a2 a3 a4 a5 a8 h2)
else c145 a1 a2 a3 a4 a5 a8 h) = zseg zPP false (zcal [(64, [none, none, none], fun xs h kr kt => match xs with
  | [x0, x1, x2] => F_M_in x0 x1 x2 h kr
  | _ => none)]) (zget (999, 0, 0, 0) zc_M_code) (zcut zu_M_code) (zorc [(141, [some (112, some 0), some (0, none), some (0, none), some (0, none), some (0, none), some (0, none), none, none, some (0, none), none, none], [], fun xs h => match xs with
  | [a1, a2, a3, a4, a5, a8] => c141 a1 a2 a3 a4 a5 a8 h
  | _ => none), (145, [some (112, some 0), some (0, none), some (0, none), some (0, none), some (0, none), some (0, none), none, none, some (0, none), none, none], [], fun xs h => match xs with
  | [a1, a2, a3, a4, a5, a8] => c145 a1 a2 a3 a4 a5 a8 h
  | _ => none)]) kr (fun _ _ => none) 400 125 [some (112, 0), some (0, a1), some (0, a2), some (0, a3), some (0, a4), some (0, a5), none, none, some (0, a8), none, none] [] h := by rfl
set_option maxRecDepth 100000 in
theorem qe_M_code_125 {ρ : Type} (kr : Int → zH → Option ρ) (a1 a2 a3 a4 a5 a8 : Int) (h : zH) : M_code_125 kr a1 a2 a3 a4 a5 a8 h = zseg zPP false (zcal [(64, [none, none, none], fun xs h kr kt => match xs with
  | [x0, x1, x2] => M_in x0 x1 x2 h kr
  | _ => none)]) (zget (999, 0, 0, 0) zc_M_code) (zcut zu_M_code) (zorc [(141, [some (112, some 0), some (0, none), some (0, none), some (0, none), some (0, none), some (0, none), none, none, some (0, none), none, none], [], fun xs h => match xs with
  | [a1, a2, a3, a4, a5, a8] => M_code_141 kr a1 a2 a3 a4 a5 a8 h
  | _ => none), (145, [some (112, some 0), some (0, none), some (0, none), some (0, none), some (0, none), some (0, none), none, none, some (0, none), none, none], [], fun xs h => match xs with
  | [a1, a2, a3, a4, a5, a8] => M_code_145 kr a1 a2 a3 a4 a5 a8 h
  | _ => none)]) kr (fun _ _ => none) 400 125 [some (112, 0), some (0, a1), some (0, a2), some (0, a3), some (0, a4), some (0, a5), none, none, some (0, a8), none, none] [] h := qg_M_code_125 kr M_in (M_code_141 kr) (M_code_145 kr) a1 a2 a3 a4 a5 a8 h
set_option maxRecDepth 100000 in
theorem qg_M_code_114 {ρ : Type} (kr : Int → zH → Option ρ) (F_M_in : Int → Int → Int → zH → (Int → zH → Option ρ) → Option ρ) (c125 : Int → Int → Int → Int → Int → Int → zH → Option ρ) (c141 : Int → Int → Int → Int → Int → Int → zH → Option ρ) (a1 a2 a3 a4 a5 a8 : Int) (h : zH) : (F_M_in a4 0 39 h  fun v1 h2 =>
if v1 = 0 then c141 a1 a2 a3 a4 a5 a8 h2
else c125 a1 a2 a3 a4 a5 a8 h2) = zseg zPP false (zcal [(64, [none, none, none], fun xs h kr kt => match xs with
  | [x0, x1, x2] => F_M_in x0 x1 x2 h kr
  | _ => none)]) (zget (999, 0, 0, 0) zc_M_code) (zcut zu_M_code) (zorc [(125, [some (112, some 0), some (0, none), some (0, none), some (0, none), some (0, none), some (0, none), none, none, some (0, none), none, none], [], fun xs h => match xs with
  | [a1, a2, a3, a4, a5, a8] => c125 a1 a2 a3 a4 a5 a8 h
  | _ => none), (141, [some (112, some 0), some (0, none), some (0, none), some (0, none), some (0, none), some (0, none), none, none, some (0, none), none, none], [], fun xs h => match xs with
  | [a1, a2, a3, a4, a5, a8] => c141 a1 a2 a3 a4 a5 a8 h
  | _ => none)]) kr (fun _ _ => none) 400 114 [some (112, 0), some (0, a1), some (0, a2), some (0, a3), some (0, a4), some (0, a5), none, none, some (0, a8), none, none] [] h := by rfl
set_option maxRecDepth 100000 in
theorem qe_M_code_114 {ρ : Type} (kr : Int → zH → Option ρ) (a1 a2 a3 a4 a5 a8 : Int) (h : zH) : M_code_114 kr a1 a2 a3 a4 a5 a8 h = zseg zPP false (zcal [(64, [none, none, none], fun xs h kr kt => match xs with
  | [x0, x1, x2] => M_in x0 x1 x2 h kr
  | _ => none)]) (zget (999, 0, 0, 0) zc_M_code) (zcut zu_M_code) (zorc [(125, [some (112, some 0), some (0, none), some (0, none), some (0, none), some (0, none), some (0, none), none, none, some (0, none), none, none], [], fun xs h => match xs with
  | [a1, a2, a3, a4, a5, a8] => M_code_125 kr a1 a2 a3 a4 a5 a8 h
  | _ => none), (141, [some (112, some 0), some (0, none), some (0, none), some (0, none), some (0, none), some (0, none), none, none, some (0, none), none, none], [], fun xs h => match xs with
  | [a1, a2, a3, a4, a5, a8] => M_code_141 kr a1 a2 a3 a4 a5 a8 h
  | _ => none)]) kr (fun _ _ => none) 400 114 [some (112, 0), some (0, a1), some (0, a2), some (0, a3), some (0, a4), some (0, a5), none, none, some (0, a8), none, none] [] h := qg_M_code_114 kr M_in (M_code_125 kr) (M_code_141 kr) a1 a2 a3 a4 a5 a8 h
set_option maxRecDepth 100000 in
theorem qg_M_code_100 {ρ : Type} (kr : Int → zH → Option ρ) (c114 : Int → Int → Int → Int → Int → Int → zH → Option ρ) (c125 : Int → Int → Int → Int → Int → Int → zH → Option ρ) (a1 a2 a3 a4 a5 t0 : Int) (h : zH) : (if a2 = 122 then c114 a1 a2 a3 a4 a5 t0 h
else if a2 = 106 then c114 a1 a2 a3 a4 a5 t0 h
else c125 a1 a2 a3 a4 a5 t0 h) = zseg zPP false (zcal []) (zget (999, 0, 0, 0) zc_M_code) (zcut zu_M_code) (zorc [(114, [some (112, some 0), some (0, none), some (0, none), some (0, none), some (0, none), some (0, none), none, none, some (0, none), none, none], [], fun xs h => match xs with
  | [a1, a2, a3, a4, a5, a8] => c114 a1 a2 a3 a4 a5 a8 h
  | _ => none), (125, [some (112, some 0), some (0, none), some (0, none), some (0, none), some (0, none), some (0, none), none, none, some (0, none), none, none], [], fun xs h => match xs with
  | [a1, a2, a3, a4, a5, a8] => c125 a1 a2 a3 a4 a5 a8 h
  | _ => none)]) kr (fun _ _ => none) 400 100 [some (112, 0), some (0, a1), some (0, a2), some (0, a3), some (0, a4), some (0, a5), none, none, none, none, none] [(0, t0)] h := by rfl
set_option maxRecDepth 100000 in
theorem qe_M_code_100 {ρ : Type} (kr : Int → zH → Option ρ) (a1 a2 a3 a4 a5 t0 : Int) (h : zH) : M_code_100 kr a1 a2 a3 a4 a5 t0 h = zseg zPP false (zcal []) (zget (999, 0, 0, 0) zc_M_code) (zcut zu_M_code) (zorc [(114, [some (112, some 0), some (0, none), some (0, none), some (0, none), some (0, none), some (0, none), none, none, some (0, none), none, none], [], fun xs h => match xs with
  | [a1, a2, a3, a4, a5, a8] => M_code_114 kr a1 a2 a3 a4 a5 a8 h
  | _ => none), (125, [some (112, some 0), some (0, none), some (0, none), some (0, none), some (0, none), some (0, none), none, none, some (0, none), none, none], [], fun xs h => match xs with
  | [a1, a2, a3, a4, a5, a8] => M_code_125 kr a1 a2 a3 a4 a5 a8 h
  | _ => none)]) kr (fun _ _ => none) 400 100 [some (112, 0), some (0, a1), some (0, a2), some (0, a3), some (0, a4), some (0, a5), none, none, none, none, none] [(0, t0)] h := qg_M_code_100 kr (M_code_114 kr) (M_code_125 kr) a1 a2 a3 a4 a5 t0 h
set_option maxRecDepth 100000 in
theorem qg_M_code_95 {ρ : Type} (kr : Int → zH → Option ρ) (c100 : Int → Int → Int → Int → Int → Int → zH → Option ρ) (a1 a2 a3 a4 a5 : Int) (h : zH) : (c100 a1 a2 a3 a4 a5 1 h) = zseg zPP false (zcal []) (zget (999, 0, 0, 0) zc_M_code) (zcut zu_M_code) (zorc [(100, [some (112, some 0), some (0, none), some (0, none), some (0, none), some (0, none), some (0, none), none, none, none, none, none], [(0, none)], fun xs h => match xs with
  | [a1, a2, a3, a4, a5, t0] => c100 a1 a2 a3 a4 a5 t0 h
  | _ => none)]) kr (fun _ _ => none) 400 95 [some (112, 0), some (0, a1), some (0, a2), some (0, a3), some (0, a4), some (0, a5), none, none, none, none, none] [] h := by rfl
set_option maxRecDepth 100000 in
theorem qe_M_code_95 {ρ : Type} (kr : Int → zH → Option ρ) (a1 a2 a3 a4 a5 : Int) (h : zH) : M_code_95 kr a1 a2 a3 a4 a5 h = zseg zPP false (zcal []) (zget (999, 0, 0, 0) zc_M_code) (zcut zu_M_code) (zorc [(100, [some (112, some 0), some (0, none), some (0, none), some (0, none), some (0, none), some (0, none), none, none, none, none, none], [(0, none)], fun xs h => match xs with
  | [a1, a2, a3, a4, a5, t0] => M_code_100 kr a1 a2 a3 a4 a5 t0 h
  | _ => none)]) kr (fun _ _ => none) 400 95 [some (112, 0), some (0, a1), some (0, a2), some (0, a3), some (0, a4), some (0, a5), none, none, none, none, none] [] h := qg_M_code_95 kr (M_code_100 kr) a1 a2 a3 a4 a5 h
set_option maxRecDepth 100000 in
theorem qg_M_code_99 {ρ : Type} (kr : Int → zH → Option ρ) (c100 : Int → Int → Int → Int → Int → Int → zH → Option ρ) (a1 a2 a3 a4 a5 : Int) (h : zH) : (c100 a1 a2 a3 a4 a5 0 h) = zseg zPP false (zcal []) (zget (999, 0, 0, 0) zc_M_code) (zcut zu_M_code) (zorc [(100, [some (112, some 0), some (0, none), some (0, none), some (0, none), some (0, none), some (0, none), none, none, none, none, none], [(0, none)], fun xs h => match xs with
  | [a1, a2, a3, a4, a5, t0] => c100 a1 a2 a3 a4 a5 t0 h
  | _ => none)]) kr (fun _ _ => none) 400 99 [some (112, 0), some (0, a1), some (0, a2), some (0, a3), some (0, a4), some (0, a5), none, none, none, none, none] [] h := by rfl
set_option maxRecDepth 100000 in
theorem qe_M_code_99 {ρ : Type} (kr : Int → zH → Option ρ) (a1 a2 a3 a4 a5 : Int) (h : zH) : M_code_99 kr a1 a2 a3 a4 a5 h = zseg zPP false (zcal []) (zget (999, 0, 0, 0) zc_M_code) (zcut zu_M_code) (zorc [(100, [some (112, some 0), some (0, none), some (0, none), some (0, none), some (0, none), some (0, none), none, none, none, none, none], [(0, none)], fun xs h => match xs with
  | [a1, a2, a3, a4, a5, t0] => M_code_100 kr a1 a2 a3 a4 a5 t0 h
  | _ => none)]) kr (fun _ _ => none) 400 99 [some (112, 0), some (0, a1), some (0, a2), some (0, a3), some (0, a4), some (0, a5), none, none, none, none, none] [] h := qg_M_code_99 kr (M_code_100 kr) a1 a2 a3 a4 a5 h
set_option maxRecDepth 100000 in
theorem qg_M_code_77 {ρ : Type} (kr : Int → zH → Option ρ) (F_M_in : Int → Int → Int → zH → (Int → zH → Option ρ) → Option ρ) (c95 : Int → Int → Int → Int → Int → zH → Option ρ) (c99 : Int → Int → Int → Int → Int → zH → Option ρ) (a1 a2 a3 a4 a5 a6 a7 : Int) (h : zH) : (if 0 < (zand a6 1) then (F_M_in a5 0 a7 h  fun v1 h2 =>
if v1 = 0 then c95 a1 a2 a3 a4 a5 h2
else c99 a1 a2 a3 a4 a5 h2)
else c99 a1 a2 a3 a4 a5 h) = zseg zPP false (zcal [(64, [none, none, none], fun xs h kr kt => match xs with
  | [x0, x1, x2] => F_M_in x0 x1 x2 h kr
  | _ => none)]) (zget (999, 0, 0, 0) zc_M_code) (zcut zu_M_code) (zorc [(95, [some (112, some 0), some (0, none), some (0, none), some (0, none), some (0, none), some (0, none), none, none, none, none, none], [], fun xs h => match xs with
  | [a1, a2, a3, a4, a5] => c95 a1 a2 a3 a4 a5 h
  | _ => none), (99, [some (112, some 0), some (0, none), some (0, none), some (0, none), some (0, none), some (0, none), none, none, none, none, none], [], fun xs h => match xs with
  | [a1, a2, a3, a4, a5] => c99 a1 a2 a3 a4 a5 h
  | _ => none)]) kr (fun _ _ => none) 400 77 [some (112, 0), some (0, a1), some (0, a2), some (0, a3), some (0, a4), some (0, a5), some (0, a6), some (0, a7), none, none, none] [] h := by rfl
set_option maxRecDepth 100000 in
theorem qe_M_code_77 {ρ : Type} (kr : Int → zH → Option ρ) (a1 a2 a3 a4 a5 a6 a7 : Int) (h : zH) : M_code_77 kr a1 a2 a3 a4 a5 a6 a7 h = zseg zPP false (zcal [(64, [none, none, none], fun xs h kr kt => match xs with
  | [x0, x1, x2] => M_in x0 x1 x2 h kr
  | _ => none)]) (zget (999, 0, 0, 0) zc_M_code) (zcut zu_M_code) (zorc [(95, [some (112, some 0), some (0, none), some (0, none), some (0, none), some (0, none), some (0, none), none, none, none, none, none], [], fun xs h => match xs with
  | [a1, a2, a3, a4, a5] => M_code_95 kr a1 a2 a3 a4 a5 h
  | _ => none), (99, [some (112, some 0), some (0, none), some (0, none), some (0, none), some (0, none), some (0, none), none, none, none, none, none], [], fun xs h => match xs with
  | [a1, a2, a3, a4, a5] => M_code_99 kr a1 a2 a3 a4 a5 h
  | _ => none)]) kr (fun _ _ => none) 400 77 [some (112, 0), some (0, a1), some (0, a2), some (0, a3), some (0, a4), some (0, a5), some (0, a6), some (0, a7), none, none, none] [] h := qg_M_code_77 kr M_in (M_code_95 kr) (M_code_99 kr) a1 a2 a3 a4 a5 a6 a7 h
set_option maxRecDepth 100000 in
theorem qg_M_code_59 {ρ : Type} (kr : Int → zH → Option ρ) (F_M_in : Int → Int → Int → zH → (Int → zH → Option ρ) → Option ρ) (c77 : Int → Int → Int → Int → Int → Int → Int → zH → Option ρ) (c95 : Int → Int → Int → Int → Int → zH → Option ρ) (a1 a2 a3 a4 a5 a6 a7 : Int) (h : zH) : (if 0 < (zand a6 2) then (F_M_in a4 0 a7 h  fun v1 h2 =>
if v1 = 0 then c95 a1 a2 a3 a4 a5 h2
else c77 a1 a2 a3 a4 a5 a6 a7 h2)
else c77 a1 a2 a3 a4 a5 a6 a7 h) = zseg zPP false (zcal [(64, [none, none, none], fun xs h kr kt => match xs with
  | [x0, x1, x2] => F_M_in x0 x1 x2 h kr
  | _ => none)]) (zget (999, 0, 0, 0) zc_M_code) (zcut zu_M_code) (zorc [(77, [some (112, some 0), some (0, none), some (0, none), some (0, none), some (0, none), some (0, none), some (0, none), some (0, none), none, none, none], [], fun xs h => match xs with
  | [a1, a2, a3, a4, a5, a6, a7] => c77 a1 a2 a3 a4 a5 a6 a7 h
  | _ => none), (95, [some (112, some 0), some (0, none), some (0, none), some (0, none), some (0, none), some (0, none), none, none, none, none, none], [], fun xs h => match xs with
  | [a1, a2, a3, a4, a5] => c95 a1 a2 a3 a4 a5 h
  | _ => none)]) kr (fun _ _ => none) 400 59 [some (112, 0), some (0, a1), some (0, a2), some (0, a3), some (0, a4), some (0, a5), some (0, a6), some (0, a7), none, none, none] [] h := by rfl
set_option maxRecDepth 100000 in
theorem qe_M_code_59 {ρ : Type} (kr : Int → zH → Option ρ) (a1 a2 a3 a4 a5 a6 a7 : Int) (h : zH) : M_code_59 kr a1 a2 a3 a4 a5 a6 a7 h = zseg zPP false (zcal [(64, [none, none, none], fun xs h kr kt => match xs with
  | [x0, x1, x2] => M_in x0 x1 x2 h kr
  | _ => none)]) (zget (999, 0, 0, 0) zc_M_code) (zcut zu_M_code) (zorc [(77, [some (112, some 0), some (0, none), some (0, none), some (0, none), some (0, none), some (0, none), some (0, none), some (0, none), none, none, none], [], fun xs h => match xs with
  | [a1, a2, a3, a4, a5, a6, a7] => M_code_77 kr a1 a2 a3 a4 a5 a6 a7 h
  | _ => none), (95, [some (112, some 0), some (0, none), some (0, none), some (0, none), some (0, none), some (0, none), none, none, none, none, none], [], fun xs h => match xs with
  | [a1, a2, a3, a4, a5] => M_code_95 kr a1 a2 a3 a4 a5 h
  | _ => none)]) kr (fun _ _ => none) 400 59 [some (112, 0), some (0, a1), some (0, a2), some (0, a3), some (0, a4), some (0, a5), some (0, a6), some (0, a7), none, none, none] [] h := qg_M_code_59 kr M_in (M_code_77 kr) (M_code_95 kr) a1 a2 a3 a4 a5 a6 a7 h
set_option maxRecDepth 100000 in
theorem qg_M_code {ρ : Type} (kr : Int → zH → Option ρ) (F_M_in : Int → Int → Int → zH → (Int → zH → Option ρ) → Option ρ) (F_M_fails : Int → Int → zH → (Int → zH → Option ρ) → Option ρ) (F_M_noKernel : Int → zH → (Int → zH → Option ρ) → Option ρ) (F_M_named : Int → zH → (Int → zH → Option ρ) → Option ρ) (c59 : Int → Int → Int → Int → Int → Int → Int → zH → Option ρ) (c95 : Int → Int → Int → Int → Int → zH → Option ρ) (a1 a2 a3 a4 a5 : Int) (h : zH) : (zlet (zset h 12 0 0 0) fun h1 =>
F_M_noKernel a1 h1  fun v2 h3 =>
F_M_fails v2 1 h3  fun v4 h5 =>
if v4 = 0 then (F_M_named a2 h5  fun v6 h7 =>
zix 4 a1 fun j8 =>
if v6 = (-1) then c95 a1 a2 a3 a4 a5 h7
else if 0 < (zand v6 4) then (F_M_in a3 0 (wr ((zhD h7 61 0 j8) - 1)) h7  fun v9 h10 =>
if v9 = 0 then c95 a1 a2 a3 a4 a5 h10
else c59 a1 a2 a3 a4 a5 v6 (wr ((zhD h7 61 0 j8) - 1)) h10)
else c59 a1 a2 a3 a4 a5 v6 (wr ((zhD h7 61 0 j8) - 1)) h7)
else kr 0 h5) = zseg zPP false (zcal [(64, [none, none, none], fun xs h kr kt => match xs with
  | [x0, x1, x2] => F_M_in x0 x1 x2 h kr
  | _ => none), (65, [some 0, none, none], fun xs h kr kt => match xs with
  | [x1, x2] => F_M_fails x1 x2 h kr
  | _ => none), (66, [some 0, none], fun xs h kr kt => match xs with
  | [x1] => F_M_noKernel x1 h kr
  | _ => none), (70, [none], fun xs h kr kt => match xs with
  | [x0] => F_M_named x0 h kr
  | _ => none)]) (zget (999, 0, 0, 0) zc_M_code) (zcut zu_M_code) (zorc [(59, [some (112, some 0), some (0, none), some (0, none), some (0, none), some (0, none), some (0, none), some (0, none), some (0, none), none, none, none], [], fun xs h => match xs with
  | [a1, a2, a3, a4, a5, a6, a7] => c59 a1 a2 a3 a4 a5 a6 a7 h
  | _ => none), (95, [some (112, some 0), some (0, none), some (0, none), some (0, none), some (0, none), some (0, none), none, none, none, none, none], [], fun xs h => match xs with
  | [a1, a2, a3, a4, a5] => c95 a1 a2 a3 a4 a5 h
  | _ => none)]) kr (fun _ _ => none) 400 0 [some (112, 0), some (0, a1), some (0, a2), some (0, a3), some (0, a4), some (0, a5), none, none, none, none, none] [] h := by rfl
set_option maxRecDepth 100000 in
theorem qe_M_code {ρ : Type} (kr : Int → zH → Option ρ) (a1 a2 a3 a4 a5 : Int) (h : zH) : M_code a1 a2 a3 a4 a5 h kr = zseg zPP false (zcal [(64, [none, none, none], fun xs h kr kt => match xs with
  | [x0, x1, x2] => M_in x0 x1 x2 h kr
  | _ => none), (65, [some 0, none, none], fun xs h kr kt => match xs with
  | [x1, x2] => M_fails x1 x2 h kr
  | _ => none), (66, [some 0, none], fun xs h kr kt => match xs with
  | [x1] => M_noKernel x1 h kr
  | _ => none), (70, [none], fun xs h kr kt => match xs with
  | [x0] => M_named x0 h kr
  | _ => none)]) (zget (999, 0, 0, 0) zc_M_code) (zcut zu_M_code) (zorc [(59, [some (112, some 0), some (0, none), some (0, none), some (0, none), some (0, none), some (0, none), some (0, none), some (0, none), none, none, none], [], fun xs h => match xs with
  | [a1, a2, a3, a4, a5, a6, a7] => M_code_59 kr a1 a2 a3 a4 a5 a6 a7 h
  | _ => none), (95, [some (112, some 0), some (0, none), some (0, none), some (0, none), some (0, none), some (0, none), none, none, none, none, none], [], fun xs h => match xs with
  | [a1, a2, a3, a4, a5] => M_code_95 kr a1 a2 a3 a4 a5 h
  | _ => none)]) kr (fun _ _ => none) 400 0 [some (112, 0), some (0, a1), some (0, a2), some (0, a3), some (0, a4), some (0, a5), none, none, none, none, none] [] h := qg_M_code kr M_in M_fails M_noKernel M_named (M_code_59 kr) (M_code_95 kr) a1 a2 a3 a4 a5 h
def zc_M_groupsFor : List zI := [(10, 0, 0, 0), (0, 4, 0, 0), (30, 0, 0, 0), (0, 1, 0, 0), (31, 0, 0, 0), (0, 4, 0, 0), (33, 0, 0, 0), (130, 0, 0, 0)]
def zu_M_groupsFor : List (Nat × List Bool) := []
set_option maxRecDepth 100000 in
theorem qg_M_groupsFor {ρ : Type} (kr : Int → zH → Option ρ) (a0 : Int) (h : zH) : (kr (wr (Int.tdiv (wr ((wr (a0 + 4)) - 1)) 4)) h) = zseg zPP false (zcal []) (zget (999, 0, 0, 0) zc_M_groupsFor) (zcut zu_M_groupsFor) (zorc []) kr (fun _ _ => none) 400 0 [some (0, a0)] [] h := by rfl
set_option maxRecDepth 100000 in
theorem qe_M_groupsFor {ρ : Type} (kr : Int → zH → Option ρ) (a0 : Int) (h : zH) : M_groupsFor a0 h kr = zseg zPP false (zcal []) (zget (999, 0, 0, 0) zc_M_groupsFor) (zcut zu_M_groupsFor) (zorc []) kr (fun _ _ => none) 400 0 [some (0, a0)] [] h := qg_M_groupsFor kr a0 h
def zc_M_least : List zI := [(10, 0, 0, 0), (10, 0, 1, 0), (69, 7, 9, 0), (999, 0, 0, 0), (999, 0, 0, 0), (10, 0, 0, 0), (72, 4, 10, 0), (999, 0, 0, 0), (999, 0, 0, 0), (10, 0, 1, 0), (130, 0, 0, 0)]
def zu_M_least : List (Nat × List Bool) := [(10, [false, false])]
set_option maxRecDepth 100000 in
theorem qg_M_least_10 {ρ : Type} (kr : Int → zH → Option ρ) (t0 : Int) (h : zH) : (kr t0 h) = zseg zPP false (zcal []) (zget (999, 0, 0, 0) zc_M_least) (zcut zu_M_least) (zorc []) kr (fun _ _ => none) 400 10 [none, none] [(0, t0)] h := by rfl
set_option maxRecDepth 100000 in
theorem qe_M_least_10 {ρ : Type} (kr : Int → zH → Option ρ) (t0 : Int) (h : zH) : M_least_10 kr t0 h = zseg zPP false (zcal []) (zget (999, 0, 0, 0) zc_M_least) (zcut zu_M_least) (zorc []) kr (fun _ _ => none) 400 10 [none, none] [(0, t0)] h := qg_M_least_10 kr t0 h
set_option maxRecDepth 100000 in
theorem qg_M_least {ρ : Type} (kr : Int → zH → Option ρ) (c10 : Int → zH → Option ρ) (a0 a1 : Int) (h : zH) : (if a0 < a1 then c10 a0 h
else c10 a1 h) = zseg zPP false (zcal []) (zget (999, 0, 0, 0) zc_M_least) (zcut zu_M_least) (zorc [(10, [none, none], [(0, none)], fun xs h => match xs with
  | [t0] => c10 t0 h
  | _ => none)]) kr (fun _ _ => none) 400 0 [some (0, a0), some (0, a1)] [] h := by rfl
set_option maxRecDepth 100000 in
theorem qe_M_least {ρ : Type} (kr : Int → zH → Option ρ) (a0 a1 : Int) (h : zH) : M_least a0 a1 h kr = zseg zPP false (zcal []) (zget (999, 0, 0, 0) zc_M_least) (zcut zu_M_least) (zorc [(10, [none, none], [(0, none)], fun xs h => match xs with
  | [t0] => M_least_10 kr t0 h
  | _ => none)]) kr (fun _ _ => none) 400 0 [some (0, a0), some (0, a1)] [] h := qg_M_least kr (M_least_10 kr) a0 a1 h
def zc_M_fit : List zI := [(0, 4, 0, 0), (10, 0, 2, 0), (113, 0, 211, 72), (999, 0, 0, 0), (999, 0, 0, 0), (33, 0, 0, 0), (1, 64, 0, 0), (999, 0, 0, 0), (10, 0, 2, 0), (14, 0, 0, 112), (80, 12, 17, 5), (999, 0, 0, 0), (999, 0, 0, 0), (10, 0, 1, 0), (90, 0, 0, 61), (32, 0, 0, 0), (33, 0, 0, 0), (113, 0, 215, 73), (999, 0, 0, 0), (999, 0, 0, 0), (16, 0, 3, 0), (14, 0, 0, 112), (80, 12, 20, 6), (999, 0, 0, 0), (999, 0, 0, 0), (10, 0, 1, 0), (90, 0, 0, 62), (61, 7, 34, 0), (999, 0, 0, 0), (999, 0, 0, 0), (10, 0, 3, 0), (72, 16, 47, 0), (999, 0, 0, 0), (999, 0, 0, 0), (10, 0, 3, 0), (1, 32, 0, 0), (999, 0, 0, 0), (14, 0, 0, 112), (80, 12, 20, 6), (999, 0, 0, 0), (999, 0, 0, 0), (10, 0, 1, 0), (90, 0, 0, 62), (33, 0, 0, 0), (113, 0, 215, 73), (999, 0, 0, 0), (999, 0, 0, 0), (130, 0, 0, 0)]
def zu_M_fit : List (Nat × List Bool) := [(47, [false, false, false, false])]
set_option maxRecDepth 100000 in
theorem qg_M_fit_47 {ρ : Type} (kr : Int → zH → Option ρ) (t0 : Int) (h : zH) : (kr t0 h) = zseg zPP false (zcal []) (zget (999, 0, 0, 0) zc_M_fit) (zcut zu_M_fit) (zorc []) kr (fun _ _ => none) 400 47 [none, none, none, none] [(0, t0)] h := by rfl
set_option maxRecDepth 100000 in
theorem qe_M_fit_47 {ρ : Type} (kr : Int → zH → Option ρ) (t0 : Int) (h : zH) : M_fit_47 kr t0 h = zseg zPP false (zcal []) (zget (999, 0, 0, 0) zc_M_fit) (zcut zu_M_fit) (zorc []) kr (fun _ _ => none) 400 47 [none, none, none, none] [(0, t0)] h := qg_M_fit_47 kr t0 h
set_option maxRecDepth 100000 in
theorem qg_M_fit {ρ : Type} (kr : Int → zH → Option ρ) (F_M_groupsFor : Int → zH → (Int → zH → Option ρ) → Option ρ) (F_M_least : Int → Int → zH → (Int → zH → Option ρ) → Option ρ) (c47 : Int → zH → Option ρ) (a1 a2 : Int) (h : zH) : (F_M_groupsFor a2 h  fun v1 h2 =>
if v1 = 0 then none else zix 4 a1 fun j3 =>
if wr (a2 * (zhD h2 61 0 j3)) = 0 then none else F_M_least (wr (Int.tdiv 4 v1)) (wr (Int.tdiv 64 (wr (a2 * (zhD h2 61 0 j3))))) h2  fun v4 h5 =>
zix 4 a1 fun j6 =>
if (zhD h5 62 0 j6) = 0 then c47 v4 h5
else zix 4 a1 fun j7 =>
if zhD h5 62 0 j7 = 0 then none else F_M_least v4 (wr (Int.tdiv 32 (zhD h5 62 0 j7))) h5  fun v8 h9 =>
c47 v8 h9) = zseg zPP false (zcal [(72, [none], fun xs h kr kt => match xs with
  | [x0] => F_M_groupsFor x0 h kr
  | _ => none), (73, [none, none], fun xs h kr kt => match xs with
  | [x0, x1] => F_M_least x0 x1 h kr
  | _ => none)]) (zget (999, 0, 0, 0) zc_M_fit) (zcut zu_M_fit) (zorc [(47, [none, none, none, none], [(0, none)], fun xs h => match xs with
  | [t0] => c47 t0 h
  | _ => none)]) kr (fun _ _ => none) 400 0 [some (112, 0), some (0, a1), some (0, a2), none] [] h := by rfl
set_option maxRecDepth 100000 in
theorem qe_M_fit {ρ : Type} (kr : Int → zH → Option ρ) (a1 a2 : Int) (h : zH) : M_fit a1 a2 h kr = zseg zPP false (zcal [(72, [none], fun xs h kr kt => match xs with
  | [x0] => M_groupsFor x0 h kr
  | _ => none), (73, [none, none], fun xs h kr kt => match xs with
  | [x0, x1] => M_least x0 x1 h kr
  | _ => none)]) (zget (999, 0, 0, 0) zc_M_fit) (zcut zu_M_fit) (zorc [(47, [none, none, none, none], [(0, none)], fun xs h => match xs with
  | [t0] => M_fit_47 kr t0 h
  | _ => none)]) kr (fun _ _ => none) 400 0 [some (112, 0), some (0, a1), some (0, a2), none] [] h := qg_M_fit kr M_groupsFor M_least (M_fit_47 kr) a1 a2 h
def zc_M_fits : List zI := [(14, 0, 0, 112), (0, 0, 0, 0), (82, 12, 185, 0), (999, 0, 0, 0), (999, 0, 0, 0), (14, 0, 0, 112), (14, 0, 0, 112), (10, 0, 1, 0), (110, 0, 203, 66), (999, 0, 0, 0), (999, 0, 0, 0), (0, 1, 0, 0), (110, 0, 199, 65), (999, 0, 0, 0), (999, 0, 0, 0), (61, 26, 41, 0), (999, 0, 0, 0), (999, 0, 0, 0), (14, 0, 0, 112), (10, 0, 2, 0), (0, 1, 0, 0), (1, 16, 0, 0), (999, 0, 0, 0), (113, 0, 192, 64), (999, 0, 0, 0), (999, 0, 0, 0), (61, 7, 33, 0), (999, 0, 0, 0), (999, 0, 0, 0), (0, 1, 0, 0), (72, 4, 34, 0), (999, 0, 0, 0), (999, 0, 0, 0), (0, 0, 0, 0), (0, 2, 0, 0), (110, 0, 199, 65), (999, 0, 0, 0), (999, 0, 0, 0), (60, 7, 45, 0), (999, 0, 0, 0), (999, 0, 0, 0), (0, 0, 0, 0), (72, 9, 51, 0), (999, 0, 0, 0), (999, 0, 0, 0), (14, 0, 0, 112), (10, 0, 1, 0), (10, 0, 2, 0), (110, 0, 219, 74), (999, 0, 0, 0), (999, 0, 0, 0), (130, 0, 0, 0)]
def zu_M_fits : List (Nat × List Bool) := [(34, [true, true, true]), (41, [false, false, false]), (51, [false, false, false])]
set_option maxRecDepth 100000 in
theorem qg_M_fits_51 {ρ : Type} (kr : Int → zH → Option ρ) (t0 : Int) (h : zH) : (kr t0 h) = zseg zPP false (zcal []) (zget (999, 0, 0, 0) zc_M_fits) (zcut zu_M_fits) (zorc []) kr (fun _ _ => none) 400 51 [none, none, none] [(0, t0)] h := by rfl
set_option maxRecDepth 100000 in
theorem qe_M_fits_51 {ρ : Type} (kr : Int → zH → Option ρ) (t0 : Int) (h : zH) : M_fits_51 kr t0 h = zseg zPP false (zcal []) (zget (999, 0, 0, 0) zc_M_fits) (zcut zu_M_fits) (zorc []) kr (fun _ _ => none) 400 51 [none, none, none] [(0, t0)] h := qg_M_fits_51 kr t0 h
set_option maxRecDepth 100000 in
theorem qg_M_fits_41 {ρ : Type} (kr : Int → zH → Option ρ) (c51 : Int → zH → Option ρ) (h : zH) : (c51 0 h) = zseg zPP false (zcal []) (zget (999, 0, 0, 0) zc_M_fits) (zcut zu_M_fits) (zorc [(51, [none, none, none], [(0, none)], fun xs h => match xs with
  | [t0] => c51 t0 h
  | _ => none)]) kr (fun _ _ => none) 400 41 [none, none, none] [] h := by rfl
set_option maxRecDepth 100000 in
theorem qe_M_fits_41 {ρ : Type} (kr : Int → zH → Option ρ) (h : zH) : M_fits_41 kr h = zseg zPP false (zcal []) (zget (999, 0, 0, 0) zc_M_fits) (zcut zu_M_fits) (zorc [(51, [none, none, none], [(0, none)], fun xs h => match xs with
  | [t0] => M_fits_51 kr t0 h
  | _ => none)]) kr (fun _ _ => none) 400 41 [none, none, none] [] h := qg_M_fits_41 kr (M_fits_51 kr) h
set_option maxRecDepth 100000 in
theorem qg_M_fits_34 {ρ : Type} (kr : Int → zH → Option ρ) (F_M_fails : Int → Int → zH → (Int → zH → Option ρ) → Option ρ) (F_M_fit : Int → Int → zH → (Int → zH → Option ρ) → Option ρ) (c41 : zH → Option ρ) (c51 : Int → zH → Option ρ) (a1 a2 t0 : Int) (h : zH) : (F_M_fails t0 2 h  fun v1 h2 =>
if v1 = 0 then (F_M_fit a1 a2 h2  fun v3 h4 =>
c51 v3 h4)
else c41 h2) = zseg zPP false (zcal [(65, [some 0, none, none], fun xs h kr kt => match xs with
  | [x1, x2] => F_M_fails x1 x2 h kr
  | _ => none), (74, [some 0, none, none], fun xs h kr kt => match xs with
  | [x1, x2] => F_M_fit x1 x2 h kr
  | _ => none)]) (zget (999, 0, 0, 0) zc_M_fits) (zcut zu_M_fits) (zorc [(41, [none, none, none], [], fun xs h => match xs with
  | [] => c41 h
  | _ => none), (51, [none, none, none], [(0, none)], fun xs h => match xs with
  | [t0] => c51 t0 h
  | _ => none)]) kr (fun _ _ => none) 400 34 [some (112, 0), some (0, a1), some (0, a2)] [(0, t0), (112, 0)] h := by rfl
set_option maxRecDepth 100000 in
theorem qe_M_fits_34 {ρ : Type} (kr : Int → zH → Option ρ) (a1 a2 t0 : Int) (h : zH) : M_fits_34 kr a1 a2 t0 h = zseg zPP false (zcal [(65, [some 0, none, none], fun xs h kr kt => match xs with
  | [x1, x2] => M_fails x1 x2 h kr
  | _ => none), (74, [some 0, none, none], fun xs h kr kt => match xs with
  | [x1, x2] => M_fit x1 x2 h kr
  | _ => none)]) (zget (999, 0, 0, 0) zc_M_fits) (zcut zu_M_fits) (zorc [(41, [none, none, none], [], fun xs h => match xs with
  | [] => M_fits_41 kr h
  | _ => none), (51, [none, none, none], [(0, none)], fun xs h => match xs with
  | [t0] => M_fits_51 kr t0 h
  | _ => none)]) kr (fun _ _ => none) 400 34 [some (112, 0), some (0, a1), some (0, a2)] [(0, t0), (112, 0)] h := qg_M_fits_34 kr M_fails M_fit (M_fits_41 kr) (M_fits_51 kr) a1 a2 t0 h
set_option maxRecDepth 100000 in
theorem qg_M_fits {ρ : Type} (kr : Int → zH → Option ρ) (F_M_in : Int → Int → Int → zH → (Int → zH → Option ρ) → Option ρ) (F_M_fails : Int → Int → zH → (Int → zH → Option ρ) → Option ρ) (F_M_noKernel : Int → zH → (Int → zH → Option ρ) → Option ρ) (c34 : Int → Int → Int → zH → Option ρ) (c41 : zH → Option ρ) (a1 a2 : Int) (h : zH) : (zlet (zset h 12 0 0 0) fun h1 =>
F_M_noKernel a1 h1  fun v2 h3 =>
F_M_fails v2 1 h3  fun v4 h5 =>
if v4 = 0 then (F_M_in a2 1 16 h5  fun v6 h7 =>
if v6 = 0 then c34 a1 a2 1 h7
else c34 a1 a2 0 h7)
else c41 h5) = zseg zPP false (zcal [(64, [none, none, none], fun xs h kr kt => match xs with
  | [x0, x1, x2] => F_M_in x0 x1 x2 h kr
  | _ => none), (65, [some 0, none, none], fun xs h kr kt => match xs with
  | [x1, x2] => F_M_fails x1 x2 h kr
  | _ => none), (66, [some 0, none], fun xs h kr kt => match xs with
  | [x1] => F_M_noKernel x1 h kr
  | _ => none)]) (zget (999, 0, 0, 0) zc_M_fits) (zcut zu_M_fits) (zorc [(34, [some (112, some 0), some (0, none), some (0, none)], [(0, none), (112, some 0)], fun xs h => match xs with
  | [a1, a2, t0] => c34 a1 a2 t0 h
  | _ => none), (41, [none, none, none], [], fun xs h => match xs with
  | [] => c41 h
  | _ => none)]) kr (fun _ _ => none) 400 0 [some (112, 0), some (0, a1), some (0, a2)] [] h := by rfl
set_option maxRecDepth 100000 in
theorem qe_M_fits {ρ : Type} (kr : Int → zH → Option ρ) (a1 a2 : Int) (h : zH) : M_fits a1 a2 h kr = zseg zPP false (zcal [(64, [none, none, none], fun xs h kr kt => match xs with
  | [x0, x1, x2] => M_in x0 x1 x2 h kr
  | _ => none), (65, [some 0, none, none], fun xs h kr kt => match xs with
  | [x1, x2] => M_fails x1 x2 h kr
  | _ => none), (66, [some 0, none], fun xs h kr kt => match xs with
  | [x1] => M_noKernel x1 h kr
  | _ => none)]) (zget (999, 0, 0, 0) zc_M_fits) (zcut zu_M_fits) (zorc [(34, [some (112, some 0), some (0, none), some (0, none)], [(0, none), (112, some 0)], fun xs h => match xs with
  | [a1, a2, t0] => M_fits_34 kr a1 a2 t0 h
  | _ => none), (41, [none, none, none], [], fun xs h => match xs with
  | [] => M_fits_41 kr h
  | _ => none)]) kr (fun _ _ => none) 400 0 [some (112, 0), some (0, a1), some (0, a2)] [] h := qg_M_fits kr M_in M_fails M_noKernel (M_fits_34 kr) (M_fits_41 kr) a1 a2 h
def zc_M_poke : List zI := [(14, 0, 0, 112), (0, 0, 0, 0), (82, 12, 185, 0), (999, 0, 0, 0), (999, 0, 0, 0), (14, 0, 0, 112), (10, 0, 1, 0), (113, 0, 222, 68), (999, 0, 0, 0), (999, 0, 0, 0), (0, 1, 0, 0), (110, 0, 199, 65), (999, 0, 0, 0), (999, 0, 0, 0), (60, 5, 19, 0), (999, 0, 0, 0), (999, 0, 0, 0), (0, 0, 0, 0), (130, 0, 0, 0), (14, 0, 0, 112), (80, 12, 13, 3), (999, 0, 0, 0), (999, 0, 0, 0), (10, 0, 1, 0), (90, 0, 0, 60), (16, 0, 3, 0), (14, 0, 0, 112), (80, 12, 13, 3), (999, 0, 0, 0), (999, 0, 0, 0), (10, 0, 1, 0), (10, 0, 2, 0), (95, 0, 0, 60), (10, 0, 3, 0), (130, 0, 0, 0)]
def zu_M_poke : List (Nat × List Bool) := []
set_option maxRecDepth 100000 in
theorem qg_M_poke {ρ : Type} (kr : Int → zH → Option ρ) (F_M_fails : Int → Int → zH → (Int → zH → Option ρ) → Option ρ) (F_M_noCell : Int → zH → (Int → zH → Option ρ) → Option ρ) (a1 a2 : Int) (h : zH) : (zlet (zset h 12 0 0 0) fun h1 =>
F_M_noCell a1 h1  fun v2 h3 =>
F_M_fails v2 1 h3  fun v4 h5 =>
if v4 = 0 then (zix 64 a1 fun j6 =>
zix 64 a1 fun j7 =>
zlet (zset h5 60 0 j7 a2) fun h8 =>
kr (zhD h5 60 0 j6) h8)
else kr 0 h5) = zseg zPP false (zcal [(65, [some 0, none, none], fun xs h kr kt => match xs with
  | [x1, x2] => F_M_fails x1 x2 h kr
  | _ => none), (68, [none], fun xs h kr kt => match xs with
  | [x0] => F_M_noCell x0 h kr
  | _ => none)]) (zget (999, 0, 0, 0) zc_M_poke) (zcut zu_M_poke) (zorc []) kr (fun _ _ => none) 400 0 [some (112, 0), some (0, a1), some (0, a2), none] [] h := by rfl
set_option maxRecDepth 100000 in
theorem qe_M_poke {ρ : Type} (kr : Int → zH → Option ρ) (a1 a2 : Int) (h : zH) : M_poke a1 a2 h kr = zseg zPP false (zcal [(65, [some 0, none, none], fun xs h kr kt => match xs with
  | [x1, x2] => M_fails x1 x2 h kr
  | _ => none), (68, [none], fun xs h kr kt => match xs with
  | [x0] => M_noCell x0 h kr
  | _ => none)]) (zget (999, 0, 0, 0) zc_M_poke) (zcut zu_M_poke) (zorc []) kr (fun _ _ => none) 400 0 [some (112, 0), some (0, a1), some (0, a2), none] [] h := qg_M_poke kr M_fails M_noCell a1 a2 h
def zc_M_peek : List zI := [(14, 0, 0, 112), (0, 0, 0, 0), (82, 12, 185, 0), (999, 0, 0, 0), (999, 0, 0, 0), (14, 0, 0, 112), (10, 0, 1, 0), (113, 0, 222, 68), (999, 0, 0, 0), (999, 0, 0, 0), (0, 1, 0, 0), (110, 0, 199, 65), (999, 0, 0, 0), (999, 0, 0, 0), (60, 7, 21, 0), (999, 0, 0, 0), (999, 0, 0, 0), (0, 0, 0, 0), (72, 9, 27, 0), (999, 0, 0, 0), (999, 0, 0, 0), (14, 0, 0, 112), (80, 12, 13, 3), (999, 0, 0, 0), (999, 0, 0, 0), (10, 0, 1, 0), (90, 0, 0, 60), (130, 0, 0, 0)]
def zu_M_peek : List (Nat × List Bool) := [(27, [false, false])]
set_option maxRecDepth 100000 in
theorem qg_M_peek_27 {ρ : Type} (kr : Int → zH → Option ρ) (t0 : Int) (h : zH) : (kr t0 h) = zseg zPP false (zcal []) (zget (999, 0, 0, 0) zc_M_peek) (zcut zu_M_peek) (zorc []) kr (fun _ _ => none) 400 27 [none, none] [(0, t0)] h := by rfl
set_option maxRecDepth 100000 in
theorem qe_M_peek_27 {ρ : Type} (kr : Int → zH → Option ρ) (t0 : Int) (h : zH) : M_peek_27 kr t0 h = zseg zPP false (zcal []) (zget (999, 0, 0, 0) zc_M_peek) (zcut zu_M_peek) (zorc []) kr (fun _ _ => none) 400 27 [none, none] [(0, t0)] h := qg_M_peek_27 kr t0 h
set_option maxRecDepth 100000 in
theorem qg_M_peek {ρ : Type} (kr : Int → zH → Option ρ) (F_M_fails : Int → Int → zH → (Int → zH → Option ρ) → Option ρ) (F_M_noCell : Int → zH → (Int → zH → Option ρ) → Option ρ) (c27 : Int → zH → Option ρ) (a1 : Int) (h : zH) : (zlet (zset h 12 0 0 0) fun h1 =>
F_M_noCell a1 h1  fun v2 h3 =>
F_M_fails v2 1 h3  fun v4 h5 =>
if v4 = 0 then (zix 64 a1 fun j6 =>
c27 (zhD h5 60 0 j6) h5)
else c27 0 h5) = zseg zPP false (zcal [(65, [some 0, none, none], fun xs h kr kt => match xs with
  | [x1, x2] => F_M_fails x1 x2 h kr
  | _ => none), (68, [none], fun xs h kr kt => match xs with
  | [x0] => F_M_noCell x0 h kr
  | _ => none)]) (zget (999, 0, 0, 0) zc_M_peek) (zcut zu_M_peek) (zorc [(27, [none, none], [(0, none)], fun xs h => match xs with
  | [t0] => c27 t0 h
  | _ => none)]) kr (fun _ _ => none) 400 0 [some (112, 0), some (0, a1)] [] h := by rfl
set_option maxRecDepth 100000 in
theorem qe_M_peek {ρ : Type} (kr : Int → zH → Option ρ) (a1 : Int) (h : zH) : M_peek a1 h kr = zseg zPP false (zcal [(65, [some 0, none, none], fun xs h kr kt => match xs with
  | [x1, x2] => M_fails x1 x2 h kr
  | _ => none), (68, [none], fun xs h kr kt => match xs with
  | [x0] => M_noCell x0 h kr
  | _ => none)]) (zget (999, 0, 0, 0) zc_M_peek) (zcut zu_M_peek) (zorc [(27, [none, none], [(0, none)], fun xs h => match xs with
  | [t0] => M_peek_27 kr t0 h
  | _ => none)]) kr (fun _ _ => none) 400 0 [some (112, 0), some (0, a1)] [] h := qg_M_peek kr M_fails M_noCell (M_peek_27 kr) a1 h
def zc_M_isOver : List zI := [(14, 0, 0, 112), (80, 12, 43, 14), (999, 0, 0, 0), (999, 0, 0, 0), (10, 0, 1, 0), (92, 0, 0, 69), (1, 100, 0, 0), (999, 0, 0, 0), (66, 25, 33, 0), (999, 0, 0, 0), (999, 0, 0, 0), (14, 0, 0, 112), (80, 12, 43, 14), (999, 0, 0, 0), (999, 0, 0, 0), (10, 0, 1, 0), (92, 0, 0, 69), (1, 102, 0, 0), (999, 0, 0, 0), (66, 14, 33, 0), (999, 0, 0, 0), (999, 0, 0, 0), (14, 0, 0, 112), (80, 12, 43, 14), (999, 0, 0, 0), (999, 0, 0, 0), (10, 0, 1, 0), (92, 0, 0, 69), (1, 120, 0, 0), (999, 0, 0, 0), (67, 7, 37, 0), (999, 0, 0, 0), (999, 0, 0, 0), (0, 1, 0, 0), (72, 4, 38, 0), (999, 0, 0, 0), (999, 0, 0, 0), (0, 0, 0, 0), (130, 0, 1, 0)]
def zu_M_isOver : List (Nat × List Bool) := [(33, [false, false]), (38, [false, false])]
set_option maxRecDepth 100000 in
theorem qg_M_isOver_38 {ρ : Type} (kr : Int → zH → Option ρ) (t0 : Int) (h : zH) : (znar 1 t0 fun x1 => kr x1 h) = zseg zPP false (zcal []) (zget (999, 0, 0, 0) zc_M_isOver) (zcut zu_M_isOver) (zorc []) kr (fun _ _ => none) 400 38 [none, none] [(0, t0)] h := by rfl
set_option maxRecDepth 100000 in
theorem qe_M_isOver_38 {ρ : Type} (kr : Int → zH → Option ρ) (t0 : Int) (h : zH) : M_isOver_38 kr t0 h = zseg zPP false (zcal []) (zget (999, 0, 0, 0) zc_M_isOver) (zcut zu_M_isOver) (zorc []) kr (fun _ _ => none) 400 38 [none, none] [(0, t0)] h := qg_M_isOver_38 kr t0 h
set_option maxRecDepth 100000 in
theorem qg_M_isOver_33 {ρ : Type} (kr : Int → zH → Option ρ) (c38 : Int → zH → Option ρ) (h : zH) : (c38 1 h) = zseg zPP false (zcal []) (zget (999, 0, 0, 0) zc_M_isOver) (zcut zu_M_isOver) (zorc [(38, [none, none], [(0, none)], fun xs h => match xs with
  | [t0] => c38 t0 h
  | _ => none)]) kr (fun _ _ => none) 400 33 [none, none] [] h := by rfl
set_option maxRecDepth 100000 in
theorem qe_M_isOver_33 {ρ : Type} (kr : Int → zH → Option ρ) (h : zH) : M_isOver_33 kr h = zseg zPP false (zcal []) (zget (999, 0, 0, 0) zc_M_isOver) (zcut zu_M_isOver) (zorc [(38, [none, none], [(0, none)], fun xs h => match xs with
  | [t0] => M_isOver_38 kr t0 h
  | _ => none)]) kr (fun _ _ => none) 400 33 [none, none] [] h := qg_M_isOver_33 kr (M_isOver_38 kr) h
set_option maxRecDepth 100000 in
theorem qg_M_isOver {ρ : Type} (kr : Int → zH → Option ρ) (c33 : zH → Option ρ) (c38 : Int → zH → Option ρ) (a1 : Int) (h : zH) : (zix 12 a1 fun j1 =>
if (zhD h 69 0 j1) = 100 then c33 h
else zix 12 a1 fun j2 =>
if (zhD h 69 0 j2) = 102 then c33 h
else zix 12 a1 fun j3 =>
if (zhD h 69 0 j3) = 120 then c33 h
else c38 0 h) = zseg zPP false (zcal []) (zget (999, 0, 0, 0) zc_M_isOver) (zcut zu_M_isOver) (zorc [(33, [none, none], [], fun xs h => match xs with
  | [] => c33 h
  | _ => none), (38, [none, none], [(0, none)], fun xs h => match xs with
  | [t0] => c38 t0 h
  | _ => none)]) kr (fun _ _ => none) 400 0 [some (112, 0), some (0, a1)] [] h := by rfl
set_option maxRecDepth 100000 in
theorem qe_M_isOver {ρ : Type} (kr : Int → zH → Option ρ) (a1 : Int) (h : zH) : M_isOver a1 h kr = zseg zPP false (zcal []) (zget (999, 0, 0, 0) zc_M_isOver) (zcut zu_M_isOver) (zorc [(33, [none, none], [], fun xs h => match xs with
  | [] => M_isOver_33 kr h
  | _ => none), (38, [none, none], [(0, none)], fun xs h => match xs with
  | [t0] => M_isOver_38 kr t0 h
  | _ => none)]) kr (fun _ _ => none) 400 0 [some (112, 0), some (0, a1)] [] h := qg_M_isOver kr (M_isOver_33 kr) (M_isOver_38 kr) a1 h
def zc_M_add : List zI := [(14, 0, 0, 112), (80, 12, 196, 13), (999, 0, 0, 0), (999, 0, 0, 0), (17, 0, 4, 0), (999, 0, 0, 0), (14, 0, 0, 112), (80, 12, 43, 14), (999, 0, 0, 0), (999, 0, 0, 0), (11, 0, 4, 0), (999, 0, 0, 0), (1, 113, 0, 0), (999, 0, 0, 0), (97, 0, 0, 69), (14, 0, 0, 112), (80, 12, 49, 16), (999, 0, 0, 0), (999, 0, 0, 0), (11, 0, 4, 0), (999, 0, 0, 0), (10, 0, 1, 0), (95, 0, 0, 71), (14, 0, 0, 112), (80, 12, 46, 15), (999, 0, 0, 0), (999, 0, 0, 0), (11, 0, 4, 0), (999, 0, 0, 0), (10, 0, 2, 0), (95, 0, 0, 70), (14, 0, 0, 112), (80, 12, 58, 19), (999, 0, 0, 0), (999, 0, 0, 0), (11, 0, 4, 0), (999, 0, 0, 0), (10, 0, 3, 0), (95, 0, 0, 74), (14, 0, 0, 112), (80, 12, 64, 21), (999, 0, 0, 0), (999, 0, 0, 0), (11, 0, 4, 0), (999, 0, 0, 0), (0, (-1), 0, 0), (95, 0, 0, 76), (14, 0, 0, 112), (80, 12, 61, 20), (999, 0, 0, 0), (999, 0, 0, 0), (11, 0, 4, 0), (999, 0, 0, 0), (0, (-1), 0, 0), (95, 0, 0, 75), (0, 0, 0, 0), (17, 0, 5, 0), (999, 0, 0, 0), (11, 0, 5, 0), (999, 0, 0, 0), (11, 0, 4, 0), (999, 0, 0, 0), (69, 44, 106, 0), (999, 0, 0, 0), (999, 0, 0, 0), (14, 0, 0, 112), (80, 12, 61, 20), (999, 0, 0, 0), (999, 0, 0, 0), (11, 0, 4, 0), (999, 0, 0, 0), (10, 0, 1, 0), (0, (-1), 0, 0), (66, 19, 92, 0), (999, 0, 0, 0), (999, 0, 0, 0), (14, 0, 0, 112), (80, 12, 49, 16), (999, 0, 0, 0), (999, 0, 0, 0), (11, 0, 5, 0), (999, 0, 0, 0), (90, 0, 0, 71), (10, 0, 1, 0), (67, 8, 92, 0), (999, 0, 0, 0), (999, 0, 0, 0), (11, 0, 5, 0), (999, 0, 0, 0), (72, 10, 99, 0), (999, 0, 0, 0), (999, 0, 0, 0), (14, 0, 0, 112), (80, 12, 61, 20), (999, 0, 0, 0), (999, 0, 0, 0), (11, 0, 4, 0), (999, 0, 0, 0), (90, 0, 0, 75), (95, 0, 0, 75), (22, 1, 5, 0), (999, 0, 0, 0), (999, 0, 0, 0), (72, (-45), 58, 0), (999, 0, 0, 0), (999, 0, 0, 0), (14, 0, 0, 112), (80, 12, 61, 20), (999, 0, 0, 0), (999, 0, 0, 0), (11, 0, 4, 0), (999, 0, 0, 0), (14, 0, 0, 112), (80, 12, 61, 20), (999, 0, 0, 0), (999, 0, 0, 0), (11, 0, 4, 0), (999, 0, 0, 0), (90, 0, 0, 75), (0, (-1), 0, 0), (66, 21, 141, 0), (999, 0, 0, 0), (999, 0, 0, 0), (14, 0, 0, 112), (14, 0, 0, 112), (80, 12, 61, 20), (999, 0, 0, 0), (999, 0, 0, 0), (11, 0, 4, 0), (999, 0, 0, 0), (90, 0, 0, 75), (110, 0, 225, 78), (999, 0, 0, 0), (999, 0, 0, 0), (60, 7, 141, 0), (999, 0, 0, 0), (999, 0, 0, 0), (0, (-1), 0, 0), (72, 10, 148, 0), (999, 0, 0, 0), (999, 0, 0, 0), (14, 0, 0, 112), (80, 12, 61, 20), (999, 0, 0, 0), (999, 0, 0, 0), (11, 0, 4, 0), (999, 0, 0, 0), (90, 0, 0, 75), (95, 0, 0, 75), (14, 0, 0, 112), (50, 0, 0, 0), (80, 12, 196, 13), (999, 0, 0, 0), (999, 0, 0, 0), (0, 1, 0, 0), (30, 0, 0, 0), (82, 12, 196, 13), (999, 0, 0, 0), (999, 0, 0, 0), (11, 0, 4, 0), (999, 0, 0, 0), (130, 0, 0, 0)]
def zu_M_add : List (Nat × List Bool) := [(58, [true, true, false, false, true, true]), (92, [true, true, false, false, true, true]), (99, [true, true, false, false, true, true]), (141, [true, false, false, false, true, false]), (148, [true, false, false, false, true, false])]
set_option maxRecDepth 100000 in
theorem qg_M_add_99 {ρ : Type} (kr : Int → zH → Option ρ) (r58 : Int → Int → Int → zH → Option ρ) (a1 a4 a5 t0 t1 : Int) (h : zH) : (zix 12 t1 fun j1 =>
zlet (zset h 75 0 j1 t0) fun h2 =>
r58 a1 a4 (wr (a5 + 1)) h2) = zseg zPP false (zcal []) (zget (999, 0, 0, 0) zc_M_add) (zcut zu_M_add) (zorc [(58, [some (112, some 0), some (0, none), none, none, some (0, none), some (0, none)], [], fun xs h => match xs with
  | [a1, a4, a5] => r58 a1 a4 a5 h
  | _ => none)]) kr (fun _ _ => none) 400 99 [some (112, 0), some (0, a1), none, none, some (0, a4), some (0, a5)] [(0, t0), (0, t1), (175, 0)] h := by rfl
set_option maxRecDepth 100000 in
theorem qe_M_add_99 {ρ : Type} (kr : Int → zH → Option ρ) (r58 : Int → Int → Int → zH → Option ρ) (a1 a4 a5 t0 t1 : Int) (h : zH) : M_add_99 kr r58 a1 a4 a5 t0 t1 h = zseg zPP false (zcal []) (zget (999, 0, 0, 0) zc_M_add) (zcut zu_M_add) (zorc [(58, [some (112, some 0), some (0, none), none, none, some (0, none), some (0, none)], [], fun xs h => match xs with
  | [a1, a4, a5] => r58 a1 a4 a5 h
  | _ => none)]) kr (fun _ _ => none) 400 99 [some (112, 0), some (0, a1), none, none, some (0, a4), some (0, a5)] [(0, t0), (0, t1), (175, 0)] h := qg_M_add_99 kr r58 a1 a4 a5 t0 t1 h
set_option maxRecDepth 100000 in
theorem qg_M_add_92 {ρ : Type} (kr : Int → zH → Option ρ) (r58 : Int → Int → Int → zH → Option ρ) (c99 : Int → Int → Int → Int → Int → zH → Option ρ) (a1 a4 a5 t0 : Int) (h : zH) : (zix 12 a4 fun j1 =>
c99 a1 a4 a5 (zhD h 75 0 j1) t0 h) = zseg zPP false (zcal []) (zget (999, 0, 0, 0) zc_M_add) (zcut zu_M_add) (zorc [(99, [some (112, some 0), some (0, none), none, none, some (0, none), some (0, none)], [(0, none), (0, none), (175, some 0)], fun xs h => match xs with
  | [a1, a4, a5, t0, t1] => c99 a1 a4 a5 t0 t1 h
  | _ => none)]) kr (fun _ _ => none) 400 92 [some (112, 0), some (0, a1), none, none, some (0, a4), some (0, a5)] [(0, t0), (175, 0)] h := by rfl
set_option maxRecDepth 100000 in
theorem qe_M_add_92 {ρ : Type} (kr : Int → zH → Option ρ) (r58 : Int → Int → Int → zH → Option ρ) (a1 a4 a5 t0 : Int) (h : zH) : M_add_92 kr r58 a1 a4 a5 t0 h = zseg zPP false (zcal []) (zget (999, 0, 0, 0) zc_M_add) (zcut zu_M_add) (zorc [(99, [some (112, some 0), some (0, none), none, none, some (0, none), some (0, none)], [(0, none), (0, none), (175, some 0)], fun xs h => match xs with
  | [a1, a4, a5, t0, t1] => M_add_99 kr r58 a1 a4 a5 t0 t1 h
  | _ => none)]) kr (fun _ _ => none) 400 92 [some (112, 0), some (0, a1), none, none, some (0, a4), some (0, a5)] [(0, t0), (175, 0)] h := qg_M_add_92 kr r58 (M_add_99 kr r58) a1 a4 a5 t0 h
set_option maxRecDepth 100000 in
theorem qg_M_add_148 {ρ : Type} (kr : Int → zH → Option ρ) (a4 t0 t1 : Int) (h : zH) : (zix 12 t1 fun j1 =>
zlet (zset h 75 0 j1 t0) fun h2 =>
zlet (zset h2 12 0 13 (wr ((zhD h2 12 0 13) + 1))) fun h3 =>
kr a4 h3) = zseg zPP false (zcal []) (zget (999, 0, 0, 0) zc_M_add) (zcut zu_M_add) (zorc []) kr (fun _ _ => none) 400 148 [some (112, 0), none, none, none, some (0, a4), none] [(0, t0), (0, t1), (175, 0)] h := by rfl
set_option maxRecDepth 100000 in
theorem qe_M_add_148 {ρ : Type} (kr : Int → zH → Option ρ) (a4 t0 t1 : Int) (h : zH) : M_add_148 kr a4 t0 t1 h = zseg zPP false (zcal []) (zget (999, 0, 0, 0) zc_M_add) (zcut zu_M_add) (zorc []) kr (fun _ _ => none) 400 148 [some (112, 0), none, none, none, some (0, a4), none] [(0, t0), (0, t1), (175, 0)] h := qg_M_add_148 kr a4 t0 t1 h
set_option maxRecDepth 100000 in
theorem qg_M_add_141 {ρ : Type} (kr : Int → zH → Option ρ) (c148 : Int → Int → Int → zH → Option ρ) (a4 t0 : Int) (h : zH) : (zix 12 a4 fun j1 =>
c148 a4 (zhD h 75 0 j1) t0 h) = zseg zPP false (zcal []) (zget (999, 0, 0, 0) zc_M_add) (zcut zu_M_add) (zorc [(148, [some (112, some 0), none, none, none, some (0, none), none], [(0, none), (0, none), (175, some 0)], fun xs h => match xs with
  | [a4, t0, t1] => c148 a4 t0 t1 h
  | _ => none)]) kr (fun _ _ => none) 400 141 [some (112, 0), none, none, none, some (0, a4), none] [(0, t0), (175, 0)] h := by rfl
set_option maxRecDepth 100000 in
theorem qe_M_add_141 {ρ : Type} (kr : Int → zH → Option ρ) (a4 t0 : Int) (h : zH) : M_add_141 kr a4 t0 h = zseg zPP false (zcal []) (zget (999, 0, 0, 0) zc_M_add) (zcut zu_M_add) (zorc [(148, [some (112, some 0), none, none, none, some (0, none), none], [(0, none), (0, none), (175, some 0)], fun xs h => match xs with
  | [a4, t0, t1] => M_add_148 kr a4 t0 t1 h
  | _ => none)]) kr (fun _ _ => none) 400 141 [some (112, 0), none, none, none, some (0, a4), none] [(0, t0), (175, 0)] h := qg_M_add_141 kr (M_add_148 kr) a4 t0 h
set_option maxRecDepth 100000 in
theorem qg_M_add_58b {ρ : Type} (kr : Int → zH → Option ρ) (r58 : Int → Int → Int → zH → Option ρ) (F_M_isOver : Int → zH → (Int → zH → Option ρ) → Option ρ) (c92 : Int → Int → Int → Int → zH → Option ρ) (c99 : Int → Int → Int → Int → Int → zH → Option ρ) (c141 : Int → Int → zH → Option ρ) (c148 : Int → Int → Int → zH → Option ρ) (a1 a4 a5 : Int) (h : zH) : (if a5 < a4 then (if a1 = (-1) then c92 a1 a4 a5 a4 h
else zix 12 a5 fun j5 =>
if (zhD h 71 0 j5) = a1 then c99 a1 a4 a5 a5 a4 h
else c92 a1 a4 a5 a4 h)
else zix 12 a4 fun j1 =>
if (zhD h 75 0 j1) = (-1) then c141 a4 a4 h
else zix 12 a4 fun j2 =>
F_M_isOver (zhD h 75 0 j2) h  fun v3 h4 =>
if v3 = 0 then c141 a4 a4 h4
else c148 a4 (-1) a4 h4) = zseg zPP false (zcal [(78, [some 0, none], fun xs h kr kt => match xs with
  | [x1] => F_M_isOver x1 h kr
  | _ => none)]) (zget (999, 0, 0, 0) zc_M_add) (zcut zu_M_add) (zorc [(92, [some (112, some 0), some (0, none), none, none, some (0, none), some (0, none)], [(0, none), (175, some 0)], fun xs h => match xs with
  | [a1, a4, a5, t0] => c92 a1 a4 a5 t0 h
  | _ => none), (99, [some (112, some 0), some (0, none), none, none, some (0, none), some (0, none)], [(0, none), (0, none), (175, some 0)], fun xs h => match xs with
  | [a1, a4, a5, t0, t1] => c99 a1 a4 a5 t0 t1 h
  | _ => none), (141, [some (112, some 0), none, none, none, some (0, none), none], [(0, none), (175, some 0)], fun xs h => match xs with
  | [a4, t0] => c141 a4 t0 h
  | _ => none), (148, [some (112, some 0), none, none, none, some (0, none), none], [(0, none), (0, none), (175, some 0)], fun xs h => match xs with
  | [a4, t0, t1] => c148 a4 t0 t1 h
  | _ => none)]) kr (fun _ _ => none) 400 58 [some (112, 0), some (0, a1), none, none, some (0, a4), some (0, a5)] [] h := by rfl
set_option maxRecDepth 100000 in
theorem qe_M_add_58b {ρ : Type} (kr : Int → zH → Option ρ) (r58 : Int → Int → Int → zH → Option ρ) (a1 a4 a5 : Int) (h : zH) : M_add_58b kr r58 a1 a4 a5 h = zseg zPP false (zcal [(78, [some 0, none], fun xs h kr kt => match xs with
  | [x1] => M_isOver x1 h kr
  | _ => none)]) (zget (999, 0, 0, 0) zc_M_add) (zcut zu_M_add) (zorc [(92, [some (112, some 0), some (0, none), none, none, some (0, none), some (0, none)], [(0, none), (175, some 0)], fun xs h => match xs with
  | [a1, a4, a5, t0] => M_add_92 kr r58 a1 a4 a5 t0 h
  | _ => none), (99, [some (112, some 0), some (0, none), none, none, some (0, none), some (0, none)], [(0, none), (0, none), (175, some 0)], fun xs h => match xs with
  | [a1, a4, a5, t0, t1] => M_add_99 kr r58 a1 a4 a5 t0 t1 h
  | _ => none), (141, [some (112, some 0), none, none, none, some (0, none), none], [(0, none), (175, some 0)], fun xs h => match xs with
  | [a4, t0] => M_add_141 kr a4 t0 h
  | _ => none), (148, [some (112, some 0), none, none, none, some (0, none), none], [(0, none), (0, none), (175, some 0)], fun xs h => match xs with
  | [a4, t0, t1] => M_add_148 kr a4 t0 t1 h
  | _ => none)]) kr (fun _ _ => none) 400 58 [some (112, 0), some (0, a1), none, none, some (0, a4), some (0, a5)] [] h := qg_M_add_58b kr r58 M_isOver (M_add_92 kr r58) (M_add_99 kr r58) (M_add_141 kr) (M_add_148 kr) a1 a4 a5 h
set_option maxRecDepth 100000 in
theorem qg_M_add {ρ : Type} (kr : Int → zH → Option ρ) (c58 : Int → Int → Int → zH → Option ρ) (a1 a2 a3 : Int) (h : zH) : (zix 12 (zhD h 12 0 13) fun j1 =>
zlet (zset h 69 0 j1 113) fun h2 =>
zix 12 (zhD h 12 0 13) fun j3 =>
zlet (zset h2 71 0 j3 a1) fun h4 =>
zix 12 (zhD h 12 0 13) fun j5 =>
zlet (zset h4 70 0 j5 a2) fun h6 =>
zix 12 (zhD h 12 0 13) fun j7 =>
zlet (zset h6 74 0 j7 a3) fun h8 =>
zix 12 (zhD h 12 0 13) fun j9 =>
zlet (zset h8 76 0 j9 (-1)) fun h10 =>
zix 12 (zhD h 12 0 13) fun j11 =>
zlet (zset h10 75 0 j11 (-1)) fun h12 =>
c58 a1 (zhD h 12 0 13) 0 h12) = zseg zPP false (zcal []) (zget (999, 0, 0, 0) zc_M_add) (zcut zu_M_add) (zorc [(58, [some (112, some 0), some (0, none), none, none, some (0, none), some (0, none)], [], fun xs h => match xs with
  | [a1, a4, a5] => c58 a1 a4 a5 h
  | _ => none)]) kr (fun _ _ => none) 400 0 [some (112, 0), some (0, a1), some (0, a2), some (0, a3), none, none] [] h := by rfl
set_option maxRecDepth 100000 in
theorem qe_M_add {ρ : Type} (kr : Int → zH → Option ρ) (a1 a2 a3 : Int) (h : zH) : M_add a1 a2 a3 h kr = zseg zPP false (zcal []) (zget (999, 0, 0, 0) zc_M_add) (zcut zu_M_add) (zorc [(58, [some (112, some 0), some (0, none), none, none, some (0, none), some (0, none)], [], fun xs h => match xs with
  | [a1, a4, a5] => M_add_58 kr a1 a4 a5 h
  | _ => none)]) kr (fun _ _ => none) 400 0 [some (112, 0), some (0, a1), some (0, a2), some (0, a3), none, none] [] h := qg_M_add kr (M_add_58 kr) a1 a2 a3 h
def zc_M_launch : List zI := [(14, 0, 0, 112), (0, 0, 0, 0), (82, 12, 185, 0), (999, 0, 0, 0), (999, 0, 0, 0), (10, 0, 1, 0), (0, 0, 0, 0), (0, 1, 0, 0), (113, 0, 192, 64), (999, 0, 0, 0), (999, 0, 0, 0), (60, 26, 37, 0), (999, 0, 0, 0), (999, 0, 0, 0), (14, 0, 0, 112), (10, 0, 2, 0), (110, 0, 203, 66), (999, 0, 0, 0), (999, 0, 0, 0), (61, 18, 37, 0), (999, 0, 0, 0), (999, 0, 0, 0), (11, 0, 5, 0), (999, 0, 0, 0), (0, (-1), 0, 0), (66, 16, 41, 0), (999, 0, 0, 0), (999, 0, 0, 0), (14, 0, 0, 112), (11, 0, 5, 0), (999, 0, 0, 0), (110, 0, 228, 67), (999, 0, 0, 0), (999, 0, 0, 0), (60, 7, 41, 0), (999, 0, 0, 0), (999, 0, 0, 0), (0, 1, 0, 0), (72, 4, 42, 0), (999, 0, 0, 0), (999, 0, 0, 0), (0, 0, 0, 0), (17, 0, 6, 0), (999, 0, 0, 0), (14, 0, 0, 112), (11, 0, 6, 0), (999, 0, 0, 0), (0, 1, 0, 0), (110, 0, 199, 65), (999, 0, 0, 0), (999, 0, 0, 0), (61, 82, 133, 0), (999, 0, 0, 0), (999, 0, 0, 0), (14, 0, 0, 112), (10, 0, 3, 0), (0, 1, 0, 0), (1, 6, 0, 0), (999, 0, 0, 0), (113, 0, 192, 64), (999, 0, 0, 0), (999, 0, 0, 0), (60, 14, 76, 0), (999, 0, 0, 0), (999, 0, 0, 0), (11, 0, 4, 0), (999, 0, 0, 0), (0, 1, 0, 0), (1, 16, 0, 0), (999, 0, 0, 0), (113, 0, 192, 64), (999, 0, 0, 0), (999, 0, 0, 0), (61, 7, 80, 0), (999, 0, 0, 0), (999, 0, 0, 0), (0, 1, 0, 0), (72, 4, 81, 0), (999, 0, 0, 0), (999, 0, 0, 0), (0, 0, 0, 0), (0, 2, 0, 0), (110, 0, 199, 65), (999, 0, 0, 0), (999, 0, 0, 0), (61, 48, 133, 0), (999, 0, 0, 0), (999, 0, 0, 0), (14, 0, 0, 112), (14, 0, 0, 112), (10, 0, 2, 0), (11, 0, 4, 0), (999, 0, 0, 0), (110, 0, 219, 74), (999, 0, 0, 0), (999, 0, 0, 0), (61, 7, 103, 0), (999, 0, 0, 0), (999, 0, 0, 0), (0, 1, 0, 0), (72, 4, 104, 0), (999, 0, 0, 0), (999, 0, 0, 0), (0, 0, 0, 0), (0, 3, 0, 0), (110, 0, 199, 65), (999, 0, 0, 0), (999, 0, 0, 0), (61, 25, 133, 0), (999, 0, 0, 0), (999, 0, 0, 0), (14, 0, 0, 112), (14, 0, 0, 112), (80, 12, 196, 13), (999, 0, 0, 0), (999, 0, 0, 0), (1, 12, 0, 0), (999, 0, 0, 0), (67, 7, 125, 0), (999, 0, 0, 0), (999, 0, 0, 0), (0, 1, 0, 0), (72, 4, 126, 0), (999, 0, 0, 0), (999, 0, 0, 0), (0, 0, 0, 0), (0, 4, 0, 0), (110, 0, 199, 65), (999, 0, 0, 0), (999, 0, 0, 0), (60, 5, 135, 0), (999, 0, 0, 0), (999, 0, 0, 0), (0, 0, 0, 0), (130, 0, 0, 0), (14, 0, 0, 112), (10, 0, 1, 0), (10, 0, 2, 0), (11, 0, 5, 0), (999, 0, 0, 0), (110, 0, 231, 79), (999, 0, 0, 0), (999, 0, 0, 0), (17, 0, 7, 0), (999, 0, 0, 0), (14, 0, 0, 112), (80, 12, 52, 17), (999, 0, 0, 0), (999, 0, 0, 0), (11, 0, 7, 0), (999, 0, 0, 0), (10, 0, 3, 0), (95, 0, 0, 72), (14, 0, 0, 112), (80, 12, 55, 18), (999, 0, 0, 0), (999, 0, 0, 0), (11, 0, 7, 0), (999, 0, 0, 0), (11, 0, 4, 0), (999, 0, 0, 0), (95, 0, 0, 73), (14, 0, 0, 112), (80, 12, 26, 8), (999, 0, 0, 0), (999, 0, 0, 0), (10, 0, 2, 0), (0, 1, 0, 0), (96, 0, 0, 64), (11, 0, 7, 0), (999, 0, 0, 0), (130, 0, 0, 0)]
def zu_M_launch : List (Nat × List Bool) := [(37, [true, true, true, true, true, true, false, false]), (41, [true, true, true, true, true, true, false, false]), (42, [true, true, true, true, true, true, false, false]), (76, [true, true, true, true, true, true, false, false]), (81, [true, true, true, true, true, true, false, false]), (104, [true, true, true, true, true, true, false, false]), (126, [true, true, true, true, true, true, false, false]), (133, [false, false, false, false, false, false, false, false])]
set_option maxRecDepth 100000 in
theorem qg_M_launch_133 {ρ : Type} (kr : Int → zH → Option ρ) (h : zH) : (kr 0 h) = zseg zPP false (zcal []) (zget (999, 0, 0, 0) zc_M_launch) (zcut zu_M_launch) (zorc []) kr (fun _ _ => none) 400 133 [none, none, none, none, none, none, none, none] [] h := by rfl
set_option maxRecDepth 100000 in
theorem qe_M_launch_133 {ρ : Type} (kr : Int → zH → Option ρ) (h : zH) : M_launch_133 kr h = zseg zPP false (zcal []) (zget (999, 0, 0, 0) zc_M_launch) (zcut zu_M_launch) (zorc []) kr (fun _ _ => none) 400 133 [none, none, none, none, none, none, none, none] [] h := qg_M_launch_133 kr h
set_option maxRecDepth 100000 in
theorem qg_M_launch_126 {ρ : Type} (kr : Int → zH → Option ρ) (F_M_fails : Int → Int → zH → (Int → zH → Option ρ) → Option ρ) (F_M_add : Int → Int → Int → zH → (Int → zH → Option ρ) → Option ρ) (c133 : zH → Option ρ) (a1 a2 a3 a4 a5 t0 : Int) (h : zH) : (F_M_fails t0 4 h  fun v1 h2 =>
if v1 = 0 then (F_M_add a1 a2 a5 h2  fun v3 h4 =>
zix 12 v3 fun j5 =>
zlet (zset h4 72 0 j5 a3) fun h6 =>
zix 12 v3 fun j7 =>
zlet (zset h6 73 0 j7 a4) fun h8 =>
zix 4 a2 fun j9 =>
zlet (zset h8 64 0 j9 1) fun h10 =>
kr v3 h10)
else c133 h2) = zseg zPP false (zcal [(65, [some 0, none, none], fun xs h kr kt => match xs with
  | [x1, x2] => F_M_fails x1 x2 h kr
  | _ => none), (79, [some 0, none, none, none], fun xs h kr kt => match xs with
  | [x1, x2, x3] => F_M_add x1 x2 x3 h kr
  | _ => none)]) (zget (999, 0, 0, 0) zc_M_launch) (zcut zu_M_launch) (zorc [(133, [none, none, none, none, none, none, none, none], [], fun xs h => match xs with
  | [] => c133 h
  | _ => none)]) kr (fun _ _ => none) 400 126 [some (112, 0), some (0, a1), some (0, a2), some (0, a3), some (0, a4), some (0, a5), none, none] [(0, t0), (112, 0)] h := by rfl
set_option maxRecDepth 100000 in
theorem qe_M_launch_126 {ρ : Type} (kr : Int → zH → Option ρ) (a1 a2 a3 a4 a5 t0 : Int) (h : zH) : M_launch_126 kr a1 a2 a3 a4 a5 t0 h = zseg zPP false (zcal [(65, [some 0, none, none], fun xs h kr kt => match xs with
  | [x1, x2] => M_fails x1 x2 h kr
  | _ => none), (79, [some 0, none, none, none], fun xs h kr kt => match xs with
  | [x1, x2, x3] => M_add x1 x2 x3 h kr
  | _ => none)]) (zget (999, 0, 0, 0) zc_M_launch) (zcut zu_M_launch) (zorc [(133, [none, none, none, none, none, none, none, none], [], fun xs h => match xs with
  | [] => M_launch_133 kr h
  | _ => none)]) kr (fun _ _ => none) 400 126 [some (112, 0), some (0, a1), some (0, a2), some (0, a3), some (0, a4), some (0, a5), none, none] [(0, t0), (112, 0)] h := qg_M_launch_126 kr M_fails M_add (M_launch_133 kr) a1 a2 a3 a4 a5 t0 h
set_option maxRecDepth 100000 in
theorem qg_M_launch_104 {ρ : Type} (kr : Int → zH → Option ρ) (F_M_fails : Int → Int → zH → (Int → zH → Option ρ) → Option ρ) (c126 : Int → Int → Int → Int → Int → Int → zH → Option ρ) (c133 : zH → Option ρ) (a1 a2 a3 a4 a5 t0 : Int) (h : zH) : (F_M_fails t0 3 h  fun v1 h2 =>
if v1 = 0 then (if (zhD h2 12 0 13) = 12 then c126 a1 a2 a3 a4 a5 1 h2
else c126 a1 a2 a3 a4 a5 0 h2)
else c133 h2) = zseg zPP false (zcal [(65, [some 0, none, none], fun xs h kr kt => match xs with
  | [x1, x2] => F_M_fails x1 x2 h kr
  | _ => none)]) (zget (999, 0, 0, 0) zc_M_launch) (zcut zu_M_launch) (zorc [(126, [some (112, some 0), some (0, none), some (0, none), some (0, none), some (0, none), some (0, none), none, none], [(0, none), (112, some 0)], fun xs h => match xs with
  | [a1, a2, a3, a4, a5, t0] => c126 a1 a2 a3 a4 a5 t0 h
  | _ => none), (133, [none, none, none, none, none, none, none, none], [], fun xs h => match xs with
  | [] => c133 h
  | _ => none)]) kr (fun _ _ => none) 400 104 [some (112, 0), some (0, a1), some (0, a2), some (0, a3), some (0, a4), some (0, a5), none, none] [(0, t0), (112, 0)] h := by rfl
set_option maxRecDepth 100000 in
theorem qe_M_launch_104 {ρ : Type} (kr : Int → zH → Option ρ) (a1 a2 a3 a4 a5 t0 : Int) (h : zH) : M_launch_104 kr a1 a2 a3 a4 a5 t0 h = zseg zPP false (zcal [(65, [some 0, none, none], fun xs h kr kt => match xs with
  | [x1, x2] => M_fails x1 x2 h kr
  | _ => none)]) (zget (999, 0, 0, 0) zc_M_launch) (zcut zu_M_launch) (zorc [(126, [some (112, some 0), some (0, none), some (0, none), some (0, none), some (0, none), some (0, none), none, none], [(0, none), (112, some 0)], fun xs h => match xs with
  | [a1, a2, a3, a4, a5, t0] => M_launch_126 kr a1 a2 a3 a4 a5 t0 h
  | _ => none), (133, [none, none, none, none, none, none, none, none], [], fun xs h => match xs with
  | [] => M_launch_133 kr h
  | _ => none)]) kr (fun _ _ => none) 400 104 [some (112, 0), some (0, a1), some (0, a2), some (0, a3), some (0, a4), some (0, a5), none, none] [(0, t0), (112, 0)] h := qg_M_launch_104 kr M_fails (M_launch_126 kr) (M_launch_133 kr) a1 a2 a3 a4 a5 t0 h
set_option maxRecDepth 100000 in
theorem qg_M_launch_81 {ρ : Type} (kr : Int → zH → Option ρ) (F_M_fails : Int → Int → zH → (Int → zH → Option ρ) → Option ρ) (F_M_fit : Int → Int → zH → (Int → zH → Option ρ) → Option ρ) (c104 : Int → Int → Int → Int → Int → Int → zH → Option ρ) (c133 : zH → Option ρ) (a1 a2 a3 a4 a5 t0 : Int) (h : zH) : (F_M_fails t0 2 h  fun v1 h2 =>
if v1 = 0 then (F_M_fit a2 a4 h2  fun v3 h4 =>
if v3 = 0 then c104 a1 a2 a3 a4 a5 1 h4
else c104 a1 a2 a3 a4 a5 0 h4)
else c133 h2) = zseg zPP false (zcal [(65, [some 0, none, none], fun xs h kr kt => match xs with
  | [x1, x2] => F_M_fails x1 x2 h kr
  | _ => none), (74, [some 0, none, none], fun xs h kr kt => match xs with
  | [x1, x2] => F_M_fit x1 x2 h kr
  | _ => none)]) (zget (999, 0, 0, 0) zc_M_launch) (zcut zu_M_launch) (zorc [(104, [some (112, some 0), some (0, none), some (0, none), some (0, none), some (0, none), some (0, none), none, none], [(0, none), (112, some 0)], fun xs h => match xs with
  | [a1, a2, a3, a4, a5, t0] => c104 a1 a2 a3 a4 a5 t0 h
  | _ => none), (133, [none, none, none, none, none, none, none, none], [], fun xs h => match xs with
  | [] => c133 h
  | _ => none)]) kr (fun _ _ => none) 400 81 [some (112, 0), some (0, a1), some (0, a2), some (0, a3), some (0, a4), some (0, a5), none, none] [(0, t0), (112, 0)] h := by rfl
set_option maxRecDepth 100000 in
theorem qe_M_launch_81 {ρ : Type} (kr : Int → zH → Option ρ) (a1 a2 a3 a4 a5 t0 : Int) (h : zH) : M_launch_81 kr a1 a2 a3 a4 a5 t0 h = zseg zPP false (zcal [(65, [some 0, none, none], fun xs h kr kt => match xs with
  | [x1, x2] => M_fails x1 x2 h kr
  | _ => none), (74, [some 0, none, none], fun xs h kr kt => match xs with
  | [x1, x2] => M_fit x1 x2 h kr
  | _ => none)]) (zget (999, 0, 0, 0) zc_M_launch) (zcut zu_M_launch) (zorc [(104, [some (112, some 0), some (0, none), some (0, none), some (0, none), some (0, none), some (0, none), none, none], [(0, none), (112, some 0)], fun xs h => match xs with
  | [a1, a2, a3, a4, a5, t0] => M_launch_104 kr a1 a2 a3 a4 a5 t0 h
  | _ => none), (133, [none, none, none, none, none, none, none, none], [], fun xs h => match xs with
  | [] => M_launch_133 kr h
  | _ => none)]) kr (fun _ _ => none) 400 81 [some (112, 0), some (0, a1), some (0, a2), some (0, a3), some (0, a4), some (0, a5), none, none] [(0, t0), (112, 0)] h := qg_M_launch_81 kr M_fails M_fit (M_launch_104 kr) (M_launch_133 kr) a1 a2 a3 a4 a5 t0 h
set_option maxRecDepth 100000 in
theorem qg_M_launch_76 {ρ : Type} (kr : Int → zH → Option ρ) (c81 : Int → Int → Int → Int → Int → Int → zH → Option ρ) (a1 a2 a3 a4 a5 : Int) (h : zH) : (c81 a1 a2 a3 a4 a5 1 h) = zseg zPP false (zcal []) (zget (999, 0, 0, 0) zc_M_launch) (zcut zu_M_launch) (zorc [(81, [some (112, some 0), some (0, none), some (0, none), some (0, none), some (0, none), some (0, none), none, none], [(0, none), (112, some 0)], fun xs h => match xs with
  | [a1, a2, a3, a4, a5, t0] => c81 a1 a2 a3 a4 a5 t0 h
  | _ => none)]) kr (fun _ _ => none) 400 76 [some (112, 0), some (0, a1), some (0, a2), some (0, a3), some (0, a4), some (0, a5), none, none] [(112, 0)] h := by rfl
set_option maxRecDepth 100000 in
theorem qe_M_launch_76 {ρ : Type} (kr : Int → zH → Option ρ) (a1 a2 a3 a4 a5 : Int) (h : zH) : M_launch_76 kr a1 a2 a3 a4 a5 h = zseg zPP false (zcal []) (zget (999, 0, 0, 0) zc_M_launch) (zcut zu_M_launch) (zorc [(81, [some (112, some 0), some (0, none), some (0, none), some (0, none), some (0, none), some (0, none), none, none], [(0, none), (112, some 0)], fun xs h => match xs with
  | [a1, a2, a3, a4, a5, t0] => M_launch_81 kr a1 a2 a3 a4 a5 t0 h
  | _ => none)]) kr (fun _ _ => none) 400 76 [some (112, 0), some (0, a1), some (0, a2), some (0, a3), some (0, a4), some (0, a5), none, none] [(112, 0)] h := qg_M_launch_76 kr (M_launch_81 kr) a1 a2 a3 a4 a5 h
set_option maxRecDepth 100000 in
theorem qg_M_launch_42 {ρ : Type} (kr : Int → zH → Option ρ) (F_M_in : Int → Int → Int → zH → (Int → zH → Option ρ) → Option ρ) (F_M_fails : Int → Int → zH → (Int → zH → Option ρ) → Option ρ) (c76 : Int → Int → Int → Int → Int → zH → Option ρ) (c81 : Int → Int → Int → Int → Int → Int → zH → Option ρ) (c133 : zH → Option ρ) (a1 a2 a3 a4 a5 t0 : Int) (h : zH) : (F_M_fails t0 1 h  fun v1 h2 =>
if v1 = 0 then (F_M_in a3 1 6 h2  fun v3 h4 =>
if v3 = 0 then c76 a1 a2 a3 a4 a5 h4
else F_M_in a4 1 16 h4  fun v5 h6 =>
if v5 = 0 then c76 a1 a2 a3 a4 a5 h6
else c81 a1 a2 a3 a4 a5 0 h6)
else c133 h2) = zseg zPP false (zcal [(64, [none, none, none], fun xs h kr kt => match xs with
  | [x0, x1, x2] => F_M_in x0 x1 x2 h kr
  | _ => none), (65, [some 0, none, none], fun xs h kr kt => match xs with
  | [x1, x2] => F_M_fails x1 x2 h kr
  | _ => none)]) (zget (999, 0, 0, 0) zc_M_launch) (zcut zu_M_launch) (zorc [(76, [some (112, some 0), some (0, none), some (0, none), some (0, none), some (0, none), some (0, none), none, none], [(112, some 0)], fun xs h => match xs with
  | [a1, a2, a3, a4, a5] => c76 a1 a2 a3 a4 a5 h
  | _ => none), (81, [some (112, some 0), some (0, none), some (0, none), some (0, none), some (0, none), some (0, none), none, none], [(0, none), (112, some 0)], fun xs h => match xs with
  | [a1, a2, a3, a4, a5, t0] => c81 a1 a2 a3 a4 a5 t0 h
  | _ => none), (133, [none, none, none, none, none, none, none, none], [], fun xs h => match xs with
  | [] => c133 h
  | _ => none)]) kr (fun _ _ => none) 400 42 [some (112, 0), some (0, a1), some (0, a2), some (0, a3), some (0, a4), some (0, a5), none, none] [(0, t0)] h := by rfl
set_option maxRecDepth 100000 in
theorem qe_M_launch_42 {ρ : Type} (kr : Int → zH → Option ρ) (a1 a2 a3 a4 a5 t0 : Int) (h : zH) : M_launch_42 kr a1 a2 a3 a4 a5 t0 h = zseg zPP false (zcal [(64, [none, none, none], fun xs h kr kt => match xs with
  | [x0, x1, x2] => M_in x0 x1 x2 h kr
  | _ => none), (65, [some 0, none, none], fun xs h kr kt => match xs with
  | [x1, x2] => M_fails x1 x2 h kr
  | _ => none)]) (zget (999, 0, 0, 0) zc_M_launch) (zcut zu_M_launch) (zorc [(76, [some (112, some 0), some (0, none), some (0, none), some (0, none), some (0, none), some (0, none), none, none], [(112, some 0)], fun xs h => match xs with
  | [a1, a2, a3, a4, a5] => M_launch_76 kr a1 a2 a3 a4 a5 h
  | _ => none), (81, [some (112, some 0), some (0, none), some (0, none), some (0, none), some (0, none), some (0, none), none, none], [(0, none), (112, some 0)], fun xs h => match xs with
  | [a1, a2, a3, a4, a5, t0] => M_launch_81 kr a1 a2 a3 a4 a5 t0 h
  | _ => none), (133, [none, none, none, none, none, none, none, none], [], fun xs h => match xs with
  | [] => M_launch_133 kr h
  | _ => none)]) kr (fun _ _ => none) 400 42 [some (112, 0), some (0, a1), some (0, a2), some (0, a3), some (0, a4), some (0, a5), none, none] [(0, t0)] h := qg_M_launch_42 kr M_in M_fails (M_launch_76 kr) (M_launch_81 kr) (M_launch_133 kr) a1 a2 a3 a4 a5 t0 h
set_option maxRecDepth 100000 in
theorem qg_M_launch_37 {ρ : Type} (kr : Int → zH → Option ρ) (c42 : Int → Int → Int → Int → Int → Int → zH → Option ρ) (a1 a2 a3 a4 a5 : Int) (h : zH) : (c42 a1 a2 a3 a4 a5 1 h) = zseg zPP false (zcal []) (zget (999, 0, 0, 0) zc_M_launch) (zcut zu_M_launch) (zorc [(42, [some (112, some 0), some (0, none), some (0, none), some (0, none), some (0, none), some (0, none), none, none], [(0, none)], fun xs h => match xs with
  | [a1, a2, a3, a4, a5, t0] => c42 a1 a2 a3 a4 a5 t0 h
  | _ => none)]) kr (fun _ _ => none) 400 37 [some (112, 0), some (0, a1), some (0, a2), some (0, a3), some (0, a4), some (0, a5), none, none] [] h := by rfl
set_option maxRecDepth 100000 in
theorem qe_M_launch_37 {ρ : Type} (kr : Int → zH → Option ρ) (a1 a2 a3 a4 a5 : Int) (h : zH) : M_launch_37 kr a1 a2 a3 a4 a5 h = zseg zPP false (zcal []) (zget (999, 0, 0, 0) zc_M_launch) (zcut zu_M_launch) (zorc [(42, [some (112, some 0), some (0, none), some (0, none), some (0, none), some (0, none), some (0, none), none, none], [(0, none)], fun xs h => match xs with
  | [a1, a2, a3, a4, a5, t0] => M_launch_42 kr a1 a2 a3 a4 a5 t0 h
  | _ => none)]) kr (fun _ _ => none) 400 37 [some (112, 0), some (0, a1), some (0, a2), some (0, a3), some (0, a4), some (0, a5), none, none] [] h := qg_M_launch_37 kr (M_launch_42 kr) a1 a2 a3 a4 a5 h
set_option maxRecDepth 100000 in
theorem qg_M_launch_41 {ρ : Type} (kr : Int → zH → Option ρ) (c42 : Int → Int → Int → Int → Int → Int → zH → Option ρ) (a1 a2 a3 a4 a5 : Int) (h : zH) : (c42 a1 a2 a3 a4 a5 0 h) = zseg zPP false (zcal []) (zget (999, 0, 0, 0) zc_M_launch) (zcut zu_M_launch) (zorc [(42, [some (112, some 0), some (0, none), some (0, none), some (0, none), some (0, none), some (0, none), none, none], [(0, none)], fun xs h => match xs with
  | [a1, a2, a3, a4, a5, t0] => c42 a1 a2 a3 a4 a5 t0 h
  | _ => none)]) kr (fun _ _ => none) 400 41 [some (112, 0), some (0, a1), some (0, a2), some (0, a3), some (0, a4), some (0, a5), none, none] [] h := by rfl
set_option maxRecDepth 100000 in
theorem qe_M_launch_41 {ρ : Type} (kr : Int → zH → Option ρ) (a1 a2 a3 a4 a5 : Int) (h : zH) : M_launch_41 kr a1 a2 a3 a4 a5 h = zseg zPP false (zcal []) (zget (999, 0, 0, 0) zc_M_launch) (zcut zu_M_launch) (zorc [(42, [some (112, some 0), some (0, none), some (0, none), some (0, none), some (0, none), some (0, none), none, none], [(0, none)], fun xs h => match xs with
  | [a1, a2, a3, a4, a5, t0] => M_launch_42 kr a1 a2 a3 a4 a5 t0 h
  | _ => none)]) kr (fun _ _ => none) 400 41 [some (112, 0), some (0, a1), some (0, a2), some (0, a3), some (0, a4), some (0, a5), none, none] [] h := qg_M_launch_41 kr (M_launch_42 kr) a1 a2 a3 a4 a5 h
set_option maxRecDepth 100000 in
theorem qg_M_launch {ρ : Type} (kr : Int → zH → Option ρ) (F_M_in : Int → Int → Int → zH → (Int → zH → Option ρ) → Option ρ) (F_M_noKernel : Int → zH → (Int → zH → Option ρ) → Option ρ) (F_M_noLaunch : Int → zH → (Int → zH → Option ρ) → Option ρ) (c37 : Int → Int → Int → Int → Int → zH → Option ρ) (c41 : Int → Int → Int → Int → Int → zH → Option ρ) (a1 a2 a3 a4 a5 : Int) (h : zH) : (zlet (zset h 12 0 0 0) fun h1 =>
F_M_in a1 0 1 h1  fun v2 h3 =>
if v2 = 0 then c37 a1 a2 a3 a4 a5 h3
else F_M_noKernel a2 h3  fun v4 h5 =>
if v4 = 0 then (if a5 = (-1) then c41 a1 a2 a3 a4 a5 h5
else F_M_noLaunch a5 h5  fun v6 h7 =>
if v6 = 0 then c41 a1 a2 a3 a4 a5 h7
else c37 a1 a2 a3 a4 a5 h7)
else c37 a1 a2 a3 a4 a5 h5) = zseg zPP false (zcal [(64, [none, none, none], fun xs h kr kt => match xs with
  | [x0, x1, x2] => F_M_in x0 x1 x2 h kr
  | _ => none), (66, [some 0, none], fun xs h kr kt => match xs with
  | [x1] => F_M_noKernel x1 h kr
  | _ => none), (67, [some 0, none], fun xs h kr kt => match xs with
  | [x1] => F_M_noLaunch x1 h kr
  | _ => none)]) (zget (999, 0, 0, 0) zc_M_launch) (zcut zu_M_launch) (zorc [(37, [some (112, some 0), some (0, none), some (0, none), some (0, none), some (0, none), some (0, none), none, none], [], fun xs h => match xs with
  | [a1, a2, a3, a4, a5] => c37 a1 a2 a3 a4 a5 h
  | _ => none), (41, [some (112, some 0), some (0, none), some (0, none), some (0, none), some (0, none), some (0, none), none, none], [], fun xs h => match xs with
  | [a1, a2, a3, a4, a5] => c41 a1 a2 a3 a4 a5 h
  | _ => none)]) kr (fun _ _ => none) 400 0 [some (112, 0), some (0, a1), some (0, a2), some (0, a3), some (0, a4), some (0, a5), none, none] [] h := by rfl
set_option maxRecDepth 100000 in
theorem qe_M_launch {ρ : Type} (kr : Int → zH → Option ρ) (a1 a2 a3 a4 a5 : Int) (h : zH) : M_launch a1 a2 a3 a4 a5 h kr = zseg zPP false (zcal [(64, [none, none, none], fun xs h kr kt => match xs with
  | [x0, x1, x2] => M_in x0 x1 x2 h kr
  | _ => none), (66, [some 0, none], fun xs h kr kt => match xs with
  | [x1] => M_noKernel x1 h kr
  | _ => none), (67, [some 0, none], fun xs h kr kt => match xs with
  | [x1] => M_noLaunch x1 h kr
  | _ => none)]) (zget (999, 0, 0, 0) zc_M_launch) (zcut zu_M_launch) (zorc [(37, [some (112, some 0), some (0, none), some (0, none), some (0, none), some (0, none), some (0, none), none, none], [], fun xs h => match xs with
  | [a1, a2, a3, a4, a5] => M_launch_37 kr a1 a2 a3 a4 a5 h
  | _ => none), (41, [some (112, some 0), some (0, none), some (0, none), some (0, none), some (0, none), some (0, none), none, none], [], fun xs h => match xs with
  | [a1, a2, a3, a4, a5] => M_launch_41 kr a1 a2 a3 a4 a5 h
  | _ => none)]) kr (fun _ _ => none) 400 0 [some (112, 0), some (0, a1), some (0, a2), some (0, a3), some (0, a4), some (0, a5), none, none] [] h := qg_M_launch kr M_in M_noKernel M_noLaunch (M_launch_37 kr) (M_launch_41 kr) a1 a2 a3 a4 a5 h
def zc_M_copy : List zI := [(14, 0, 0, 112), (0, 0, 0, 0), (82, 12, 185, 0), (999, 0, 0, 0), (999, 0, 0, 0), (10, 0, 1, 0), (0, 0, 0, 0), (0, 1, 0, 0), (113, 0, 192, 64), (999, 0, 0, 0), (999, 0, 0, 0), (60, 18, 29, 0), (999, 0, 0, 0), (999, 0, 0, 0), (11, 0, 5, 0), (999, 0, 0, 0), (0, (-1), 0, 0), (66, 16, 33, 0), (999, 0, 0, 0), (999, 0, 0, 0), (14, 0, 0, 112), (11, 0, 5, 0), (999, 0, 0, 0), (110, 0, 228, 67), (999, 0, 0, 0), (999, 0, 0, 0), (60, 7, 33, 0), (999, 0, 0, 0), (999, 0, 0, 0), (0, 1, 0, 0), (72, 4, 34, 0), (999, 0, 0, 0), (999, 0, 0, 0), (0, 0, 0, 0), (17, 0, 6, 0), (999, 0, 0, 0), (11, 0, 4, 0), (999, 0, 0, 0), (0, 1, 0, 0), (1, 64, 0, 0), (999, 0, 0, 0), (113, 0, 192, 64), (999, 0, 0, 0), (999, 0, 0, 0), (60, 35, 79, 0), (999, 0, 0, 0), (999, 0, 0, 0), (10, 0, 2, 0), (113, 0, 222, 68), (999, 0, 0, 0), (999, 0, 0, 0), (61, 28, 79, 0), (999, 0, 0, 0), (999, 0, 0, 0), (10, 0, 3, 0), (113, 0, 222, 68), (999, 0, 0, 0), (999, 0, 0, 0), (61, 21, 79, 0), (999, 0, 0, 0), (999, 0, 0, 0), (10, 0, 2, 0), (11, 0, 4, 0), (999, 0, 0, 0), (30, 0, 0, 0), (1, 64, 0, 0), (999, 0, 0, 0), (70, 12, 79, 0), (999, 0, 0, 0), (999, 0, 0, 0), (10, 0, 3, 0), (11, 0, 4, 0), (999, 0, 0, 0), (30, 0, 0, 0), (1, 64, 0, 0), (999, 0, 0, 0), (71, 7, 83, 0), (999, 0, 0, 0), (999, 0, 0, 0), (0, 1, 0, 0), (72, 4, 84, 0), (999, 0, 0, 0), (999, 0, 0, 0), (0, 0, 0, 0), (17, 0, 7, 0), (999, 0, 0, 0), (14, 0, 0, 112), (11, 0, 6, 0), (999, 0, 0, 0), (0, 1, 0, 0), (110, 0, 199, 65), (999, 0, 0, 0), (999, 0, 0, 0), (61, 35, 128, 0), (999, 0, 0, 0), (999, 0, 0, 0), (14, 0, 0, 112), (11, 0, 7, 0), (999, 0, 0, 0), (0, 2, 0, 0), (110, 0, 199, 65), (999, 0, 0, 0), (999, 0, 0, 0), (61, 25, 128, 0), (999, 0, 0, 0), (999, 0, 0, 0), (14, 0, 0, 112), (14, 0, 0, 112), (80, 12, 196, 13), (999, 0, 0, 0), (999, 0, 0, 0), (1, 12, 0, 0), (999, 0, 0, 0), (67, 7, 120, 0), (999, 0, 0, 0), (999, 0, 0, 0), (0, 1, 0, 0), (72, 4, 121, 0), (999, 0, 0, 0), (999, 0, 0, 0), (0, 0, 0, 0), (0, 3, 0, 0), (110, 0, 199, 65), (999, 0, 0, 0), (999, 0, 0, 0), (60, 5, 130, 0), (999, 0, 0, 0), (999, 0, 0, 0), (0, 0, 0, 0), (130, 0, 0, 0), (14, 0, 0, 112), (10, 0, 1, 0), (0, (-1), 0, 0), (11, 0, 5, 0), (999, 0, 0, 0), (110, 0, 231, 79), (999, 0, 0, 0), (999, 0, 0, 0), (17, 0, 8, 0), (999, 0, 0, 0), (14, 0, 0, 112), (80, 12, 76, 25), (999, 0, 0, 0), (999, 0, 0, 0), (11, 0, 8, 0), (999, 0, 0, 0), (10, 0, 2, 0), (95, 0, 0, 80), (14, 0, 0, 112), (80, 12, 79, 26), (999, 0, 0, 0), (999, 0, 0, 0), (11, 0, 8, 0), (999, 0, 0, 0), (10, 0, 3, 0), (95, 0, 0, 81), (14, 0, 0, 112), (80, 12, 82, 27), (999, 0, 0, 0), (999, 0, 0, 0), (11, 0, 8, 0), (999, 0, 0, 0), (11, 0, 4, 0), (999, 0, 0, 0), (95, 0, 0, 82), (11, 0, 8, 0), (999, 0, 0, 0), (130, 0, 0, 0)]
def zu_M_copy : List (Nat × List Bool) := [(29, [true, true, true, true, true, true, false, false, false]), (33, [true, true, true, true, true, true, false, false, false]), (34, [true, true, true, true, true, true, false, false, false]), (79, [true, true, true, true, true, true, true, false, false]), (84, [true, true, true, true, true, true, true, false, false]), (121, [true, true, true, true, true, true, false, false, false]), (128, [false, false, false, false, false, false, false, false, false])]
set_option maxRecDepth 100000 in
theorem qg_M_copy_128 {ρ : Type} (kr : Int → zH → Option ρ) (h : zH) : (kr 0 h) = zseg zPP false (zcal []) (zget (999, 0, 0, 0) zc_M_copy) (zcut zu_M_copy) (zorc []) kr (fun _ _ => none) 400 128 [none, none, none, none, none, none, none, none, none] [] h := by rfl
set_option maxRecDepth 100000 in
theorem qe_M_copy_128 {ρ : Type} (kr : Int → zH → Option ρ) (h : zH) : M_copy_128 kr h = zseg zPP false (zcal []) (zget (999, 0, 0, 0) zc_M_copy) (zcut zu_M_copy) (zorc []) kr (fun _ _ => none) 400 128 [none, none, none, none, none, none, none, none, none] [] h := qg_M_copy_128 kr h
set_option maxRecDepth 100000 in
theorem qg_M_copy_121 {ρ : Type} (kr : Int → zH → Option ρ) (F_M_fails : Int → Int → zH → (Int → zH → Option ρ) → Option ρ) (F_M_add : Int → Int → Int → zH → (Int → zH → Option ρ) → Option ρ) (c128 : zH → Option ρ) (a1 a2 a3 a4 a5 t0 : Int) (h : zH) : (F_M_fails t0 3 h  fun v1 h2 =>
if v1 = 0 then (F_M_add a1 (-1) a5 h2  fun v3 h4 =>
zix 12 v3 fun j5 =>
zlet (zset h4 80 0 j5 a2) fun h6 =>
zix 12 v3 fun j7 =>
zlet (zset h6 81 0 j7 a3) fun h8 =>
zix 12 v3 fun j9 =>
zlet (zset h8 82 0 j9 a4) fun h10 =>
kr v3 h10)
else c128 h2) = zseg zPP false (zcal [(65, [some 0, none, none], fun xs h kr kt => match xs with
  | [x1, x2] => F_M_fails x1 x2 h kr
  | _ => none), (79, [some 0, none, none, none], fun xs h kr kt => match xs with
  | [x1, x2, x3] => F_M_add x1 x2 x3 h kr
  | _ => none)]) (zget (999, 0, 0, 0) zc_M_copy) (zcut zu_M_copy) (zorc [(128, [none, none, none, none, none, none, none, none, none], [], fun xs h => match xs with
  | [] => c128 h
  | _ => none)]) kr (fun _ _ => none) 400 121 [some (112, 0), some (0, a1), some (0, a2), some (0, a3), some (0, a4), some (0, a5), none, none, none] [(0, t0), (112, 0)] h := by rfl
set_option maxRecDepth 100000 in
theorem qe_M_copy_121 {ρ : Type} (kr : Int → zH → Option ρ) (a1 a2 a3 a4 a5 t0 : Int) (h : zH) : M_copy_121 kr a1 a2 a3 a4 a5 t0 h = zseg zPP false (zcal [(65, [some 0, none, none], fun xs h kr kt => match xs with
  | [x1, x2] => M_fails x1 x2 h kr
  | _ => none), (79, [some 0, none, none, none], fun xs h kr kt => match xs with
  | [x1, x2, x3] => M_add x1 x2 x3 h kr
  | _ => none)]) (zget (999, 0, 0, 0) zc_M_copy) (zcut zu_M_copy) (zorc [(128, [none, none, none, none, none, none, none, none, none], [], fun xs h => match xs with
  | [] => M_copy_128 kr h
  | _ => none)]) kr (fun _ _ => none) 400 121 [some (112, 0), some (0, a1), some (0, a2), some (0, a3), some (0, a4), some (0, a5), none, none, none] [(0, t0), (112, 0)] h := qg_M_copy_121 kr M_fails M_add (M_copy_128 kr) a1 a2 a3 a4 a5 t0 h
set_option maxRecDepth 100000 in
theorem qg_M_copy_84 {ρ : Type} (kr : Int → zH → Option ρ) (F_M_fails : Int → Int → zH → (Int → zH → Option ρ) → Option ρ) (c121 : Int → Int → Int → Int → Int → Int → zH → Option ρ) (c128 : zH → Option ρ) (a1 a2 a3 a4 a5 a6 t0 : Int) (h : zH) : (F_M_fails a6 1 h  fun v1 h2 =>
if v1 = 0 then (F_M_fails t0 2 h2  fun v3 h4 =>
if v3 = 0 then (if (zhD h4 12 0 13) = 12 then c121 a1 a2 a3 a4 a5 1 h4
else c121 a1 a2 a3 a4 a5 0 h4)
else c128 h4)
else c128 h2) = zseg zPP false (zcal [(65, [some 0, none, none], fun xs h kr kt => match xs with
  | [x1, x2] => F_M_fails x1 x2 h kr
  | _ => none)]) (zget (999, 0, 0, 0) zc_M_copy) (zcut zu_M_copy) (zorc [(121, [some (112, some 0), some (0, none), some (0, none), some (0, none), some (0, none), some (0, none), none, none, none], [(0, none), (112, some 0)], fun xs h => match xs with
  | [a1, a2, a3, a4, a5, t0] => c121 a1 a2 a3 a4 a5 t0 h
  | _ => none), (128, [none, none, none, none, none, none, none, none, none], [], fun xs h => match xs with
  | [] => c128 h
  | _ => none)]) kr (fun _ _ => none) 400 84 [some (112, 0), some (0, a1), some (0, a2), some (0, a3), some (0, a4), some (0, a5), some (0, a6), none, none] [(0, t0)] h := by rfl
set_option maxRecDepth 100000 in
theorem qe_M_copy_84 {ρ : Type} (kr : Int → zH → Option ρ) (a1 a2 a3 a4 a5 a6 t0 : Int) (h : zH) : M_copy_84 kr a1 a2 a3 a4 a5 a6 t0 h = zseg zPP false (zcal [(65, [some 0, none, none], fun xs h kr kt => match xs with
  | [x1, x2] => M_fails x1 x2 h kr
  | _ => none)]) (zget (999, 0, 0, 0) zc_M_copy) (zcut zu_M_copy) (zorc [(121, [some (112, some 0), some (0, none), some (0, none), some (0, none), some (0, none), some (0, none), none, none, none], [(0, none), (112, some 0)], fun xs h => match xs with
  | [a1, a2, a3, a4, a5, t0] => M_copy_121 kr a1 a2 a3 a4 a5 t0 h
  | _ => none), (128, [none, none, none, none, none, none, none, none, none], [], fun xs h => match xs with
  | [] => M_copy_128 kr h
  | _ => none)]) kr (fun _ _ => none) 400 84 [some (112, 0), some (0, a1), some (0, a2), some (0, a3), some (0, a4), some (0, a5), some (0, a6), none, none] [(0, t0)] h := qg_M_copy_84 kr M_fails (M_copy_121 kr) (M_copy_128 kr) a1 a2 a3 a4 a5 a6 t0 h
set_option maxRecDepth 100000 in
theorem qg_M_copy_79 {ρ : Type} (kr : Int → zH → Option ρ) (c84 : Int → Int → Int → Int → Int → Int → Int → zH → Option ρ) (a1 a2 a3 a4 a5 a6 : Int) (h : zH) : (c84 a1 a2 a3 a4 a5 a6 1 h) = zseg zPP false (zcal []) (zget (999, 0, 0, 0) zc_M_copy) (zcut zu_M_copy) (zorc [(84, [some (112, some 0), some (0, none), some (0, none), some (0, none), some (0, none), some (0, none), some (0, none), none, none], [(0, none)], fun xs h => match xs with
  | [a1, a2, a3, a4, a5, a6, t0] => c84 a1 a2 a3 a4 a5 a6 t0 h
  | _ => none)]) kr (fun _ _ => none) 400 79 [some (112, 0), some (0, a1), some (0, a2), some (0, a3), some (0, a4), some (0, a5), some (0, a6), none, none] [] h := by rfl
set_option maxRecDepth 100000 in
theorem qe_M_copy_79 {ρ : Type} (kr : Int → zH → Option ρ) (a1 a2 a3 a4 a5 a6 : Int) (h : zH) : M_copy_79 kr a1 a2 a3 a4 a5 a6 h = zseg zPP false (zcal []) (zget (999, 0, 0, 0) zc_M_copy) (zcut zu_M_copy) (zorc [(84, [some (112, some 0), some (0, none), some (0, none), some (0, none), some (0, none), some (0, none), some (0, none), none, none], [(0, none)], fun xs h => match xs with
  | [a1, a2, a3, a4, a5, a6, t0] => M_copy_84 kr a1 a2 a3 a4 a5 a6 t0 h
  | _ => none)]) kr (fun _ _ => none) 400 79 [some (112, 0), some (0, a1), some (0, a2), some (0, a3), some (0, a4), some (0, a5), some (0, a6), none, none] [] h := qg_M_copy_79 kr (M_copy_84 kr) a1 a2 a3 a4 a5 a6 h
set_option maxRecDepth 100000 in
theorem qg_M_copy_34 {ρ : Type} (kr : Int → zH → Option ρ) (F_M_in : Int → Int → Int → zH → (Int → zH → Option ρ) → Option ρ) (F_M_noCell : Int → zH → (Int → zH → Option ρ) → Option ρ) (c79 : Int → Int → Int → Int → Int → Int → zH → Option ρ) (c84 : Int → Int → Int → Int → Int → Int → Int → zH → Option ρ) (a1 a2 a3 a4 a5 t0 : Int) (h : zH) : (F_M_in a4 1 64 h  fun v1 h2 =>
if v1 = 0 then c79 a1 a2 a3 a4 a5 t0 h2
else F_M_noCell a2 h2  fun v3 h4 =>
if v3 = 0 then (F_M_noCell a3 h4  fun v5 h6 =>
if v5 = 0 then (if 64 < (wr (a2 + a4)) then c79 a1 a2 a3 a4 a5 t0 h6
else if 64 < (wr (a3 + a4)) then c79 a1 a2 a3 a4 a5 t0 h6
else c84 a1 a2 a3 a4 a5 t0 0 h6)
else c79 a1 a2 a3 a4 a5 t0 h6)
else c79 a1 a2 a3 a4 a5 t0 h4) = zseg zPP false (zcal [(64, [none, none, none], fun xs h kr kt => match xs with
  | [x0, x1, x2] => F_M_in x0 x1 x2 h kr
  | _ => none), (68, [none], fun xs h kr kt => match xs with
  | [x0] => F_M_noCell x0 h kr
  | _ => none)]) (zget (999, 0, 0, 0) zc_M_copy) (zcut zu_M_copy) (zorc [(79, [some (112, some 0), some (0, none), some (0, none), some (0, none), some (0, none), some (0, none), some (0, none), none, none], [], fun xs h => match xs with
  | [a1, a2, a3, a4, a5, a6] => c79 a1 a2 a3 a4 a5 a6 h
  | _ => none), (84, [some (112, some 0), some (0, none), some (0, none), some (0, none), some (0, none), some (0, none), some (0, none), none, none], [(0, none)], fun xs h => match xs with
  | [a1, a2, a3, a4, a5, a6, t0] => c84 a1 a2 a3 a4 a5 a6 t0 h
  | _ => none)]) kr (fun _ _ => none) 400 34 [some (112, 0), some (0, a1), some (0, a2), some (0, a3), some (0, a4), some (0, a5), none, none, none] [(0, t0)] h := by rfl
set_option maxRecDepth 100000 in
theorem qe_M_copy_34 {ρ : Type} (kr : Int → zH → Option ρ) (a1 a2 a3 a4 a5 t0 : Int) (h : zH) : M_copy_34 kr a1 a2 a3 a4 a5 t0 h = zseg zPP false (zcal [(64, [none, none, none], fun xs h kr kt => match xs with
  | [x0, x1, x2] => M_in x0 x1 x2 h kr
  | _ => none), (68, [none], fun xs h kr kt => match xs with
  | [x0] => M_noCell x0 h kr
  | _ => none)]) (zget (999, 0, 0, 0) zc_M_copy) (zcut zu_M_copy) (zorc [(79, [some (112, some 0), some (0, none), some (0, none), some (0, none), some (0, none), some (0, none), some (0, none), none, none], [], fun xs h => match xs with
  | [a1, a2, a3, a4, a5, a6] => M_copy_79 kr a1 a2 a3 a4 a5 a6 h
  | _ => none), (84, [some (112, some 0), some (0, none), some (0, none), some (0, none), some (0, none), some (0, none), some (0, none), none, none], [(0, none)], fun xs h => match xs with
  | [a1, a2, a3, a4, a5, a6, t0] => M_copy_84 kr a1 a2 a3 a4 a5 a6 t0 h
  | _ => none)]) kr (fun _ _ => none) 400 34 [some (112, 0), some (0, a1), some (0, a2), some (0, a3), some (0, a4), some (0, a5), none, none, none] [(0, t0)] h := qg_M_copy_34 kr M_in M_noCell (M_copy_79 kr) (M_copy_84 kr) a1 a2 a3 a4 a5 t0 h
set_option maxRecDepth 100000 in
theorem qg_M_copy_29 {ρ : Type} (kr : Int → zH → Option ρ) (c34 : Int → Int → Int → Int → Int → Int → zH → Option ρ) (a1 a2 a3 a4 a5 : Int) (h : zH) : (c34 a1 a2 a3 a4 a5 1 h) = zseg zPP false (zcal []) (zget (999, 0, 0, 0) zc_M_copy) (zcut zu_M_copy) (zorc [(34, [some (112, some 0), some (0, none), some (0, none), some (0, none), some (0, none), some (0, none), none, none, none], [(0, none)], fun xs h => match xs with
  | [a1, a2, a3, a4, a5, t0] => c34 a1 a2 a3 a4 a5 t0 h
  | _ => none)]) kr (fun _ _ => none) 400 29 [some (112, 0), some (0, a1), some (0, a2), some (0, a3), some (0, a4), some (0, a5), none, none, none] [] h := by rfl
set_option maxRecDepth 100000 in
theorem qe_M_copy_29 {ρ : Type} (kr : Int → zH → Option ρ) (a1 a2 a3 a4 a5 : Int) (h : zH) : M_copy_29 kr a1 a2 a3 a4 a5 h = zseg zPP false (zcal []) (zget (999, 0, 0, 0) zc_M_copy) (zcut zu_M_copy) (zorc [(34, [some (112, some 0), some (0, none), some (0, none), some (0, none), some (0, none), some (0, none), none, none, none], [(0, none)], fun xs h => match xs with
  | [a1, a2, a3, a4, a5, t0] => M_copy_34 kr a1 a2 a3 a4 a5 t0 h
  | _ => none)]) kr (fun _ _ => none) 400 29 [some (112, 0), some (0, a1), some (0, a2), some (0, a3), some (0, a4), some (0, a5), none, none, none] [] h := qg_M_copy_29 kr (M_copy_34 kr) a1 a2 a3 a4 a5 h
set_option maxRecDepth 100000 in
theorem qg_M_copy_33 {ρ : Type} (kr : Int → zH → Option ρ) (c34 : Int → Int → Int → Int → Int → Int → zH → Option ρ) (a1 a2 a3 a4 a5 : Int) (h : zH) : (c34 a1 a2 a3 a4 a5 0 h) = zseg zPP false (zcal []) (zget (999, 0, 0, 0) zc_M_copy) (zcut zu_M_copy) (zorc [(34, [some (112, some 0), some (0, none), some (0, none), some (0, none), some (0, none), some (0, none), none, none, none], [(0, none)], fun xs h => match xs with
  | [a1, a2, a3, a4, a5, t0] => c34 a1 a2 a3 a4 a5 t0 h
  | _ => none)]) kr (fun _ _ => none) 400 33 [some (112, 0), some (0, a1), some (0, a2), some (0, a3), some (0, a4), some (0, a5), none, none, none] [] h := by rfl
set_option maxRecDepth 100000 in
theorem qe_M_copy_33 {ρ : Type} (kr : Int → zH → Option ρ) (a1 a2 a3 a4 a5 : Int) (h : zH) : M_copy_33 kr a1 a2 a3 a4 a5 h = zseg zPP false (zcal []) (zget (999, 0, 0, 0) zc_M_copy) (zcut zu_M_copy) (zorc [(34, [some (112, some 0), some (0, none), some (0, none), some (0, none), some (0, none), some (0, none), none, none, none], [(0, none)], fun xs h => match xs with
  | [a1, a2, a3, a4, a5, t0] => M_copy_34 kr a1 a2 a3 a4 a5 t0 h
  | _ => none)]) kr (fun _ _ => none) 400 33 [some (112, 0), some (0, a1), some (0, a2), some (0, a3), some (0, a4), some (0, a5), none, none, none] [] h := qg_M_copy_33 kr (M_copy_34 kr) a1 a2 a3 a4 a5 h
set_option maxRecDepth 100000 in
theorem qg_M_copy {ρ : Type} (kr : Int → zH → Option ρ) (F_M_in : Int → Int → Int → zH → (Int → zH → Option ρ) → Option ρ) (F_M_noLaunch : Int → zH → (Int → zH → Option ρ) → Option ρ) (c29 : Int → Int → Int → Int → Int → zH → Option ρ) (c33 : Int → Int → Int → Int → Int → zH → Option ρ) (a1 a2 a3 a4 a5 : Int) (h : zH) : (zlet (zset h 12 0 0 0) fun h1 =>
F_M_in a1 0 1 h1  fun v2 h3 =>
if v2 = 0 then c29 a1 a2 a3 a4 a5 h3
else if a5 = (-1) then c33 a1 a2 a3 a4 a5 h3
else F_M_noLaunch a5 h3  fun v4 h5 =>
if v4 = 0 then c33 a1 a2 a3 a4 a5 h5
else c29 a1 a2 a3 a4 a5 h5) = zseg zPP false (zcal [(64, [none, none, none], fun xs h kr kt => match xs with
  | [x0, x1, x2] => F_M_in x0 x1 x2 h kr
  | _ => none), (67, [some 0, none], fun xs h kr kt => match xs with
  | [x1] => F_M_noLaunch x1 h kr
  | _ => none)]) (zget (999, 0, 0, 0) zc_M_copy) (zcut zu_M_copy) (zorc [(29, [some (112, some 0), some (0, none), some (0, none), some (0, none), some (0, none), some (0, none), none, none, none], [], fun xs h => match xs with
  | [a1, a2, a3, a4, a5] => c29 a1 a2 a3 a4 a5 h
  | _ => none), (33, [some (112, some 0), some (0, none), some (0, none), some (0, none), some (0, none), some (0, none), none, none, none], [], fun xs h => match xs with
  | [a1, a2, a3, a4, a5] => c33 a1 a2 a3 a4 a5 h
  | _ => none)]) kr (fun _ _ => none) 400 0 [some (112, 0), some (0, a1), some (0, a2), some (0, a3), some (0, a4), some (0, a5), none, none, none] [] h := by rfl
set_option maxRecDepth 100000 in
theorem qe_M_copy {ρ : Type} (kr : Int → zH → Option ρ) (a1 a2 a3 a4 a5 : Int) (h : zH) : M_copy a1 a2 a3 a4 a5 h kr = zseg zPP false (zcal [(64, [none, none, none], fun xs h kr kt => match xs with
  | [x0, x1, x2] => M_in x0 x1 x2 h kr
  | _ => none), (67, [some 0, none], fun xs h kr kt => match xs with
  | [x1] => M_noLaunch x1 h kr
  | _ => none)]) (zget (999, 0, 0, 0) zc_M_copy) (zcut zu_M_copy) (zorc [(29, [some (112, some 0), some (0, none), some (0, none), some (0, none), some (0, none), some (0, none), none, none, none], [], fun xs h => match xs with
  | [a1, a2, a3, a4, a5] => M_copy_29 kr a1 a2 a3 a4 a5 h
  | _ => none), (33, [some (112, some 0), some (0, none), some (0, none), some (0, none), some (0, none), some (0, none), none, none, none], [], fun xs h => match xs with
  | [a1, a2, a3, a4, a5] => M_copy_33 kr a1 a2 a3 a4 a5 h
  | _ => none)]) kr (fun _ _ => none) 400 0 [some (112, 0), some (0, a1), some (0, a2), some (0, a3), some (0, a4), some (0, a5), none, none, none] [] h := qg_M_copy kr M_in M_noLaunch (M_copy_29 kr) (M_copy_33 kr) a1 a2 a3 a4 a5 h
def zc_M_launchChild : List zI := [(14, 0, 0, 112), (10, 0, 2, 0), (110, 0, 203, 66), (999, 0, 0, 0), (999, 0, 0, 0), (61, 36, 41, 0), (999, 0, 0, 0), (999, 0, 0, 0), (10, 0, 3, 0), (0, 1, 0, 0), (1, 16, 0, 0), (999, 0, 0, 0), (113, 0, 192, 64), (999, 0, 0, 0), (999, 0, 0, 0), (60, 26, 41, 0), (999, 0, 0, 0), (999, 0, 0, 0), (14, 0, 0, 112), (80, 12, 196, 13), (999, 0, 0, 0), (999, 0, 0, 0), (1, 12, 0, 0), (999, 0, 0, 0), (69, 17, 41, 0), (999, 0, 0, 0), (999, 0, 0, 0), (14, 0, 0, 112), (80, 12, 67, 22), (999, 0, 0, 0), (999, 0, 0, 0), (10, 0, 1, 0), (90, 0, 0, 77), (0, 2, 0, 0), (69, 7, 41, 0), (999, 0, 0, 0), (999, 0, 0, 0), (0, 1, 0, 0), (72, 4, 42, 0), (999, 0, 0, 0), (999, 0, 0, 0), (0, 0, 0, 0), (17, 0, 4, 0), (999, 0, 0, 0), (11, 0, 4, 0), (999, 0, 0, 0), (60, 16, 62, 0), (999, 0, 0, 0), (999, 0, 0, 0), (14, 0, 0, 112), (10, 0, 2, 0), (10, 0, 3, 0), (110, 0, 219, 74), (999, 0, 0, 0), (999, 0, 0, 0), (65, 7, 62, 0), (999, 0, 0, 0), (999, 0, 0, 0), (0, 1, 0, 0), (72, 4, 63, 0), (999, 0, 0, 0), (999, 0, 0, 0), (0, 0, 0, 0), (17, 0, 4, 0), (999, 0, 0, 0), (11, 0, 4, 0), (999, 0, 0, 0), (61, 15, 82, 0), (999, 0, 0, 0), (999, 0, 0, 0), (14, 0, 0, 112), (50, 0, 0, 0), (80, 12, 235, 61), (999, 0, 0, 0), (999, 0, 0, 0), (0, 1, 0, 0), (30, 0, 0, 0), (82, 12, 235, 61), (999, 0, 0, 0), (999, 0, 0, 0), (0, 0, 0, 0), (130, 0, 1, 0), (14, 0, 0, 112), (0, (-1), 0, 0), (10, 0, 2, 0), (0, (-1), 0, 0), (110, 0, 231, 79), (999, 0, 0, 0), (999, 0, 0, 0), (17, 0, 5, 0), (999, 0, 0, 0), (14, 0, 0, 112), (80, 12, 52, 17), (999, 0, 0, 0), (999, 0, 0, 0), (11, 0, 5, 0), (999, 0, 0, 0), (0, 1, 0, 0), (95, 0, 0, 72), (14, 0, 0, 112), (80, 12, 55, 18), (999, 0, 0, 0), (999, 0, 0, 0), (11, 0, 5, 0), (999, 0, 0, 0), (10, 0, 3, 0), (95, 0, 0, 73), (14, 0, 0, 112), (80, 12, 64, 21), (999, 0, 0, 0), (999, 0, 0, 0), (11, 0, 5, 0), (999, 0, 0, 0), (10, 0, 1, 0), (95, 0, 0, 76), (14, 0, 0, 112), (80, 12, 67, 22), (999, 0, 0, 0), (999, 0, 0, 0), (11, 0, 5, 0), (999, 0, 0, 0), (14, 0, 0, 112), (80, 12, 67, 22), (999, 0, 0, 0), (999, 0, 0, 0), (10, 0, 1, 0), (90, 0, 0, 77), (0, 1, 0, 0), (30, 0, 0, 0), (95, 0, 0, 77), (14, 0, 0, 112), (80, 12, 26, 8), (999, 0, 0, 0), (999, 0, 0, 0), (10, 0, 2, 0), (0, 1, 0, 0), (96, 0, 0, 64), (0, 1, 0, 0), (130, 0, 1, 0)]
def zu_M_launchChild : List (Nat × List Bool) := [(41, [true, true, true, true, false, false]), (42, [true, true, true, true, false, false]), (62, [true, true, true, true, false, false]), (63, [true, true, true, true, false, false])]
set_option maxRecDepth 100000 in
theorem qg_M_launchChild_63 {ρ : Type} (kr : Int → zH → Option ρ) (F_M_add : Int → Int → Int → zH → (Int → zH → Option ρ) → Option ρ) (a1 a2 a3 t0 : Int) (h : zH) : (if t0 = 0 then (zlet (zset h 12 0 61 (wr ((zhD h 12 0 61) + 1))) fun h14 =>
kr 0 h14)
else F_M_add (-1) a2 (-1) h  fun v1 h2 =>
zix 12 v1 fun j3 =>
zlet (zset h2 72 0 j3 1) fun h4 =>
zix 12 v1 fun j5 =>
zlet (zset h4 73 0 j5 a3) fun h6 =>
zix 12 v1 fun j7 =>
zlet (zset h6 76 0 j7 a1) fun h8 =>
zix 12 a1 fun j9 =>
zix 12 v1 fun j10 =>
zlet (zset h8 77 0 j10 (wr ((zhD h8 77 0 j9) + 1))) fun h11 =>
zix 4 a2 fun j12 =>
zlet (zset h11 64 0 j12 1) fun h13 =>
kr 1 h13) = zseg zPP false (zcal [(79, [some 0, none, none, none], fun xs h kr kt => match xs with
  | [x1, x2, x3] => F_M_add x1 x2 x3 h kr
  | _ => none)]) (zget (999, 0, 0, 0) zc_M_launchChild) (zcut zu_M_launchChild) (zorc []) kr (fun _ _ => none) 400 63 [some (112, 0), some (0, a1), some (0, a2), some (0, a3), none, none] [(0, t0)] h := by rfl
set_option maxRecDepth 100000 in
theorem qe_M_launchChild_63 {ρ : Type} (kr : Int → zH → Option ρ) (a1 a2 a3 t0 : Int) (h : zH) : M_launchChild_63 kr a1 a2 a3 t0 h = zseg zPP false (zcal [(79, [some 0, none, none, none], fun xs h kr kt => match xs with
  | [x1, x2, x3] => M_add x1 x2 x3 h kr
  | _ => none)]) (zget (999, 0, 0, 0) zc_M_launchChild) (zcut zu_M_launchChild) (zorc []) kr (fun _ _ => none) 400 63 [some (112, 0), some (0, a1), some (0, a2), some (0, a3), none, none] [(0, t0)] h := qg_M_launchChild_63 kr M_add a1 a2 a3 t0 h
set_option maxRecDepth 100000 in
theorem qg_M_launchChild_62 {ρ : Type} (kr : Int → zH → Option ρ) (c63 : Int → Int → Int → Int → zH → Option ρ) (a1 a2 a3 : Int) (h : zH) : (c63 a1 a2 a3 0 h) = zseg zPP false (zcal []) (zget (999, 0, 0, 0) zc_M_launchChild) (zcut zu_M_launchChild) (zorc [(63, [some (112, some 0), some (0, none), some (0, none), some (0, none), none, none], [(0, none)], fun xs h => match xs with
  | [a1, a2, a3, t0] => c63 a1 a2 a3 t0 h
  | _ => none)]) kr (fun _ _ => none) 400 62 [some (112, 0), some (0, a1), some (0, a2), some (0, a3), none, none] [] h := by rfl
set_option maxRecDepth 100000 in
theorem qe_M_launchChild_62 {ρ : Type} (kr : Int → zH → Option ρ) (a1 a2 a3 : Int) (h : zH) : M_launchChild_62 kr a1 a2 a3 h = zseg zPP false (zcal []) (zget (999, 0, 0, 0) zc_M_launchChild) (zcut zu_M_launchChild) (zorc [(63, [some (112, some 0), some (0, none), some (0, none), some (0, none), none, none], [(0, none)], fun xs h => match xs with
  | [a1, a2, a3, t0] => M_launchChild_63 kr a1 a2 a3 t0 h
  | _ => none)]) kr (fun _ _ => none) 400 62 [some (112, 0), some (0, a1), some (0, a2), some (0, a3), none, none] [] h := qg_M_launchChild_62 kr (M_launchChild_63 kr) a1 a2 a3 h
set_option maxRecDepth 100000 in
theorem qg_M_launchChild_42 {ρ : Type} (kr : Int → zH → Option ρ) (F_M_fit : Int → Int → zH → (Int → zH → Option ρ) → Option ρ) (c62 : Int → Int → Int → zH → Option ρ) (c63 : Int → Int → Int → Int → zH → Option ρ) (a1 a2 a3 t0 : Int) (h : zH) : (if t0 = 0 then c62 a1 a2 a3 h
else F_M_fit a2 a3 h  fun v1 h2 =>
if 0 < v1 then c63 a1 a2 a3 1 h2
else c62 a1 a2 a3 h2) = zseg zPP false (zcal [(74, [some 0, none, none], fun xs h kr kt => match xs with
  | [x1, x2] => F_M_fit x1 x2 h kr
  | _ => none)]) (zget (999, 0, 0, 0) zc_M_launchChild) (zcut zu_M_launchChild) (zorc [(62, [some (112, some 0), some (0, none), some (0, none), some (0, none), none, none], [], fun xs h => match xs with
  | [a1, a2, a3] => c62 a1 a2 a3 h
  | _ => none), (63, [some (112, some 0), some (0, none), some (0, none), some (0, none), none, none], [(0, none)], fun xs h => match xs with
  | [a1, a2, a3, t0] => c63 a1 a2 a3 t0 h
  | _ => none)]) kr (fun _ _ => none) 400 42 [some (112, 0), some (0, a1), some (0, a2), some (0, a3), none, none] [(0, t0)] h := by rfl
set_option maxRecDepth 100000 in
theorem qe_M_launchChild_42 {ρ : Type} (kr : Int → zH → Option ρ) (a1 a2 a3 t0 : Int) (h : zH) : M_launchChild_42 kr a1 a2 a3 t0 h = zseg zPP false (zcal [(74, [some 0, none, none], fun xs h kr kt => match xs with
  | [x1, x2] => M_fit x1 x2 h kr
  | _ => none)]) (zget (999, 0, 0, 0) zc_M_launchChild) (zcut zu_M_launchChild) (zorc [(62, [some (112, some 0), some (0, none), some (0, none), some (0, none), none, none], [], fun xs h => match xs with
  | [a1, a2, a3] => M_launchChild_62 kr a1 a2 a3 h
  | _ => none), (63, [some (112, some 0), some (0, none), some (0, none), some (0, none), none, none], [(0, none)], fun xs h => match xs with
  | [a1, a2, a3, t0] => M_launchChild_63 kr a1 a2 a3 t0 h
  | _ => none)]) kr (fun _ _ => none) 400 42 [some (112, 0), some (0, a1), some (0, a2), some (0, a3), none, none] [(0, t0)] h := qg_M_launchChild_42 kr M_fit (M_launchChild_62 kr) (M_launchChild_63 kr) a1 a2 a3 t0 h
set_option maxRecDepth 100000 in
theorem qg_M_launchChild_41 {ρ : Type} (kr : Int → zH → Option ρ) (c42 : Int → Int → Int → Int → zH → Option ρ) (a1 a2 a3 : Int) (h : zH) : (c42 a1 a2 a3 0 h) = zseg zPP false (zcal []) (zget (999, 0, 0, 0) zc_M_launchChild) (zcut zu_M_launchChild) (zorc [(42, [some (112, some 0), some (0, none), some (0, none), some (0, none), none, none], [(0, none)], fun xs h => match xs with
  | [a1, a2, a3, t0] => c42 a1 a2 a3 t0 h
  | _ => none)]) kr (fun _ _ => none) 400 41 [some (112, 0), some (0, a1), some (0, a2), some (0, a3), none, none] [] h := by rfl
set_option maxRecDepth 100000 in
theorem qe_M_launchChild_41 {ρ : Type} (kr : Int → zH → Option ρ) (a1 a2 a3 : Int) (h : zH) : M_launchChild_41 kr a1 a2 a3 h = zseg zPP false (zcal []) (zget (999, 0, 0, 0) zc_M_launchChild) (zcut zu_M_launchChild) (zorc [(42, [some (112, some 0), some (0, none), some (0, none), some (0, none), none, none], [(0, none)], fun xs h => match xs with
  | [a1, a2, a3, t0] => M_launchChild_42 kr a1 a2 a3 t0 h
  | _ => none)]) kr (fun _ _ => none) 400 41 [some (112, 0), some (0, a1), some (0, a2), some (0, a3), none, none] [] h := qg_M_launchChild_41 kr (M_launchChild_42 kr) a1 a2 a3 h
set_option maxRecDepth 100000 in
theorem qg_M_launchChild {ρ : Type} (kr : Int → zH → Option ρ) (F_M_in : Int → Int → Int → zH → (Int → zH → Option ρ) → Option ρ) (F_M_noKernel : Int → zH → (Int → zH → Option ρ) → Option ρ) (c41 : Int → Int → Int → zH → Option ρ) (c42 : Int → Int → Int → Int → zH → Option ρ) (a1 a2 a3 : Int) (h : zH) : (F_M_noKernel a2 h  fun v1 h2 =>
if v1 = 0 then (F_M_in a3 1 16 h2  fun v3 h4 =>
if v3 = 0 then c41 a1 a2 a3 h4
else if (zhD h4 12 0 13) < 12 then (zix 12 a1 fun j5 =>
if (zhD h4 77 0 j5) < 2 then c42 a1 a2 a3 1 h4
else c41 a1 a2 a3 h4)
else c41 a1 a2 a3 h4)
else c41 a1 a2 a3 h2) = zseg zPP false (zcal [(64, [none, none, none], fun xs h kr kt => match xs with
  | [x0, x1, x2] => F_M_in x0 x1 x2 h kr
  | _ => none), (66, [some 0, none], fun xs h kr kt => match xs with
  | [x1] => F_M_noKernel x1 h kr
  | _ => none)]) (zget (999, 0, 0, 0) zc_M_launchChild) (zcut zu_M_launchChild) (zorc [(41, [some (112, some 0), some (0, none), some (0, none), some (0, none), none, none], [], fun xs h => match xs with
  | [a1, a2, a3] => c41 a1 a2 a3 h
  | _ => none), (42, [some (112, some 0), some (0, none), some (0, none), some (0, none), none, none], [(0, none)], fun xs h => match xs with
  | [a1, a2, a3, t0] => c42 a1 a2 a3 t0 h
  | _ => none)]) kr (fun _ _ => none) 400 0 [some (112, 0), some (0, a1), some (0, a2), some (0, a3), none, none] [] h := by rfl
set_option maxRecDepth 100000 in
theorem qe_M_launchChild {ρ : Type} (kr : Int → zH → Option ρ) (a1 a2 a3 : Int) (h : zH) : M_launchChild a1 a2 a3 h kr = zseg zPP false (zcal [(64, [none, none, none], fun xs h kr kt => match xs with
  | [x0, x1, x2] => M_in x0 x1 x2 h kr
  | _ => none), (66, [some 0, none], fun xs h kr kt => match xs with
  | [x1] => M_noKernel x1 h kr
  | _ => none)]) (zget (999, 0, 0, 0) zc_M_launchChild) (zcut zu_M_launchChild) (zorc [(41, [some (112, some 0), some (0, none), some (0, none), some (0, none), none, none], [], fun xs h => match xs with
  | [a1, a2, a3] => M_launchChild_41 kr a1 a2 a3 h
  | _ => none), (42, [some (112, some 0), some (0, none), some (0, none), some (0, none), none, none], [(0, none)], fun xs h => match xs with
  | [a1, a2, a3, t0] => M_launchChild_42 kr a1 a2 a3 t0 h
  | _ => none)]) kr (fun _ _ => none) 400 0 [some (112, 0), some (0, a1), some (0, a2), some (0, a3), none, none] [] h := qg_M_launchChild kr M_in M_noKernel (M_launchChild_41 kr) (M_launchChild_42 kr) a1 a2 a3 h
def zc_M_launches : List zI := [(14, 0, 0, 112), (0, 0, 0, 0), (82, 12, 185, 0), (999, 0, 0, 0), (999, 0, 0, 0), (14, 0, 0, 112), (80, 12, 196, 13), (999, 0, 0, 0), (999, 0, 0, 0), (130, 0, 0, 0)]
def zu_M_launches : List (Nat × List Bool) := []
set_option maxRecDepth 100000 in
theorem qg_M_launches {ρ : Type} (kr : Int → zH → Option ρ) (h : zH) : (zlet (zset h 12 0 0 0) fun h1 =>
kr (zhD h1 12 0 13) h1) = zseg zPP false (zcal []) (zget (999, 0, 0, 0) zc_M_launches) (zcut zu_M_launches) (zorc []) kr (fun _ _ => none) 400 0 [some (112, 0)] [] h := by rfl
set_option maxRecDepth 100000 in
theorem qe_M_launches {ρ : Type} (kr : Int → zH → Option ρ) (h : zH) : M_launches h kr = zseg zPP false (zcal []) (zget (999, 0, 0, 0) zc_M_launches) (zcut zu_M_launches) (zorc []) kr (fun _ _ => none) 400 0 [some (112, 0)] [] h := qg_M_launches kr h
def zc_M_state : List zI := [(14, 0, 0, 112), (0, 0, 0, 0), (82, 12, 185, 0), (999, 0, 0, 0), (999, 0, 0, 0), (14, 0, 0, 112), (14, 0, 0, 112), (10, 0, 1, 0), (110, 0, 228, 67), (999, 0, 0, 0), (999, 0, 0, 0), (0, 1, 0, 0), (110, 0, 199, 65), (999, 0, 0, 0), (999, 0, 0, 0), (60, 7, 22, 0), (999, 0, 0, 0), (999, 0, 0, 0), (0, 0, 0, 0), (72, 9, 28, 0), (999, 0, 0, 0), (999, 0, 0, 0), (14, 0, 0, 112), (80, 12, 43, 14), (999, 0, 0, 0), (999, 0, 0, 0), (10, 0, 1, 0), (92, 0, 0, 69), (130, 0, 2, 0)]
def zu_M_state : List (Nat × List Bool) := [(28, [false, false])]
set_option maxRecDepth 100000 in
theorem qg_M_state_28 {ρ : Type} (kr : Int → zH → Option ρ) (t0 : Int) (h : zH) : (znar 2 t0 fun x1 => kr x1 h) = zseg zPP false (zcal []) (zget (999, 0, 0, 0) zc_M_state) (zcut zu_M_state) (zorc []) kr (fun _ _ => none) 400 28 [none, none] [(0, t0)] h := by rfl
set_option maxRecDepth 100000 in
theorem qe_M_state_28 {ρ : Type} (kr : Int → zH → Option ρ) (t0 : Int) (h : zH) : M_state_28 kr t0 h = zseg zPP false (zcal []) (zget (999, 0, 0, 0) zc_M_state) (zcut zu_M_state) (zorc []) kr (fun _ _ => none) 400 28 [none, none] [(0, t0)] h := qg_M_state_28 kr t0 h
set_option maxRecDepth 100000 in
theorem qg_M_state {ρ : Type} (kr : Int → zH → Option ρ) (F_M_fails : Int → Int → zH → (Int → zH → Option ρ) → Option ρ) (F_M_noLaunch : Int → zH → (Int → zH → Option ρ) → Option ρ) (c28 : Int → zH → Option ρ) (a1 : Int) (h : zH) : (zlet (zset h 12 0 0 0) fun h1 =>
F_M_noLaunch a1 h1  fun v2 h3 =>
F_M_fails v2 1 h3  fun v4 h5 =>
if v4 = 0 then (zix 12 a1 fun j6 =>
c28 (zhD h5 69 0 j6) h5)
else c28 0 h5) = zseg zPP false (zcal [(65, [some 0, none, none], fun xs h kr kt => match xs with
  | [x1, x2] => F_M_fails x1 x2 h kr
  | _ => none), (67, [some 0, none], fun xs h kr kt => match xs with
  | [x1] => F_M_noLaunch x1 h kr
  | _ => none)]) (zget (999, 0, 0, 0) zc_M_state) (zcut zu_M_state) (zorc [(28, [none, none], [(0, none)], fun xs h => match xs with
  | [t0] => c28 t0 h
  | _ => none)]) kr (fun _ _ => none) 400 0 [some (112, 0), some (0, a1)] [] h := by rfl
set_option maxRecDepth 100000 in
theorem qe_M_state {ρ : Type} (kr : Int → zH → Option ρ) (a1 : Int) (h : zH) : M_state a1 h kr = zseg zPP false (zcal [(65, [some 0, none, none], fun xs h kr kt => match xs with
  | [x1, x2] => M_fails x1 x2 h kr
  | _ => none), (67, [some 0, none], fun xs h kr kt => match xs with
  | [x1] => M_noLaunch x1 h kr
  | _ => none)]) (zget (999, 0, 0, 0) zc_M_state) (zcut zu_M_state) (zorc [(28, [none, none], [(0, none)], fun xs h => match xs with
  | [t0] => M_state_28 kr t0 h
  | _ => none)]) kr (fun _ _ => none) 400 0 [some (112, 0), some (0, a1)] [] h := qg_M_state kr M_fails M_noLaunch (M_state_28 kr) a1 h
def zc_M_parent : List zI := [(14, 0, 0, 112), (0, 0, 0, 0), (82, 12, 185, 0), (999, 0, 0, 0), (999, 0, 0, 0), (14, 0, 0, 112), (14, 0, 0, 112), (10, 0, 1, 0), (110, 0, 228, 67), (999, 0, 0, 0), (999, 0, 0, 0), (0, 1, 0, 0), (110, 0, 199, 65), (999, 0, 0, 0), (999, 0, 0, 0), (61, 26, 41, 0), (999, 0, 0, 0), (999, 0, 0, 0), (14, 0, 0, 112), (14, 0, 0, 112), (80, 12, 64, 21), (999, 0, 0, 0), (999, 0, 0, 0), (10, 0, 1, 0), (90, 0, 0, 76), (0, (-1), 0, 0), (67, 7, 33, 0), (999, 0, 0, 0), (999, 0, 0, 0), (0, 1, 0, 0), (72, 4, 34, 0), (999, 0, 0, 0), (999, 0, 0, 0), (0, 0, 0, 0), (0, 2, 0, 0), (110, 0, 199, 65), (999, 0, 0, 0), (999, 0, 0, 0), (60, 7, 45, 0), (999, 0, 0, 0), (999, 0, 0, 0), (0, 0, 0, 0), (72, 9, 51, 0), (999, 0, 0, 0), (999, 0, 0, 0), (14, 0, 0, 112), (80, 12, 64, 21), (999, 0, 0, 0), (999, 0, 0, 0), (10, 0, 1, 0), (90, 0, 0, 76), (130, 0, 0, 0)]
def zu_M_parent : List (Nat × List Bool) := [(34, [true, true]), (41, [false, false]), (51, [false, false])]
set_option maxRecDepth 100000 in
theorem qg_M_parent_51 {ρ : Type} (kr : Int → zH → Option ρ) (t0 : Int) (h : zH) : (kr t0 h) = zseg zPP false (zcal []) (zget (999, 0, 0, 0) zc_M_parent) (zcut zu_M_parent) (zorc []) kr (fun _ _ => none) 400 51 [none, none] [(0, t0)] h := by rfl
set_option maxRecDepth 100000 in
theorem qe_M_parent_51 {ρ : Type} (kr : Int → zH → Option ρ) (t0 : Int) (h : zH) : M_parent_51 kr t0 h = zseg zPP false (zcal []) (zget (999, 0, 0, 0) zc_M_parent) (zcut zu_M_parent) (zorc []) kr (fun _ _ => none) 400 51 [none, none] [(0, t0)] h := qg_M_parent_51 kr t0 h
set_option maxRecDepth 100000 in
theorem qg_M_parent_41 {ρ : Type} (kr : Int → zH → Option ρ) (c51 : Int → zH → Option ρ) (h : zH) : (c51 0 h) = zseg zPP false (zcal []) (zget (999, 0, 0, 0) zc_M_parent) (zcut zu_M_parent) (zorc [(51, [none, none], [(0, none)], fun xs h => match xs with
  | [t0] => c51 t0 h
  | _ => none)]) kr (fun _ _ => none) 400 41 [none, none] [] h := by rfl
set_option maxRecDepth 100000 in
theorem qe_M_parent_41 {ρ : Type} (kr : Int → zH → Option ρ) (h : zH) : M_parent_41 kr h = zseg zPP false (zcal []) (zget (999, 0, 0, 0) zc_M_parent) (zcut zu_M_parent) (zorc [(51, [none, none], [(0, none)], fun xs h => match xs with
  | [t0] => M_parent_51 kr t0 h
  | _ => none)]) kr (fun _ _ => none) 400 41 [none, none] [] h := qg_M_parent_41 kr (M_parent_51 kr) h
set_option maxRecDepth 100000 in
theorem qg_M_parent_34 {ρ : Type} (kr : Int → zH → Option ρ) (F_M_fails : Int → Int → zH → (Int → zH → Option ρ) → Option ρ) (c41 : zH → Option ρ) (c51 : Int → zH → Option ρ) (a1 t0 : Int) (h : zH) : (F_M_fails t0 2 h  fun v1 h2 =>
if v1 = 0 then (zix 12 a1 fun j3 =>
c51 (zhD h2 76 0 j3) h2)
else c41 h2) = zseg zPP false (zcal [(65, [some 0, none, none], fun xs h kr kt => match xs with
  | [x1, x2] => F_M_fails x1 x2 h kr
  | _ => none)]) (zget (999, 0, 0, 0) zc_M_parent) (zcut zu_M_parent) (zorc [(41, [none, none], [], fun xs h => match xs with
  | [] => c41 h
  | _ => none), (51, [none, none], [(0, none)], fun xs h => match xs with
  | [t0] => c51 t0 h
  | _ => none)]) kr (fun _ _ => none) 400 34 [some (112, 0), some (0, a1)] [(0, t0), (112, 0)] h := by rfl
set_option maxRecDepth 100000 in
theorem qe_M_parent_34 {ρ : Type} (kr : Int → zH → Option ρ) (a1 t0 : Int) (h : zH) : M_parent_34 kr a1 t0 h = zseg zPP false (zcal [(65, [some 0, none, none], fun xs h kr kt => match xs with
  | [x1, x2] => M_fails x1 x2 h kr
  | _ => none)]) (zget (999, 0, 0, 0) zc_M_parent) (zcut zu_M_parent) (zorc [(41, [none, none], [], fun xs h => match xs with
  | [] => M_parent_41 kr h
  | _ => none), (51, [none, none], [(0, none)], fun xs h => match xs with
  | [t0] => M_parent_51 kr t0 h
  | _ => none)]) kr (fun _ _ => none) 400 34 [some (112, 0), some (0, a1)] [(0, t0), (112, 0)] h := qg_M_parent_34 kr M_fails (M_parent_41 kr) (M_parent_51 kr) a1 t0 h
set_option maxRecDepth 100000 in
theorem qg_M_parent {ρ : Type} (kr : Int → zH → Option ρ) (F_M_fails : Int → Int → zH → (Int → zH → Option ρ) → Option ρ) (F_M_noLaunch : Int → zH → (Int → zH → Option ρ) → Option ρ) (c34 : Int → Int → zH → Option ρ) (c41 : zH → Option ρ) (a1 : Int) (h : zH) : (zlet (zset h 12 0 0 0) fun h1 =>
F_M_noLaunch a1 h1  fun v2 h3 =>
F_M_fails v2 1 h3  fun v4 h5 =>
if v4 = 0 then (zix 12 a1 fun j6 =>
if (zhD h5 76 0 j6) = (-1) then c34 a1 1 h5
else c34 a1 0 h5)
else c41 h5) = zseg zPP false (zcal [(65, [some 0, none, none], fun xs h kr kt => match xs with
  | [x1, x2] => F_M_fails x1 x2 h kr
  | _ => none), (67, [some 0, none], fun xs h kr kt => match xs with
  | [x1] => F_M_noLaunch x1 h kr
  | _ => none)]) (zget (999, 0, 0, 0) zc_M_parent) (zcut zu_M_parent) (zorc [(34, [some (112, some 0), some (0, none)], [(0, none), (112, some 0)], fun xs h => match xs with
  | [a1, t0] => c34 a1 t0 h
  | _ => none), (41, [none, none], [], fun xs h => match xs with
  | [] => c41 h
  | _ => none)]) kr (fun _ _ => none) 400 0 [some (112, 0), some (0, a1)] [] h := by rfl
set_option maxRecDepth 100000 in
theorem qe_M_parent {ρ : Type} (kr : Int → zH → Option ρ) (a1 : Int) (h : zH) : M_parent a1 h kr = zseg zPP false (zcal [(65, [some 0, none, none], fun xs h kr kt => match xs with
  | [x1, x2] => M_fails x1 x2 h kr
  | _ => none), (67, [some 0, none], fun xs h kr kt => match xs with
  | [x1] => M_noLaunch x1 h kr
  | _ => none)]) (zget (999, 0, 0, 0) zc_M_parent) (zcut zu_M_parent) (zorc [(34, [some (112, some 0), some (0, none)], [(0, none), (112, some 0)], fun xs h => match xs with
  | [a1, t0] => M_parent_34 kr a1 t0 h
  | _ => none), (41, [none, none], [], fun xs h => match xs with
  | [] => M_parent_41 kr h
  | _ => none)]) kr (fun _ _ => none) 400 0 [some (112, 0), some (0, a1)] [] h := qg_M_parent kr M_fails M_noLaunch (M_parent_34 kr) (M_parent_41 kr) a1 h
def zc_M_given : List zI := [(14, 0, 0, 112), (0, 0, 0, 0), (82, 12, 185, 0), (999, 0, 0, 0), (999, 0, 0, 0), (14, 0, 0, 112), (14, 0, 0, 112), (10, 0, 1, 0), (110, 0, 228, 67), (999, 0, 0, 0), (999, 0, 0, 0), (0, 1, 0, 0), (110, 0, 199, 65), (999, 0, 0, 0), (999, 0, 0, 0), (60, 7, 22, 0), (999, 0, 0, 0), (999, 0, 0, 0), (0, 0, 0, 0), (72, 9, 28, 0), (999, 0, 0, 0), (999, 0, 0, 0), (14, 0, 0, 112), (80, 12, 70, 23), (999, 0, 0, 0), (999, 0, 0, 0), (10, 0, 1, 0), (90, 0, 0, 78), (130, 0, 0, 0)]
def zu_M_given : List (Nat × List Bool) := [(28, [false, false])]
set_option maxRecDepth 100000 in
theorem qg_M_given_28 {ρ : Type} (kr : Int → zH → Option ρ) (t0 : Int) (h : zH) : (kr t0 h) = zseg zPP false (zcal []) (zget (999, 0, 0, 0) zc_M_given) (zcut zu_M_given) (zorc []) kr (fun _ _ => none) 400 28 [none, none] [(0, t0)] h := by rfl
set_option maxRecDepth 100000 in
theorem qe_M_given_28 {ρ : Type} (kr : Int → zH → Option ρ) (t0 : Int) (h : zH) : M_given_28 kr t0 h = zseg zPP false (zcal []) (zget (999, 0, 0, 0) zc_M_given) (zcut zu_M_given) (zorc []) kr (fun _ _ => none) 400 28 [none, none] [(0, t0)] h := qg_M_given_28 kr t0 h
set_option maxRecDepth 100000 in
theorem qg_M_given {ρ : Type} (kr : Int → zH → Option ρ) (F_M_fails : Int → Int → zH → (Int → zH → Option ρ) → Option ρ) (F_M_noLaunch : Int → zH → (Int → zH → Option ρ) → Option ρ) (c28 : Int → zH → Option ρ) (a1 : Int) (h : zH) : (zlet (zset h 12 0 0 0) fun h1 =>
F_M_noLaunch a1 h1  fun v2 h3 =>
F_M_fails v2 1 h3  fun v4 h5 =>
if v4 = 0 then (zix 12 a1 fun j6 =>
c28 (zhD h5 78 0 j6) h5)
else c28 0 h5) = zseg zPP false (zcal [(65, [some 0, none, none], fun xs h kr kt => match xs with
  | [x1, x2] => F_M_fails x1 x2 h kr
  | _ => none), (67, [some 0, none], fun xs h kr kt => match xs with
  | [x1] => F_M_noLaunch x1 h kr
  | _ => none)]) (zget (999, 0, 0, 0) zc_M_given) (zcut zu_M_given) (zorc [(28, [none, none], [(0, none)], fun xs h => match xs with
  | [t0] => c28 t0 h
  | _ => none)]) kr (fun _ _ => none) 400 0 [some (112, 0), some (0, a1)] [] h := by rfl
set_option maxRecDepth 100000 in
theorem qe_M_given {ρ : Type} (kr : Int → zH → Option ρ) (a1 : Int) (h : zH) : M_given a1 h kr = zseg zPP false (zcal [(65, [some 0, none, none], fun xs h kr kt => match xs with
  | [x1, x2] => M_fails x1 x2 h kr
  | _ => none), (67, [some 0, none], fun xs h kr kt => match xs with
  | [x1] => M_noLaunch x1 h kr
  | _ => none)]) (zget (999, 0, 0, 0) zc_M_given) (zcut zu_M_given) (zorc [(28, [none, none], [(0, none)], fun xs h => match xs with
  | [t0] => M_given_28 kr t0 h
  | _ => none)]) kr (fun _ _ => none) 400 0 [some (112, 0), some (0, a1)] [] h := qg_M_given kr M_fails M_noLaunch (M_given_28 kr) a1 h
