def zc_Co_endIfEnded : List zI := [(14, 0, 1, 0), (110, 0, 368, 163), (999, 0, 0, 0), (999, 0, 0, 0), (61, 4, 8, 0), (999, 0, 0, 0), (999, 0, 0, 0), (133, 0, 0, 0), (0, 0, 0, 0), (16, 0, 2, 0), (10, 0, 2, 0), (0, 2, 0, 0), (69, 19, 31, 0), (999, 0, 0, 0), (999, 0, 0, 0), (14, 0, 0, 0), (80, 2, 18, 2), (999, 0, 0, 0), (999, 0, 0, 0), (10, 0, 2, 0), (94, 0, 0, 3), (14, 0, 1, 0), (110, 0, 371, 271), (999, 0, 0, 0), (999, 0, 0, 0), (22, 1, 2, 0), (999, 0, 0, 0), (999, 0, 0, 0), (72, (-18), 10, 0), (999, 0, 0, 0), (999, 0, 0, 0), (14, 0, 1, 0), (80, 10, 144, 0), (999, 0, 0, 0), (999, 0, 0, 0), (50, 0, 0, 0), (80, 9, 374, 9), (999, 0, 0, 0), (999, 0, 0, 0), (0, 1, 0, 0), (30, 0, 0, 0), (82, 9, 374, 9), (999, 0, 0, 0), (999, 0, 0, 0), (14, 0, 0, 0), (80, 2, 39, 0), (999, 0, 0, 0), (999, 0, 0, 0), (14, 0, 1, 0), (80, 10, 144, 0), (999, 0, 0, 0), (999, 0, 0, 0), (110, 0, 377, 242), (999, 0, 0, 0), (999, 0, 0, 0), (133, 0, 0, 0)]
def Co_endIfEnded_10b {ρ : Type} (kr : Int → zH → Option ρ) (r10 : Int → Int → Int → zH → Option ρ) (a0 a1 a2 : Int) (h : zH) : Option ρ :=
if a2 < 2 then (zob h 2 a0 fun p9 =>
zob h 33 (zhd h p9 2) fun p11 =>
zix (zhl h p11) a2 fun j10 =>
zob h 3 (zhd h p11 j10) fun _ =>
Un_dropBlock (zhd h p11 j10) a1 h  fun _ h13 =>
r10 a0 a1 (wr (a2 + 1)) h13)
else zob h 10 a1 fun p1 =>
zob h 9 (zhd h p1 0) fun p2 =>
zob h 9 (zhd h p1 0) fun p3 =>
zlet (zset h p3 9 (wr ((zhd h p2 9) + 1))) fun h4 =>
zob h4 2 a0 fun p5 =>
zob h4 10 a1 fun p6 =>
zob h4 1 (zhd h4 p5 0) fun _ =>
Le_endIfDone (zhd h4 p5 0) (zhd h4 p6 0) h4  fun _ h8 =>
kr 0 h8
def Co_endIfEnded_10 {ρ : Type} (kr : Int → zH → Option ρ) : Int → Int → Int → zH → Option ρ := zit (fun _ _ _ _ => none) (Co_endIfEnded_10b kr) zN
def Co_endIfEnded {ρ : Type} (a0 a1 : Int) (h : zH) (kr : Int → zH → Option ρ) : Option ρ :=
zob h 10 a1 fun _ =>
Bl_isAllEnded a1 h  fun v1 h2 =>
if v1 = 0 then kr 0 h2
else Co_endIfEnded_10 kr a0 a1 0 h2
set_option maxRecDepth 100000 in
theorem qe_Co_endIfEnded_10b {ρ : Type} (kr : Int → zH → Option ρ) (r10 : Int → Int → Int → zH → Option ρ) (a0 a1 a2 : Int) (h : zH) : Co_endIfEnded_10b kr r10 a0 a1 a2 h = zseg zPP true (fun _ _ => none) (zcal [(242, [none, none], fun xs h kr kt => match xs with
  | [x0, x1] => Le_endIfDone x0 x1 h kr
  | _ => none), (271, [none, none], fun xs h kr kt => match xs with
  | [x0, x1] => Un_dropBlock x0 x1 h kr
  | _ => none)]) (zget (999, 0, 0, 0) zc_Co_endIfEnded) (zcut [(10, [true, true, true])]) (zorc [(10, [some (2, none), some (2, none), some (0, none)], [], fun xs h => match xs with
  | [a0, a1, a2] => r10 a0 a1 a2 h
  | _ => none)]) kr (fun _ _ => none) 400 10 [some (2, a0), some (2, a1), some (0, a2)] [] h := by rfl
set_option maxRecDepth 100000 in
theorem qe_Co_endIfEnded {ρ : Type} (kr : Int → zH → Option ρ) (a0 a1 : Int) (h : zH) : Co_endIfEnded a0 a1 h kr = zseg zPP true (fun _ _ => none) (zcal [(163, [none], fun xs h kr kt => match xs with
  | [x0] => Bl_isAllEnded x0 h kr
  | _ => none)]) (zget (999, 0, 0, 0) zc_Co_endIfEnded) (zcut [(10, [true, true, true])]) (zorc [(10, [some (2, none), some (2, none), some (0, none)], [], fun xs h => match xs with
  | [a0, a1, a2] => Co_endIfEnded_10 kr a0 a1 a2 h
  | _ => none)]) kr (fun _ _ => none) 400 0 [some (2, a0), some (2, a1), none] [] h := by rfl
def zc_Un_take : List zI := [(0, 0, 0, 0), (16, 0, 2, 0), (10, 0, 2, 0), (14, 0, 1, 0), (80, 10, 73, 3), (999, 0, 0, 0), (999, 0, 0, 0), (100, 0, 0, 41), (69, 46, 54, 0), (999, 0, 0, 0), (999, 0, 0, 0), (14, 0, 0, 0), (80, 3, 21, 2), (999, 0, 0, 0), (999, 0, 0, 0), (14, 0, 0, 0), (80, 3, 11, 0), (999, 0, 0, 0), (999, 0, 0, 0), (100, 0, 0, 41), (69, 34, 54, 0), (999, 0, 0, 0), (999, 0, 0, 0), (14, 0, 0, 0), (80, 3, 11, 0), (999, 0, 0, 0), (999, 0, 0, 0), (14, 0, 0, 0), (80, 3, 21, 2), (999, 0, 0, 0), (999, 0, 0, 0), (14, 0, 1, 0), (80, 10, 73, 3), (999, 0, 0, 0), (999, 0, 0, 0), (10, 0, 2, 0), (94, 0, 0, 11), (99, 0, 0, 11), (14, 0, 0, 0), (50, 0, 0, 0), (80, 3, 21, 2), (999, 0, 0, 0), (999, 0, 0, 0), (0, 1, 0, 0), (30, 0, 0, 0), (82, 3, 21, 2), (999, 0, 0, 0), (999, 0, 0, 0), (22, 1, 2, 0), (999, 0, 0, 0), (999, 0, 0, 0), (72, (-49), 2, 0), (999, 0, 0, 0), (999, 0, 0, 0), (133, 0, 0, 0)]
def Un_take_54 {ρ : Type} (kr : Int → zH → Option ρ) (h : zH) : Option ρ :=
kr 0 h
def Un_take_2b {ρ : Type} (kr : Int → zH → Option ρ) (r2 : Int → Int → Int → zH → Option ρ) (a0 a1 a2 : Int) (h : zH) : Option ρ :=
zob h 10 a1 fun p1 =>
zob h 41 (zhd h p1 3) fun p2 =>
if a2 < (zhl h p2 : Int) then (zob h 3 a0 fun p3 =>
zob h 3 a0 fun p4 =>
zob h 41 (zhd h p4 0) fun p5 =>
if (zhd h p3 2) < (zhl h p5 : Int) then (zob h 3 a0 fun p6 =>
zob h 3 a0 fun p7 =>
zob h 10 a1 fun p8 =>
zob h 41 (zhd h p8 3) fun p10 =>
zix (zhl h p10) a2 fun j9 =>
zob h 41 (zhd h p6 0) fun p12 =>
zix (zhl h p12) (zhd h p7 2) fun j11 =>
if (zhd h p10 j9) < 0 then (zlet (zset h p12 j11 (-1)) fun h13 =>
zob h13 3 a0 fun p15 =>
zob h13 3 a0 fun p16 =>
zlet (zset h13 p16 2 (wr ((zhd h13 p15 2) + 1))) fun h17 =>
r2 a0 a1 (wr (a2 + 1)) h17)
else zob h 11 (zhd h p10 j9) fun _ =>
zlet (zset h p12 j11 (zhd h p10 j9)) fun h14 =>
zob h14 3 a0 fun p18 =>
zob h14 3 a0 fun p19 =>
zlet (zset h14 p19 2 (wr ((zhd h14 p18 2) + 1))) fun h20 =>
r2 a0 a1 (wr (a2 + 1)) h20)
else Un_take_54 kr h)
else Un_take_54 kr h
def Un_take_2 {ρ : Type} (kr : Int → zH → Option ρ) : Int → Int → Int → zH → Option ρ := zit (fun _ _ _ _ => none) (Un_take_2b kr) zN
def Un_take {ρ : Type} (a0 a1 : Int) (h : zH) (kr : Int → zH → Option ρ) : Option ρ :=
Un_take_2 kr a0 a1 0 h
set_option maxRecDepth 100000 in
theorem qe_Un_take_54 {ρ : Type} (kr : Int → zH → Option ρ) (h : zH) : Un_take_54 kr h = zseg zPP true (fun _ _ => none) (zcal []) (zget (999, 0, 0, 0) zc_Un_take) (zcut [(2, [true, true, true]), (54, [false, false, false])]) (zorc []) kr (fun _ _ => none) 400 54 [none, none, none] [] h := by rfl
set_option maxRecDepth 100000 in
theorem qe_Un_take_2b {ρ : Type} (kr : Int → zH → Option ρ) (r2 : Int → Int → Int → zH → Option ρ) (a0 a1 a2 : Int) (h : zH) : Un_take_2b kr r2 a0 a1 a2 h = zseg zPP true (fun _ _ => none) (zcal []) (zget (999, 0, 0, 0) zc_Un_take) (zcut [(2, [true, true, true]), (54, [false, false, false])]) (zorc [(2, [some (2, none), some (2, none), some (0, none)], [], fun xs h => match xs with
  | [a0, a1, a2] => r2 a0 a1 a2 h
  | _ => none), (54, [none, none, none], [], fun xs h => match xs with
  | [] => Un_take_54 kr  h
  | _ => none)]) kr (fun _ _ => none) 400 2 [some (2, a0), some (2, a1), some (0, a2)] [] h := by rfl
set_option maxRecDepth 100000 in
theorem qe_Un_take {ρ : Type} (kr : Int → zH → Option ρ) (a0 a1 : Int) (h : zH) : Un_take a0 a1 h kr = zseg zPP true (fun _ _ => none) (zcal []) (zget (999, 0, 0, 0) zc_Un_take) (zcut [(2, [true, true, true]), (54, [false, false, false])]) (zorc [(2, [some (2, none), some (2, none), some (0, none)], [], fun xs h => match xs with
  | [a0, a1, a2] => Un_take_2 kr a0 a1 a2 h
  | _ => none)]) kr (fun _ _ => none) 400 0 [some (2, a0), some (2, a1), none] [] h := by rfl
def zc_Co_give : List zI := [(14, 0, 2, 0), (113, 0, 121, 161), (999, 0, 0, 0), (999, 0, 0, 0), (20, 0, 3, 0), (14, 0, 1, 0), (14, 0, 3, 0), (110, 0, 127, 270), (999, 0, 0, 0), (999, 0, 0, 0), (14, 0, 0, 0), (14, 0, 3, 0), (110, 0, 130, 190), (999, 0, 0, 0), (999, 0, 0, 0), (133, 0, 0, 0)]
def Co_give {ρ : Type} (a0 a1 a2 : Int) (h : zH) (kr : Int → zH → Option ρ) : Option ρ :=
Bl_nextOf a2 h  fun v1 h2 =>
zob h2 3 a1 fun _ =>
Un_take a1 v1 h2  fun _ h4 =>
zob h4 2 a0 fun _ =>
Co_endIfEnded a0 v1 h4  fun _ h6 =>
kr 0 h6
set_option maxRecDepth 100000 in
theorem qe_Co_give {ρ : Type} (kr : Int → zH → Option ρ) (a0 a1 a2 : Int) (h : zH) : Co_give a0 a1 a2 h kr = zseg zPP true (fun _ _ => none) (zcal [(161, [none], fun xs h kr kt => match xs with
  | [x0] => Bl_nextOf x0 h kr
  | _ => none), (190, [none, none], fun xs h kr kt => match xs with
  | [x0, x1] => Co_endIfEnded x0 x1 h kr
  | _ => none), (270, [none, none], fun xs h kr kt => match xs with
  | [x0, x1] => Un_take x0 x1 h kr
  | _ => none)]) (zget (999, 0, 0, 0) zc_Co_give) (zcut []) (zorc []) kr (fun _ _ => none) 400 0 [some (2, a0), some (2, a1), some (2, a2), none] [] h := by rfl
def zc_La_hasBlockToGive : List zI := [(14, 0, 0, 0), (80, 9, 40, 5), (999, 0, 0, 0), (999, 0, 0, 0), (73, 27, 31, 0), (999, 0, 0, 0), (999, 0, 0, 0), (14, 0, 0, 0), (80, 9, 11, 10), (999, 0, 0, 0), (999, 0, 0, 0), (1, 114, 0, 0), (999, 0, 0, 0), (67, 18, 31, 0), (999, 0, 0, 0), (999, 0, 0, 0), (14, 0, 0, 0), (80, 9, 65, 8), (999, 0, 0, 0), (999, 0, 0, 0), (14, 0, 0, 0), (80, 9, 50, 6), (999, 0, 0, 0), (999, 0, 0, 0), (69, 7, 31, 0), (999, 0, 0, 0), (999, 0, 0, 0), (0, 1, 0, 0), (72, 4, 32, 0), (999, 0, 0, 0), (999, 0, 0, 0), (0, 0, 0, 0), (130, 0, 1, 0)]
def La_hasBlockToGive_32 {ρ : Type} (kr : Int → zH → Option ρ) (t0 : Int) (h : zH) : Option ρ :=
znar 1 t0 fun x1 => kr x1 h
def La_hasBlockToGive_31 {ρ : Type} (kr : Int → zH → Option ρ) (h : zH) : Option ρ :=
La_hasBlockToGive_32 kr 0 h
def La_hasBlockToGive {ρ : Type} (a0 : Int) (h : zH) (kr : Int → zH → Option ρ) : Option ρ :=
zob h 9 a0 fun p1 =>
if (zhd h p1 5) < 0 then La_hasBlockToGive_31 kr h
else zob h 9 a0 fun p2 =>
if (zhd h p2 10) = 114 then (zob h 9 a0 fun p3 =>
zob h 9 a0 fun p4 =>
if (zhd h p3 8) < (zhd h p4 6) then La_hasBlockToGive_32 kr 1 h
else La_hasBlockToGive_31 kr h)
else La_hasBlockToGive_31 kr h
set_option maxRecDepth 100000 in
theorem qe_La_hasBlockToGive_32 {ρ : Type} (kr : Int → zH → Option ρ) (t0 : Int) (h : zH) : La_hasBlockToGive_32 kr t0 h = zseg zPP true (fun _ _ => none) (zcal []) (zget (999, 0, 0, 0) zc_La_hasBlockToGive) (zcut [(31, [false]), (32, [false])]) (zorc []) kr (fun _ _ => none) 400 32 [none] [(0, t0)] h := by rfl
set_option maxRecDepth 100000 in
theorem qe_La_hasBlockToGive_31 {ρ : Type} (kr : Int → zH → Option ρ) (h : zH) : La_hasBlockToGive_31 kr h = zseg zPP true (fun _ _ => none) (zcal []) (zget (999, 0, 0, 0) zc_La_hasBlockToGive) (zcut [(31, [false]), (32, [false])]) (zorc [(32, [none], [(0, none)], fun xs h => match xs with
  | [t0] => La_hasBlockToGive_32 kr t0 h
  | _ => none)]) kr (fun _ _ => none) 400 31 [none] [] h := by rfl
set_option maxRecDepth 100000 in
theorem qe_La_hasBlockToGive {ρ : Type} (kr : Int → zH → Option ρ) (a0 : Int) (h : zH) : La_hasBlockToGive a0 h kr = zseg zPP true (fun _ _ => none) (zcal []) (zget (999, 0, 0, 0) zc_La_hasBlockToGive) (zcut [(31, [false]), (32, [false])]) (zorc [(31, [none], [], fun xs h => match xs with
  | [] => La_hasBlockToGive_31 kr  h
  | _ => none), (32, [none], [(0, none)], fun xs h => match xs with
  | [t0] => La_hasBlockToGive_32 kr t0 h
  | _ => none)]) kr (fun _ _ => none) 400 0 [some (2, a0)] [] h := by rfl
def zc_Co_giveBlocks : List zI := [(0, 0, 0, 0), (16, 0, 1, 0), (10, 0, 1, 0), (14, 0, 0, 0), (80, 2, 39, 0), (999, 0, 0, 0), (999, 0, 0, 0), (80, 1, 79, 3), (999, 0, 0, 0), (999, 0, 0, 0), (69, 65, 75, 0), (999, 0, 0, 0), (999, 0, 0, 0), (14, 0, 0, 0), (80, 2, 39, 0), (999, 0, 0, 0), (999, 0, 0, 0), (10, 0, 1, 0), (110, 0, 82, 232), (999, 0, 0, 0), (999, 0, 0, 0), (20, 0, 2, 0), (0, 0, 0, 0), (16, 0, 3, 0), (10, 0, 3, 0), (1, 6, 0, 0), (999, 0, 0, 0), (69, 42, 69, 0), (999, 0, 0, 0), (999, 0, 0, 0), (14, 0, 2, 0), (73, 38, 69, 0), (999, 0, 0, 0), (999, 0, 0, 0), (14, 0, 2, 0), (110, 0, 96, 226), (999, 0, 0, 0), (999, 0, 0, 0), (60, 31, 69, 0), (999, 0, 0, 0), (999, 0, 0, 0), (14, 0, 0, 0), (14, 0, 2, 0), (110, 0, 99, 174), (999, 0, 0, 0), (999, 0, 0, 0), (21, 0, 4, 0), (999, 0, 0, 0), (15, 0, 4, 0), (999, 0, 0, 0), (74, 6, 56, 0), (999, 0, 0, 0), (999, 0, 0, 0), (72, 16, 69, 0), (999, 0, 0, 0), (999, 0, 0, 0), (14, 0, 0, 0), (15, 0, 4, 0), (999, 0, 0, 0), (14, 0, 2, 0), (110, 0, 103, 175), (999, 0, 0, 0), (999, 0, 0, 0), (22, 1, 3, 0), (999, 0, 0, 0), (999, 0, 0, 0), (72, (-42), 24, 0), (999, 0, 0, 0), (999, 0, 0, 0), (22, 1, 1, 0), (999, 0, 0, 0), (999, 0, 0, 0), (72, (-70), 2, 0), (999, 0, 0, 0), (999, 0, 0, 0), (133, 0, 0, 0)]
def Co_giveBlocks_69 {ρ : Type} (kr : Int → zH → Option ρ) (r2 : Int → Int → zH → Option ρ) (a0 a1 : Int) (h : zH) : Option ρ :=
r2 a0 (wr (a1 + 1)) h
def Co_giveBlocks_24b {ρ : Type} (kr : Int → zH → Option ρ) (r2 : Int → Int → zH → Option ρ) (r24 : Int → Int → Int → Int → zH → Option ρ) (a0 a1 a2 a3 : Int) (h : zH) : Option ρ :=
if a3 < 6 then (if a2 < 0 then Co_giveBlocks_69 kr r2 a0 a1 h
else zob h 9 a2 fun _ =>
La_hasBlockToGive a2 h  fun v1 h2 =>
if v1 = 0 then Co_giveBlocks_69 kr r2 a0 a1 h2
else zob h2 2 a0 fun _ =>
Co_unitFor a0 a2 h2  fun v3 h4 =>
if v3 < 0 then Co_giveBlocks_69 kr r2 a0 a1 h4
else zob h4 2 a0 fun _ =>
Co_give a0 v3 a2 h4  fun _ h6 =>
r24 a0 a1 a2 (wr (a3 + 1)) h6)
else Co_giveBlocks_69 kr r2 a0 a1 h
def Co_giveBlocks_24 {ρ : Type} (kr : Int → zH → Option ρ) (r2 : Int → Int → zH → Option ρ) : Int → Int → Int → Int → zH → Option ρ := zit (fun _ _ _ _ _ => none) (Co_giveBlocks_24b kr r2) zN
def Co_giveBlocks_2b {ρ : Type} (kr : Int → zH → Option ρ) (r2 : Int → Int → zH → Option ρ) (a0 a1 : Int) (h : zH) : Option ρ :=
zob h 2 a0 fun p1 =>
zob h 1 (zhd h p1 0) fun p2 =>
if a1 < (zhd h p2 3) then (zob h 2 a0 fun p3 =>
zob h 1 (zhd h p3 0) fun _ =>
Le_launchOf (zhd h p3 0) a1 h  fun v4 h5 =>
Co_giveBlocks_24 kr r2 a0 a1 v4 0 h5)
else kr 0 h
def Co_giveBlocks_2 {ρ : Type} (kr : Int → zH → Option ρ) : Int → Int → zH → Option ρ := zit (fun _ _ _ => none) (Co_giveBlocks_2b kr) zN
def Co_giveBlocks {ρ : Type} (a0 : Int) (h : zH) (kr : Int → zH → Option ρ) : Option ρ :=
Co_giveBlocks_2 kr a0 0 h
set_option maxRecDepth 100000 in
theorem qe_Co_giveBlocks_69 {ρ : Type} (kr : Int → zH → Option ρ) (r2 : Int → Int → zH → Option ρ) (a0 a1 : Int) (h : zH) : Co_giveBlocks_69 kr r2 a0 a1 h = zseg zPP true (fun _ _ => none) (zcal []) (zget (999, 0, 0, 0) zc_Co_giveBlocks) (zcut [(2, [true, true, false, false, false]), (24, [true, true, true, true, false]), (69, [true, true, false, false, false])]) (zorc [(2, [some (2, none), some (0, none), none, none, none], [], fun xs h => match xs with
  | [a0, a1] => r2 a0 a1 h
  | _ => none)]) kr (fun _ _ => none) 400 69 [some (2, a0), some (0, a1), none, none, none] [] h := by rfl
set_option maxRecDepth 100000 in
theorem qe_Co_giveBlocks_24b {ρ : Type} (kr : Int → zH → Option ρ) (r2 : Int → Int → zH → Option ρ) (r24 : Int → Int → Int → Int → zH → Option ρ) (a0 a1 a2 a3 : Int) (h : zH) : Co_giveBlocks_24b kr r2 r24 a0 a1 a2 a3 h = zseg zPP true (fun _ _ => none) (zcal [(174, [none, none], fun xs h kr kt => match xs with
  | [x0, x1] => Co_unitFor x0 x1 h kr
  | _ => none), (175, [none, none, none], fun xs h kr kt => match xs with
  | [x0, x1, x2] => Co_give x0 x1 x2 h kr
  | _ => none), (226, [none], fun xs h kr kt => match xs with
  | [x0] => La_hasBlockToGive x0 h kr
  | _ => none)]) (zget (999, 0, 0, 0) zc_Co_giveBlocks) (zcut [(2, [true, true, false, false, false]), (24, [true, true, true, true, false]), (69, [true, true, false, false, false])]) (zorc [(24, [some (2, none), some (0, none), some (2, none), some (0, none), none], [], fun xs h => match xs with
  | [a0, a1, a2, a3] => r24 a0 a1 a2 a3 h
  | _ => none), (69, [some (2, none), some (0, none), none, none, none], [], fun xs h => match xs with
  | [a0, a1] => Co_giveBlocks_69 kr r2 a0 a1 h
  | _ => none)]) kr (fun _ _ => none) 400 24 [some (2, a0), some (0, a1), some (2, a2), some (0, a3), none] [] h := by rfl
set_option maxRecDepth 100000 in
theorem qe_Co_giveBlocks_2b {ρ : Type} (kr : Int → zH → Option ρ) (r2 : Int → Int → zH → Option ρ) (a0 a1 : Int) (h : zH) : Co_giveBlocks_2b kr r2 a0 a1 h = zseg zPP true (fun _ _ => none) (zcal [(232, [none, none], fun xs h kr kt => match xs with
  | [x0, x1] => Le_launchOf x0 x1 h kr
  | _ => none)]) (zget (999, 0, 0, 0) zc_Co_giveBlocks) (zcut [(2, [true, true, false, false, false]), (24, [true, true, true, true, false]), (69, [true, true, false, false, false])]) (zorc [(24, [some (2, none), some (0, none), some (2, none), some (0, none), none], [], fun xs h => match xs with
  | [a0, a1, a2, a3] => Co_giveBlocks_24 kr r2 a0 a1 a2 a3 h
  | _ => none)]) kr (fun _ _ => none) 400 2 [some (2, a0), some (0, a1), none, none, none] [] h := by rfl
set_option maxRecDepth 100000 in
theorem qe_Co_giveBlocks {ρ : Type} (kr : Int → zH → Option ρ) (a0 : Int) (h : zH) : Co_giveBlocks a0 h kr = zseg zPP true (fun _ _ => none) (zcal []) (zget (999, 0, 0, 0) zc_Co_giveBlocks) (zcut [(2, [true, true, false, false, false]), (24, [true, true, true, true, false]), (69, [true, true, false, false, false])]) (zorc [(2, [some (2, none), some (0, none), none, none, none], [], fun xs h => match xs with
  | [a0, a1] => Co_giveBlocks_2 kr a0 a1 h
  | _ => none)]) kr (fun _ _ => none) 400 0 [some (2, a0), none, none, none, none] [] h := by rfl
def zc_Gr_writeFirst : List zI := [(14, 0, 0, 0), (80, 11, 67, 5), (999, 0, 0, 0), (999, 0, 0, 0), (61, 4, 8, 0), (999, 0, 0, 0), (999, 0, 0, 0), (133, 0, 0, 0), (14, 0, 1, 0), (14, 0, 0, 0), (80, 11, 11, 3), (999, 0, 0, 0), (999, 0, 0, 0), (0, 0, 0, 0), (90, 0, 0, 0), (14, 0, 0, 0), (80, 11, 15, 4), (999, 0, 0, 0), (999, 0, 0, 0), (0, 0, 0, 0), (90, 0, 0, 0), (95, 0, 0, 0), (14, 0, 0, 0), (50, 0, 0, 0), (80, 11, 67, 5), (999, 0, 0, 0), (999, 0, 0, 0), (0, 1, 0, 0), (31, 0, 0, 0), (82, 11, 67, 5), (999, 0, 0, 0), (999, 0, 0, 0), (14, 0, 0, 0), (80, 11, 11, 3), (999, 0, 0, 0), (999, 0, 0, 0), (0, 1, 0, 0), (14, 0, 0, 0), (80, 11, 11, 3), (999, 0, 0, 0), (999, 0, 0, 0), (0, 0, 0, 0), (14, 0, 0, 0), (80, 11, 67, 5), (999, 0, 0, 0), (999, 0, 0, 0), (119, 0, 73, 279), (999, 0, 0, 0), (999, 0, 0, 0), (14, 0, 0, 0), (80, 11, 15, 4), (999, 0, 0, 0), (999, 0, 0, 0), (0, 1, 0, 0), (14, 0, 0, 0), (80, 11, 15, 4), (999, 0, 0, 0), (999, 0, 0, 0), (0, 0, 0, 0), (14, 0, 0, 0), (80, 11, 67, 5), (999, 0, 0, 0), (999, 0, 0, 0), (119, 0, 73, 279), (999, 0, 0, 0), (999, 0, 0, 0), (133, 0, 0, 0)]
def Gr_writeFirst {ρ : Type} (a0 a1 : Int) (h : zH) (kr : Int → zH → Option ρ) : Option ρ :=
zob h 11 a0 fun p1 =>
if (zhd h p1 5) = 0 then kr 0 h
else zob h 11 a0 fun p2 =>
zob h 20 (zhd h p2 3) fun p4 =>
zix (zhl h p4) 0 fun j3 =>
zob h 11 a0 fun p5 =>
zob h 20 (zhd h p5 4) fun p7 =>
zix (zhl h p7) 0 fun j6 =>
zob h 20 a1 fun p9 =>
zix (zhl h p9) (zhd h p4 j3) fun j8 =>
zlet (zset h p9 j8 (zhd h p7 j6)) fun h10 =>
zob h10 11 a0 fun p11 =>
zob h10 11 a0 fun p12 =>
zlet (zset h10 p12 5 (wr ((zhd h10 p11 5) - 1))) fun h13 =>
zob h13 11 a0 fun p14 =>
zob h13 11 a0 fun p15 =>
zob h13 11 a0 fun p16 =>
zcopy h13 (zhd h13 p14 3) 1 (zhd h13 p15 3) 0 (zhd h13 p16 5) fun h17 =>
zob h17 11 a0 fun p18 =>
zob h17 11 a0 fun p19 =>
zob h17 11 a0 fun p20 =>
zcopy h17 (zhd h17 p18 4) 1 (zhd h17 p19 4) 0 (zhd h17 p20 5) fun h21 =>
kr 0 h21
set_option maxRecDepth 100000 in
theorem qe_Gr_writeFirst {ρ : Type} (kr : Int → zH → Option ρ) (a0 a1 : Int) (h : zH) : Gr_writeFirst a0 a1 h kr = zseg zPP true (fun _ _ => none) (zcal []) (zget (999, 0, 0, 0) zc_Gr_writeFirst) (zcut []) (zorc []) kr (fun _ _ => none) 400 0 [some (2, a0), some (2, a1)] [] h := by rfl
def zc_Co_writeFirstOfBuffers : List zI := [(0, 0, 0, 0), (16, 0, 1, 0), (10, 0, 1, 0), (0, 2, 0, 0), (69, 48, 52, 0), (999, 0, 0, 0), (999, 0, 0, 0), (0, 0, 0, 0), (16, 0, 2, 0), (10, 0, 2, 0), (14, 0, 0, 0), (80, 2, 18, 2), (999, 0, 0, 0), (999, 0, 0, 0), (10, 0, 1, 0), (94, 0, 0, 3), (80, 3, 118, 2), (999, 0, 0, 0), (999, 0, 0, 0), (69, 27, 46, 0), (999, 0, 0, 0), (999, 0, 0, 0), (14, 0, 0, 0), (80, 2, 18, 2), (999, 0, 0, 0), (999, 0, 0, 0), (10, 0, 1, 0), (94, 0, 0, 3), (81, 3, 133, 0), (999, 0, 0, 0), (999, 0, 0, 0), (10, 0, 2, 0), (94, 0, 0, 11), (14, 0, 0, 0), (80, 2, 9, 1), (999, 0, 0, 0), (999, 0, 0, 0), (110, 0, 137, 207), (999, 0, 0, 0), (999, 0, 0, 0), (22, 1, 2, 0), (999, 0, 0, 0), (999, 0, 0, 0), (72, (-34), 9, 0), (999, 0, 0, 0), (999, 0, 0, 0), (22, 1, 1, 0), (999, 0, 0, 0), (999, 0, 0, 0), (72, (-47), 2, 0), (999, 0, 0, 0), (999, 0, 0, 0), (133, 0, 0, 0)]
def Co_writeFirstOfBuffers_9b {ρ : Type} (kr : Int → zH → Option ρ) (r2 : Int → Int → zH → Option ρ) (r9 : Int → Int → Int → zH → Option ρ) (a0 a1 a2 : Int) (h : zH) : Option ρ :=
zob h 2 a0 fun p1 =>
zob h 33 (zhd h p1 2) fun p3 =>
zix (zhl h p3) a1 fun j2 =>
zob h 3 (zhd h p3 j2) fun p4 =>
if a2 < (zhd h p4 2) then (zob h 2 a0 fun p5 =>
zob h 33 (zhd h p5 2) fun p7 =>
zix (zhl h p7) a1 fun j6 =>
zob h 3 (zhd h p7 j6) fun p8 =>
zob h 41 (zhd h p8 0) fun p10 =>
zix (zhl h p10) a2 fun j9 =>
zob h 2 a0 fun p11 =>
zob h 11 (zhd h p10 j9) fun _ =>
Gr_writeFirst (zhd h p10 j9) (zhd h p11 1) h  fun _ h13 =>
r9 a0 a1 (wr (a2 + 1)) h13)
else r2 a0 (wr (a1 + 1)) h
def Co_writeFirstOfBuffers_9 {ρ : Type} (kr : Int → zH → Option ρ) (r2 : Int → Int → zH → Option ρ) : Int → Int → Int → zH → Option ρ := zit (fun _ _ _ _ => none) (Co_writeFirstOfBuffers_9b kr r2) zN
def Co_writeFirstOfBuffers_2b {ρ : Type} (kr : Int → zH → Option ρ) (r2 : Int → Int → zH → Option ρ) (a0 a1 : Int) (h : zH) : Option ρ :=
if a1 < 2 then Co_writeFirstOfBuffers_9 kr r2 a0 a1 0 h
else kr 0 h
def Co_writeFirstOfBuffers_2 {ρ : Type} (kr : Int → zH → Option ρ) : Int → Int → zH → Option ρ := zit (fun _ _ _ => none) (Co_writeFirstOfBuffers_2b kr) zN
def Co_writeFirstOfBuffers {ρ : Type} (a0 : Int) (h : zH) (kr : Int → zH → Option ρ) : Option ρ :=
Co_writeFirstOfBuffers_2 kr a0 0 h
set_option maxRecDepth 100000 in
theorem qe_Co_writeFirstOfBuffers_9b {ρ : Type} (kr : Int → zH → Option ρ) (r2 : Int → Int → zH → Option ρ) (r9 : Int → Int → Int → zH → Option ρ) (a0 a1 a2 : Int) (h : zH) : Co_writeFirstOfBuffers_9b kr r2 r9 a0 a1 a2 h = zseg zPP true (fun _ _ => none) (zcal [(207, [none, none], fun xs h kr kt => match xs with
  | [x0, x1] => Gr_writeFirst x0 x1 h kr
  | _ => none)]) (zget (999, 0, 0, 0) zc_Co_writeFirstOfBuffers) (zcut [(2, [true, true, false]), (9, [true, true, true])]) (zorc [(2, [some (2, none), some (0, none), none], [], fun xs h => match xs with
  | [a0, a1] => r2 a0 a1 h
  | _ => none), (9, [some (2, none), some (0, none), some (0, none)], [], fun xs h => match xs with
  | [a0, a1, a2] => r9 a0 a1 a2 h
  | _ => none)]) kr (fun _ _ => none) 400 9 [some (2, a0), some (0, a1), some (0, a2)] [] h := by rfl
set_option maxRecDepth 100000 in
theorem qe_Co_writeFirstOfBuffers_2b {ρ : Type} (kr : Int → zH → Option ρ) (r2 : Int → Int → zH → Option ρ) (a0 a1 : Int) (h : zH) : Co_writeFirstOfBuffers_2b kr r2 a0 a1 h = zseg zPP true (fun _ _ => none) (zcal []) (zget (999, 0, 0, 0) zc_Co_writeFirstOfBuffers) (zcut [(2, [true, true, false]), (9, [true, true, true])]) (zorc [(9, [some (2, none), some (0, none), some (0, none)], [], fun xs h => match xs with
  | [a0, a1, a2] => Co_writeFirstOfBuffers_9 kr r2 a0 a1 a2 h
  | _ => none)]) kr (fun _ _ => none) 400 2 [some (2, a0), some (0, a1), none] [] h := by rfl
set_option maxRecDepth 100000 in
theorem qe_Co_writeFirstOfBuffers {ρ : Type} (kr : Int → zH → Option ρ) (a0 : Int) (h : zH) : Co_writeFirstOfBuffers a0 h kr = zseg zPP true (fun _ _ => none) (zcal []) (zget (999, 0, 0, 0) zc_Co_writeFirstOfBuffers) (zcut [(2, [true, true, false]), (9, [true, true, true])]) (zorc [(2, [some (2, none), some (0, none), none], [], fun xs h => match xs with
  | [a0, a1] => Co_writeFirstOfBuffers_2 kr a0 a1 h
  | _ => none)]) kr (fun _ _ => none) 400 0 [some (2, a0), none, none] [] h := by rfl
def zc_X_isIn : List zI := [(10, 0, 0, 0), (10, 0, 1, 0), (40, 0, 0, 0), (0, 1, 0, 0), (36, 0, 0, 0), (60, 7, 12, 0), (999, 0, 0, 0), (999, 0, 0, 0), (0, 1, 0, 0), (72, 4, 13, 0), (999, 0, 0, 0), (999, 0, 0, 0), (0, 0, 0, 0), (130, 0, 1, 0)]
def X_isIn_13 {ρ : Type} (kr : Int → zH → Option ρ) (t0 : Int) (h : zH) : Option ρ :=
znar 1 t0 fun x1 => kr x1 h
def X_isIn {ρ : Type} (a0 a1 : Int) (h : zH) (kr : Int → zH → Option ρ) : Option ρ :=
if (zand (zshr a0 a1) 1) = 0 then X_isIn_13 kr 0 h
else X_isIn_13 kr 1 h
set_option maxRecDepth 100000 in
theorem qe_X_isIn_13 {ρ : Type} (kr : Int → zH → Option ρ) (t0 : Int) (h : zH) : X_isIn_13 kr t0 h = zseg zPP true (fun _ _ => none) (zcal []) (zget (999, 0, 0, 0) zc_X_isIn) (zcut [(13, [false, false])]) (zorc []) kr (fun _ _ => none) 400 13 [none, none] [(0, t0)] h := by rfl
set_option maxRecDepth 100000 in
theorem qe_X_isIn {ρ : Type} (kr : Int → zH → Option ρ) (a0 a1 : Int) (h : zH) : X_isIn a0 a1 h kr = zseg zPP true (fun _ _ => none) (zcal []) (zget (999, 0, 0, 0) zc_X_isIn) (zcut [(13, [false, false])]) (zorc [(13, [none, none], [(0, none)], fun xs h => match xs with
  | [t0] => X_isIn_13 kr t0 h
  | _ => none)]) kr (fun _ _ => none) 400 0 [some (0, a0), some (0, a1)] [] h := by rfl
def zc_Gr_threadIn : List zI := [(10, 0, 1, 0), (62, 17, 18, 0), (999, 0, 0, 0), (999, 0, 0, 0), (10, 0, 1, 0), (0, 4, 0, 0), (69, 12, 18, 0), (999, 0, 0, 0), (999, 0, 0, 0), (14, 0, 0, 0), (80, 11, 28, 2), (999, 0, 0, 0), (999, 0, 0, 0), (10, 0, 1, 0), (94, 0, 0, 6), (72, 4, 19, 0), (999, 0, 0, 0), (999, 0, 0, 0), (7, 0, 0, 0), (132, 0, 0, 0)]
def Gr_threadIn_19 {ρ : Type} (kr : Int → zH → Option ρ) (t0 : Int) (h : zH) : Option ρ :=
kr t0 h
def Gr_threadIn_18 {ρ : Type} (kr : Int → zH → Option ρ) (h : zH) : Option ρ :=
Gr_threadIn_19 kr (-1) h
def Gr_threadIn {ρ : Type} (a0 a1 : Int) (h : zH) (kr : Int → zH → Option ρ) : Option ρ :=
if a1 < 0 then Gr_threadIn_18 kr h
else if a1 < 4 then (zob h 11 a0 fun p1 =>
zob h 36 (zhd h p1 2) fun p3 =>
zix (zhl h p3) a1 fun j2 =>
Gr_threadIn_19 kr (zhd h p3 j2) h)
else Gr_threadIn_18 kr h
set_option maxRecDepth 100000 in
theorem qe_Gr_threadIn_19 {ρ : Type} (kr : Int → zH → Option ρ) (t0 : Int) (h : zH) : Gr_threadIn_19 kr t0 h = zseg zPP true (fun _ _ => none) (zcal []) (zget (999, 0, 0, 0) zc_Gr_threadIn) (zcut [(18, [false, false]), (19, [false, false])]) (zorc []) kr (fun _ _ => none) 400 19 [none, none] [(2, t0)] h := by rfl
set_option maxRecDepth 100000 in
theorem qe_Gr_threadIn_18 {ρ : Type} (kr : Int → zH → Option ρ) (h : zH) : Gr_threadIn_18 kr h = zseg zPP true (fun _ _ => none) (zcal []) (zget (999, 0, 0, 0) zc_Gr_threadIn) (zcut [(18, [false, false]), (19, [false, false])]) (zorc [(19, [none, none], [(2, none)], fun xs h => match xs with
  | [t0] => Gr_threadIn_19 kr t0 h
  | _ => none)]) kr (fun _ _ => none) 400 18 [none, none] [] h := by rfl
set_option maxRecDepth 100000 in
theorem qe_Gr_threadIn {ρ : Type} (kr : Int → zH → Option ρ) (a0 a1 : Int) (h : zH) : Gr_threadIn a0 a1 h kr = zseg zPP true (fun _ _ => none) (zcal []) (zget (999, 0, 0, 0) zc_Gr_threadIn) (zcut [(18, [false, false]), (19, [false, false])]) (zorc [(18, [none, none], [], fun xs h => match xs with
  | [] => Gr_threadIn_18 kr  h
  | _ => none), (19, [none, none], [(2, none)], fun xs h => match xs with
  | [t0] => Gr_threadIn_19 kr t0 h
  | _ => none)]) kr (fun _ _ => none) 400 0 [some (2, a0), some (0, a1)] [] h := by rfl
def zc_Gr_writeAll : List zI := [(14, 0, 0, 0), (80, 11, 67, 5), (999, 0, 0, 0), (999, 0, 0, 0), (16, 0, 2, 0), (0, 0, 0, 0), (16, 0, 3, 0), (10, 0, 3, 0), (10, 0, 2, 0), (69, 23, 32, 0), (999, 0, 0, 0), (999, 0, 0, 0), (14, 0, 1, 0), (14, 0, 0, 0), (80, 11, 11, 3), (999, 0, 0, 0), (999, 0, 0, 0), (10, 0, 3, 0), (90, 0, 0, 0), (14, 0, 0, 0), (80, 11, 15, 4), (999, 0, 0, 0), (999, 0, 0, 0), (10, 0, 3, 0), (90, 0, 0, 0), (95, 0, 0, 0), (22, 1, 3, 0), (999, 0, 0, 0), (999, 0, 0, 0), (72, (-22), 7, 0), (999, 0, 0, 0), (999, 0, 0, 0), (14, 0, 0, 0), (0, 0, 0, 0), (82, 11, 67, 5), (999, 0, 0, 0), (999, 0, 0, 0), (10, 0, 2, 0), (130, 0, 0, 0)]
def Gr_writeAll_7b {ρ : Type} (kr : Int → zH → Option ρ) (r7 : Int → Int → Int → Int → zH → Option ρ) (a0 a1 a2 a3 : Int) (h : zH) : Option ρ :=
if a3 < a2 then (zob h 11 a0 fun p3 =>
zob h 20 (zhd h p3 3) fun p5 =>
zix (zhl h p5) a3 fun j4 =>
zob h 11 a0 fun p6 =>
zob h 20 (zhd h p6 4) fun p8 =>
zix (zhl h p8) a3 fun j7 =>
zob h 20 a1 fun p10 =>
zix (zhl h p10) (zhd h p5 j4) fun j9 =>
zlet (zset h p10 j9 (zhd h p8 j7)) fun h11 =>
r7 a0 a1 a2 (wr (a3 + 1)) h11)
else zob h 11 a0 fun p1 =>
zlet (zset h p1 5 0) fun h2 =>
kr a2 h2
def Gr_writeAll_7 {ρ : Type} (kr : Int → zH → Option ρ) : Int → Int → Int → Int → zH → Option ρ := zit (fun _ _ _ _ _ => none) (Gr_writeAll_7b kr) zN
def Gr_writeAll {ρ : Type} (a0 a1 : Int) (h : zH) (kr : Int → zH → Option ρ) : Option ρ :=
zob h 11 a0 fun p1 =>
Gr_writeAll_7 kr a0 a1 (zhd h p1 5) 0 h
set_option maxRecDepth 100000 in
theorem qe_Gr_writeAll_7b {ρ : Type} (kr : Int → zH → Option ρ) (r7 : Int → Int → Int → Int → zH → Option ρ) (a0 a1 a2 a3 : Int) (h : zH) : Gr_writeAll_7b kr r7 a0 a1 a2 a3 h = zseg zPP true (fun _ _ => none) (zcal []) (zget (999, 0, 0, 0) zc_Gr_writeAll) (zcut [(7, [true, true, true, true])]) (zorc [(7, [some (2, none), some (2, none), some (0, none), some (0, none)], [], fun xs h => match xs with
  | [a0, a1, a2, a3] => r7 a0 a1 a2 a3 h
  | _ => none)]) kr (fun _ _ => none) 400 7 [some (2, a0), some (2, a1), some (0, a2), some (0, a3)] [] h := by rfl
set_option maxRecDepth 100000 in
theorem qe_Gr_writeAll {ρ : Type} (kr : Int → zH → Option ρ) (a0 a1 : Int) (h : zH) : Gr_writeAll a0 a1 h kr = zseg zPP true (fun _ _ => none) (zcal []) (zget (999, 0, 0, 0) zc_Gr_writeAll) (zcut [(7, [true, true, true, true])]) (zorc [(7, [some (2, none), some (2, none), some (0, none), some (0, none)], [], fun xs h => match xs with
  | [a0, a1, a2, a3] => Gr_writeAll_7 kr a0 a1 a2 a3 h
  | _ => none)]) kr (fun _ _ => none) 400 0 [some (2, a0), some (2, a1), none, none] [] h := by rfl
def zc_In_cellRegister : List zI := [(14, 0, 0, 0), (8, 9, 55, 0), (999, 0, 0, 0), (110, 0, 33, 210), (999, 0, 0, 0), (999, 0, 0, 0), (60, 10, 16, 0), (999, 0, 0, 0), (999, 0, 0, 0), (14, 0, 0, 0), (80, 8, 15, 1), (999, 0, 0, 0), (999, 0, 0, 0), (72, 7, 20, 0), (999, 0, 0, 0), (999, 0, 0, 0), (14, 0, 0, 0), (80, 8, 19, 2), (999, 0, 0, 0), (999, 0, 0, 0), (130, 0, 0, 0)]
def In_cellRegister_20 {ρ : Type} (kr : Int → zH → Option ρ) (t0 : Int) (h : zH) : Option ρ :=
kr t0 h
def In_cellRegister {ρ : Type} (a0 : Int) (h : zH) (kr : Int → zH → Option ρ) : Option ρ :=
zob h 8 a0 fun _ =>
In_isOneOf a0 9 h  fun v1 h2 =>
if v1 = 0 then (zob h2 8 a0 fun p3 =>
In_cellRegister_20 kr (zhd h2 p3 2) h2)
else zob h2 8 a0 fun p4 =>
In_cellRegister_20 kr (zhd h2 p4 1) h2
set_option maxRecDepth 100000 in
theorem qe_In_cellRegister_20 {ρ : Type} (kr : Int → zH → Option ρ) (t0 : Int) (h : zH) : In_cellRegister_20 kr t0 h = zseg zPP true (fun _ _ => none) (zcal []) (zget (999, 0, 0, 0) zc_In_cellRegister) (zcut [(20, [false])]) (zorc []) kr (fun _ _ => none) 400 20 [none] [(0, t0)] h := by rfl
set_option maxRecDepth 100000 in
theorem qe_In_cellRegister {ρ : Type} (kr : Int → zH → Option ρ) (a0 : Int) (h : zH) : In_cellRegister a0 h kr = zseg zPP true (fun _ _ => none) (zcal [(210, [none, none], fun xs h kr kt => match xs with
  | [x0, x1] => In_isOneOf x0 x1 h kr
  | _ => none)]) (zget (999, 0, 0, 0) zc_In_cellRegister) (zcut [(20, [false])]) (zorc [(20, [none], [(0, none)], fun xs h => match xs with
  | [t0] => In_cellRegister_20 kr t0 h
  | _ => none)]) kr (fun _ _ => none) 400 0 [some (2, a0)] [] h := by rfl
def zc_Th_at : List zI := [(10, 0, 1, 0), (62, 21, 22, 0), (999, 0, 0, 0), (999, 0, 0, 0), (10, 0, 1, 0), (14, 0, 0, 0), (80, 6, 21, 1), (999, 0, 0, 0), (999, 0, 0, 0), (100, 0, 0, 20), (69, 12, 22, 0), (999, 0, 0, 0), (999, 0, 0, 0), (14, 0, 0, 0), (80, 6, 21, 1), (999, 0, 0, 0), (999, 0, 0, 0), (10, 0, 1, 0), (90, 0, 0, 0), (72, 4, 23, 0), (999, 0, 0, 0), (999, 0, 0, 0), (0, 0, 0, 0), (130, 0, 0, 0)]
def Th_at_23 {ρ : Type} (kr : Int → zH → Option ρ) (t0 : Int) (h : zH) : Option ρ :=
kr t0 h
def Th_at_22 {ρ : Type} (kr : Int → zH → Option ρ) (h : zH) : Option ρ :=
Th_at_23 kr 0 h
def Th_at {ρ : Type} (a0 a1 : Int) (h : zH) (kr : Int → zH → Option ρ) : Option ρ :=
if a1 < 0 then Th_at_22 kr h
else zob h 6 a0 fun p1 =>
zob h 20 (zhd h p1 1) fun p2 =>
if a1 < (zhl h p2 : Int) then (zob h 6 a0 fun p3 =>
zob h 20 (zhd h p3 1) fun p5 =>
zix (zhl h p5) a1 fun j4 =>
Th_at_23 kr (zhd h p5 j4) h)
else Th_at_22 kr h
set_option maxRecDepth 100000 in
theorem qe_Th_at_23 {ρ : Type} (kr : Int → zH → Option ρ) (t0 : Int) (h : zH) : Th_at_23 kr t0 h = zseg zPP true (fun _ _ => none) (zcal []) (zget (999, 0, 0, 0) zc_Th_at) (zcut [(22, [false, false]), (23, [false, false])]) (zorc []) kr (fun _ _ => none) 400 23 [none, none] [(0, t0)] h := by rfl
set_option maxRecDepth 100000 in
theorem qe_Th_at_22 {ρ : Type} (kr : Int → zH → Option ρ) (h : zH) : Th_at_22 kr h = zseg zPP true (fun _ _ => none) (zcal []) (zget (999, 0, 0, 0) zc_Th_at) (zcut [(22, [false, false]), (23, [false, false])]) (zorc [(23, [none, none], [(0, none)], fun xs h => match xs with
  | [t0] => Th_at_23 kr t0 h
  | _ => none)]) kr (fun _ _ => none) 400 22 [none, none] [] h := by rfl
set_option maxRecDepth 100000 in
theorem qe_Th_at {ρ : Type} (kr : Int → zH → Option ρ) (a0 a1 : Int) (h : zH) : Th_at a0 a1 h kr = zseg zPP true (fun _ _ => none) (zcal []) (zget (999, 0, 0, 0) zc_Th_at) (zcut [(22, [false, false]), (23, [false, false])]) (zorc [(22, [none, none], [], fun xs h => match xs with
  | [] => Th_at_22 kr  h
  | _ => none), (23, [none, none], [(0, none)], fun xs h => match xs with
  | [t0] => Th_at_23 kr t0 h
  | _ => none)]) kr (fun _ _ => none) 400 0 [some (2, a0), some (0, a1)] [] h := by rfl
def zc_Co_lookAhead : List zI := [(14, 0, 0, 0), (0, 0, 0, 0), (82, 2, 206, 9), (999, 0, 0, 0), (999, 0, 0, 0), (0, 0, 0, 0), (16, 0, 3, 0), (10, 0, 3, 0), (0, 4, 0, 0), (69, 96, 105, 0), (999, 0, 0, 0), (999, 0, 0, 0), (14, 0, 1, 0), (10, 0, 3, 0), (110, 0, 168, 194), (999, 0, 0, 0), (999, 0, 0, 0), (21, 0, 4, 0), (999, 0, 0, 0), (14, 0, 0, 0), (80, 2, 33, 6), (999, 0, 0, 0), (999, 0, 0, 0), (10, 0, 3, 0), (15, 0, 4, 0), (999, 0, 0, 0), (74, 7, 33, 0), (999, 0, 0, 0), (999, 0, 0, 0), (0, 0, 0, 0), (72, 12, 42, 0), (999, 0, 0, 0), (999, 0, 0, 0), (15, 0, 4, 0), (999, 0, 0, 0), (14, 0, 2, 0), (110, 0, 209, 212), (999, 0, 0, 0), (999, 0, 0, 0), (110, 0, 214, 249), (999, 0, 0, 0), (999, 0, 0, 0), (95, 0, 0, 0), (14, 0, 0, 0), (80, 2, 36, 7), (999, 0, 0, 0), (999, 0, 0, 0), (10, 0, 3, 0), (15, 0, 4, 0), (999, 0, 0, 0), (74, 7, 57, 0), (999, 0, 0, 0), (999, 0, 0, 0), (0, 0, 0, 0), (72, 12, 66, 0), (999, 0, 0, 0), (999, 0, 0, 0), (15, 0, 4, 0), (999, 0, 0, 0), (14, 0, 2, 0), (80, 8, 218, 2), (999, 0, 0, 0), (999, 0, 0, 0), (110, 0, 214, 249), (999, 0, 0, 0), (999, 0, 0, 0), (95, 0, 0, 0), (14, 0, 0, 0), (80, 2, 161, 8), (999, 0, 0, 0), (999, 0, 0, 0), (10, 0, 3, 0), (114, 0, 172, 50), (999, 0, 0, 0), (999, 0, 0, 0), (60, 24, 99, 0), (999, 0, 0, 0), (999, 0, 0, 0), (14, 0, 0, 0), (80, 2, 36, 7), (999, 0, 0, 0), (999, 0, 0, 0), (10, 0, 3, 0), (90, 0, 0, 0), (60, 15, 99, 0), (999, 0, 0, 0), (999, 0, 0, 0), (14, 0, 0, 0), (50, 0, 0, 0), (80, 2, 206, 9), (999, 0, 0, 0), (999, 0, 0, 0), (0, 1, 0, 0), (10, 0, 3, 0), (39, 0, 0, 0), (37, 0, 0, 0), (82, 2, 206, 9), (999, 0, 0, 0), (999, 0, 0, 0), (22, 1, 3, 0), (999, 0, 0, 0), (999, 0, 0, 0), (72, (-95), 7, 0), (999, 0, 0, 0), (999, 0, 0, 0), (14, 0, 0, 0), (14, 0, 2, 0), (8, 1, 221, 0), (999, 0, 0, 0), (110, 0, 223, 210), (999, 0, 0, 0), (999, 0, 0, 0), (60, 14, 126, 0), (999, 0, 0, 0), (999, 0, 0, 0), (14, 0, 1, 0), (14, 0, 0, 0), (80, 2, 9, 1), (999, 0, 0, 0), (999, 0, 0, 0), (110, 0, 227, 208), (999, 0, 0, 0), (999, 0, 0, 0), (72, 4, 127, 0), (999, 0, 0, 0), (999, 0, 0, 0), (0, 0, 0, 0), (82, 2, 231, 10), (999, 0, 0, 0), (999, 0, 0, 0), (133, 0, 0, 0)]
def Co_lookAhead_99 {ρ : Type} (kr : Int → zH → Option ρ) (r7 : Int → Int → Int → Int → zH → Option ρ) (a0 a1 a2 a3 : Int) (h : zH) : Option ρ :=
r7 a0 a1 a2 (wr (a3 + 1)) h
def Co_lookAhead_66 {ρ : Type} (kr : Int → zH → Option ρ) (r7 : Int → Int → Int → Int → zH → Option ρ) (a0 a1 a2 a3 t0 t1 t2 : Int) (h : zH) : Option ρ :=
zob h 20 t2 fun p2 =>
zix (zhl h p2) t1 fun j1 =>
zlet (zset h p2 j1 t0) fun h3 =>
zob h3 2 a0 fun p4 =>
X_isIn (zhd h3 p4 8) a3 h3  fun v5 h6 =>
if v5 = 0 then Co_lookAhead_99 kr r7 a0 a1 a2 a3 h6
else zob h6 2 a0 fun p7 =>
zob h6 20 (zhd h6 p7 7) fun p9 =>
zix (zhl h6 p9) a3 fun j8 =>
if (zhd h6 p9 j8) = 0 then Co_lookAhead_99 kr r7 a0 a1 a2 a3 h6
else zob h6 2 a0 fun p10 =>
zob h6 2 a0 fun p11 =>
zlet (zset h6 p11 9 (zor (zhd h6 p10 9) (zshl 1 a3))) fun h12 =>
Co_lookAhead_99 kr r7 a0 a1 a2 a3 h12
def Co_lookAhead_42 {ρ : Type} (kr : Int → zH → Option ρ) (r7 : Int → Int → Int → Int → zH → Option ρ) (a0 a1 a2 a3 a4 t0 t1 t2 : Int) (h : zH) : Option ρ :=
zob h 20 t2 fun p2 =>
zix (zhl h p2) t1 fun j1 =>
zlet (zset h p2 j1 t0) fun h3 =>
zob h3 2 a0 fun p4 =>
if a4 < 0 then Co_lookAhead_66 kr r7 a0 a1 a2 a3 0 a3 (zhd h3 p4 7) h3
else zob h3 8 a2 fun p5 =>
zob h3 6 a4 fun _ =>
Th_at a4 (zhd h3 p5 2) h3  fun v6 h7 =>
Co_lookAhead_66 kr r7 a0 a1 a2 a3 v6 a3 (zhd h3 p4 7) h7
def Co_lookAhead_127 {ρ : Type} (kr : Int → zH → Option ρ) (t0 t1 : Int) (h : zH) : Option ρ :=
zob h 2 t1 fun p1 =>
zlet (zset h p1 10 t0) fun h2 =>
kr 0 h2
def Co_lookAhead_7b {ρ : Type} (kr : Int → zH → Option ρ) (r7 : Int → Int → Int → Int → zH → Option ρ) (a0 a1 a2 a3 : Int) (h : zH) : Option ρ :=
if a3 < 4 then (zob h 11 a1 fun _ =>
Gr_threadIn a1 a3 h  fun v6 h7 =>
zob h7 2 a0 fun p8 =>
if v6 < 0 then Co_lookAhead_42 kr r7 a0 a1 a2 a3 v6 0 a3 (zhd h7 p8 6) h7
else zob h7 8 a2 fun _ =>
In_cellRegister a2 h7  fun v9 h10 =>
zob h10 6 v6 fun _ =>
Th_at v6 v9 h10  fun v11 h12 =>
Co_lookAhead_42 kr r7 a0 a1 a2 a3 v6 v11 a3 (zhd h7 p8 6) h12)
else zob h 8 a2 fun _ =>
In_isOneOf a2 1 h  fun v1 h2 =>
if v1 = 0 then Co_lookAhead_127 kr 0 a0 h2
else zob h2 2 a0 fun p3 =>
zob h2 11 a1 fun _ =>
Gr_writeAll a1 (zhd h2 p3 1) h2  fun v4 h5 =>
Co_lookAhead_127 kr v4 a0 h5
def Co_lookAhead_7 {ρ : Type} (kr : Int → zH → Option ρ) : Int → Int → Int → Int → zH → Option ρ := zit (fun _ _ _ _ _ => none) (Co_lookAhead_7b kr) zN
def Co_lookAhead {ρ : Type} (a0 a1 a2 : Int) (h : zH) (kr : Int → zH → Option ρ) : Option ρ :=
zob h 2 a0 fun p1 =>
zlet (zset h p1 9 0) fun h2 =>
Co_lookAhead_7 kr a0 a1 a2 0 h2
set_option maxRecDepth 100000 in
theorem qe_Co_lookAhead_99 {ρ : Type} (kr : Int → zH → Option ρ) (r7 : Int → Int → Int → Int → zH → Option ρ) (a0 a1 a2 a3 : Int) (h : zH) : Co_lookAhead_99 kr r7 a0 a1 a2 a3 h = zseg zPP true (fun _ _ => none) (zcal []) (zget (999, 0, 0, 0) zc_Co_lookAhead) (zcut [(7, [true, true, true, true, false]), (42, [true, true, true, true, true]), (66, [true, true, true, true, false]), (99, [true, true, true, true, false]), (127, [false, false, false, false, false])]) (zorc [(7, [some (2, none), some (2, none), some (2, none), some (0, none), none], [], fun xs h => match xs with
  | [a0, a1, a2, a3] => r7 a0 a1 a2 a3 h
  | _ => none)]) kr (fun _ _ => none) 400 99 [some (2, a0), some (2, a1), some (2, a2), some (0, a3), none] [] h := by rfl
set_option maxRecDepth 100000 in
theorem qe_Co_lookAhead_66 {ρ : Type} (kr : Int → zH → Option ρ) (r7 : Int → Int → Int → Int → zH → Option ρ) (a0 a1 a2 a3 t0 t1 t2 : Int) (h : zH) : Co_lookAhead_66 kr r7 a0 a1 a2 a3 t0 t1 t2 h = zseg zPP true (fun _ _ => none) (zcal [(50, [none, none], fun xs h kr kt => match xs with
  | [x0, x1] => X_isIn x0 x1 h kr
  | _ => none)]) (zget (999, 0, 0, 0) zc_Co_lookAhead) (zcut [(7, [true, true, true, true, false]), (42, [true, true, true, true, true]), (66, [true, true, true, true, false]), (99, [true, true, true, true, false]), (127, [false, false, false, false, false])]) (zorc [(99, [some (2, none), some (2, none), some (2, none), some (0, none), none], [], fun xs h => match xs with
  | [a0, a1, a2, a3] => Co_lookAhead_99 kr r7 a0 a1 a2 a3 h
  | _ => none)]) kr (fun _ _ => none) 400 66 [some (2, a0), some (2, a1), some (2, a2), some (0, a3), none] [(0, t0), (0, t1), (2, t2)] h := by rfl
set_option maxRecDepth 100000 in
theorem qe_Co_lookAhead_42 {ρ : Type} (kr : Int → zH → Option ρ) (r7 : Int → Int → Int → Int → zH → Option ρ) (a0 a1 a2 a3 a4 t0 t1 t2 : Int) (h : zH) : Co_lookAhead_42 kr r7 a0 a1 a2 a3 a4 t0 t1 t2 h = zseg zPP true (fun _ _ => none) (zcal [(249, [none, none], fun xs h kr kt => match xs with
  | [x0, x1] => Th_at x0 x1 h kr
  | _ => none)]) (zget (999, 0, 0, 0) zc_Co_lookAhead) (zcut [(7, [true, true, true, true, false]), (42, [true, true, true, true, true]), (66, [true, true, true, true, false]), (99, [true, true, true, true, false]), (127, [false, false, false, false, false])]) (zorc [(66, [some (2, none), some (2, none), some (2, none), some (0, none), none], [(0, none), (0, none), (2, none)], fun xs h => match xs with
  | [a0, a1, a2, a3, t0, t1, t2] => Co_lookAhead_66 kr r7 a0 a1 a2 a3 t0 t1 t2 h
  | _ => none)]) kr (fun _ _ => none) 400 42 [some (2, a0), some (2, a1), some (2, a2), some (0, a3), some (2, a4)] [(0, t0), (0, t1), (2, t2)] h := by rfl
set_option maxRecDepth 100000 in
theorem qe_Co_lookAhead_127 {ρ : Type} (kr : Int → zH → Option ρ) (t0 t1 : Int) (h : zH) : Co_lookAhead_127 kr t0 t1 h = zseg zPP true (fun _ _ => none) (zcal []) (zget (999, 0, 0, 0) zc_Co_lookAhead) (zcut [(7, [true, true, true, true, false]), (42, [true, true, true, true, true]), (66, [true, true, true, true, false]), (99, [true, true, true, true, false]), (127, [false, false, false, false, false])]) (zorc []) kr (fun _ _ => none) 400 127 [none, none, none, none, none] [(0, t0), (2, t1)] h := by rfl
set_option maxRecDepth 100000 in
theorem qe_Co_lookAhead_7b {ρ : Type} (kr : Int → zH → Option ρ) (r7 : Int → Int → Int → Int → zH → Option ρ) (a0 a1 a2 a3 : Int) (h : zH) : Co_lookAhead_7b kr r7 a0 a1 a2 a3 h = zseg zPP true (fun _ _ => none) (zcal [(194, [none, none], fun xs h kr kt => match xs with
  | [x0, x1] => Gr_threadIn x0 x1 h kr
  | _ => none), (208, [none, none], fun xs h kr kt => match xs with
  | [x0, x1] => Gr_writeAll x0 x1 h kr
  | _ => none), (210, [none, none], fun xs h kr kt => match xs with
  | [x0, x1] => In_isOneOf x0 x1 h kr
  | _ => none), (212, [none], fun xs h kr kt => match xs with
  | [x0] => In_cellRegister x0 h kr
  | _ => none), (249, [none, none], fun xs h kr kt => match xs with
  | [x0, x1] => Th_at x0 x1 h kr
  | _ => none)]) (zget (999, 0, 0, 0) zc_Co_lookAhead) (zcut [(7, [true, true, true, true, false]), (42, [true, true, true, true, true]), (66, [true, true, true, true, false]), (99, [true, true, true, true, false]), (127, [false, false, false, false, false])]) (zorc [(42, [some (2, none), some (2, none), some (2, none), some (0, none), some (2, none)], [(0, none), (0, none), (2, none)], fun xs h => match xs with
  | [a0, a1, a2, a3, a4, t0, t1, t2] => Co_lookAhead_42 kr r7 a0 a1 a2 a3 a4 t0 t1 t2 h
  | _ => none), (127, [none, none, none, none, none], [(0, none), (2, none)], fun xs h => match xs with
  | [t0, t1] => Co_lookAhead_127 kr t0 t1 h
  | _ => none)]) kr (fun _ _ => none) 400 7 [some (2, a0), some (2, a1), some (2, a2), some (0, a3), none] [] h := by rfl
set_option maxRecDepth 100000 in
theorem qe_Co_lookAhead {ρ : Type} (kr : Int → zH → Option ρ) (a0 a1 a2 : Int) (h : zH) : Co_lookAhead a0 a1 a2 h kr = zseg zPP true (fun _ _ => none) (zcal []) (zget (999, 0, 0, 0) zc_Co_lookAhead) (zcut [(7, [true, true, true, true, false]), (42, [true, true, true, true, true]), (66, [true, true, true, true, false]), (99, [true, true, true, true, false]), (127, [false, false, false, false, false])]) (zorc [(7, [some (2, none), some (2, none), some (2, none), some (0, none), none], [], fun xs h => match xs with
  | [a0, a1, a2, a3] => Co_lookAhead_7 kr a0 a1 a2 a3 h
  | _ => none)]) kr (fun _ _ => none) 400 0 [some (2, a0), some (2, a1), some (2, a2), none, none] [] h := by rfl
def zc_Th_set : List zI := [(10, 0, 1, 0), (62, 19, 20, 0), (999, 0, 0, 0), (999, 0, 0, 0), (10, 0, 1, 0), (14, 0, 0, 0), (80, 6, 21, 1), (999, 0, 0, 0), (999, 0, 0, 0), (100, 0, 0, 20), (69, 10, 20, 0), (999, 0, 0, 0), (999, 0, 0, 0), (14, 0, 0, 0), (80, 6, 21, 1), (999, 0, 0, 0), (999, 0, 0, 0), (10, 0, 1, 0), (10, 0, 2, 0), (95, 0, 0, 0), (133, 0, 0, 0)]
def Th_set_20 {ρ : Type} (kr : Int → zH → Option ρ) (h : zH) : Option ρ :=
kr 0 h
def Th_set {ρ : Type} (a0 a1 a2 : Int) (h : zH) (kr : Int → zH → Option ρ) : Option ρ :=
if a1 < 0 then Th_set_20 kr h
else zob h 6 a0 fun p1 =>
zob h 20 (zhd h p1 1) fun p2 =>
if a1 < (zhl h p2 : Int) then (zob h 6 a0 fun p3 =>
zob h 20 (zhd h p3 1) fun p5 =>
zix (zhl h p5) a1 fun j4 =>
zlet (zset h p5 j4 a2) fun h6 =>
Th_set_20 kr h6)
else Th_set_20 kr h
set_option maxRecDepth 100000 in
theorem qe_Th_set_20 {ρ : Type} (kr : Int → zH → Option ρ) (h : zH) : Th_set_20 kr h = zseg zPP true (fun _ _ => none) (zcal []) (zget (999, 0, 0, 0) zc_Th_set) (zcut [(20, [false, false, false])]) (zorc []) kr (fun _ _ => none) 400 20 [none, none, none] [] h := by rfl
set_option maxRecDepth 100000 in
theorem qe_Th_set {ρ : Type} (kr : Int → zH → Option ρ) (a0 a1 a2 : Int) (h : zH) : Th_set a0 a1 a2 h kr = zseg zPP true (fun _ _ => none) (zcal []) (zget (999, 0, 0, 0) zc_Th_set) (zcut [(20, [false, false, false])]) (zorc [(20, [none, none, none], [], fun xs h => match xs with
  | [] => Th_set_20 kr  h
  | _ => none)]) kr (fun _ _ => none) 400 0 [some (2, a0), some (0, a1), some (0, a2)] [] h := by rfl
def zc_X_exchange : List zI := [(14, 0, 0, 0), (10, 0, 1, 0), (90, 0, 0, 0), (17, 0, 4, 0), (999, 0, 0, 0), (14, 0, 2, 0), (14, 0, 3, 0), (80, 8, 305, 3), (999, 0, 0, 0), (999, 0, 0, 0), (110, 0, 217, 249), (999, 0, 0, 0), (999, 0, 0, 0), (17, 0, 5, 0), (999, 0, 0, 0), (14, 0, 0, 0), (10, 0, 1, 0), (14, 0, 3, 0), (80, 8, 308, 0), (999, 0, 0, 0), (999, 0, 0, 0), (1, 97, 0, 0), (999, 0, 0, 0), (67, 11, 34, 0), (999, 0, 0, 0), (999, 0, 0, 0), (11, 0, 4, 0), (999, 0, 0, 0), (11, 0, 5, 0), (999, 0, 0, 0), (30, 0, 0, 0), (72, 5, 36, 0), (999, 0, 0, 0), (999, 0, 0, 0), (11, 0, 5, 0), (999, 0, 0, 0), (95, 0, 0, 0), (14, 0, 2, 0), (14, 0, 3, 0), (80, 8, 311, 1), (999, 0, 0, 0), (999, 0, 0, 0), (11, 0, 4, 0), (999, 0, 0, 0), (110, 0, 314, 250), (999, 0, 0, 0), (999, 0, 0, 0), (133, 0, 0, 0)]
def X_exchange_36 {ρ : Type} (kr : Int → zH → Option ρ) (a2 a3 a4 t0 t1 t2 : Int) (h : zH) : Option ρ :=
zob h 20 t2 fun p2 =>
zix (zhl h p2) t1 fun j1 =>
zlet (zset h p2 j1 t0) fun h3 =>
zob h3 8 a3 fun p4 =>
zob h3 6 a2 fun _ =>
Th_set a2 (zhd h3 p4 1) a4 h3  fun _ h6 =>
kr 0 h6
def X_exchange {ρ : Type} (a0 a1 a2 a3 : Int) (h : zH) (kr : Int → zH → Option ρ) : Option ρ :=
zob h 20 a0 fun p2 =>
zix (zhl h p2) a1 fun j1 =>
zob h 8 a3 fun p3 =>
zob h 6 a2 fun _ =>
Th_at a2 (zhd h p3 3) h  fun v4 h5 =>
zob h5 8 a3 fun p6 =>
if (zhd h5 p6 0) = 97 then X_exchange_36 kr a2 a3 (zhd h p2 j1) (wr ((zhd h p2 j1) + v4)) a1 a0 h5
else X_exchange_36 kr a2 a3 (zhd h p2 j1) v4 a1 a0 h5
set_option maxRecDepth 100000 in
theorem qe_X_exchange_36 {ρ : Type} (kr : Int → zH → Option ρ) (a2 a3 a4 t0 t1 t2 : Int) (h : zH) : X_exchange_36 kr a2 a3 a4 t0 t1 t2 h = zseg zPP true (fun _ _ => none) (zcal [(250, [none, none, none], fun xs h kr kt => match xs with
  | [x0, x1, x2] => Th_set x0 x1 x2 h kr
  | _ => none)]) (zget (999, 0, 0, 0) zc_X_exchange) (zcut [(36, [false, false, true, true, true, false])]) (zorc []) kr (fun _ _ => none) 400 36 [none, none, some (2, a2), some (2, a3), some (0, a4), none] [(0, t0), (0, t1), (2, t2)] h := by rfl
set_option maxRecDepth 100000 in
theorem qe_X_exchange {ρ : Type} (kr : Int → zH → Option ρ) (a0 a1 a2 a3 : Int) (h : zH) : X_exchange a0 a1 a2 a3 h kr = zseg zPP true (fun _ _ => none) (zcal [(249, [none, none], fun xs h kr kt => match xs with
  | [x0, x1] => Th_at x0 x1 h kr
  | _ => none)]) (zget (999, 0, 0, 0) zc_X_exchange) (zcut [(36, [false, false, true, true, true, false])]) (zorc [(36, [none, none, some (2, none), some (2, none), some (0, none), none], [(0, none), (0, none), (2, none)], fun xs h => match xs with
  | [a2, a3, a4, t0, t1, t2] => X_exchange_36 kr a2 a3 a4 t0 t1 t2 h
  | _ => none)]) kr (fun _ _ => none) 400 0 [some (2, a0), some (0, a1), some (2, a2), some (2, a3), none, none] [] h := by rfl
def zc_X_isClash : List zI := [(10, 0, 2, 0), (60, 11, 12, 0), (999, 0, 0, 0), (999, 0, 0, 0), (10, 0, 0, 0), (4, 65535, 304, 0), (999, 0, 0, 0), (999, 0, 0, 0), (36, 0, 0, 0), (72, 7, 16, 0), (999, 0, 0, 0), (999, 0, 0, 0), (10, 0, 0, 0), (1, 16, 0, 0), (999, 0, 0, 0), (41, 0, 0, 0), (16, 0, 3, 0), (10, 0, 3, 0), (0, 1, 0, 0), (10, 0, 1, 0), (39, 0, 0, 0), (0, (-1), 0, 0), (38, 0, 0, 0), (36, 0, 0, 0), (60, 7, 31, 0), (999, 0, 0, 0), (999, 0, 0, 0), (0, 1, 0, 0), (72, 4, 32, 0), (999, 0, 0, 0), (999, 0, 0, 0), (0, 0, 0, 0), (130, 0, 1, 0)]
def X_isClash_32 {ρ : Type} (kr : Int → zH → Option ρ) (t0 : Int) (h : zH) : Option ρ :=
znar 1 t0 fun x1 => kr x1 h
def X_isClash_16 {ρ : Type} (kr : Int → zH → Option ρ) (a1 t0 : Int) (h : zH) : Option ρ :=
if (zand t0 (zxor (zshl 1 a1) (-1))) = 0 then X_isClash_32 kr 0 h
else X_isClash_32 kr 1 h
def X_isClash {ρ : Type} (a0 a1 a2 : Int) (h : zH) (kr : Int → zH → Option ρ) : Option ρ :=
if a2 = 0 then X_isClash_16 kr a1 (zushr a0 16) h
else X_isClash_16 kr a1 (zand a0 65535) h
set_option maxRecDepth 100000 in
theorem qe_X_isClash_32 {ρ : Type} (kr : Int → zH → Option ρ) (t0 : Int) (h : zH) : X_isClash_32 kr t0 h = zseg zPP true (fun _ _ => none) (zcal []) (zget (999, 0, 0, 0) zc_X_isClash) (zcut [(16, [false, true, false, false]), (32, [false, false, false, false])]) (zorc []) kr (fun _ _ => none) 400 32 [none, none, none, none] [(0, t0)] h := by rfl
set_option maxRecDepth 100000 in
theorem qe_X_isClash_16 {ρ : Type} (kr : Int → zH → Option ρ) (a1 t0 : Int) (h : zH) : X_isClash_16 kr a1 t0 h = zseg zPP true (fun _ _ => none) (zcal []) (zget (999, 0, 0, 0) zc_X_isClash) (zcut [(16, [false, true, false, false]), (32, [false, false, false, false])]) (zorc [(32, [none, none, none, none], [(0, none)], fun xs h => match xs with
  | [t0] => X_isClash_32 kr t0 h
  | _ => none)]) kr (fun _ _ => none) 400 16 [none, some (0, a1), none, none] [(0, t0)] h := by rfl
set_option maxRecDepth 100000 in
theorem qe_X_isClash {ρ : Type} (kr : Int → zH → Option ρ) (a0 a1 a2 : Int) (h : zH) : X_isClash a0 a1 a2 h kr = zseg zPP true (fun _ _ => none) (zcal []) (zget (999, 0, 0, 0) zc_X_isClash) (zcut [(16, [false, true, false, false]), (32, [false, false, false, false])]) (zorc [(16, [none, some (0, none), none, none], [(0, none)], fun xs h => match xs with
  | [a1, t0] => X_isClash_16 kr a1 t0 h
  | _ => none)]) kr (fun _ _ => none) 400 0 [some (0, a0), some (0, a1), some (0, a2), none] [] h := by rfl
def zc_X_withTouch : List zI := [(10, 0, 0, 0), (0, 1, 0, 0), (10, 0, 1, 0), (39, 0, 0, 0), (37, 0, 0, 0), (16, 0, 3, 0), (10, 0, 2, 0), (60, 14, 21, 0), (999, 0, 0, 0), (999, 0, 0, 0), (10, 0, 3, 0), (0, 1, 0, 0), (1, 16, 0, 0), (999, 0, 0, 0), (10, 0, 1, 0), (30, 0, 0, 0), (39, 0, 0, 0), (37, 0, 0, 0), (72, 4, 22, 0), (999, 0, 0, 0), (999, 0, 0, 0), (10, 0, 3, 0), (130, 0, 0, 0)]
def X_withTouch_22 {ρ : Type} (kr : Int → zH → Option ρ) (t0 : Int) (h : zH) : Option ρ :=
kr t0 h
def X_withTouch {ρ : Type} (a0 a1 a2 : Int) (h : zH) (kr : Int → zH → Option ρ) : Option ρ :=
if a2 = 0 then X_withTouch_22 kr (zor a0 (zshl 1 a1)) h
else X_withTouch_22 kr (zor (zor a0 (zshl 1 a1)) (zshl 1 (wr (16 + a1)))) h
set_option maxRecDepth 100000 in
theorem qe_X_withTouch_22 {ρ : Type} (kr : Int → zH → Option ρ) (t0 : Int) (h : zH) : X_withTouch_22 kr t0 h = zseg zPP true (fun _ _ => none) (zcal []) (zget (999, 0, 0, 0) zc_X_withTouch) (zcut [(22, [false, false, false, false])]) (zorc []) kr (fun _ _ => none) 400 22 [none, none, none, none] [(0, t0)] h := by rfl
set_option maxRecDepth 100000 in
theorem qe_X_withTouch {ρ : Type} (kr : Int → zH → Option ρ) (a0 a1 a2 : Int) (h : zH) : X_withTouch a0 a1 a2 h kr = zseg zPP true (fun _ _ => none) (zcal []) (zget (999, 0, 0, 0) zc_X_withTouch) (zcut [(22, [false, false, false, false])]) (zorc [(22, [none, none, none, none], [(0, none)], fun xs h => match xs with
  | [t0] => X_withTouch_22 kr t0 h
  | _ => none)]) kr (fun _ _ => none) 400 0 [some (0, a0), some (0, a1), some (0, a2), none] [] h := by rfl
def zc_La_markRace : List zI := [(14, 0, 0, 0), (80, 9, 19, 17), (999, 0, 0, 0), (999, 0, 0, 0), (10, 0, 1, 0), (91, 0, 0, 0), (61, 20, 26, 0), (999, 0, 0, 0), (999, 0, 0, 0), (14, 0, 0, 0), (80, 9, 19, 17), (999, 0, 0, 0), (999, 0, 0, 0), (10, 0, 1, 0), (0, 1, 0, 0), (96, 0, 0, 0), (14, 0, 0, 0), (50, 0, 0, 0), (80, 9, 72, 18), (999, 0, 0, 0), (999, 0, 0, 0), (0, 1, 0, 0), (30, 0, 0, 0), (82, 9, 72, 18), (999, 0, 0, 0), (999, 0, 0, 0), (133, 0, 0, 0)]
def La_markRace_26 {ρ : Type} (kr : Int → zH → Option ρ) (h : zH) : Option ρ :=
kr 0 h
def La_markRace {ρ : Type} (a0 a1 : Int) (h : zH) (kr : Int → zH → Option ρ) : Option ρ :=
zob h 9 a0 fun p1 =>
zob h 21 (zhd h p1 17) fun p3 =>
zix (zhl h p3) a1 fun j2 =>
if (zhd h p3 j2) = 0 then (zob h 9 a0 fun p4 =>
zob h 21 (zhd h p4 17) fun p6 =>
zix (zhl h p6) a1 fun j5 =>
zlet (zset h p6 j5 1) fun h7 =>
zob h7 9 a0 fun p8 =>
zob h7 9 a0 fun p9 =>
zlet (zset h7 p9 18 (wr ((zhd h7 p8 18) + 1))) fun h10 =>
La_markRace_26 kr h10)
else La_markRace_26 kr h
set_option maxRecDepth 100000 in
theorem qe_La_markRace_26 {ρ : Type} (kr : Int → zH → Option ρ) (h : zH) : La_markRace_26 kr h = zseg zPP true (fun _ _ => none) (zcal []) (zget (999, 0, 0, 0) zc_La_markRace) (zcut [(26, [false, false])]) (zorc []) kr (fun _ _ => none) 400 26 [none, none] [] h := by rfl
set_option maxRecDepth 100000 in
theorem qe_La_markRace {ρ : Type} (kr : Int → zH → Option ρ) (a0 a1 : Int) (h : zH) : La_markRace a0 a1 h kr = zseg zPP true (fun _ _ => none) (zcal []) (zget (999, 0, 0, 0) zc_La_markRace) (zcut [(26, [false, false])]) (zorc [(26, [none, none], [], fun xs h => match xs with
  | [] => La_markRace_26 kr  h
  | _ => none)]) kr (fun _ _ => none) 400 0 [some (2, a0), some (0, a1)] [] h := by rfl
def zc_Bl_touchGlobal : List zI := [(14, 0, 0, 0), (80, 10, 9, 5), (999, 0, 0, 0), (999, 0, 0, 0), (10, 0, 2, 0), (90, 0, 0, 0), (10, 0, 1, 0), (10, 0, 3, 0), (114, 0, 104, 52), (999, 0, 0, 0), (999, 0, 0, 0), (61, 23, 34, 0), (999, 0, 0, 0), (999, 0, 0, 0), (14, 0, 0, 0), (80, 10, 15, 0), (999, 0, 0, 0), (999, 0, 0, 0), (80, 9, 108, 16), (999, 0, 0, 0), (999, 0, 0, 0), (10, 0, 2, 0), (90, 0, 0, 0), (14, 0, 0, 0), (80, 10, 19, 1), (999, 0, 0, 0), (999, 0, 0, 0), (10, 0, 3, 0), (114, 0, 104, 52), (999, 0, 0, 0), (999, 0, 0, 0), (60, 11, 42, 0), (999, 0, 0, 0), (999, 0, 0, 0), (14, 0, 0, 0), (80, 10, 15, 0), (999, 0, 0, 0), (999, 0, 0, 0), (10, 0, 2, 0), (110, 0, 109, 229), (999, 0, 0, 0), (999, 0, 0, 0), (14, 0, 0, 0), (80, 10, 9, 5), (999, 0, 0, 0), (999, 0, 0, 0), (10, 0, 2, 0), (14, 0, 0, 0), (80, 10, 9, 5), (999, 0, 0, 0), (999, 0, 0, 0), (10, 0, 2, 0), (90, 0, 0, 0), (10, 0, 1, 0), (10, 0, 3, 0), (114, 0, 113, 53), (999, 0, 0, 0), (999, 0, 0, 0), (95, 0, 0, 0), (14, 0, 0, 0), (80, 10, 15, 0), (999, 0, 0, 0), (999, 0, 0, 0), (80, 9, 108, 16), (999, 0, 0, 0), (999, 0, 0, 0), (10, 0, 2, 0), (14, 0, 0, 0), (80, 10, 15, 0), (999, 0, 0, 0), (999, 0, 0, 0), (80, 9, 108, 16), (999, 0, 0, 0), (999, 0, 0, 0), (10, 0, 2, 0), (90, 0, 0, 0), (14, 0, 0, 0), (80, 10, 19, 1), (999, 0, 0, 0), (999, 0, 0, 0), (10, 0, 3, 0), (114, 0, 113, 53), (999, 0, 0, 0), (999, 0, 0, 0), (95, 0, 0, 0), (133, 0, 0, 0)]
def Bl_touchGlobal_42 {ρ : Type} (kr : Int → zH → Option ρ) (a0 a1 a2 a3 : Int) (h : zH) : Option ρ :=
zob h 10 a0 fun p1 =>
zob h 10 a0 fun p2 =>
zob h 20 (zhd h p2 5) fun p4 =>
zix (zhl h p4) a2 fun j3 =>
X_withTouch (zhd h p4 j3) a1 a3 h  fun v5 h6 =>
zob h6 20 (zhd h p1 5) fun p8 =>
zix (zhl h6 p8) a2 fun j7 =>
zlet (zset h6 p8 j7 v5) fun h9 =>
zob h9 10 a0 fun p10 =>
zob h9 9 (zhd h9 p10 0) fun p11 =>
zob h9 10 a0 fun p12 =>
zob h9 9 (zhd h9 p12 0) fun p13 =>
zob h9 20 (zhd h9 p13 16) fun p15 =>
zix (zhl h9 p15) a2 fun j14 =>
zob h9 10 a0 fun p16 =>
X_withTouch (zhd h9 p15 j14) (zhd h9 p16 1) a3 h9  fun v17 h18 =>
zob h18 20 (zhd h9 p11 16) fun p20 =>
zix (zhl h18 p20) a2 fun j19 =>
zlet (zset h18 p20 j19 v17) fun h21 =>
kr 0 h21
def Bl_touchGlobal_34 {ρ : Type} (kr : Int → zH → Option ρ) (a0 a1 a2 a3 : Int) (h : zH) : Option ρ :=
zob h 10 a0 fun p1 =>
zob h 9 (zhd h p1 0) fun _ =>
La_markRace (zhd h p1 0) a2 h  fun _ h3 =>
Bl_touchGlobal_42 kr a0 a1 a2 a3 h3
def Bl_touchGlobal {ρ : Type} (a0 a1 a2 a3 : Int) (h : zH) (kr : Int → zH → Option ρ) : Option ρ :=
zob h 10 a0 fun p1 =>
zob h 20 (zhd h p1 5) fun p3 =>
zix (zhl h p3) a2 fun j2 =>
X_isClash (zhd h p3 j2) a1 a3 h  fun v4 h5 =>
if v4 = 0 then (zob h5 10 a0 fun p6 =>
zob h5 9 (zhd h5 p6 0) fun p7 =>
zob h5 20 (zhd h5 p7 16) fun p9 =>
zix (zhl h5 p9) a2 fun j8 =>
zob h5 10 a0 fun p10 =>
X_isClash (zhd h5 p9 j8) (zhd h5 p10 1) a3 h5  fun v11 h12 =>
if v11 = 0 then Bl_touchGlobal_42 kr a0 a1 a2 a3 h12
else Bl_touchGlobal_34 kr a0 a1 a2 a3 h12)
else Bl_touchGlobal_34 kr a0 a1 a2 a3 h5
set_option maxRecDepth 100000 in
theorem qe_Bl_touchGlobal_42 {ρ : Type} (kr : Int → zH → Option ρ) (a0 a1 a2 a3 : Int) (h : zH) : Bl_touchGlobal_42 kr a0 a1 a2 a3 h = zseg zPP true (fun _ _ => none) (zcal [(53, [none, none, none], fun xs h kr kt => match xs with
  | [x0, x1, x2] => X_withTouch x0 x1 x2 h kr
  | _ => none)]) (zget (999, 0, 0, 0) zc_Bl_touchGlobal) (zcut [(34, [true, true, true, true]), (42, [true, true, true, true])]) (zorc []) kr (fun _ _ => none) 400 42 [some (2, a0), some (0, a1), some (0, a2), some (0, a3)] [] h := by rfl
set_option maxRecDepth 100000 in
theorem qe_Bl_touchGlobal_34 {ρ : Type} (kr : Int → zH → Option ρ) (a0 a1 a2 a3 : Int) (h : zH) : Bl_touchGlobal_34 kr a0 a1 a2 a3 h = zseg zPP true (fun _ _ => none) (zcal [(229, [none, none], fun xs h kr kt => match xs with
  | [x0, x1] => La_markRace x0 x1 h kr
  | _ => none)]) (zget (999, 0, 0, 0) zc_Bl_touchGlobal) (zcut [(34, [true, true, true, true]), (42, [true, true, true, true])]) (zorc [(42, [some (2, none), some (0, none), some (0, none), some (0, none)], [], fun xs h => match xs with
  | [a0, a1, a2, a3] => Bl_touchGlobal_42 kr a0 a1 a2 a3 h
  | _ => none)]) kr (fun _ _ => none) 400 34 [some (2, a0), some (0, a1), some (0, a2), some (0, a3)] [] h := by rfl
set_option maxRecDepth 100000 in
theorem qe_Bl_touchGlobal {ρ : Type} (kr : Int → zH → Option ρ) (a0 a1 a2 a3 : Int) (h : zH) : Bl_touchGlobal a0 a1 a2 a3 h kr = zseg zPP true (fun _ _ => none) (zcal [(52, [none, none, none], fun xs h kr kt => match xs with
  | [x0, x1, x2] => X_isClash x0 x1 x2 h kr
  | _ => none)]) (zget (999, 0, 0, 0) zc_Bl_touchGlobal) (zcut [(34, [true, true, true, true]), (42, [true, true, true, true])]) (zorc [(34, [some (2, none), some (0, none), some (0, none), some (0, none)], [], fun xs h => match xs with
  | [a0, a1, a2, a3] => Bl_touchGlobal_34 kr a0 a1 a2 a3 h
  | _ => none), (42, [some (2, none), some (0, none), some (0, none), some (0, none)], [], fun xs h => match xs with
  | [a0, a1, a2, a3] => Bl_touchGlobal_42 kr a0 a1 a2 a3 h
  | _ => none)]) kr (fun _ _ => none) 400 0 [some (2, a0), some (0, a1), some (0, a2), some (0, a3)] [] h := by rfl
def zc_Gr_isBufferFull : List zI := [(14, 0, 0, 0), (80, 11, 67, 5), (999, 0, 0, 0), (999, 0, 0, 0), (0, 4, 0, 0), (68, 7, 12, 0), (999, 0, 0, 0), (999, 0, 0, 0), (0, 1, 0, 0), (72, 4, 13, 0), (999, 0, 0, 0), (999, 0, 0, 0), (0, 0, 0, 0), (130, 0, 1, 0)]
def Gr_isBufferFull_13 {ρ : Type} (kr : Int → zH → Option ρ) (t0 : Int) (h : zH) : Option ρ :=
znar 1 t0 fun x1 => kr x1 h
def Gr_isBufferFull {ρ : Type} (a0 : Int) (h : zH) (kr : Int → zH → Option ρ) : Option ρ :=
zob h 11 a0 fun p1 =>
if (zhd h p1 5) < 4 then Gr_isBufferFull_13 kr 0 h
else Gr_isBufferFull_13 kr 1 h
set_option maxRecDepth 100000 in
theorem qe_Gr_isBufferFull_13 {ρ : Type} (kr : Int → zH → Option ρ) (t0 : Int) (h : zH) : Gr_isBufferFull_13 kr t0 h = zseg zPP true (fun _ _ => none) (zcal []) (zget (999, 0, 0, 0) zc_Gr_isBufferFull) (zcut [(13, [false])]) (zorc []) kr (fun _ _ => none) 400 13 [none] [(0, t0)] h := by rfl
set_option maxRecDepth 100000 in
theorem qe_Gr_isBufferFull {ρ : Type} (kr : Int → zH → Option ρ) (a0 : Int) (h : zH) : Gr_isBufferFull a0 h kr = zseg zPP true (fun _ _ => none) (zcal []) (zget (999, 0, 0, 0) zc_Gr_isBufferFull) (zcut [(13, [false])]) (zorc [(13, [none], [(0, none)], fun xs h => match xs with
  | [t0] => Gr_isBufferFull_13 kr t0 h
  | _ => none)]) kr (fun _ _ => none) 400 0 [some (2, a0)] [] h := by rfl
def zc_Gr_putWrite : List zI := [(14, 0, 0, 0), (110, 0, 70, 203), (999, 0, 0, 0), (999, 0, 0, 0), (61, 33, 37, 0), (999, 0, 0, 0), (999, 0, 0, 0), (14, 0, 0, 0), (80, 11, 11, 3), (999, 0, 0, 0), (999, 0, 0, 0), (14, 0, 0, 0), (80, 11, 67, 5), (999, 0, 0, 0), (999, 0, 0, 0), (10, 0, 1, 0), (95, 0, 0, 0), (14, 0, 0, 0), (80, 11, 15, 4), (999, 0, 0, 0), (999, 0, 0, 0), (14, 0, 0, 0), (80, 11, 67, 5), (999, 0, 0, 0), (999, 0, 0, 0), (10, 0, 2, 0), (95, 0, 0, 0), (14, 0, 0, 0), (50, 0, 0, 0), (80, 11, 67, 5), (999, 0, 0, 0), (999, 0, 0, 0), (0, 1, 0, 0), (30, 0, 0, 0), (82, 11, 67, 5), (999, 0, 0, 0), (999, 0, 0, 0), (133, 0, 0, 0)]
def Gr_putWrite_37 {ρ : Type} (kr : Int → zH → Option ρ) (h : zH) : Option ρ :=
kr 0 h
def Gr_putWrite {ρ : Type} (a0 a1 a2 : Int) (h : zH) (kr : Int → zH → Option ρ) : Option ρ :=
zob h 11 a0 fun _ =>
Gr_isBufferFull a0 h  fun v1 h2 =>
if v1 = 0 then (zob h2 11 a0 fun p3 =>
zob h2 11 a0 fun p4 =>
zob h2 20 (zhd h2 p3 3) fun p6 =>
zix (zhl h2 p6) (zhd h2 p4 5) fun j5 =>
zlet (zset h2 p6 j5 a1) fun h7 =>
zob h7 11 a0 fun p8 =>
zob h7 11 a0 fun p9 =>
zob h7 20 (zhd h7 p8 4) fun p11 =>
zix (zhl h7 p11) (zhd h7 p9 5) fun j10 =>
zlet (zset h7 p11 j10 a2) fun h12 =>
zob h12 11 a0 fun p13 =>
zob h12 11 a0 fun p14 =>
zlet (zset h12 p14 5 (wr ((zhd h12 p13 5) + 1))) fun h15 =>
Gr_putWrite_37 kr h15)
else Gr_putWrite_37 kr h2
set_option maxRecDepth 100000 in
theorem qe_Gr_putWrite_37 {ρ : Type} (kr : Int → zH → Option ρ) (h : zH) : Gr_putWrite_37 kr h = zseg zPP true (fun _ _ => none) (zcal []) (zget (999, 0, 0, 0) zc_Gr_putWrite) (zcut [(37, [false, false, false])]) (zorc []) kr (fun _ _ => none) 400 37 [none, none, none] [] h := by rfl
set_option maxRecDepth 100000 in
theorem qe_Gr_putWrite {ρ : Type} (kr : Int → zH → Option ρ) (a0 a1 a2 : Int) (h : zH) : Gr_putWrite a0 a1 a2 h kr = zseg zPP true (fun _ _ => none) (zcal [(203, [none], fun xs h kr kt => match xs with
  | [x0] => Gr_isBufferFull x0 h kr
  | _ => none)]) (zget (999, 0, 0, 0) zc_Gr_putWrite) (zcut [(37, [false, false, false])]) (zorc [(37, [none, none, none], [], fun xs h => match xs with
  | [] => Gr_putWrite_37 kr  h
  | _ => none)]) kr (fun _ _ => none) 400 0 [some (2, a0), some (0, a1), some (0, a2)] [] h := by rfl
def zc_Gr_seenIn : List zI := [(14, 0, 0, 0), (80, 11, 67, 5), (999, 0, 0, 0), (999, 0, 0, 0), (0, 1, 0, 0), (31, 0, 0, 0), (16, 0, 3, 0), (10, 0, 3, 0), (62, 26, 34, 0), (999, 0, 0, 0), (999, 0, 0, 0), (14, 0, 0, 0), (80, 11, 11, 3), (999, 0, 0, 0), (999, 0, 0, 0), (10, 0, 3, 0), (90, 0, 0, 0), (10, 0, 1, 0), (67, 10, 28, 0), (999, 0, 0, 0), (999, 0, 0, 0), (14, 0, 0, 0), (80, 11, 15, 4), (999, 0, 0, 0), (999, 0, 0, 0), (10, 0, 3, 0), (90, 0, 0, 0), (130, 0, 0, 0), (22, (-1), 3, 0), (999, 0, 0, 0), (999, 0, 0, 0), (72, (-24), 7, 0), (999, 0, 0, 0), (999, 0, 0, 0), (14, 0, 2, 0), (10, 0, 1, 0), (90, 0, 0, 0), (130, 0, 0, 0)]
def Gr_seenIn_7b {ρ : Type} (kr : Int → zH → Option ρ) (r7 : Int → Int → Int → Int → zH → Option ρ) (a0 a1 a2 a3 : Int) (h : zH) : Option ρ :=
if a3 < 0 then (zob h 20 a2 fun p2 =>
zix (zhl h p2) a1 fun j1 =>
kr (zhd h p2 j1) h)
else zob h 11 a0 fun p3 =>
zob h 20 (zhd h p3 3) fun p5 =>
zix (zhl h p5) a3 fun j4 =>
if (zhd h p5 j4) = a1 then (zob h 11 a0 fun p6 =>
zob h 20 (zhd h p6 4) fun p8 =>
zix (zhl h p8) a3 fun j7 =>
kr (zhd h p8 j7) h)
else r7 a0 a1 a2 (wr (a3 + (-1))) h
def Gr_seenIn_7 {ρ : Type} (kr : Int → zH → Option ρ) : Int → Int → Int → Int → zH → Option ρ := zit (fun _ _ _ _ _ => none) (Gr_seenIn_7b kr) zN
def Gr_seenIn {ρ : Type} (a0 a1 a2 : Int) (h : zH) (kr : Int → zH → Option ρ) : Option ρ :=
zob h 11 a0 fun p1 =>
Gr_seenIn_7 kr a0 a1 a2 (wr ((zhd h p1 5) - 1)) h
set_option maxRecDepth 100000 in
theorem qe_Gr_seenIn_7b {ρ : Type} (kr : Int → zH → Option ρ) (r7 : Int → Int → Int → Int → zH → Option ρ) (a0 a1 a2 a3 : Int) (h : zH) : Gr_seenIn_7b kr r7 a0 a1 a2 a3 h = zseg zPP true (fun _ _ => none) (zcal []) (zget (999, 0, 0, 0) zc_Gr_seenIn) (zcut [(7, [true, true, true, true])]) (zorc [(7, [some (2, none), some (0, none), some (2, none), some (0, none)], [], fun xs h => match xs with
  | [a0, a1, a2, a3] => r7 a0 a1 a2 a3 h
  | _ => none)]) kr (fun _ _ => none) 400 7 [some (2, a0), some (0, a1), some (2, a2), some (0, a3)] [] h := by rfl
set_option maxRecDepth 100000 in
theorem qe_Gr_seenIn {ρ : Type} (kr : Int → zH → Option ρ) (a0 a1 a2 : Int) (h : zH) : Gr_seenIn a0 a1 a2 h kr = zseg zPP true (fun _ _ => none) (zcal []) (zget (999, 0, 0, 0) zc_Gr_seenIn) (zcut [(7, [true, true, true, true])]) (zorc [(7, [some (2, none), some (0, none), some (2, none), some (0, none)], [], fun xs h => match xs with
  | [a0, a1, a2, a3] => Gr_seenIn_7 kr a0 a1 a2 a3 h
  | _ => none)]) kr (fun _ _ => none) 400 0 [some (2, a0), some (0, a1), some (2, a2), none] [] h := by rfl
def zc_Co_carryGlobal : List zI := [(10, 0, 2, 0), (114, 0, 272, 49), (999, 0, 0, 0), (999, 0, 0, 0), (61, 6, 10, 0), (999, 0, 0, 0), (999, 0, 0, 0), (1, 103, 0, 0), (999, 0, 0, 0), (130, 0, 2, 0), (14, 0, 1, 0), (80, 11, 66, 0), (999, 0, 0, 0), (999, 0, 0, 0), (14, 0, 3, 0), (80, 6, 180, 0), (999, 0, 0, 0), (999, 0, 0, 0), (10, 0, 2, 0), (15, 0, 4, 0), (999, 0, 0, 0), (80, 8, 245, 0), (999, 0, 0, 0), (999, 0, 0, 0), (1, 119, 0, 0), (999, 0, 0, 0), (67, 7, 33, 0), (999, 0, 0, 0), (999, 0, 0, 0), (0, 1, 0, 0), (72, 4, 34, 0), (999, 0, 0, 0), (999, 0, 0, 0), (0, 0, 0, 0), (110, 0, 276, 167), (999, 0, 0, 0), (999, 0, 0, 0), (15, 0, 4, 0), (999, 0, 0, 0), (80, 8, 245, 0), (999, 0, 0, 0), (999, 0, 0, 0), (1, 114, 0, 0), (999, 0, 0, 0), (67, 24, 68, 0), (999, 0, 0, 0), (999, 0, 0, 0), (14, 0, 3, 0), (15, 0, 4, 0), (999, 0, 0, 0), (80, 8, 248, 1), (999, 0, 0, 0), (999, 0, 0, 0), (14, 0, 1, 0), (10, 0, 2, 0), (14, 0, 0, 0), (80, 2, 9, 1), (999, 0, 0, 0), (999, 0, 0, 0), (110, 0, 280, 206), (999, 0, 0, 0), (999, 0, 0, 0), (110, 0, 251, 250), (999, 0, 0, 0), (999, 0, 0, 0), (72, 66, 131, 0), (999, 0, 0, 0), (999, 0, 0, 0), (15, 0, 4, 0), (999, 0, 0, 0), (80, 8, 245, 0), (999, 0, 0, 0), (999, 0, 0, 0), (1, 119, 0, 0), (999, 0, 0, 0), (67, 45, 120, 0), (999, 0, 0, 0), (999, 0, 0, 0), (14, 0, 1, 0), (110, 0, 284, 203), (999, 0, 0, 0), (999, 0, 0, 0), (60, 21, 103, 0), (999, 0, 0, 0), (999, 0, 0, 0), (14, 0, 1, 0), (14, 0, 0, 0), (80, 2, 9, 1), (999, 0, 0, 0), (999, 0, 0, 0), (110, 0, 137, 207), (999, 0, 0, 0), (999, 0, 0, 0), (14, 0, 0, 0), (50, 0, 0, 0), (80, 2, 231, 10), (999, 0, 0, 0), (999, 0, 0, 0), (0, 1, 0, 0), (30, 0, 0, 0), (82, 2, 231, 10), (999, 0, 0, 0), (999, 0, 0, 0), (14, 0, 1, 0), (10, 0, 2, 0), (14, 0, 3, 0), (15, 0, 4, 0), (999, 0, 0, 0), (80, 8, 218, 2), (999, 0, 0, 0), (999, 0, 0, 0), (110, 0, 214, 249), (999, 0, 0, 0), (999, 0, 0, 0), (110, 0, 287, 205), (999, 0, 0, 0), (999, 0, 0, 0), (72, 14, 131, 0), (999, 0, 0, 0), (999, 0, 0, 0), (14, 0, 0, 0), (80, 2, 9, 1), (999, 0, 0, 0), (999, 0, 0, 0), (10, 0, 2, 0), (14, 0, 3, 0), (15, 0, 4, 0), (999, 0, 0, 0), (114, 0, 290, 54), (999, 0, 0, 0), (999, 0, 0, 0), (1, 45, 0, 0), (999, 0, 0, 0), (130, 0, 2, 0)]
def Co_carryGlobal_131 {ρ : Type} (kr : Int → zH → Option ρ) (h : zH) : Option ρ :=
kr 45 h
def Co_carryGlobal_103 {ρ : Type} (kr : Int → zH → Option ρ) (a1 a2 a3 a4 : Int) (h : zH) : Option ρ :=
zob h 8 a4 fun p1 =>
zob h 6 a3 fun _ =>
Th_at a3 (zhd h p1 2) h  fun v2 h3 =>
zob h3 11 a1 fun _ =>
Gr_putWrite a1 a2 v2 h3  fun _ h5 =>
Co_carryGlobal_131 kr h5
def Co_carryGlobal_34 {ρ : Type} (kr : Int → zH → Option ρ) (a0 a1 a2 a3 a4 t0 t1 t2 t3 : Int) (h : zH) : Option ρ :=
zob h 10 t3 fun _ =>
Bl_touchGlobal t3 t2 t1 t0 h  fun _ h2 =>
zob h2 8 a4 fun p3 =>
if (zhd h2 p3 0) = 114 then (zob h2 8 a4 fun p16 =>
zob h2 2 a0 fun p17 =>
zob h2 11 a1 fun _ =>
Gr_seenIn a1 a2 (zhd h2 p17 1) h2  fun v18 h19 =>
zob h19 6 a3 fun _ =>
Th_set a3 (zhd h2 p16 1) v18 h19  fun _ h21 =>
Co_carryGlobal_131 kr h21)
else zob h2 8 a4 fun p4 =>
if (zhd h2 p4 0) = 119 then (zob h2 11 a1 fun _ =>
Gr_isBufferFull a1 h2  fun v8 h9 =>
if v8 = 0 then Co_carryGlobal_103 kr a1 a2 a3 a4 h9
else zob h9 2 a0 fun p10 =>
zob h9 11 a1 fun _ =>
Gr_writeFirst a1 (zhd h9 p10 1) h9  fun _ h12 =>
zob h12 2 a0 fun p13 =>
zob h12 2 a0 fun p14 =>
zlet (zset h12 p14 10 (wr ((zhd h12 p13 10) + 1))) fun h15 =>
Co_carryGlobal_103 kr a1 a2 a3 a4 h15)
else zob h2 2 a0 fun p5 =>
X_exchange (zhd h2 p5 1) a2 a3 a4 h2  fun _ h7 =>
Co_carryGlobal_131 kr h7
def Co_carryGlobal {ρ : Type} (a0 a1 a2 a3 a4 : Int) (h : zH) (kr : Int → zH → Option ρ) : Option ρ :=
X_isCell a2 h  fun v1 h2 =>
if v1 = 0 then kr 103 h2
else zob h2 11 a1 fun p3 =>
zob h2 6 a3 fun p4 =>
zob h2 8 a4 fun p5 =>
if (zhd h2 p5 0) = 119 then Co_carryGlobal_34 kr a0 a1 a2 a3 a4 1 a2 (zhd h2 p4 0) (zhd h2 p3 0) h2
else Co_carryGlobal_34 kr a0 a1 a2 a3 a4 0 a2 (zhd h2 p4 0) (zhd h2 p3 0) h2
set_option maxRecDepth 100000 in
theorem qe_Co_carryGlobal_131 {ρ : Type} (kr : Int → zH → Option ρ) (h : zH) : Co_carryGlobal_131 kr h = zseg zPP true (fun _ _ => none) (zcal []) (zget (999, 0, 0, 0) zc_Co_carryGlobal) (zcut [(34, [true, true, true, true, true]), (103, [false, true, true, true, true]), (131, [false, false, false, false, false])]) (zorc []) kr (fun _ _ => none) 400 131 [none, none, none, none, none] [] h := by rfl
set_option maxRecDepth 100000 in
theorem qe_Co_carryGlobal_103 {ρ : Type} (kr : Int → zH → Option ρ) (a1 a2 a3 a4 : Int) (h : zH) : Co_carryGlobal_103 kr a1 a2 a3 a4 h = zseg zPP true (fun _ _ => none) (zcal [(205, [none, none, none], fun xs h kr kt => match xs with
  | [x0, x1, x2] => Gr_putWrite x0 x1 x2 h kr
  | _ => none), (249, [none, none], fun xs h kr kt => match xs with
  | [x0, x1] => Th_at x0 x1 h kr
  | _ => none)]) (zget (999, 0, 0, 0) zc_Co_carryGlobal) (zcut [(34, [true, true, true, true, true]), (103, [false, true, true, true, true]), (131, [false, false, false, false, false])]) (zorc [(131, [none, none, none, none, none], [], fun xs h => match xs with
  | [] => Co_carryGlobal_131 kr  h
  | _ => none)]) kr (fun _ _ => none) 400 103 [none, some (2, a1), some (0, a2), some (2, a3), some (2, a4)] [] h := by rfl
set_option maxRecDepth 100000 in
theorem qe_Co_carryGlobal_34 {ρ : Type} (kr : Int → zH → Option ρ) (a0 a1 a2 a3 a4 t0 t1 t2 t3 : Int) (h : zH) : Co_carryGlobal_34 kr a0 a1 a2 a3 a4 t0 t1 t2 t3 h = zseg zPP true (fun _ _ => none) (zcal [(54, [none, none, none, none], fun xs h kr kt => match xs with
  | [x0, x1, x2, x3] => X_exchange x0 x1 x2 x3 h kr
  | _ => none), (167, [none, none, none, none], fun xs h kr kt => match xs with
  | [x0, x1, x2, x3] => Bl_touchGlobal x0 x1 x2 x3 h kr
  | _ => none), (203, [none], fun xs h kr kt => match xs with
  | [x0] => Gr_isBufferFull x0 h kr
  | _ => none), (206, [none, none, none], fun xs h kr kt => match xs with
  | [x0, x1, x2] => Gr_seenIn x0 x1 x2 h kr
  | _ => none), (207, [none, none], fun xs h kr kt => match xs with
  | [x0, x1] => Gr_writeFirst x0 x1 h kr
  | _ => none), (250, [none, none, none], fun xs h kr kt => match xs with
  | [x0, x1, x2] => Th_set x0 x1 x2 h kr
  | _ => none)]) (zget (999, 0, 0, 0) zc_Co_carryGlobal) (zcut [(34, [true, true, true, true, true]), (103, [false, true, true, true, true]), (131, [false, false, false, false, false])]) (zorc [(103, [none, some (2, none), some (0, none), some (2, none), some (2, none)], [], fun xs h => match xs with
  | [a1, a2, a3, a4] => Co_carryGlobal_103 kr a1 a2 a3 a4 h
  | _ => none), (131, [none, none, none, none, none], [], fun xs h => match xs with
  | [] => Co_carryGlobal_131 kr  h
  | _ => none)]) kr (fun _ _ => none) 400 34 [some (2, a0), some (2, a1), some (0, a2), some (2, a3), some (2, a4)] [(0, t0), (0, t1), (0, t2), (2, t3)] h := by rfl
set_option maxRecDepth 100000 in
theorem qe_Co_carryGlobal {ρ : Type} (kr : Int → zH → Option ρ) (a0 a1 a2 a3 a4 : Int) (h : zH) : Co_carryGlobal a0 a1 a2 a3 a4 h kr = zseg zPP true (fun _ _ => none) (zcal [(49, [none], fun xs h kr kt => match xs with
  | [x0] => X_isCell x0 h kr
  | _ => none)]) (zget (999, 0, 0, 0) zc_Co_carryGlobal) (zcut [(34, [true, true, true, true, true]), (103, [false, true, true, true, true]), (131, [false, false, false, false, false])]) (zorc [(34, [some (2, none), some (2, none), some (0, none), some (2, none), some (2, none)], [(0, none), (0, none), (0, none), (2, none)], fun xs h => match xs with
  | [a0, a1, a2, a3, a4, t0, t1, t2, t3] => Co_carryGlobal_34 kr a0 a1 a2 a3 a4 t0 t1 t2 t3 h
  | _ => none)]) kr (fun _ _ => none) 400 0 [some (2, a0), some (2, a1), some (0, a2), some (2, a3), some (2, a4)] [] h := by rfl
def zc_Bl_hasShared : List zI := [(10, 0, 1, 0), (0, 0, 0, 0), (14, 0, 0, 0), (80, 10, 64, 4), (999, 0, 0, 0), (999, 0, 0, 0), (100, 0, 0, 20), (0, 1, 0, 0), (31, 0, 0, 0), (114, 0, 82, 48), (999, 0, 0, 0), (999, 0, 0, 0), (130, 0, 1, 0)]
def Bl_hasShared {ρ : Type} (a0 a1 : Int) (h : zH) (kr : Int → zH → Option ρ) : Option ρ :=
zob h 10 a0 fun p1 =>
zob h 20 (zhd h p1 4) fun p2 =>
X_isWithin a1 0 (wr ((zhl h p2 : Int) - 1)) h  fun v3 h4 =>
znar 1 v3 fun x5 => kr x5 h4
set_option maxRecDepth 100000 in
theorem qe_Bl_hasShared {ρ : Type} (kr : Int → zH → Option ρ) (a0 a1 : Int) (h : zH) : Bl_hasShared a0 a1 h kr = zseg zPP true (fun _ _ => none) (zcal [(48, [none, none, none], fun xs h kr kt => match xs with
  | [x0, x1, x2] => X_isWithin x0 x1 x2 h kr
  | _ => none)]) (zget (999, 0, 0, 0) zc_Bl_hasShared) (zcut []) (zorc []) kr (fun _ _ => none) 400 0 [some (2, a0), some (0, a1)] [] h := by rfl
def zc_Bl_touchShared : List zI := [(14, 0, 0, 0), (80, 10, 66, 6), (999, 0, 0, 0), (999, 0, 0, 0), (10, 0, 2, 0), (90, 0, 0, 0), (10, 0, 1, 0), (10, 0, 3, 0), (114, 0, 104, 52), (999, 0, 0, 0), (999, 0, 0, 0), (60, 32, 43, 0), (999, 0, 0, 0), (999, 0, 0, 0), (14, 0, 0, 0), (80, 10, 69, 7), (999, 0, 0, 0), (999, 0, 0, 0), (10, 0, 2, 0), (91, 0, 0, 0), (61, 23, 43, 0), (999, 0, 0, 0), (999, 0, 0, 0), (14, 0, 0, 0), (80, 10, 69, 7), (999, 0, 0, 0), (999, 0, 0, 0), (10, 0, 2, 0), (0, 1, 0, 0), (96, 0, 0, 0), (14, 0, 0, 0), (80, 10, 15, 0), (999, 0, 0, 0), (999, 0, 0, 0), (50, 0, 0, 0), (80, 9, 117, 18), (999, 0, 0, 0), (999, 0, 0, 0), (0, 1, 0, 0), (30, 0, 0, 0), (82, 9, 117, 18), (999, 0, 0, 0), (999, 0, 0, 0), (14, 0, 0, 0), (80, 10, 66, 6), (999, 0, 0, 0), (999, 0, 0, 0), (10, 0, 2, 0), (14, 0, 0, 0), (80, 10, 66, 6), (999, 0, 0, 0), (999, 0, 0, 0), (10, 0, 2, 0), (90, 0, 0, 0), (10, 0, 1, 0), (10, 0, 3, 0), (114, 0, 113, 53), (999, 0, 0, 0), (999, 0, 0, 0), (95, 0, 0, 0), (133, 0, 0, 0)]
def Bl_touchShared_43 {ρ : Type} (kr : Int → zH → Option ρ) (a0 a1 a2 a3 : Int) (h : zH) : Option ρ :=
zob h 10 a0 fun p1 =>
zob h 10 a0 fun p2 =>
zob h 20 (zhd h p2 6) fun p4 =>
zix (zhl h p4) a2 fun j3 =>
X_withTouch (zhd h p4 j3) a1 a3 h  fun v5 h6 =>
zob h6 20 (zhd h p1 6) fun p8 =>
zix (zhl h6 p8) a2 fun j7 =>
zlet (zset h6 p8 j7 v5) fun h9 =>
kr 0 h9
def Bl_touchShared {ρ : Type} (a0 a1 a2 a3 : Int) (h : zH) (kr : Int → zH → Option ρ) : Option ρ :=
zob h 10 a0 fun p1 =>
zob h 20 (zhd h p1 6) fun p3 =>
zix (zhl h p3) a2 fun j2 =>
X_isClash (zhd h p3 j2) a1 a3 h  fun v4 h5 =>
if v4 = 0 then Bl_touchShared_43 kr a0 a1 a2 a3 h5
else zob h5 10 a0 fun p6 =>
zob h5 21 (zhd h5 p6 7) fun p8 =>
zix (zhl h5 p8) a2 fun j7 =>
if (zhd h5 p8 j7) = 0 then (zob h5 10 a0 fun p9 =>
zob h5 21 (zhd h5 p9 7) fun p11 =>
zix (zhl h5 p11) a2 fun j10 =>
zlet (zset h5 p11 j10 1) fun h12 =>
zob h12 10 a0 fun p13 =>
zob h12 9 (zhd h12 p13 0) fun p14 =>
zob h12 9 (zhd h12 p13 0) fun p15 =>
zlet (zset h12 p15 18 (wr ((zhd h12 p14 18) + 1))) fun h16 =>
Bl_touchShared_43 kr a0 a1 a2 a3 h16)
else Bl_touchShared_43 kr a0 a1 a2 a3 h5
set_option maxRecDepth 100000 in
theorem qe_Bl_touchShared_43 {ρ : Type} (kr : Int → zH → Option ρ) (a0 a1 a2 a3 : Int) (h : zH) : Bl_touchShared_43 kr a0 a1 a2 a3 h = zseg zPP true (fun _ _ => none) (zcal [(53, [none, none, none], fun xs h kr kt => match xs with
  | [x0, x1, x2] => X_withTouch x0 x1 x2 h kr
  | _ => none)]) (zget (999, 0, 0, 0) zc_Bl_touchShared) (zcut [(43, [true, true, true, true])]) (zorc []) kr (fun _ _ => none) 400 43 [some (2, a0), some (0, a1), some (0, a2), some (0, a3)] [] h := by rfl
set_option maxRecDepth 100000 in
theorem qe_Bl_touchShared {ρ : Type} (kr : Int → zH → Option ρ) (a0 a1 a2 a3 : Int) (h : zH) : Bl_touchShared a0 a1 a2 a3 h kr = zseg zPP true (fun _ _ => none) (zcal [(52, [none, none, none], fun xs h kr kt => match xs with
  | [x0, x1, x2] => X_isClash x0 x1 x2 h kr
  | _ => none)]) (zget (999, 0, 0, 0) zc_Bl_touchShared) (zcut [(43, [true, true, true, true])]) (zorc [(43, [some (2, none), some (0, none), some (0, none), some (0, none)], [], fun xs h => match xs with
  | [a0, a1, a2, a3] => Bl_touchShared_43 kr a0 a1 a2 a3 h
  | _ => none)]) kr (fun _ _ => none) 400 0 [some (2, a0), some (0, a1), some (0, a2), some (0, a3)] [] h := by rfl
def zc_Co_carryShared : List zI := [(14, 0, 0, 0), (10, 0, 1, 0), (110, 0, 294, 162), (999, 0, 0, 0), (999, 0, 0, 0), (61, 6, 11, 0), (999, 0, 0, 0), (999, 0, 0, 0), (1, 115, 0, 0), (999, 0, 0, 0), (130, 0, 2, 0), (14, 0, 0, 0), (14, 0, 2, 0), (80, 6, 180, 0), (999, 0, 0, 0), (999, 0, 0, 0), (10, 0, 1, 0), (14, 0, 3, 0), (80, 8, 245, 0), (999, 0, 0, 0), (999, 0, 0, 0), (1, 87, 0, 0), (999, 0, 0, 0), (67, 7, 30, 0), (999, 0, 0, 0), (999, 0, 0, 0), (0, 1, 0, 0), (72, 4, 31, 0), (999, 0, 0, 0), (999, 0, 0, 0), (0, 0, 0, 0), (110, 0, 297, 168), (999, 0, 0, 0), (999, 0, 0, 0), (14, 0, 3, 0), (80, 8, 245, 0), (999, 0, 0, 0), (999, 0, 0, 0), (1, 82, 0, 0), (999, 0, 0, 0), (67, 20, 60, 0), (999, 0, 0, 0), (999, 0, 0, 0), (14, 0, 2, 0), (14, 0, 3, 0), (80, 8, 248, 1), (999, 0, 0, 0), (999, 0, 0, 0), (14, 0, 0, 0), (80, 10, 300, 4), (999, 0, 0, 0), (999, 0, 0, 0), (10, 0, 1, 0), (90, 0, 0, 0), (110, 0, 251, 250), (999, 0, 0, 0), (999, 0, 0, 0), (72, 17, 74, 0), (999, 0, 0, 0), (999, 0, 0, 0), (14, 0, 0, 0), (80, 10, 300, 4), (999, 0, 0, 0), (999, 0, 0, 0), (10, 0, 1, 0), (14, 0, 2, 0), (14, 0, 3, 0), (80, 8, 218, 2), (999, 0, 0, 0), (999, 0, 0, 0), (110, 0, 214, 249), (999, 0, 0, 0), (999, 0, 0, 0), (95, 0, 0, 0), (1, 45, 0, 0), (999, 0, 0, 0), (130, 0, 2, 0)]
def Co_carryShared_74 {ρ : Type} (kr : Int → zH → Option ρ) (h : zH) : Option ρ :=
kr 45 h
def Co_carryShared_31 {ρ : Type} (kr : Int → zH → Option ρ) (a0 a1 a2 a3 t0 t1 t2 t3 : Int) (h : zH) : Option ρ :=
zob h 10 t3 fun _ =>
Bl_touchShared t3 t2 t1 t0 h  fun _ h2 =>
zob h2 8 a3 fun p3 =>
if (zhd h2 p3 0) = 82 then (zob h2 8 a3 fun p11 =>
zob h2 10 a0 fun p12 =>
zob h2 20 (zhd h2 p12 4) fun p14 =>
zix (zhl h2 p14) a1 fun j13 =>
zob h2 6 a2 fun _ =>
Th_set a2 (zhd h2 p11 1) (zhd h2 p14 j13) h2  fun _ h16 =>
Co_carryShared_74 kr h16)
else zob h2 10 a0 fun p4 =>
zob h2 8 a3 fun p5 =>
zob h2 6 a2 fun _ =>
Th_at a2 (zhd h2 p5 2) h2  fun v6 h7 =>
zob h7 20 (zhd h2 p4 4) fun p9 =>
zix (zhl h7 p9) a1 fun j8 =>
zlet (zset h7 p9 j8 v6) fun h10 =>
Co_carryShared_74 kr h10
def Co_carryShared {ρ : Type} (a0 a1 a2 a3 : Int) (h : zH) (kr : Int → zH → Option ρ) : Option ρ :=
zob h 10 a0 fun _ =>
Bl_hasShared a0 a1 h  fun v1 h2 =>
if v1 = 0 then kr 115 h2
else zob h2 6 a2 fun p3 =>
zob h2 8 a3 fun p4 =>
if (zhd h2 p4 0) = 87 then Co_carryShared_31 kr a0 a1 a2 a3 1 a1 (zhd h2 p3 0) a0 h2
else Co_carryShared_31 kr a0 a1 a2 a3 0 a1 (zhd h2 p3 0) a0 h2
set_option maxRecDepth 100000 in
theorem qe_Co_carryShared_74 {ρ : Type} (kr : Int → zH → Option ρ) (h : zH) : Co_carryShared_74 kr h = zseg zPP true (fun _ _ => none) (zcal []) (zget (999, 0, 0, 0) zc_Co_carryShared) (zcut [(31, [true, true, true, true]), (74, [false, false, false, false])]) (zorc []) kr (fun _ _ => none) 400 74 [none, none, none, none] [] h := by rfl
set_option maxRecDepth 100000 in
theorem qe_Co_carryShared_31 {ρ : Type} (kr : Int → zH → Option ρ) (a0 a1 a2 a3 t0 t1 t2 t3 : Int) (h : zH) : Co_carryShared_31 kr a0 a1 a2 a3 t0 t1 t2 t3 h = zseg zPP true (fun _ _ => none) (zcal [(168, [none, none, none, none], fun xs h kr kt => match xs with
  | [x0, x1, x2, x3] => Bl_touchShared x0 x1 x2 x3 h kr
  | _ => none), (249, [none, none], fun xs h kr kt => match xs with
  | [x0, x1] => Th_at x0 x1 h kr
  | _ => none), (250, [none, none, none], fun xs h kr kt => match xs with
  | [x0, x1, x2] => Th_set x0 x1 x2 h kr
  | _ => none)]) (zget (999, 0, 0, 0) zc_Co_carryShared) (zcut [(31, [true, true, true, true]), (74, [false, false, false, false])]) (zorc [(74, [none, none, none, none], [], fun xs h => match xs with
  | [] => Co_carryShared_74 kr  h
  | _ => none)]) kr (fun _ _ => none) 400 31 [some (2, a0), some (0, a1), some (2, a2), some (2, a3)] [(0, t0), (0, t1), (0, t2), (2, t3)] h := by rfl
set_option maxRecDepth 100000 in
theorem qe_Co_carryShared {ρ : Type} (kr : Int → zH → Option ρ) (a0 a1 a2 a3 : Int) (h : zH) : Co_carryShared a0 a1 a2 a3 h kr = zseg zPP true (fun _ _ => none) (zcal [(162, [none, none], fun xs h kr kt => match xs with
  | [x0, x1] => Bl_hasShared x0 x1 h kr
  | _ => none)]) (zget (999, 0, 0, 0) zc_Co_carryShared) (zcut [(31, [true, true, true, true]), (74, [false, false, false, false])]) (zorc [(31, [some (2, none), some (0, none), some (2, none), some (2, none)], [(0, none), (0, none), (0, none), (2, none)], fun xs h => match xs with
  | [a0, a1, a2, a3, t0, t1, t2, t3] => Co_carryShared_31 kr a0 a1 a2 a3 t0 t1 t2 t3 h
  | _ => none)]) kr (fun _ _ => none) 400 0 [some (2, a0), some (0, a1), some (2, a2), some (2, a3)] [] h := by rfl
def zc_La_depth : List zI := [(0, 0, 0, 0), (16, 0, 1, 0), (14, 0, 0, 0), (80, 9, 37, 4), (999, 0, 0, 0), (999, 0, 0, 0), (20, 0, 2, 0), (14, 0, 2, 0), (73, 20, 28, 0), (999, 0, 0, 0), (999, 0, 0, 0), (10, 0, 1, 0), (1, 12, 0, 0), (999, 0, 0, 0), (69, 14, 28, 0), (999, 0, 0, 0), (999, 0, 0, 0), (22, 1, 1, 0), (999, 0, 0, 0), (999, 0, 0, 0), (14, 0, 2, 0), (80, 9, 37, 4), (999, 0, 0, 0), (999, 0, 0, 0), (20, 0, 2, 0), (72, (-18), 7, 0), (999, 0, 0, 0), (999, 0, 0, 0), (10, 0, 1, 0), (130, 0, 0, 0)]
def La_depth_28 {ρ : Type} (kr : Int → zH → Option ρ) (a1 : Int) (h : zH) : Option ρ :=
kr a1 h
def La_depth_7b {ρ : Type} (kr : Int → zH → Option ρ) (r7 : Int → Int → zH → Option ρ) (a1 a2 : Int) (h : zH) : Option ρ :=
if a2 < 0 then La_depth_28 kr a1 h
else if a1 < 12 then (zob h 9 a2 fun p1 =>
r7 (wr (a1 + 1)) (zhd h p1 4) h)
else La_depth_28 kr a1 h
def La_depth_7 {ρ : Type} (kr : Int → zH → Option ρ) : Int → Int → zH → Option ρ := zit (fun _ _ _ => none) (La_depth_7b kr) zN
def La_depth {ρ : Type} (a0 : Int) (h : zH) (kr : Int → zH → Option ρ) : Option ρ :=
zob h 9 a0 fun p1 =>
La_depth_7 kr 0 (zhd h p1 4) h
set_option maxRecDepth 100000 in
theorem qe_La_depth_28 {ρ : Type} (kr : Int → zH → Option ρ) (a1 : Int) (h : zH) : La_depth_28 kr a1 h = zseg zPP true (fun _ _ => none) (zcal []) (zget (999, 0, 0, 0) zc_La_depth) (zcut [(7, [false, true, true]), (28, [false, true, false])]) (zorc []) kr (fun _ _ => none) 400 28 [none, some (0, a1), none] [] h := by rfl
set_option maxRecDepth 100000 in
theorem qe_La_depth_7b {ρ : Type} (kr : Int → zH → Option ρ) (r7 : Int → Int → zH → Option ρ) (a1 a2 : Int) (h : zH) : La_depth_7b kr r7 a1 a2 h = zseg zPP true (fun _ _ => none) (zcal []) (zget (999, 0, 0, 0) zc_La_depth) (zcut [(7, [false, true, true]), (28, [false, true, false])]) (zorc [(7, [none, some (0, none), some (2, none)], [], fun xs h => match xs with
  | [a1, a2] => r7 a1 a2 h
  | _ => none), (28, [none, some (0, none), none], [], fun xs h => match xs with
  | [a1] => La_depth_28 kr a1 h
  | _ => none)]) kr (fun _ _ => none) 400 7 [none, some (0, a1), some (2, a2)] [] h := by rfl
set_option maxRecDepth 100000 in
theorem qe_La_depth {ρ : Type} (kr : Int → zH → Option ρ) (a0 : Int) (h : zH) : La_depth a0 h kr = zseg zPP true (fun _ _ => none) (zcal []) (zget (999, 0, 0, 0) zc_La_depth) (zcut [(7, [false, true, true]), (28, [false, true, false])]) (zorc [(7, [none, some (0, none), some (2, none)], [], fun xs h => match xs with
  | [a1, a2] => La_depth_7 kr a1 a2 h
  | _ => none)]) kr (fun _ _ => none) 400 0 [some (2, a0), none, none] [] h := by rfl
