/-! THE SMALL MACHINE: values (tag, number): 0 int, 1 long, 2 reference (its cell's number, -1 null), 3 a String constant; a heap: number of cells, kinds, lengths, contents, cells and slots made. -/
abbrev zV : Type := Nat × Int
abbrev zD : Type := Nat → Nat → Int
abbrev zH : Type := Nat × (Nat → Nat) × (Nat → Nat) × zD × Nat × Nat
abbrev zI : Type := Nat × Int × Nat × Nat
def zhn (h : zH) : Nat := h.1
def zhk (h : zH) : Nat → Nat := h.2.1
def zhl (h : zH) : Nat → Nat := h.2.2.1
def zhd (h : zH) : zD := h.2.2.2.1
def zhc (h : zH) : Nat := h.2.2.2.2.1
def zhs (h : zH) : Nat := h.2.2.2.2.2
def wr (x : Int) : Int := (x + 2147483648) % 4294967296 - 2147483648
def wrl (x : Int) : Int := (x + 9223372036854775808) % 18446744073709551616 - 9223372036854775808
def zup (d : zD) (a j : Nat) (v : Int) : zD := fun a' j' => if a' = a ∧ j' = j then v else d a' j'
def zset (h : zH) (a j : Nat) (v : Int) : zH := (h.1, h.2.1, h.2.2.1, zup h.2.2.2.1 a j v, h.2.2.2.2)
def znew (h : zH) (kd len slots : Nat) (f : Nat → Int) : zH := (h.1 + 1, (fun a => if a = h.1 then kd else h.2.1 a), (fun a => if a = h.1 then len else h.2.2.1 a), (fun a j => if a = h.1 then f j else h.2.2.2.1 a j), h.2.2.2.2.1 + 1, h.2.2.2.2.2 + slots)
def zthrown (h : zH) : zH := (h.1, h.2.1, h.2.2.1, h.2.2.2.1, h.2.2.2.2.1 + 1, h.2.2.2.2.2 + 6)
/-- a place of a row -/
def zix {ρ : Type} (n : Nat) (i : Int) (k : Nat → Option ρ) : Option ρ := if 0 ≤ i ∧ i < (n : Int) then k i.toNat else none
/-- a cell of a kind -/
def zob {ρ : Type} (h : zH) (c : Nat) (a : Int) (k : Nat → Option ρ) : Option ρ := if 0 ≤ a ∧ a < (zhn h : Int) ∧ zhk h a.toNat = c then k a.toNat else none
/-- what may be stored, returned as a type: 1 boolean, 2 char -/
def znar {ρ : Type} (t : Nat) (x : Int) (k : Int → Option ρ) : Option ρ := match t with
  | 1 => if x = 0 ∨ x = 1 then k x else none
  | 2 => if 0 ≤ x ∧ x < 65536 then k x else none
  | _ => k x
def zswt {ρ : Type} : List (Int × Nat) → Nat → Int → (Nat → Option ρ) → Option ρ
  | [], d, _, k => k d
  | (a, t) :: r, d, x, k => if x = a then k t else zswt r d x k
def zpop {ρ : Type} : List Nat → List zV → List Int → (List Int → List zV → Option ρ) → Option ρ
  | [], st, acc, k => k acc st
  | t :: ts, (t', x) :: st, acc, k => if t' = t then zpop ts st (x :: acc) k else none
  | _ :: _, [], _, _ => none
def zand (x y : Int) : Int := (Int32.ofInt x &&& Int32.ofInt y).toInt
def zor (x y : Int) : Int := (Int32.ofInt x ||| Int32.ofInt y).toInt
def zxor (x y : Int) : Int := (Int32.ofInt x ^^^ Int32.ofInt y).toInt
def zshl (x y : Int) : Int := (Int32.ofInt x <<< (Int32.ofInt y &&& 31)).toInt
def zshr (x y : Int) : Int := (Int32.ofInt x >>> (Int32.ofInt y &&& 31)).toInt
def zushr (x y : Int) : Int := (((Int32.ofInt x).toUInt32 >>> ((Int32.ofInt y).toUInt32 &&& Int32.toUInt32 31)).toInt32).toInt
def zlet {α ρ : Type} (x : α) (k : α → Option ρ) : Option ρ := k x
def zlv : List (Option zV) → Nat → Option zV
  | [], _ => none
  | a :: _, 0 => a
  | _ :: l, n + 1 => zlv l n
def zkill : Option zV → Option zV
  | some (1, _) => none
  | a => a
/-- storing a value of one slot -/
def zsto : List (Option zV) → Nat → zV → Option (List (Option zV))
  | [], _, _ => none
  | _ :: l, 0, v => some (some v :: l)
  | a :: l, 1, v => match zsto l 0 v with
    | some l' => some (zkill a :: l')
    | none => none
  | a :: l, n + 2, v => match zsto l (n + 1) v with
    | some l' => some (a :: l')
    | none => none
/-- .. of two -/
def zsto2 : List (Option zV) → Nat → zV → Option (List (Option zV))
  | [], _, _ => none
  | [_], _, _ => none
  | _ :: _ :: l, 0, v => some (some v :: none :: l)
  | a :: l, 1, v => match zsto2 l 0 v with
    | some l' => some (zkill a :: l')
    | none => none
  | a :: l, n + 2, v => match zsto2 l (n + 1) v with
    | some l' => some (a :: l')
    | none => none
def zmask : List Bool → List (Option zV) → List (Option zV)
  | true :: bs, a :: l => a :: zmask bs l
  | false :: bs, _ :: l => none :: zmask bs l
  | [], l => l
  | _, [] => []
def ztag : Nat → Nat
  | 3 => 1
  | 4 => 2
  | _ => 0
def zget {α : Type} (d : α) : List α → Nat → α
  | [], _ => d
  | a :: _, 0 => a
  | _ :: l, n + 1 => zget d l n
def zlocal {ρ : Type} (t : Nat) (ls : List (Option zV)) (u : Nat) (k : Int → Option ρ) : Option ρ := match zlv ls u with
  | some (t', v) => if t' = t then k v else none
  | none => none
def zstore {ρ : Type} (ls : List (Option zV)) (u : Nat) (v : zV) (k : List (Option zV) → Option ρ) : Option ρ := match zsto ls u v with
  | some l => k l
  | none => none
def zstore2 {ρ : Type} (ls : List (Option zV)) (u : Nat) (v : zV) (k : List (Option zV) → Option ρ) : Option ρ := match zsto2 ls u v with
  | some l => k l
  | none => none
def zstrs : List (List Int) := []
def zfind : List Int → Int → Int → Int
  | [], _, _ => -1
  | a :: l, x, n => if a = x then n else zfind l x (n + 1)
def zstix {ρ : Type} (t : Int) (x : Int) (k : Int → Option ρ) : Option ρ := k (zfind (zget [] zstrs t.toNat) x 0)
def zcopy {ρ : Type} (h : zH) (a i b j n : Int) (k : zH → Option ρ) : Option ρ := if 0 ≤ n ∧ a = b ∧ 0 ≤ i ∧ 0 ≤ j then zob h 20 a fun p => if i + n ≤ zhl h p ∧ j + n ≤ zhl h p then zlet (h.1, h.2.1, h.2.2.1, (fun (a' q : Nat) => if a' = p ∧ j ≤ (q : Int) ∧ (q : Int) < j + n then zhd h p (q + i.toNat - j.toNat) else zhd h a' q), h.2.2.2.2) k else none else none
/-- what the program is: kinds' fields (type codes 0 int, 1 boolean, 2 char, 3 long, 4 reference); methods' heads (0 static, 1 of an object, 2 constructor; tags of the arguments, the last first; what comes back: 0 int, 1 long, 2 reference, 9 nothing; class) -/
abbrev zP : Type := List (List Nat) × List (Nat × List Nat × Nat × Nat) × List (List (Int × Nat) × Nat)
def zft (P : zP) (c k : Nat) : Nat := zget 0 (zget [] P.1 c) k
def znf (P : zP) (c : Nat) : Nat := (zget [] P.1 c).length
def zsig (P : zP) (j : Nat) : Nat × List Nat × Nat × Nat := zget (0, [], 9, 0) P.2.1 j
def zdef (t : Nat) : Int := match t with
  | 4 => -1
  | _ => 0
/-- the value that an array's store leaves -/
def zrd (P : zP) (fin : Nat → Nat → Option Int) (h : zH) (c p k : Nat) : Int := match fin c k with
  | some v => v
  | none => zhd h p k
def zstp {ρ : Type} (P : zP) (al : Bool) (fin : Nat → Nat → Option Int) (call : Nat → List Int → zH → (Int → zH → Option ρ) → (Nat → zH → Option ρ) → Option ρ) (I : zI)
    (kont : Nat → List (Option zV) → List zV → zH → Option ρ) (kret : Int → zH → Option ρ) (kthr : Nat → zH → Option ρ) (pc : Nat) (ls : List (Option zV)) (st : List zV) (h : zH) : Option ρ :=
  match I, st with
  | (0, x, _, _), st => kont (pc + 1) ls ((0, x) :: st) h
  | (1, x, _, _), st => kont (pc + 2) ls ((0, x) :: st) h
  | (2, x, _, _), st => kont (pc + 3) ls ((0, x) :: st) h
  | (3, x, _, _), st => kont (pc + 2) ls ((0, x) :: st) h
  | (4, x, _, _), st => kont (pc + 3) ls ((0, x) :: st) h
  | (5, x, _, _), st => kont (pc + 1) ls ((1, x) :: st) h
  | (6, x, _, _), st => kont (pc + 3) ls ((1, x) :: st) h
  | (7, _, _, _), st => kont (pc + 1) ls ((2, -1) :: st) h
  | (8, x, _, _), st => kont (pc + 2) ls ((3, x) :: st) h
  | (10, _, u, _), st => zlocal 0 ls u fun v => kont (pc + 1) ls ((0, v) :: st) h
  | (11, _, u, _), st => zlocal 0 ls u fun v => kont (pc + 2) ls ((0, v) :: st) h
  | (12, _, u, _), st => zlocal 1 ls u fun v => kont (pc + 1) ls ((1, v) :: st) h
  | (13, _, u, _), st => zlocal 1 ls u fun v => kont (pc + 2) ls ((1, v) :: st) h
  | (14, _, u, 0), st => zlocal 2 ls u fun v => kont (pc + 1) ls ((2, v) :: st) h
  | (14, _, u, _), st => zlocal 3 ls u fun v => kont (pc + 1) ls ((3, v) :: st) h
  | (15, _, u, _), st => zlocal 2 ls u fun v => kont (pc + 2) ls ((2, v) :: st) h
  | (16, _, u, _), (0, x) :: st => zstore ls u (0, x) fun ls => kont (pc + 1) ls st h
  | (17, _, u, _), (0, x) :: st => zstore ls u (0, x) fun ls => kont (pc + 2) ls st h
  | (18, _, u, _), (1, x) :: st => zstore2 ls u (1, x) fun ls => kont (pc + 1) ls st h
  | (19, _, u, _), (1, x) :: st => zstore2 ls u (1, x) fun ls => kont (pc + 2) ls st h
  | (20, _, u, _), (2, x) :: st => zstore ls u (2, x) fun ls => kont (pc + 1) ls st h
  | (21, _, u, _), (2, x) :: st => zstore ls u (2, x) fun ls => kont (pc + 2) ls st h
  | (22, x, u, _), st => zlocal 0 ls u fun v => zstore ls u (0, wr (v + x)) fun ls => kont (pc + 3) ls st h
  | (30, _, _, _), (0, y) :: (0, x) :: st => kont (pc + 1) ls ((0, wr (x + y)) :: st) h
  | (31, _, _, _), (0, y) :: (0, x) :: st => kont (pc + 1) ls ((0, wr (x - y)) :: st) h
  | (32, _, _, _), (0, y) :: (0, x) :: st => kont (pc + 1) ls ((0, wr (x * y)) :: st) h
  | (33, _, _, _), (0, y) :: (0, x) :: st => if y = 0 then none else kont (pc + 1) ls ((0, wr (Int.tdiv x y)) :: st) h
  | (34, _, _, _), (0, y) :: (0, x) :: st => if y = 0 then none else kont (pc + 1) ls ((0, Int.tmod x y) :: st) h
  | (36, _, _, _), (0, y) :: (0, x) :: st => kont (pc + 1) ls ((0, zand x y) :: st) h
  | (37, _, _, _), (0, y) :: (0, x) :: st => kont (pc + 1) ls ((0, zor x y) :: st) h
  | (38, _, _, _), (0, y) :: (0, x) :: st => kont (pc + 1) ls ((0, zxor x y) :: st) h
  | (39, _, _, _), (0, y) :: (0, x) :: st => kont (pc + 1) ls ((0, zshl x y) :: st) h
  | (40, _, _, _), (0, y) :: (0, x) :: st => kont (pc + 1) ls ((0, zshr x y) :: st) h
  | (41, _, _, _), (0, y) :: (0, x) :: st => kont (pc + 1) ls ((0, zushr x y) :: st) h
  | (42, _, _, _), (0, x) :: st => kont (pc + 1) ls ((1, x) :: st) h
  | (43, _, _, _), (1, x) :: st => kont (pc + 1) ls ((0, wr x) :: st) h
  | (44, _, _, _), (0, x) :: st => kont (pc + 1) ls ((0, x % 65536) :: st) h
  | (45, _, _, _), (1, y) :: (1, x) :: st => kont (pc + 1) ls ((1, wrl (x + y)) :: st) h
  | (46, _, _, _), (1, y) :: (1, x) :: st => kont (pc + 1) ls ((1, wrl (x - y)) :: st) h
  | (47, _, _, _), (1, y) :: (1, x) :: st => kont (pc + 1) ls ((1, wrl (x * y)) :: st) h
  | (48, _, _, _), (1, y) :: (1, x) :: st => kont (pc + 1) ls ((0, if x < y then -1 else if x = y then 0 else 1) :: st) h
  | (50, _, _, _), (t, x) :: st => if t = 1 then none else kont (pc + 1) ls ((t, x) :: (t, x) :: st) h
  | (51, _, _, _), (t, x) :: (t', x') :: st => if t = 1 ∨ t' = 1 then none else kont (pc + 1) ls ((t, x) :: (t', x') :: (t, x) :: (t', x') :: st) h
  | (52, _, _, _), (t, _) :: st => if t = 1 then none else kont (pc + 1) ls st h
  | (60, _, u, _), (0, x) :: st => if x = 0 then kont u ls st h else kont (pc + 3) ls st h
  | (61, _, u, _), (0, x) :: st => if x = 0 then kont (pc + 3) ls st h else kont u ls st h
  | (62, _, u, _), (0, x) :: st => if x < 0 then kont u ls st h else kont (pc + 3) ls st h
  | (63, _, u, _), (0, x) :: st => if x < 0 then kont (pc + 3) ls st h else kont u ls st h
  | (64, _, u, _), (0, x) :: st => if 0 < x then kont u ls st h else kont (pc + 3) ls st h
  | (65, _, u, _), (0, x) :: st => if 0 < x then kont (pc + 3) ls st h else kont u ls st h
  | (66, _, u, _), (0, y) :: (0, x) :: st => if x = y then kont u ls st h else kont (pc + 3) ls st h
  | (67, _, u, _), (0, y) :: (0, x) :: st => if x = y then kont (pc + 3) ls st h else kont u ls st h
  | (68, _, u, _), (0, y) :: (0, x) :: st => if x < y then kont u ls st h else kont (pc + 3) ls st h
  | (69, _, u, _), (0, y) :: (0, x) :: st => if x < y then kont (pc + 3) ls st h else kont u ls st h
  | (70, _, u, _), (0, y) :: (0, x) :: st => if y < x then kont u ls st h else kont (pc + 3) ls st h
  | (71, _, u, _), (0, y) :: (0, x) :: st => if y < x then kont (pc + 3) ls st h else kont u ls st h
  | (72, _, u, _), st => kont u ls st h
  | (73, _, u, _), (2, x) :: st => if x < 0 then kont u ls st h else kont (pc + 3) ls st h
  | (74, _, u, _), (2, x) :: st => if x < 0 then kont (pc + 3) ls st h else kont u ls st h
  | (75, _, u, _), (2, y) :: (2, x) :: st => if x = y then kont u ls st h else kont (pc + 3) ls st h
  | (76, _, u, _), (2, y) :: (2, x) :: st => if x = y then kont (pc + 3) ls st h else kont u ls st h
  | (77, _, u, _), (0, x) :: st => zswt (zget ([], 0) P.2.2 u).1 (zget ([], 0) P.2.2 u).2 x fun t => kont t ls st h
  | (80, c, _, v), (2, a) :: st => zob h c.toNat a fun p => kont (pc + 3) ls ((ztag (zft P c.toNat v), zrd P fin h c.toNat p v) :: st) h
  | (81, c, _, v), (2, a) :: st => zob h c.toNat a fun p => kont (pc + 3) ls ((ztag (zft P c.toNat v), zrd P fin h c.toNat p v) :: st) h
  | (82, c, _, v), (t, x) :: (2, a) :: st => if t = ztag (zft P c.toNat v) then zob h c.toNat a fun p => znar (zft P c.toNat v) x fun x => zlet (zset h p v x) fun h => kont (pc + 3) ls st h else none
  | (84, c, _, v), (t, x) :: (2, a) :: st => if t = ztag (zft P c.toNat v) then zob h c.toNat a fun p => znar (zft P c.toNat v) x fun x => zlet (zset h p v x) fun h => kont (pc + 3) ls st h else none
  | (90, _, _, _), (0, i) :: (2, a) :: st => zob h 20 a fun p => zix (zhl h p) i fun j => kont (pc + 1) ls ((0, zhd h p j) :: st) h
  | (91, _, _, _), (0, i) :: (2, a) :: st => zob h 21 a fun p => zix (zhl h p) i fun j => kont (pc + 1) ls ((0, zhd h p j) :: st) h
  | (92, _, _, _), (0, i) :: (2, a) :: st => zob h 22 a fun p => zix (zhl h p) i fun j => kont (pc + 1) ls ((0, zhd h p j) :: st) h
  | (93, _, _, _), (0, i) :: (2, a) :: st => zob h 23 a fun p => zix (zhl h p) i fun j => kont (pc + 1) ls ((1, zhd h p j) :: st) h
  | (94, _, _, v), (0, i) :: (2, a) :: st => zob h (30 + v) a fun p => zix (zhl h p) i fun j => kont (pc + 1) ls ((2, zhd h p j) :: st) h
  | (95, _, _, _), (0, x) :: (0, i) :: (2, a) :: st => zob h 20 a fun p => zix (zhl h p) i fun j => zlet (zset h p j x) fun h => kont (pc + 1) ls st h
  | (96, _, _, _), (0, x) :: (0, i) :: (2, a) :: st => zob h 21 a fun p => zix (zhl h p) i fun j => znar 1 x fun x => zlet (zset h p j x) fun h => kont (pc + 1) ls st h
  | (97, _, _, _), (0, x) :: (0, i) :: (2, a) :: st => zob h 22 a fun p => zix (zhl h p) i fun j => znar 2 x fun x => zlet (zset h p j x) fun h => kont (pc + 1) ls st h
  | (98, _, _, _), (1, x) :: (0, i) :: (2, a) :: st => zob h 23 a fun p => zix (zhl h p) i fun j => zlet (zset h p j x) fun h => kont (pc + 1) ls st h
  | (99, _, _, v), (2, x) :: (0, i) :: (2, a) :: st => zob h (30 + v) a fun p => zix (zhl h p) i fun j => if x < 0 then zlet (zset h p j (-1)) fun h => kont (pc + 1) ls st h else zob h v x fun _ => zlet (zset h p j x) fun h => kont (pc + 1) ls st h
  | (100, _, _, v), (2, a) :: st => zob h v a fun p => kont (pc + 1) ls ((0, (zhl h p : Int)) :: st) h
  | (101, _, _, v), (0, x) :: st => if al = true then (zix 100000 x fun n => zlet (znew h v n n (fun _ => 0)) fun h' => kont (pc + 2) ls ((2, (zhn h : Int)) :: st) h') else none
  | (102, _, _, v), (0, x) :: st => if al = true then (zix 100000 x fun n => zlet (znew h (30 + v) n n (fun _ => -1)) fun h' => kont (pc + 3) ls ((2, (zhn h : Int)) :: st) h') else none
  | (103, _, _, v), st => if al = true then zlet (znew h v 0 (znf P v) (fun k => zdef (zft P v k))) fun h' => kont (pc + 3) ls ((2, (zhn h : Int)) :: st) h' else none
  | (110, _, _, j), st => zpop (zsig P j).2.1 st [] fun as st => match as with
    | a :: _ => zob h (zsig P j).2.2.2 a fun _ => call j as h (fun v h => match (zsig P j).2.2.1 with
      | 9 => kont (pc + 3) ls st h
      | t => kont (pc + 3) ls ((t, v) :: st) h) kthr
    | [] => none
  | (111, _, _, j), st => zpop (zsig P j).2.1 st [] fun as st => match as with
    | a :: _ => zob h (zsig P j).2.2.2 a fun _ => call j as h (fun v h => match (zsig P j).2.2.1 with
      | 9 => kont (pc + 3) ls st h
      | t => kont (pc + 3) ls ((t, v) :: st) h) kthr
    | [] => none
  | (113, _, _, j), st => zpop (zsig P j).2.1 st [] fun as st => call j as h (fun v h => match (zsig P j).2.2.1 with
      | 9 => kont (pc + 3) ls st h
      | t => kont (pc + 3) ls ((t, v) :: st) h) kthr
  | (114, _, _, j), st => zpop (zsig P j).2.1 st [] fun as st => call j as h (fun v h => match (zsig P j).2.2.1 with
      | 9 => kont (pc + 3) ls st h
      | t => kont (pc + 3) ls ((t, v) :: st) h) kthr
  | (115, _, _, j), st => zpop (zsig P j).2.1 st [] fun as st => call j as h (fun _ h => kont (pc + 3) ls st h) kthr
  | (116, _, _, j), st => zpop (zsig P j).2.1 st [] fun as st => call j as h (fun _ h => kont (pc + 3) ls st h) kthr
  | (117, _, _, _), (2, _) :: st => kont (pc + 3) ls st h
  | (119, _, _, _), (0, n) :: (0, j) :: (2, b) :: (0, i) :: (2, a) :: st => zcopy h a i b j n fun h => kont (pc + 3) ls st h
  | (120, _, _, _), (0, x) :: (3, t) :: st => zstix t x fun v => kont (pc + 3) ls ((0, v) :: st) h
  | (130, _, u, _), [(0, x)] => znar u x fun x => kret x h
  | (131, _, _, _), [(1, x)] => kret x h
  | (132, _, _, _), [(2, x)] => kret x h
  | (133, _, _, _), [] => kret 0 h
  | (134, _, _, v), [] => zlet (zthrown h) fun h => kthr v h
  | _, _ => none
def zseg {ρ : Type} (P : zP) (al : Bool) (fin : Nat → Nat → Option Int) (call : Nat → List Int → zH → (Int → zH → Option ρ) → (Nat → zH → Option ρ) → Option ρ) (code : Nat → zI)
    (cut : Nat → Option (List Bool)) (O : Nat → List (Option zV) → List zV → zH → Option ρ) (kret : Int → zH → Option ρ) (kthr : Nat → zH → Option ρ) : Nat → Nat → List (Option zV) → List zV → zH → Option ρ
  | 0, _, _, _, _ => none
  | f + 1, pc, ls, st, h => zstp P al fin call (code pc) (fun pc ls st h => match cut pc with
    | none => zseg P al fin call code cut O kret kthr f pc ls st h
    | some bm => O pc (zmask bm ls) st h) kret kthr pc ls st h
/-- a loop: its body, again and again, n times at most -/
def zit {T : Type} (b : T) (F : T → T) : Nat → T
  | 0 => b
  | n + 1 => F (zit b F n)
def zN : Nat := 5000
/-- the block of a method that stands at a place, out of a list of such -/
def zmt {ρ : Type} : List (Option (Nat × Option Int)) → List (Option zV) → List Int → (List Int → Option ρ) → Option ρ
  | [], [], acc, k => k acc
  | none :: tl, none :: l, acc, k => zmt tl l acc k
  | some (t, none) :: tl, some (t', x) :: l, acc, k => if t' = t then zmt tl l (acc ++ [x]) k else none
  | some (t, some c) :: tl, some (t', x) :: l, acc, k => if t' = t ∧ x = c then zmt tl l acc k else none
  | _, _, _, _ => none
def zms {ρ : Type} : List (Nat × Option Int) → List zV → List Int → (List Int → Option ρ) → Option ρ
  | [], [], acc, k => k acc
  | (t, none) :: tl, (t', x) :: l, acc, k => if t' = t then zms tl l (acc ++ [x]) k else none
  | (t, some c) :: tl, (t', x) :: l, acc, k => if t' = t ∧ x = c then zms tl l acc k else none
  | _, _, _, _ => none
def zmc {ρ : Type} : List (Option Int) → List Int → List Int → (List Int → Option ρ) → Option ρ
  | [], [], acc, k => k acc
  | none :: tl, x :: l, acc, k => zmc tl l (acc ++ [x]) k
  | some c :: tl, x :: l, acc, k => if x = c then zmc tl l acc k else none
  | _, _, _, _ => none
abbrev zE (ρ : Type) : Type := Nat × List (Option (Nat × Option Int)) × List (Nat × Option Int) × (List Int → zH → Option ρ)
abbrev zC (ρ : Type) : Type := Nat × List (Option Int) × (List Int → zH → (Int → zH → Option ρ) → (Nat → zH → Option ρ) → Option ρ)
def zorc {ρ : Type} : List (zE ρ) → Nat → List (Option zV) → List zV → zH → Option ρ
  | [], _, _, _, _ => none
  | (p, tl, ts, f) :: r, pc, ls, st, h => if p = pc then zmt tl ls [] (fun xs => zms ts st xs (fun xs => f xs h)) else zorc r pc ls st h
def zcal {ρ : Type} : List (zC ρ) → Nat → List Int → zH → (Int → zH → Option ρ) → (Nat → zH → Option ρ) → Option ρ
  | [], _, _, _, _, _ => none
  | (j', cs, f) :: r, j, as, h, kr, kt => if j' = j then zmc cs as [] (fun xs => f xs h kr kt) else zcal r j as h kr kt
def zcut : List (Nat × List Bool) → Nat → Option (List Bool)
  | [], _ => none
  | (p, bm) :: r, pc => if p = pc then some bm else zcut r pc
