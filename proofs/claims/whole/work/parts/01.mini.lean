/-! THE SMALL MACHINE: a value is (tag, number): tag 0 int, 1 long, 3 a String constant (its place in zstrs), 4 a thrown thing, 5 float, 6 double (their bits), 100 + c a reference to a cell of kind c (its place among the cells of that kind, -1 null). A kind is a class (0..12), or the field that holds an array (20..). A heap: how many of a kind, lengths, contents, cells and slots made. -/
abbrev zV : Type := Nat × Int
abbrev zH : Type := (Nat → Nat) × (Nat → Nat → Nat) × (Nat → Nat → Nat → Int) × Nat × Nat
abbrev zI : Type := Nat × Int × Nat × Nat
def zhN (h : zH) : Nat → Nat := h.1
def zhL (h : zH) : Nat → Nat → Nat := h.2.1
def zhD (h : zH) : Nat → Nat → Nat → Int := h.2.2.1
def zhC (h : zH) : Nat := h.2.2.2.1
def zhS (h : zH) : Nat := h.2.2.2.2
def wr (x : Int) : Int := (x + 2147483648) % 4294967296 - 2147483648
def wrl (x : Int) : Int := (x + 9223372036854775808) % 18446744073709551616 - 9223372036854775808
def zset (h : zH) (c p j : Nat) (v : Int) : zH := (h.1, h.2.1, (fun c' p' j' => if c' = c ∧ p' = p ∧ j' = j then v else h.2.2.1 c' p' j'), h.2.2.2)
def znew (h : zH) (c len slots : Nat) (f : Nat → Int) : zH := ((fun c' => if c' = c then h.1 c + 1 else h.1 c'), (fun c' p' => if c' = c ∧ p' = h.1 c then len else h.2.1 c' p'), (fun c' p' j' => if c' = c ∧ p' = h.1 c then f j' else h.2.2.1 c' p' j'), h.2.2.2.1 + 1, h.2.2.2.2 + slots)
def zthrown (h : zH) : zH := (h.1, h.2.1, h.2.2.1, h.2.2.2.1 + 1, h.2.2.2.2 + 6)
/-- a place of a row -/
def zix {ρ : Type} (n : Nat) (i : Int) (k : Nat → Option ρ) : Option ρ := if 0 ≤ i ∧ i < (n : Int) then k i.toNat else none
/-- a cell of a kind -/
def zob {ρ : Type} (h : zH) (c : Nat) (a : Int) (k : Nat → Option ρ) : Option ρ := if 0 ≤ a ∧ a < (zhN h c : Int) then k a.toNat else none
/-- what may be stored, returned as a type: 1 boolean, 2 char -/
def znar {ρ : Type} (t : Nat) (x : Int) (k : Int → Option ρ) : Option ρ := match t with
  | 1 => if x = 0 ∨ x = 1 then k x else none
  | 2 => if 0 ≤ x ∧ x < 65536 then k x else none
  | _ => k x
def zswt {ρ : Type} : List (Int × Nat) → Nat → Int → (Nat → Option ρ) → Option ρ
  | [], d, _, k => k d
  | (a, t) :: r, d, x, k => if x = a then k t else zswt r d x k
def zpop {ρ : Type} : List Nat → List zV → List Int → (List Int → List zV → Option ρ) → Option ρ
  | [], st, acc, k => k acc st
  | t :: ts, (t', x) :: st, acc, k => if t' = t then zpop ts st (x :: acc) k else none
  | _ :: _, [], _, _ => none
def zand (x y : Int) : Int := (Int32.ofInt x &&& Int32.ofInt y).toInt
def zor (x y : Int) : Int := (Int32.ofInt x ||| Int32.ofInt y).toInt
def zxor (x y : Int) : Int := (Int32.ofInt x ^^^ Int32.ofInt y).toInt
def zshl (x y : Int) : Int := (Int32.ofInt x <<< (Int32.ofInt y &&& 31)).toInt
def zshr (x y : Int) : Int := (Int32.ofInt x >>> (Int32.ofInt y &&& 31)).toInt
def zushr (x y : Int) : Int := (((Int32.ofInt x).toUInt32 >>> ((Int32.ofInt y).toUInt32 &&& Int32.toUInt32 31)).toInt32).toInt
def zlcmp (x y : Int) : Int := if x < y then -1 else if x = y then 0 else 1
def zf32 (x : Int) : UInt32 := UInt32.ofNat x.toNat
def zf64 (x : Int) : UInt64 := UInt64.ofNat x.toNat
def zn32 {ρ : Type} (r : UInt32) (k : Int → Option ρ) : Option ρ := if vf_n32 r then k (r.toNat : Int) else none
def zn64 {ρ : Type} (r : UInt64) (k : Int → Option ρ) : Option ρ := if vf_n64 r then k (r.toNat : Int) else none
def zl2f (x : Int) : Int := ((FP.l2f (Int64.ofInt x)).toNat : Int)
def zi2f (x : Int) : Int := ((FP.i2f (Int32.ofInt x)).toNat : Int)
def zl2d (x : Int) : Int := ((FP.l2d (Int64.ofInt x)).toNat : Int)
def zi2d (x : Int) : Int := ((FP.i2d (Int32.ofInt x)).toNat : Int)
def zdcmp (x y : Int) : Int := (Op.cmpValue (FP.dcmp (zf64 x) (zf64 y)) .l).toInt
def zfcmp (x y : Int) : Int := (Op.cmpValue (FP.fcmp (zf32 x) (zf32 y)) .l).toInt
def zlet {α ρ : Type} (x : α) (k : α → Option ρ) : Option ρ := k x
def zlv : List (Option zV) → Nat → Option zV
  | [], _ => none
  | a :: _, 0 => a
  | _ :: l, n + 1 => zlv l n
def zwide : Nat → Bool
  | 1 => true
  | 6 => true
  | _ => false
def zkill : Option zV → Option zV
  | some (t, x) => bif zwide t then none else some (t, x)
  | none => none
/-- storing a value of one slot -/
def zsto : List (Option zV) → Nat → zV → Option (List (Option zV))
  | [], _, _ => none
  | _ :: l, 0, v => some (some v :: l)
  | a :: l, 1, v => match zsto l 0 v with
    | some l' => some (zkill a :: l')
    | none => none
  | a :: l, n + 2, v => match zsto l (n + 1) v with
    | some l' => some (a :: l')
    | none => none
/-- .. of two -/
def zsto2 : List (Option zV) → Nat → zV → Option (List (Option zV))
  | [], _, _ => none
  | [_], _, _ => none
  | _ :: _ :: l, 0, v => some (some v :: none :: l)
  | a :: l, 1, v => match zsto2 l 0 v with
    | some l' => some (zkill a :: l')
    | none => none
  | a :: l, n + 2, v => match zsto2 l (n + 1) v with
    | some l' => some (a :: l')
    | none => none
def zmask : List Bool → List (Option zV) → List (Option zV)
  | true :: bs, a :: l => a :: zmask bs l
  | false :: bs, _ :: l => none :: zmask bs l
  | [], l => l
  | _, [] => []
def zget {α : Type} (d : α) : List α → Nat → α
  | [], _ => d
  | a :: _, 0 => a
  | _ :: l, n + 1 => zget d l n
def zlocal {ρ : Type} (t : Nat) (ls : List (Option zV)) (u : Nat) (k : Int → Option ρ) : Option ρ := match zlv ls u with
  | some (t', v) => if t' = t then k v else none
  | none => none
def zstore {ρ : Type} (ls : List (Option zV)) (u : Nat) (v : zV) (k : List (Option zV) → Option ρ) : Option ρ := match zsto ls u v with
  | some l => k l
  | none => none
def zstore2 {ρ : Type} (ls : List (Option zV)) (u : Nat) (v : zV) (k : List (Option zV) → Option ρ) : Option ρ := match zsto2 ls u v with
  | some l => k l
  | none => none
def zstrs : List (List Int) := [[118, 115, 99], [97, 120, 98, 102], [114, 119, 97, 120], [82, 87], [107, 43, 45, 42, 60, 61, 116, 110, 108, 122, 106, 114, 119, 82, 87, 97, 120, 118, 115, 98, 102, 99, 101], [107, 43, 45, 42, 60, 61, 116, 110, 108, 122, 114, 119, 82, 87, 97, 120, 118, 115, 99], [43, 45, 42, 60, 61, 114, 119, 82, 87, 97, 120, 118, 115], [43, 45, 42, 60, 61, 97, 120, 115, 99], [122, 106], [119, 87]]
def zfind : List Int → Int → Int → Int
  | [], _, _ => -1
  | a :: l, x, n => if a = x then n else zfind l x (n + 1)
def zstix {ρ : Type} (t : Int) (x : Int) (k : Int → Option ρ) : Option ρ := k (zfind (zget [] zstrs t.toNat) x 0)
def zcopy {ρ : Type} (c : Nat) (h : zH) (a i b j n : Int) (k : zH → Option ρ) : Option ρ := if 0 ≤ n ∧ a = b ∧ 0 ≤ i ∧ 0 ≤ j then zob h c a fun p => if i + n ≤ (zhL h c p : Int) ∧ j + n ≤ (zhL h c p : Int) then zlet (h.1, h.2.1, (fun (c' p' q : Nat) => if c' = c ∧ p' = p ∧ j ≤ (q : Int) ∧ (q : Int) < j + n then h.2.2.1 c p (q + i.toNat - j.toNat) else h.2.2.1 c' p' q), h.2.2.2) k else none else none
/-- what the program is: kinds' type codes (0 int, 1 boolean, 2 char, 3 long, 6 double, 100 + c reference; of an array's kind one); methods' heads (0 static, 1 of an object, 2 constructor; tags of the arguments, the last first; what comes back: its tag, 9 nothing; class); switches; tables of handlers -/
abbrev zP : Type := List (List Nat) × List (Nat × List Nat × Nat × Nat) × List (List (Int × Nat) × Nat) × List (List (Nat × Nat))
def zft (P : zP) (c k : Nat) : Nat := zget 0 (zget [] P.1 c) k
def znf (P : zP) (c : Nat) : Nat := (zget [] P.1 c).length
def zsig (P : zP) (j : Nat) : Nat × List Nat × Nat × Nat := zget (0, [], 9, 0) P.2.1 j
def ztag : Nat → Nat
  | 1 => 0
  | 2 => 0
  | 3 => 1
  | n => n
def zdef (t : Nat) : Int := bif Nat.ble 100 t then -1 else 0
/-- the lengths of the model's rows; its fields that hold them -/
def zml (c : Nat) : Nat := zget 0 [64, 4, 4, 4, 4, 160, 160, 160, 160, 12, 12, 12, 12, 12, 12, 12, 12, 12, 12, 12, 12, 12, 12, 12, 12, 12, 72, 72, 72, 1152, 1152, 9216, 1152, 2, 8, 8, 8, 8, 32, 32, 2, 2, 4, 73728, 73728, 768, 18432, 18432, 1152, 32, 64, 16, 128, 16, 16, 16] (c - 60)
def zmks : List Nat := [60, 61, 62, 63, 64, 65, 66, 67, 68, 69, 70, 71, 72, 73, 74, 75, 76, 77, 78, 79, 80, 81, 82, 83, 84, 85, 86, 87, 88, 89, 90, 91, 92, 93, 94, 95, 96, 97, 98, 99, 100, 101, 102, 103, 104, 105, 106, 107, 108, 109, 110, 111, 112, 113, 114, 115]
def zmfs : List Nat := [3, 5, 6, 7, 8, 9, 10, 11, 12, 14, 15, 16, 17, 18, 19, 20, 21, 22, 23, 24, 25, 26, 27, 28, 29, 30, 31, 32, 33, 34, 35, 36, 37, 38, 39, 40, 41, 42, 43, 44, 45, 46, 47, 48, 49, 50, 51, 52, 53, 62, 68, 69, 70, 71, 72, 73]
def zmk (c : Nat) : Bool := Nat.beq c 12 || Nat.ble 60 c
/-- the two ways of reading: al: any cell of the heap; else: the model's own, which stand as they were made -/
def zobm {ρ : Type} (al : Bool) (h : zH) (c : Nat) (a : Int) (k : Nat → Option ρ) : Option ρ := match al with
  | true => zob h c a k
  | false => match a with
    | Int.ofNat 0 => bif zmk c then k 0 else none
    | _ => none
def zlenm (al : Bool) (h : zH) (c p : Nat) : Nat := match al with
  | true => zhL h c p
  | false => zml c
def zrdm (al : Bool) (h : zH) (c p k : Nat) (t : Nat) : Int := match al with
  | true => zhD h c p k
  | false => bif Nat.ble 100 t then 0 else zhD h c p k
def zmok (h : zH) : Bool := Nat.beq (zhN h 12) 1 && zmks.all (fun c => Nat.beq (zhN h c) 1 && Nat.beq (zhL h c 0) (zml c)) && zmfs.all (fun k => zhD h 12 0 k == 0)
def zmch {ρ : Type} (h : zH) (a : Int) (k : Option ρ) : Option ρ := if a = 0 ∧ zmok h = true then k else none
def zhnd {ρ : Type} : List (Nat × Nat) → Nat → (Nat → Option ρ) → Option ρ
  | [], _, _ => none
  | (e, t) :: r, n, k => if n = e then k t else zhnd r n k
def zret {ρ : Type} (r : Nat) (v : Int) (st : List zV) (k : List zV → Option ρ) : Option ρ := match r with
  | 9 => k st
  | t => k ((t, v) :: st)
def zstp {ρ : Type} (P : zP) (al : Bool) (call : Nat → List Int → zH → (Int → zH → Option ρ) → (Nat → zH → Option ρ) → Option ρ) (I : zI)
    (kont : Nat → List (Option zV) → List zV → zH → Option ρ) (kret : Int → zH → Option ρ) (kthr : Nat → zH → Option ρ) (pc : Nat) (ls : List (Option zV)) (st : List zV) (h : zH) : Option ρ :=
  match I, st with
  | (0, x, _, _), st => kont (pc + 1) ls ((0, x) :: st) h
  | (1, x, _, _), st => kont (pc + 2) ls ((0, x) :: st) h
  | (2, x, _, _), st => kont (pc + 3) ls ((0, x) :: st) h
  | (3, x, _, _), st => kont (pc + 2) ls ((0, x) :: st) h
  | (4, x, _, _), st => kont (pc + 3) ls ((0, x) :: st) h
  | (5, x, _, _), st => kont (pc + 1) ls ((1, x) :: st) h
  | (6, x, _, _), st => kont (pc + 3) ls ((1, x) :: st) h
  | (7, _, _, v), st => kont (pc + 1) ls ((v, -1) :: st) h
  | (8, x, _, _), st => kont (pc + 2) ls ((3, x) :: st) h
  | (10, _, u, _), st => zlocal 0 ls u fun v => kont (pc + 1) ls ((0, v) :: st) h
  | (11, _, u, _), st => zlocal 0 ls u fun v => kont (pc + 2) ls ((0, v) :: st) h
  | (12, _, u, _), st => zlocal 1 ls u fun v => kont (pc + 1) ls ((1, v) :: st) h
  | (13, _, u, _), st => zlocal 1 ls u fun v => kont (pc + 2) ls ((1, v) :: st) h
  | (14, _, u, t), st => zlocal t ls u fun v => kont (pc + 1) ls ((t, v) :: st) h
  | (15, _, u, t), st => zlocal t ls u fun v => kont (pc + 2) ls ((t, v) :: st) h
  | (16, _, u, _), (0, x) :: st => zstore ls u (0, x) fun ls => kont (pc + 1) ls st h
  | (17, _, u, _), (0, x) :: st => zstore ls u (0, x) fun ls => kont (pc + 2) ls st h
  | (18, _, u, _), (1, x) :: st => zstore2 ls u (1, x) fun ls => kont (pc + 1) ls st h
  | (19, _, u, _), (1, x) :: st => zstore2 ls u (1, x) fun ls => kont (pc + 2) ls st h
  | (20, _, u, v), (t, x) :: st => if t = v then zstore ls u (t, x) fun ls => kont (pc + 1) ls st h else none
  | (21, _, u, v), (t, x) :: st => if t = v then zstore ls u (t, x) fun ls => kont (pc + 2) ls st h else none
  | (22, x, u, _), st => zlocal 0 ls u fun v => zstore ls u (0, wr (v + x)) fun ls => kont (pc + 3) ls st h
  | (30, _, _, _), (0, y) :: (0, x) :: st => kont (pc + 1) ls ((0, wr (x + y)) :: st) h
  | (31, _, _, _), (0, y) :: (0, x) :: st => kont (pc + 1) ls ((0, wr (x - y)) :: st) h
  | (32, _, _, _), (0, y) :: (0, x) :: st => kont (pc + 1) ls ((0, wr (x * y)) :: st) h
  | (33, _, _, _), (0, y) :: (0, x) :: st => if y = 0 then none else kont (pc + 1) ls ((0, wr (Int.tdiv x y)) :: st) h
  | (34, _, _, _), (0, y) :: (0, x) :: st => if y = 0 then none else kont (pc + 1) ls ((0, Int.tmod x y) :: st) h
  | (36, _, _, _), (0, y) :: (0, x) :: st => kont (pc + 1) ls ((0, zand x y) :: st) h
  | (37, _, _, _), (0, y) :: (0, x) :: st => kont (pc + 1) ls ((0, zor x y) :: st) h
  | (38, _, _, _), (0, y) :: (0, x) :: st => kont (pc + 1) ls ((0, zxor x y) :: st) h
  | (39, _, _, _), (0, y) :: (0, x) :: st => kont (pc + 1) ls ((0, zshl x y) :: st) h
  | (40, _, _, _), (0, y) :: (0, x) :: st => kont (pc + 1) ls ((0, zshr x y) :: st) h
  | (41, _, _, _), (0, y) :: (0, x) :: st => kont (pc + 1) ls ((0, zushr x y) :: st) h
  | (42, _, _, _), (0, x) :: st => kont (pc + 1) ls ((1, x) :: st) h
  | (43, _, _, _), (1, x) :: st => kont (pc + 1) ls ((0, wr x) :: st) h
  | (44, _, _, _), (0, x) :: st => kont (pc + 1) ls ((0, x % 65536) :: st) h
  | (45, _, _, _), (1, y) :: (1, x) :: st => kont (pc + 1) ls ((1, wrl (x + y)) :: st) h
  | (46, _, _, _), (1, y) :: (1, x) :: st => kont (pc + 1) ls ((1, wrl (x - y)) :: st) h
  | (47, _, _, _), (1, y) :: (1, x) :: st => kont (pc + 1) ls ((1, wrl (x * y)) :: st) h
  | (48, _, _, _), (1, y) :: (1, x) :: st => kont (pc + 1) ls ((0, zlcmp x y) :: st) h
  | (50, _, _, _), (t, x) :: st => bif zwide t then none else kont (pc + 1) ls ((t, x) :: (t, x) :: st) h
  | (51, _, _, _), (t, x) :: (t', x') :: st => bif zwide t || zwide t' then none else kont (pc + 1) ls ((t, x) :: (t', x') :: (t, x) :: (t', x') :: st) h
  | (52, _, _, _), (t, _) :: st => bif zwide t then none else kont (pc + 1) ls st h
  | (60, _, u, _), (0, x) :: st => if x = 0 then kont u ls st h else kont (pc + 3) ls st h
  | (61, _, u, _), (0, x) :: st => if x = 0 then kont (pc + 3) ls st h else kont u ls st h
  | (62, _, u, _), (0, x) :: st => if x < 0 then kont u ls st h else kont (pc + 3) ls st h
  | (63, _, u, _), (0, x) :: st => if x < 0 then kont (pc + 3) ls st h else kont u ls st h
  | (64, _, u, _), (0, x) :: st => if 0 < x then kont u ls st h else kont (pc + 3) ls st h
  | (65, _, u, _), (0, x) :: st => if 0 < x then kont (pc + 3) ls st h else kont u ls st h
  | (66, _, u, _), (0, y) :: (0, x) :: st => if x = y then kont u ls st h else kont (pc + 3) ls st h
  | (67, _, u, _), (0, y) :: (0, x) :: st => if x = y then kont (pc + 3) ls st h else kont u ls st h
  | (68, _, u, _), (0, y) :: (0, x) :: st => if x < y then kont u ls st h else kont (pc + 3) ls st h
  | (69, _, u, _), (0, y) :: (0, x) :: st => if x < y then kont (pc + 3) ls st h else kont u ls st h
  | (70, _, u, _), (0, y) :: (0, x) :: st => if y < x then kont u ls st h else kont (pc + 3) ls st h
  | (71, _, u, _), (0, y) :: (0, x) :: st => if y < x then kont (pc + 3) ls st h else kont u ls st h
  | (72, _, u, _), st => kont u ls st h
  | (73, _, u, _), (t, x) :: st => bif Nat.ble 100 t then (if x < 0 then kont u ls st h else kont (pc + 3) ls st h) else none
  | (74, _, u, _), (t, x) :: st => bif Nat.ble 100 t then (if x < 0 then kont (pc + 3) ls st h else kont u ls st h) else none
  | (75, _, u, _), (t, y) :: (t', x) :: st => bif Nat.ble 100 t && Nat.beq t t' then (if x = y then kont u ls st h else kont (pc + 3) ls st h) else none
  | (76, _, u, _), (t, y) :: (t', x) :: st => bif Nat.ble 100 t && Nat.beq t t' then (if x = y then kont (pc + 3) ls st h else kont u ls st h) else none
  | (77, _, u, _), (0, x) :: st => zswt (zget ([], 0) P.2.2.1 u).1 (zget ([], 0) P.2.2.1 u).2 x fun t => kont t ls st h
  | (78, _, u, _), (0, x) :: st => zswt (zget ([], 0) P.2.2.1 u).1 (zget ([], 0) P.2.2.1 u).2 x fun t => kont t ls st h
  | (80, c, _, v), (t, a) :: st => bif Nat.beq t (100 + c.toNat) then zobm al h c.toNat a fun p => kont (pc + 3) ls ((ztag (zft P c.toNat v), zrdm al h c.toNat p v (zft P c.toNat v)) :: st) h else none
  | (81, c, _, v), (t, a) :: st => bif Nat.beq t (100 + c.toNat) then zobm al h c.toNat a fun p => kont (pc + 3) ls ((ztag (zft P c.toNat v), zrdm al h c.toNat p v (zft P c.toNat v)) :: st) h else none
  | (82, c, _, v), (t', x) :: (t, a) :: st => bif Nat.beq t (100 + c.toNat) && Nat.beq t' (ztag (zft P c.toNat v)) then zobm al h c.toNat a fun p => znar (zft P c.toNat v) x fun x => zlet (zset h c.toNat p v x) fun h => kont (pc + 3) ls st h else none
  | (84, c, _, v), (t', x) :: (t, a) :: st => bif Nat.beq t (100 + c.toNat) && Nat.beq t' (ztag (zft P c.toNat v)) then zobm al h c.toNat a fun p => znar (zft P c.toNat v) x fun x => zlet (zset h c.toNat p v x) fun h => kont (pc + 3) ls st h else none
  | (90, _, _, v), (0, i) :: (t, a) :: st => bif Nat.beq t (100 + v) && Nat.beq (zft P v 0) 0 then zobm al h v a fun p => zix (zlenm al h v p) i fun j => kont (pc + 1) ls ((0, zhD h v p j) :: st) h else none
  | (91, _, _, v), (0, i) :: (t, a) :: st => bif Nat.beq t (100 + v) && Nat.beq (zft P v 0) 1 then zobm al h v a fun p => zix (zlenm al h v p) i fun j => kont (pc + 1) ls ((0, zhD h v p j) :: st) h else none
  | (92, _, _, v), (0, i) :: (t, a) :: st => bif Nat.beq t (100 + v) && Nat.beq (zft P v 0) 2 then zobm al h v a fun p => zix (zlenm al h v p) i fun j => kont (pc + 1) ls ((0, zhD h v p j) :: st) h else none
  | (93, _, _, v), (0, i) :: (t, a) :: st => bif Nat.beq t (100 + v) && Nat.beq (zft P v 0) 3 then zobm al h v a fun p => zix (zlenm al h v p) i fun j => kont (pc + 1) ls ((1, zhD h v p j) :: st) h else none
  | (94, _, _, v), (0, i) :: (t, a) :: st => bif Nat.beq t (100 + v) && Nat.ble 100 (zft P v 0) then zobm al h v a fun p => zix (zlenm al h v p) i fun j => kont (pc + 1) ls ((zft P v 0, zhD h v p j) :: st) h else none
  | (158, _, _, v), (0, i) :: (t, a) :: st => bif Nat.beq t (100 + v) && Nat.beq (zft P v 0) 6 then zobm al h v a fun p => zix (zlenm al h v p) i fun j => kont (pc + 1) ls ((6, zhD h v p j) :: st) h else none
  | (105, _, _, _), (0, i) :: (150, a) :: st => zobm al h 50 a fun p => zix (zlenm al h 50 p) i fun j => kont (pc + 1) ls ((0, zhD h 50 p j) :: st) h
  | (106, _, _, _), (150, a) :: st => zobm al h 50 a fun p => kont (pc + 1) ls ((0, (zlenm al h 50 p : Int)) :: st) h
  | (95, _, _, v), (0, x) :: (0, i) :: (t, a) :: st => bif Nat.beq t (100 + v) && Nat.beq (zft P v 0) 0 then zobm al h v a fun p => zix (zlenm al h v p) i fun j => zlet (zset h v p j x) fun h => kont (pc + 1) ls st h else none
  | (96, _, _, v), (0, x) :: (0, i) :: (t, a) :: st => bif Nat.beq t (100 + v) && Nat.beq (zft P v 0) 1 then zobm al h v a fun p => zix (zlenm al h v p) i fun j => znar 1 x fun x => zlet (zset h v p j x) fun h => kont (pc + 1) ls st h else none
  | (97, _, _, v), (0, x) :: (0, i) :: (t, a) :: st => bif Nat.beq t (100 + v) && Nat.beq (zft P v 0) 2 then zobm al h v a fun p => zix (zlenm al h v p) i fun j => znar 2 x fun x => zlet (zset h v p j x) fun h => kont (pc + 1) ls st h else none
  | (98, _, _, v), (1, x) :: (0, i) :: (t, a) :: st => bif Nat.beq t (100 + v) && Nat.beq (zft P v 0) 3 then zobm al h v a fun p => zix (zlenm al h v p) i fun j => zlet (zset h v p j x) fun h => kont (pc + 1) ls st h else none
  | (159, _, _, v), (6, x) :: (0, i) :: (t, a) :: st => bif Nat.beq t (100 + v) && Nat.beq (zft P v 0) 6 then zobm al h v a fun p => zix (zlenm al h v p) i fun j => zlet (zset h v p j x) fun h => kont (pc + 1) ls st h else none
  | (99, _, _, v), (t', x) :: (0, i) :: (t, a) :: st => bif Nat.beq t (100 + v) && (Nat.ble 100 t' && Nat.beq t' (zft P v 0)) then zobm al h v a fun p => zix (zlenm al h v p) i fun j => if x < 0 then zlet (zset h v p j (-1)) fun h => kont (pc + 1) ls st h else zobm al h (t' - 100) x fun _ => zlet (zset h v p j x) fun h => kont (pc + 1) ls st h else none
  | (100, _, _, v), (t, a) :: st => bif Nat.beq t (100 + v) && Nat.ble 20 v then zobm al h v a fun p => kont (pc + 1) ls ((0, (zlenm al h v p : Int)) :: st) h else none
  | (101, _, _, v), (0, x) :: st => bif al && Nat.ble 20 v then (zix 100000 x fun n => zlet (znew h v n n (fun _ => 0)) fun h' => kont (pc + 2) ls ((100 + v, (zhN h v : Int)) :: st) h') else none
  | (102, _, _, v), (0, x) :: st => bif al && Nat.ble 20 v then (zix 100000 x fun n => zlet (znew h v n n (fun _ => -1)) fun h' => kont (pc + 3) ls ((100 + v, (zhN h v : Int)) :: st) h') else none
  | (103, _, _, v), st => bif al then zlet (znew h v 0 (znf P v) (fun k => zdef (zft P v k))) fun h' => kont (pc + 3) ls ((100 + v, (zhN h v : Int)) :: st) h' else none
  | (110, _, _, j), st => zpop (zsig P j).2.1 st [] fun as st => match as with
    | a :: _ => zobm al h (zsig P j).2.2.2 a fun _ => call j as h (fun v h => zret (zsig P j).2.2.1 v st fun st => kont (pc + 3) ls st h) kthr
    | [] => none
  | (111, _, _, j), st => zpop (zsig P j).2.1 st [] fun as st => match as with
    | a :: _ => zobm al h (zsig P j).2.2.2 a fun _ => call j as h (fun v h => zret (zsig P j).2.2.1 v st fun st => kont (pc + 3) ls st h) kthr
    | [] => none
  | (118, w, _, j), st => zpop (zsig P j).2.1 st [] fun as st => match as with
    | a :: _ => zobm al h (zsig P j).2.2.2 a fun _ => call j as h (fun v h => zret (zsig P j).2.2.1 v st fun st => kont (pc + 3) ls st h) (fun n h => zhnd (zget [] P.2.2.2 w.toNat) n fun t => kont t ls [(4, 0)] h)
    | [] => none
  | (113, _, _, j), st => zpop (zsig P j).2.1 st [] fun as st => call j as h (fun v h => zret (zsig P j).2.2.1 v st fun st => kont (pc + 3) ls st h) kthr
  | (114, _, _, j), st => zpop (zsig P j).2.1 st [] fun as st => call j as h (fun v h => zret (zsig P j).2.2.1 v st fun st => kont (pc + 3) ls st h) kthr
  | (115, _, _, j), st => zpop (zsig P j).2.1 st [] fun as st => call j as h (fun _ h => kont (pc + 3) ls st h) kthr
  | (116, _, _, j), st => zpop (zsig P j).2.1 st [] fun as st => call j as h (fun _ h => kont (pc + 3) ls st h) kthr
  | (117, _, _, _), (t, _) :: st => bif Nat.ble 100 t && Nat.ble t 112 then kont (pc + 3) ls st h else none
  | (119, _, _, v), (0, n) :: (0, j) :: (t', b) :: (0, i) :: (t, a) :: st => bif Nat.beq t (100 + v) && Nat.beq t' (100 + v) && Nat.beq (zft P v 0) 0 then zcopy v h a i b j n fun h => kont (pc + 3) ls st h else none
  | (120, _, _, _), (0, x) :: (3, t) :: st => zstix t x fun v => kont (pc + 3) ls ((0, v) :: st) h
  | (130, _, u, _), [(0, x)] => znar u x fun x => kret x h
  | (131, _, _, _), [(1, x)] => kret x h
  | (132, _, _, v), [(t, x)] => bif Nat.ble 100 t && Nat.beq t v then kret x h else none
  | (133, _, _, _), [] => kret 0 h
  | (160, _, _, _), [(5, x)] => kret x h
  | (161, _, _, _), [(6, x)] => kret x h
  | (134, _, _, v), [] => zlet (zthrown h) fun h => kthr v h
  | (140, x, _, _), st => kont (pc + 1) ls ((5, x) :: st) h
  | (141, x, _, _), st => kont (pc + 1) ls ((6, x) :: st) h
  | (142, _, _, _), (1, x) :: st => kont (pc + 1) ls ((5, zl2f x) :: st) h
  | (143, _, _, _), (0, x) :: st => kont (pc + 1) ls ((5, zi2f x) :: st) h
  | (144, _, _, _), (5, y) :: (5, x) :: st => zn32 (FP.fdiv (zf32 x) (zf32 y)) fun r => kont (pc + 1) ls ((5, r) :: st) h
  | (145, _, _, _), (1, x) :: st => kont (pc + 1) ls ((6, zl2d x) :: st) h
  | (146, _, _, _), (0, x) :: st => kont (pc + 1) ls ((6, zi2d x) :: st) h
  | (147, _, _, _), (6, y) :: (6, x) :: st => zn64 (FP.ddiv (zf64 x) (zf64 y)) fun r => kont (pc + 1) ls ((6, r) :: st) h
  | (148, _, _, _), (5, x) :: st => zn64 (FP.f2d (zf32 x)) fun r => kont (pc + 1) ls ((6, r) :: st) h
  | (149, _, _, _), (6, y) :: (6, x) :: st => kont (pc + 1) ls ((0, zdcmp x y) :: st) h
  | (139, _, _, _), (5, y) :: (5, x) :: st => kont (pc + 1) ls ((0, zfcmp x y) :: st) h
  | (150, _, u, _), st => zlocal 5 ls u fun v => kont (pc + 1) ls ((5, v) :: st) h
  | (151, _, u, _), st => zlocal 5 ls u fun v => kont (pc + 2) ls ((5, v) :: st) h
  | (152, _, u, _), (5, x) :: st => zstore ls u (5, x) fun ls => kont (pc + 1) ls st h
  | (153, _, u, _), (5, x) :: st => zstore ls u (5, x) fun ls => kont (pc + 2) ls st h
  | (154, _, u, _), st => zlocal 6 ls u fun v => kont (pc + 1) ls ((6, v) :: st) h
  | (155, _, u, _), st => zlocal 6 ls u fun v => kont (pc + 2) ls ((6, v) :: st) h
  | (156, _, u, _), (6, x) :: st => zstore2 ls u (6, x) fun ls => kont (pc + 1) ls st h
  | (157, _, u, _), (6, x) :: st => zstore2 ls u (6, x) fun ls => kont (pc + 2) ls st h
  | _, _ => none
def zseg {ρ : Type} (P : zP) (al : Bool) (call : Nat → List Int → zH → (Int → zH → Option ρ) → (Nat → zH → Option ρ) → Option ρ) (code : Nat → zI)
    (cut : Nat → Option (List Bool)) (O : Nat → List (Option zV) → List zV → zH → Option ρ) (kret : Int → zH → Option ρ) (kthr : Nat → zH → Option ρ) : Nat → Nat → List (Option zV) → List zV → zH → Option ρ
  | 0, _, _, _, _ => none
  | f + 1, pc, ls, st, h => zstp P al call (code pc) (fun pc ls st h => match cut pc with
    | none => zseg P al call code cut O kret kthr f pc ls st h
    | some bm => O pc (zmask bm ls) st h) kret kthr pc ls st h
/-- a loop: its body, again and again, n times at most -/
def zit {T : Type} (b : T) (F : T → T) : Nat → T
  | 0 => b
  | n + 1 => F (zit b F n)
def zN : Nat := 5000
/-- the block of a method that stands at a place, out of a list of such -/
def zmt {ρ : Type} : List (Option (Nat × Option Int)) → List (Option zV) → List Int → (List Int → Option ρ) → Option ρ
  | [], [], acc, k => k acc
  | none :: tl, none :: l, acc, k => zmt tl l acc k
  | some (t, none) :: tl, some (t', x) :: l, acc, k => if t' = t then zmt tl l (acc ++ [x]) k else none
  | some (t, some c) :: tl, some (t', x) :: l, acc, k => if t' = t ∧ x = c then zmt tl l acc k else none
  | _, _, _, _ => none
def zms {ρ : Type} : List (Nat × Option Int) → List zV → List Int → (List Int → Option ρ) → Option ρ
  | [], [], acc, k => k acc
  | (t, none) :: tl, (t', x) :: l, acc, k => if t' = t then zms tl l (acc ++ [x]) k else none
  | (t, some c) :: tl, (t', x) :: l, acc, k => if t' = t ∧ x = c then zms tl l acc k else none
  | _, _, _, _ => none
def zmc {ρ : Type} : List (Option Int) → List Int → List Int → (List Int → Option ρ) → Option ρ
  | [], [], acc, k => k acc
  | none :: tl, x :: l, acc, k => zmc tl l (acc ++ [x]) k
  | some c :: tl, x :: l, acc, k => if x = c then zmc tl l acc k else none
  | _, _, _, _ => none
abbrev zE (ρ : Type) : Type := Nat × List (Option (Nat × Option Int)) × List (Nat × Option Int) × (List Int → zH → Option ρ)
abbrev zC (ρ : Type) : Type := Nat × List (Option Int) × (List Int → zH → (Int → zH → Option ρ) → (Nat → zH → Option ρ) → Option ρ)
def zorc {ρ : Type} : List (zE ρ) → Nat → List (Option zV) → List zV → zH → Option ρ
  | [], _, _, _, _ => none
  | (p, tl, ts, f) :: r, pc, ls, st, h => if p = pc then zmt tl ls [] (fun xs => zms ts st xs (fun xs => f xs h)) else zorc r pc ls st h
def zcal {ρ : Type} : List (zC ρ) → Nat → List Int → zH → (Int → zH → Option ρ) → (Nat → zH → Option ρ) → Option ρ
  | [], _, _, _, _, _ => none
  | (j', cs, f) :: r, j, as, h, kr, kt => if j' = j then zmc cs as [] (fun xs => f xs h kr kt) else zcal r j as h kr kt
def zcut : List (Nat × List Bool) → Nat → Option (List Bool)
  | [], _ => none
  | (p, bm) :: r, pc => if p = pc then some bm else zcut r pc
def zPP : zP := ([[101, 102, 105], [120, 121, 0, 0], [101, 122, 123, 104, 0, 2, 124, 125, 0, 0, 0], [126, 127, 0, 111], [3, 3, 3, 3, 0, 0, 0, 0], [128, 129, 130, 131, 107, 0, 1], [0, 132, 0, 0, 2], [0, 0, 133, 0, 1], [2, 0, 0, 0], [0, 0, 109, 109, 109, 107, 0, 0, 0, 0, 2, 2, 0, 0, 0, 0, 134, 135, 0], [109, 0, 136, 137, 138, 139, 140, 141], [110, 0, 142, 143, 144, 0, 0], [0, 0, 2, 160, 0, 161, 162, 163, 164, 165, 166, 167, 168, 0, 169, 170, 171, 172, 173, 174, 175, 176, 177, 178, 179, 180, 181, 182, 183, 184, 185, 186, 187, 188, 189, 190, 191, 192, 193, 194, 195, 196, 197, 198, 199, 200, 201, 202, 203, 204, 205, 206, 207, 208, 3, 0, 0, 0, 0, 0, 0, 0, 209, 0, 0, 0, 2, 0, 210, 211, 212, 213, 214, 215], [], [], [], [], [], [], [], [107], [109], [0], [103], [0], [0], [111], [0], [0], [0], [106], [0], [0], [108], [0], [1], [106], [111], [0], [0], [0], [1], [106], [0], [0], [], [], [], [], [], [0], [3], [6], [], [], [], [], [], [], [], [0], [0], [0], [0], [1], [2], [0], [0], [0], [2], [0], [0], [0], [0], [0], [0], [0], [0], [0], [0], [0], [0], [0], [0], [2], [0], [0], [1], [0], [2], [0], [0], [0], [0], [0], [0], [0], [0], [0], [0], [0], [0], [0], [0], [0], [1], [0], [0], [1], [0], [0], [0], [0], [0], [2], [0]],
 [(0, [0], 0, 99), (0, [0, 0], 0, 99), (0, [0, 0], 0, 99), (0, [0, 0], 0, 99), (0, [0, 129], 9, 99), (0, [0, 131], 9, 99), (0, [0, 132], 9, 99), (0, [0, 139], 9, 99), (0, [0, 140], 9, 99), (2, [100], 9, 0), (1, [0, 0, 100], 0, 0), (1, [0, 0, 0, 0, 0, 100], 0, 0), (1, [0, 0, 100], 0, 0), (1, [0, 0, 100], 0, 0), (1, [0, 100], 0, 0), (1, [0, 0, 0, 0, 0, 100], 0, 0), (1, [0, 0, 0, 0, 0, 100], 0, 0), (1, [100], 0, 0), (1, [0, 100], 0, 0), (1, [0, 100], 0, 0), (1, [0, 100], 0, 0), (1, [0, 100], 0, 0), (1, [0, 100], 0, 0), (1, [0, 100], 0, 0), (1, [100], 0, 0), (1, [0, 100], 0, 0), (1, [0, 0, 100], 0, 0), (1, [0, 0, 100], 0, 0), (1, [0, 0, 100], 0, 0), (1, [0, 0, 100], 0, 0), (1, [0, 0, 100], 0, 0), (1, [0, 0, 0, 0, 100], 0, 0), (1, [0, 0, 0, 100], 0, 0), (1, [0, 0, 100], 0, 0), (1, [0, 100], 0, 0), (1, [0, 100], 0, 0), (1, [0, 0, 100], 0, 0), (1, [0, 100], 0, 0), (1, [0, 0, 0, 0, 0, 100], 0, 0), (1, [100], 1, 0), (1, [100], 0, 0), (1, [100], 0, 0), (1, [100], 0, 0), (1, [100], 0, 0), (1, [100], 5, 0), (1, [100], 6, 0), (1, [100], 0, 0), (1, [0, 100], 107, 0), (1, [0, 100], 109, 0), (1, [0, 100], 109, 0), (1, [0, 100], 103, 0), (1, [0, 0, 100], 111, 0), (1, [0, 0, 100], 9, 0), (1, [100], 9, 0), (0, [0, 0, 0], 0, 0), (0, [0], 0, 0), (0, [0, 0], 0, 0), (0, [0], 0, 0), (0, [0, 0, 0], 0, 0), (0, [0, 0, 0], 0, 0), (0, [108, 106, 0, 122], 9, 0), (0, [108, 106, 0, 128], 9, 0), (2, [112], 9, 12), (1, [112], 0, 12), (0, [0, 0, 0], 0, 12), (1, [0, 0, 112], 0, 12), (1, [0, 112], 0, 12), (1, [0, 112], 0, 12), (0, [0], 0, 12), (1, [0, 0, 112], 0, 12), (0, [0], 0, 12), (1, [0, 0, 0, 0, 0, 112], 0, 12), (0, [0], 0, 12), (0, [0, 0], 0, 12), (1, [0, 0, 112], 0, 12), (1, [0, 0, 112], 0, 12), (1, [0, 0, 112], 0, 12), (1, [0, 112], 0, 12), (1, [0, 112], 0, 12), (1, [0, 0, 0, 112], 0, 12), (1, [0, 0, 0, 0, 0, 112], 0, 12), (1, [0, 0, 0, 0, 0, 112], 0, 12), (1, [0, 0, 0, 112], 0, 12), (1, [112], 0, 12), (1, [0, 112], 0, 12), (1, [0, 112], 0, 12), (1, [0, 112], 0, 12), (1, [112], 9, 12), (0, [0, 0], 0, 12), (1, [0, 112], 0, 12), (1, [0, 0, 112], 9, 12), (1, [0, 112], 9, 12), (1, [0, 0, 0, 0, 0, 112], 9, 12), (1, [0, 0, 112], 0, 12), (1, [0, 0, 112], 0, 12), (1, [0, 112], 9, 12), (1, [0, 112], 0, 12), (1, [0, 112], 9, 12), (1, [0, 112], 0, 12), (1, [0, 112], 9, 12), (1, [0, 112], 9, 12), (1, [0, 0, 0, 0, 112], 9, 12), (1, [0, 0, 0, 0, 112], 9, 12), (1, [0, 112], 0, 12), (1, [0, 112], 0, 12), (1, [0, 0, 0, 112], 0, 12), (1, [0, 0, 112], 0, 12), (1, [0, 0, 0, 0, 112], 9, 12), (1, [0, 112], 0, 12), (0, [0], 0, 12), (1, [0, 112], 0, 12), (1, [0, 0, 112], 0, 12), (1, [0, 0, 0, 112], 0, 12), (0, [0], 0, 12), (0, [0], 0, 12), (0, [0, 0, 0], 0, 12), (1, [0, 0, 0, 0, 112], 9, 12), (1, [0, 0, 0, 0, 112], 9, 12), (1, [0, 0, 0, 112], 0, 12), (1, [0, 0, 0, 112], 0, 12), (1, [0, 0, 112], 0, 12), (1, [0, 0, 112], 0, 12), (1, [0, 0, 0, 112], 9, 12), (1, [0, 0, 112], 9, 12), (1, [0, 112], 9, 12), (1, [0, 112], 0, 12), (1, [0, 112], 0, 12), (1, [0, 112], 9, 12), (1, [0, 112], 9, 12), (1, [0, 112], 0, 12), (1, [0, 112], 0, 12), (1, [0, 0, 112], 0, 12), (1, [0, 112], 0, 12), (1, [0, 0, 112], 9, 12), (1, [0, 112], 0, 12), (1, [0, 112], 0, 12), (1, [112], 0, 12), (1, [0, 112], 0, 12), (1, [112], 0, 12), (1, [0, 112], 0, 12), (1, [0, 112], 0, 12), (1, [112], 0, 12), (0, [0], 0, 12), (1, [0, 0, 112], 0, 12), (1, [0, 112], 0, 12), (1, [0, 0, 112], 0, 12), (1, [0, 0, 112], 0, 12), (1, [0, 0, 112], 0, 12), (1, [0, 0, 112], 0, 12), (1, [0, 0, 112], 0, 12), (1, [0, 0, 0, 0, 112], 0, 12), (1, [0, 0, 0, 112], 0, 12), (1, [0, 0, 112], 0, 12), (1, [0, 112], 0, 12), (1, [0, 112], 0, 12), (1, [0, 0, 112], 0, 12), (1, [0, 112], 0, 12), (1, [0, 0, 0, 112], 0, 12), (1, [0, 112], 0, 12), (1, [0, 0, 0, 0, 112], 0, 12), (1, [0, 0, 0, 0, 0, 112], 0, 12), (1, [112], 1, 12), (1, [112], 0, 12), (1, [112], 0, 12), (1, [112], 0, 12), (1, [112], 0, 12), (1, [112], 5, 12), (1, [112], 6, 12), (1, [112], 0, 12), (2, [0, 109, 110], 9, 10), (0, [109], 110, 10), (1, [0, 110], 0, 10), (1, [110], 0, 10), (1, [110], 0, 10), (1, [110], 106, 10), (1, [0, 110], 0, 10), (1, [0, 0, 0, 110], 9, 10), (1, [0, 0, 0, 110], 9, 10), (1, [122, 110], 9, 10), (2, [101, 102], 9, 2), (1, [102], 9, 2), (1, [102], 9, 2), (1, [102], 9, 2), (1, [109, 102], 103, 2), (1, [109, 103, 102], 9, 2), (1, [102], 9, 2), (1, [111, 103, 102], 0, 2), (1, [108, 111, 102], 9, 2), (1, [108, 106, 0, 111, 102], 0, 2), (1, [108, 106, 0, 111, 102], 0, 2), (0, [108, 106, 0, 110], 0, 2), (1, [108, 106, 109, 102], 9, 2), (1, [108, 103, 102], 0, 2), (1, [108, 103, 102], 0, 2), (1, [102], 0, 2), (1, [103, 102], 0, 2), (1, [0, 0, 102], 0, 2), (1, [110, 102], 9, 2), (1, [110, 102], 9, 2), (1, [110, 102], 9, 2), (1, [0, 0, 0, 110, 102], 9, 2), (2, [104], 9, 4), (2, [0, 110, 111], 9, 11), (1, [0, 111], 106, 11), (1, [0, 111], 0, 11), (1, [111], 0, 11), (1, [111], 0, 11), (1, [111], 0, 11), (1, [0, 111], 0, 11), (1, [111], 0, 11), (1, [0, 111], 0, 11), (1, [0, 111], 0, 11), (1, [111], 0, 11), (1, [111], 0, 11), (1, [0, 0, 111], 9, 11), (1, [122, 0, 111], 0, 11), (1, [122, 111], 9, 11), (1, [122, 111], 0, 11), (2, [0, 0, 0, 0, 108], 9, 8), (1, [3, 108], 0, 8), (1, [107, 108], 0, 8), (1, [108], 0, 8), (2, [0, 0, 107], 9, 7), (1, [108, 107], 0, 7), (1, [0, 107], 108, 7), (1, [0, 107], 0, 7), (1, [3, 107], 0, 7), (1, [0, 107], 0, 7), (2, [109, 109, 109, 0, 0, 109], 9, 9), (1, [0, 0, 107, 109], 9, 9), (1, [0, 0, 0, 109], 9, 9), (1, [109], 0, 9), (1, [109], 0, 9), (1, [109], 0, 9), (1, [109], 0, 9), (1, [109], 0, 9), (1, [109], 0, 9), (1, [122, 109], 9, 9), (1, [0, 109], 9, 9), (2, [101], 9, 1), (1, [0, 101], 107, 1), (1, [0, 101], 109, 1), (1, [107, 101], 0, 1), (1, [0, 0, 101], 109, 1), (1, [109, 101], 109, 1), (1, [0, 101], 109, 1), (1, [0, 0, 109, 101], 0, 1), (1, [101], 0, 1), (1, [101], 9, 1), (1, [0, 101], 9, 1), (0, [109], 9, 1), (1, [109, 101], 9, 1), (1, [109, 101], 0, 1), (2, [0, 0, 106], 9, 6), (1, [0, 0, 106], 9, 6), (1, [106], 0, 6), (1, [106], 0, 6), (1, [106], 0, 6), (1, [0, 106], 0, 6), (1, [0, 0, 106], 9, 6), (1, [108, 106], 9, 6), (1, [0, 108, 106], 9, 6), (1, [0, 0, 106], 9, 6), (0, [0, 136], 0, 6), (0, [0, 130], 106, 6), (0, [0, 136], 106, 6), (0, [0, 0, 0, 130], 0, 6), (0, [0, 0, 0, 136], 0, 6), (2, [105], 9, 5), (1, [122, 0, 0, 107, 105], 9, 5), (1, [0, 105], 0, 5), (1, [0, 105], 0, 5), (1, [106, 105], 0, 5), (1, [108, 106, 105], 0, 5), (1, [0, 108, 106, 105], 0, 5), (1, [0, 108, 106, 105], 0, 5), (2, [103], 9, 3), (1, [0, 103], 111, 3), (1, [0, 107, 103], 0, 3), (1, [103], 0, 3), (1, [103], 0, 3), (1, [110, 103], 9, 3), (1, [110, 103], 9, 3), (1, [109, 103], 9, 3), (1, [0, 103], 9, 3), (1, [0, 0, 103], 111, 3), (1, [103], 0, 3), (1, [0, 103], 0, 3), (1, [103], 0, 3), (0, [151, 0, 0, 100], 0, 99), (0, [151, 0, 0, 0, 0, 0, 100], 0, 99), (0, [151, 0, 0, 100], 0, 99), (0, [151, 0, 0, 100], 0, 99), (0, [151, 0, 100], 0, 99), (0, [151, 0, 0, 0, 0, 0, 100], 0, 99), (0, [151, 0, 0, 0, 0, 0, 100], 0, 99), (0, [151, 0, 100], 0, 99), (0, [151, 0, 100], 0, 99), (0, [151, 0, 100], 0, 99), (0, [151, 0, 100], 0, 99), (0, [151, 0, 100], 0, 99), (0, [151, 0, 100], 0, 99), (0, [151, 0, 100], 0, 99), (0, [151, 0, 0, 100], 0, 99), (0, [151, 0, 0, 100], 0, 99), (0, [151, 0, 0, 100], 0, 99), (0, [151, 0, 0, 100], 0, 99), (0, [151, 0, 0, 100], 0, 99), (0, [151, 0, 0, 0, 0, 100], 0, 99), (0, [151, 0, 0, 0, 100], 0, 99), (0, [151, 0, 0, 100], 0, 99), (0, [151, 0, 100], 0, 99), (0, [151, 0, 100], 0, 99), (0, [151, 0, 0, 100], 0, 99), (0, [151, 0, 100], 0, 99), (0, [151, 0, 0, 0, 0, 0, 100], 0, 99), (0, [152, 100], 0, 99), (0, [152, 100], 0, 99), (0, [150], 0, 99)],
 [([(42, 88), (82, 90), (87, 90), (97, 108), (99, 118), (102, 101), (114, 95), (119, 101), (120, 108)], 128), ([(42, 159), (43, 103), (45, 131), (60, 187), (61, 222), (107, 88), (108, 287), (110, 272), (116, 257)], 304), ([(0, 208), (1, 276), (2, 382), (3, 450), (4, 518), (5, 574), (6, 678), (7, 782), (8, 795), (9, 851), (10, 907), (11, 963), (12, 1019), (13, 1075), (14, 1133), (15, 1146), (16, 1202), (17, 1270), (18, 1338), (19, 1406), (20, 1474), (21, 1542), (22, 1634), (23, 1714), (24, 1782), (25, 1838), (26, 1894), (27, 1969), (28, 2025), (29, 2145), (30, 2159), (31, 2172), (32, 2185), (33, 2198), (34, 2211), (35, 2277), (36, 2342)], 2355)],
 [[(1, 13), (2, 17)], [(3, 19), (1, 23), (2, 27)], [(3, 13), (1, 17)], [(3, 13)], [(3, 12)], [(3, 19), (1, 23), (4, 27), (2, 31)], [(3, 19), (1, 23), (2, 27)], [(3, 12)], [(3, 12), (5, 15)], [(3, 12)], [(1, 12)], [(1, 12)], [(1, 12)], [(3, 12)], [(3, 13)], [(3, 13), (5, 17)], [(3, 13)], [(3, 13)], [(3, 13)], [(3, 17)], [(3, 15)], [(3, 13)], [(3, 12), (5, 15)], [(3, 12), (5, 15)], [(3, 20)], [(3, 12)], [(3, 19), (1, 23), (4, 27), (2, 31)], [(6, 11)], [(6, 10)]])
