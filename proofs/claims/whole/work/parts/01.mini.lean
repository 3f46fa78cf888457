/-! THE SMALL MACHINE: a value is (tag, number): tag 0 int, 1 long, 3 a String constant (its place in zstrs), 4 a thrown thing, 5 float, 6 double (their bits), 100 + c a reference to a cell of kind c (its place among the cells of that kind, -1 null). A kind is a class (0..12), or the field that holds an array (20..). A heap: how many of a kind, lengths, contents, cells and slots made. -/
abbrev zV : Type := Nat × Int
abbrev zH : Type := (Nat → Nat) × (Nat → Nat → Nat) × (Nat → Nat → Nat → Int) × Nat × Nat
abbrev zI : Type := Nat × Int × Nat × Nat
def zhN (h : zH) : Nat → Nat := h.1
def zhL (h : zH) : Nat → Nat → Nat := h.2.1
def zhD (h : zH) : Nat → Nat → Nat → Int := h.2.2.1
def zhC (h : zH) : Nat := h.2.2.2.1
def zhS (h : zH) : Nat := h.2.2.2.2
def wr (x : Int) : Int := (x + 2147483648) % 4294967296 - 2147483648
def wrl (x : Int) : Int := (x + 9223372036854775808) % 18446744073709551616 - 9223372036854775808
def zset (h : zH) (c p j : Nat) (v : Int) : zH := (h.1, h.2.1, (fun c' p' j' => if c' = c ∧ p' = p ∧ j' = j then v else h.2.2.1 c' p' j'), h.2.2.2)
def znew (h : zH) (c len slots : Nat) (f : Nat → Int) : zH := ((fun c' => if c' = c then h.1 c + 1 else h.1 c'), (fun c' p' => if c' = c ∧ p' = h.1 c then len else h.2.1 c' p'), (fun c' p' j' => if c' = c ∧ p' = h.1 c then f j' else h.2.2.1 c' p' j'), h.2.2.2.1 + 1, h.2.2.2.2 + slots)
def zthrown (h : zH) : zH := (h.1, h.2.1, h.2.2.1, h.2.2.2.1 + 1, h.2.2.2.2 + 6)
/-- a place of a row -/
def zix {ρ : Type} (n : Nat) (i : Int) (k : Nat → Option ρ) : Option ρ := if 0 ≤ i ∧ i < (n : Int) then k i.toNat else none
/-- a cell of a kind -/
def zob {ρ : Type} (h : zH) (c : Nat) (a : Int) (k : Nat → Option ρ) : Option ρ := if 0 ≤ a ∧ a < (zhN h c : Int) then k a.toNat else none
/-- null, or a cell of a kind -/
def zorn {ρ : Type} (h : zH) (c : Nat) (a : Int) (k : Option ρ) : Option ρ := if a = -1 ∨ (0 ≤ a ∧ a < (zhN h c : Int)) then k else none
/-- what may be stored, returned as a type: 1 boolean, 2 char -/
def znar {ρ : Type} (t : Nat) (x : Int) (k : Int → Option ρ) : Option ρ := match t with
  | 1 => if x = 0 ∨ x = 1 then k x else none
  | 2 => if 0 ≤ x ∧ x < 65536 then k x else none
  | _ => k x
abbrev zswt {ρ : Type} : List (Int × Nat) → Nat → Int → (Nat → Option ρ) → Option ρ
  | [], d, _, k => k d
  | (a, t) :: r, d, x, k => if x = a then k t else zswt r d x k
abbrev zpop {ρ : Type} : List Nat → List zV → List Int → (List Int → List zV → Option ρ) → Option ρ
  | [], st, acc, k => k acc st
  | t :: ts, (t', x) :: st, acc, k => if t' = t then zpop ts st (x :: acc) k else none
  | _ :: _, [], _, _ => none
def zand (x y : Int) : Int := (Int32.ofInt x &&& Int32.ofInt y).toInt
def zor (x y : Int) : Int := (Int32.ofInt x ||| Int32.ofInt y).toInt
def zxor (x y : Int) : Int := (Int32.ofInt x ^^^ Int32.ofInt y).toInt
def zshl (x y : Int) : Int := (Int32.ofInt x <<< (Int32.ofInt y &&& 31)).toInt
def zshr (x y : Int) : Int := (Int32.ofInt x >>> (Int32.ofInt y &&& 31)).toInt
def zushr (x y : Int) : Int := (((Int32.ofInt x).toUInt32 >>> ((Int32.ofInt y).toUInt32 &&& Int32.toUInt32 31)).toInt32).toInt
def zlcmp (x y : Int) : Int := if x < y then -1 else if x = y then 0 else 1
def zf32 (x : Int) : UInt32 := UInt32.ofNat x.toNat
def zf64 (x : Int) : UInt64 := UInt64.ofNat x.toNat
def zn32 {ρ : Type} (r : UInt32) (k : Int → Option ρ) : Option ρ := if r &&& 0x7fffffff ≤ 0x7f800000 then k (r.toNat : Int) else none
def zn64 {ρ : Type} (r : UInt64) (k : Int → Option ρ) : Option ρ := if r &&& 0x7fffffffffffffff ≤ 0x7ff0000000000000 then k (r.toNat : Int) else none
def zl2f (x : Int) : Int := ((FP.l2f (Int64.ofInt x)).toNat : Int)
def zi2f (x : Int) : Int := ((FP.i2f (Int32.ofInt x)).toNat : Int)
def zl2d (x : Int) : Int := ((FP.l2d (Int64.ofInt x)).toNat : Int)
def zi2d (x : Int) : Int := ((FP.i2d (Int32.ofInt x)).toNat : Int)
def zdcmp (x y : Int) : Int := (Op.cmpValue (FP.dcmp (zf64 x) (zf64 y)) .l).toInt
def zfcmp (x y : Int) : Int := (Op.cmpValue (FP.fcmp (zf32 x) (zf32 y)) .l).toInt
def zlet {α ρ : Type} (x : α) (k : α → Option ρ) : Option ρ := k x
abbrev zlv : List (Option zV) → Nat → Option zV
  | [], _ => none
  | a :: _, 0 => a
  | _ :: l, n + 1 => zlv l n
def zwide : Nat → Bool
  | 1 => true
  | 6 => true
  | _ => false
def zkill : Option zV → Option zV
  | some (t, x) => bif zwide t then none else some (t, x)
  | none => none
/-- storing a value of one slot -/
abbrev zsto : List (Option zV) → Nat → zV → Option (List (Option zV))
  | [], _, _ => none
  | _ :: l, 0, v => some (some v :: l)
  | a :: l, 1, v => match zsto l 0 v with
    | some l' => some (zkill a :: l')
    | none => none
  | a :: l, n + 2, v => match zsto l (n + 1) v with
    | some l' => some (a :: l')
    | none => none
/-- .. of two -/
abbrev zsto2 : List (Option zV) → Nat → zV → Option (List (Option zV))
  | [], _, _ => none
  | [_], _, _ => none
  | _ :: _ :: l, 0, v => some (some v :: none :: l)
  | a :: l, 1, v => match zsto2 l 0 v with
    | some l' => some (zkill a :: l')
    | none => none
  | a :: l, n + 2, v => match zsto2 l (n + 1) v with
    | some l' => some (a :: l')
    | none => none
abbrev zmask : List Bool → List (Option zV) → List (Option zV)
  | true :: bs, a :: l => a :: zmask bs l
  | false :: bs, _ :: l => none :: zmask bs l
  | [], l => l
  | _, [] => []
abbrev zget {α : Type} (d : α) : List α → Nat → α
  | [], _ => d
  | a :: _, 0 => a
  | _ :: l, n + 1 => zget d l n
abbrev zlocal {ρ : Type} (t : Nat) (ls : List (Option zV)) (u : Nat) (k : Int → Option ρ) : Option ρ := match zlv ls u with
  | some (t', v) => if t' = t then k v else none
  | none => none
abbrev zstore {ρ : Type} (ls : List (Option zV)) (u : Nat) (v : zV) (k : List (Option zV) → Option ρ) : Option ρ := match zsto ls u v with
  | some l => k l
  | none => none
abbrev zstore2 {ρ : Type} (ls : List (Option zV)) (u : Nat) (v : zV) (k : List (Option zV) → Option ρ) : Option ρ := match zsto2 ls u v with
  | some l => k l
  | none => none
def zstrs : List (List Int) := [[118, 115, 99], [97, 120, 98, 102], [114, 119, 97, 120], [82, 87], [107, 43, 45, 42, 60, 61, 116, 110, 108, 122, 106, 114, 119, 82, 87, 97, 120, 118, 115, 98, 102, 99, 101], [107, 43, 45, 42, 60, 61, 116, 110, 108, 122, 114, 119, 82, 87, 97, 120, 118, 115, 99], [43, 45, 42, 60, 61, 114, 119, 82, 87, 97, 120, 118, 115], [43, 45, 42, 60, 61, 97, 120, 115, 99], [122, 106], [119, 87]]
def zfind : List Int → Int → Int → Int
  | [], _, _ => -1
  | a :: l, x, n => if a = x then n else zfind l x (n + 1)
def zstix {ρ : Type} (t : Int) (x : Int) (k : Int → Option ρ) : Option ρ := k (zfind (zget [] zstrs t.toNat) x 0)
def zcopy {ρ : Type} (c : Nat) (h : zH) (a i b j n : Int) (k : zH → Option ρ) : Option ρ := if 0 ≤ n ∧ a = b ∧ 0 ≤ i ∧ 0 ≤ j then zob h c a fun p => if i + n ≤ (zhL h c p : Int) ∧ j + n ≤ (zhL h c p : Int) then zlet (h.1, h.2.1, (fun (c' p' q : Nat) => if c' = c ∧ p' = p ∧ j ≤ (q : Int) ∧ (q : Int) < j + n then h.2.2.1 c p (q + i.toNat - j.toNat) else h.2.2.1 c' p' q), h.2.2.2) k else none else none
/-- what the program is: kinds' type codes (0 int, 1 boolean, 2 char, 3 long, 6 double, 100 + c reference; of an array's kind one); methods' heads (0 static, 1 of an object, 2 constructor; tags of the arguments, the last first; what comes back: its tag, 9 nothing; class); switches; tables of handlers -/
abbrev zP : Type := List (List Nat) × List (Nat × List Nat × Nat × Nat) × List (List (Int × Nat) × Nat) × List (List (Nat × Nat))
def zft (P : zP) (c k : Nat) : Nat := zget 0 (zget [] P.1 c) k
def znf (P : zP) (c : Nat) : Nat := (zget [] P.1 c).length
def zsig (P : zP) (j : Nat) : Nat × List Nat × Nat × Nat := zget (0, [], 9, 0) P.2.1 j
def ztag : Nat → Nat
  | 1 => 0
  | 2 => 0
  | 3 => 1
  | n => n
def zdef (t : Nat) : Int := bif Nat.ble 100 t then -1 else 0
/-- the lengths of the model's rows; its fields that hold them -/
def zml (c : Nat) : Nat := zget 0 [64, 4, 4, 4, 4, 160, 160, 160, 160, 12, 12, 12, 12, 12, 12, 12, 12, 12, 12, 12, 12, 12, 12, 12, 12, 12, 72, 72, 72, 1152, 1152, 9216, 1152, 2, 8, 8, 8, 8, 32, 32, 2, 2, 4, 73728, 73728, 768, 18432, 18432, 1152, 32, 64, 16, 128, 16, 16, 16] (c - 60)
def zmks : List Nat := [60, 61, 62, 63, 64, 65, 66, 67, 68, 69, 70, 71, 72, 73, 74, 75, 76, 77, 78, 79, 80, 81, 82, 83, 84, 85, 86, 87, 88, 89, 90, 91, 92, 93, 94, 95, 96, 97, 98, 99, 100, 101, 102, 103, 104, 105, 106, 107, 108, 109, 110, 111, 112, 113, 114, 115]
def zmfs : List Nat := [3, 5, 6, 7, 8, 9, 10, 11, 12, 14, 15, 16, 17, 18, 19, 20, 21, 22, 23, 24, 25, 26, 27, 28, 29, 30, 31, 32, 33, 34, 35, 36, 37, 38, 39, 40, 41, 42, 43, 44, 45, 46, 47, 48, 49, 50, 51, 52, 53, 62, 68, 69, 70, 71, 72, 73]
def zmk (c : Nat) : Bool := Nat.beq c 12 || (Nat.ble 60 c && Nat.ble c 115)
/-- the two ways of reading: al: any cell of the heap; else: the model's own, which stand as they were made -/
abbrev zobm {ρ : Type} (al : Bool) (h : zH) (c : Nat) (a : Int) (k : Nat → Option ρ) : Option ρ := match al with
  | true => zob h c a k
  | false => match a with
    | Int.ofNat 0 => match zmk c with
      | true => k 0
      | false => none
    | _ => none
abbrev zlenm (al : Bool) (h : zH) (c p : Nat) : Nat := match al with
  | true => zhL h c p
  | false => zml c
abbrev zrdm (al : Bool) (h : zH) (c p k : Nat) (t : Nat) : Int := match al with
  | true => zhD h c p k
  | false => match Nat.ble 100 t with
    | true => 0
    | false => zhD h c p k
def zmok (h : zH) : Bool := Nat.beq (zhN h 12) 1 && zmks.all (fun c => Nat.beq (zhN h c) 1 && Nat.beq (zhL h c 0) (zml c)) && zmfs.all (fun k => zhD h 12 0 k == 0)
def zmch {ρ : Type} (h : zH) (a : Int) (k : Option ρ) : Option ρ := if a = 0 ∧ zmok h = true then k else none
abbrev zhnd {ρ : Type} : List (Nat × Nat) → Nat → (Nat → Option ρ) → Option ρ
  | [], _, _ => none
  | (e, t) :: r, n, k => if n = e then k t else zhnd r n k
abbrev zret {ρ : Type} (r : Nat) (v : Int) (st : List zV) (k : List zV → Option ρ) : Option ρ := match r with
  | 9 => k st
  | t => k ((t, v) :: st)
abbrev zif {ρ : Type} (b : Bool) (x : Option ρ) : Option ρ := match b with
  | true => x
  | false => none
/-- how wide a stack is -/
def zcat : List zV → Nat
  | [] => 0
  | (t, _) :: st => (bif zwide t then 2 else 1) + zcat st
/-- what an instruction does: table, way of reading, calls, the instruction, what goes on, what ends, what throws; place, locals, stack, heap -/
abbrev zO (ρ : Type) : Type := zP → Bool → (Nat → List Int → zH → (Int → zH → Option ρ) → (Nat → zH → Option ρ) → Option ρ) → zI → (Nat → List (Option zV) → List zV → zH → Option ρ) → (Int → zH → Option ρ) → (Nat → zH → Option ρ) → Nat → List (Option zV) → List zV → zH → Option ρ
abbrev zopush {ρ : Type} (t n : Nat) : zO ρ := fun _ _ _ I kont _ _ pc ls st h => kont (pc + n) ls ((t, I.2.1) :: st) h
abbrev zonull {ρ : Type} : zO ρ := fun _ _ _ I kont _ _ pc ls st h => zif (Nat.ble 100 I.2.2.2) (kont (pc + 1) ls ((I.2.2.2, -1) :: st) h)
abbrev zoload {ρ : Type} (t n : Nat) : zO ρ := fun _ _ _ I kont _ _ pc ls st h => zlocal t ls I.2.2.1 fun v => kont (pc + n) ls ((t, v) :: st) h
abbrev zoaload {ρ : Type} (n : Nat) : zO ρ := fun _ _ _ I kont _ _ pc ls st h => zif (Nat.ble 100 I.2.2.2 || Nat.beq I.2.2.2 3) ((zlocal I.2.2.2 ls I.2.2.1 fun v => kont (pc + n) ls ((I.2.2.2, v) :: st) h))
abbrev zosto {ρ : Type} (t n : Nat) : zO ρ := fun _ _ _ I kont _ _ pc ls st h => match st with
  | (t', x) :: st => zif (Nat.beq t' t) (zstore ls I.2.2.1 (t, x) fun ls => kont (pc + n) ls st h)
  | [] => none
abbrev zosto2 {ρ : Type} (t n : Nat) : zO ρ := fun _ _ _ I kont _ _ pc ls st h => match st with
  | (t', x) :: st => zif (Nat.beq t' t) (zstore2 ls I.2.2.1 (t, x) fun ls => kont (pc + n) ls st h)
  | [] => none
abbrev zoasto {ρ : Type} (n : Nat) : zO ρ := fun _ _ _ I kont _ _ pc ls st h => match st with
  | (t', x) :: st => zif (Nat.beq t' I.2.2.2 && (Nat.ble 100 t' || Nat.beq t' 4)) (zstore ls I.2.2.1 (t', x) fun ls => kont (pc + n) ls st h)
  | [] => none
abbrev zoinc {ρ : Type} : zO ρ := fun _ _ _ I kont _ _ pc ls st h => zlocal 0 ls I.2.2.1 fun v => zstore ls I.2.2.1 (0, wr (v + I.2.1)) fun ls => kont (pc + 3) ls st h
/-- two numbers of one tag give one -/
abbrev zobin {ρ : Type} (t r : Nat) (f : Int → Int → Int) : zO ρ := fun _ _ _ _ kont _ _ pc ls st h => match st with
  | (t1, y) :: (t2, x) :: st => zif (Nat.beq t1 t && Nat.beq t2 t) (kont (pc + 1) ls ((r, f x y) :: st) h)
  | _ => none
abbrev zodiv {ρ : Type} (f : Int → Int → Int) : zO ρ := fun _ _ _ _ kont _ _ pc ls st h => match st with
  | (t1, y) :: (t2, x) :: st => zif (Nat.beq t1 0 && Nat.beq t2 0) ((if y = 0 then none else kont (pc + 1) ls ((0, f x y) :: st) h))
  | _ => none
abbrev zoun {ρ : Type} (t r : Nat) (f : Int → Int) : zO ρ := fun _ _ _ _ kont _ _ pc ls st h => match st with
  | (t1, x) :: st => zif (Nat.beq t1 t) (kont (pc + 1) ls ((r, f x) :: st) h)
  | _ => none
abbrev zofdiv {ρ : Type} : zO ρ := fun _ _ _ _ kont _ _ pc ls st h => match st with
  | (t1, y) :: (t2, x) :: st => zif (Nat.beq t1 5 && Nat.beq t2 5) (zn32 (FP.fdiv (zf32 x) (zf32 y)) fun r => kont (pc + 1) ls ((5, r) :: st) h)
  | _ => none
abbrev zoddiv {ρ : Type} : zO ρ := fun _ _ _ _ kont _ _ pc ls st h => match st with
  | (t1, y) :: (t2, x) :: st => zif (Nat.beq t1 6 && Nat.beq t2 6) (zn64 (FP.ddiv (zf64 x) (zf64 y)) fun r => kont (pc + 1) ls ((6, r) :: st) h)
  | _ => none
abbrev zof2d {ρ : Type} : zO ρ := fun _ _ _ _ kont _ _ pc ls st h => match st with
  | (t1, x) :: st => zif (Nat.beq t1 5) (zn64 (FP.f2d (zf32 x)) fun r => kont (pc + 1) ls ((6, r) :: st) h)
  | _ => none
abbrev zodup {ρ : Type} : zO ρ := fun _ _ _ _ kont _ _ pc ls st h => match st with
  | (t, x) :: st => zif (!(zwide t)) (kont (pc + 1) ls ((t, x) :: (t, x) :: st) h)
  | _ => none
abbrev zodup2 {ρ : Type} : zO ρ := fun _ _ _ _ kont _ _ pc ls st h => match st with
  | (t, x) :: (t', x') :: st => zif (!(zwide t || zwide t')) (kont (pc + 1) ls ((t, x) :: (t', x') :: (t, x) :: (t', x') :: st) h)
  | _ => none
abbrev zopop {ρ : Type} : zO ρ := fun _ _ _ _ kont _ _ pc ls st h => match st with
  | (t, _) :: st => zif (!(zwide t)) (kont (pc + 1) ls st h)
  | _ => none
/-- a branch: kind 0 ==, 1 <, 2 >; s: swapped -/
abbrev zoif {ρ : Type} (k : Nat) (s : Bool) : zO ρ := fun _ _ _ I kont _ _ pc ls st h => match st with
  | (t, x) :: st => zif (Nat.beq t 0) ((match k, s with
    | 0, false => if x = 0 then kont I.2.2.1 ls st h else kont (pc + 3) ls st h
    | 0, true => if x = 0 then kont (pc + 3) ls st h else kont I.2.2.1 ls st h
    | 1, false => if x < 0 then kont I.2.2.1 ls st h else kont (pc + 3) ls st h
    | 1, true => if x < 0 then kont (pc + 3) ls st h else kont I.2.2.1 ls st h
    | _, false => if 0 < x then kont I.2.2.1 ls st h else kont (pc + 3) ls st h
    | _, true => if 0 < x then kont (pc + 3) ls st h else kont I.2.2.1 ls st h))
  | _ => none
abbrev zoicmp {ρ : Type} (k : Nat) (s : Bool) : zO ρ := fun _ _ _ I kont _ _ pc ls st h => match st with
  | (t, y) :: (t', x) :: st => zif (Nat.beq t 0 && Nat.beq t' 0) ((match k, s with
    | 0, false => if x = y then kont I.2.2.1 ls st h else kont (pc + 3) ls st h
    | 0, true => if x = y then kont (pc + 3) ls st h else kont I.2.2.1 ls st h
    | 1, false => if x < y then kont I.2.2.1 ls st h else kont (pc + 3) ls st h
    | 1, true => if x < y then kont (pc + 3) ls st h else kont I.2.2.1 ls st h
    | _, false => if y < x then kont I.2.2.1 ls st h else kont (pc + 3) ls st h
    | _, true => if y < x then kont (pc + 3) ls st h else kont I.2.2.1 ls st h))
  | _ => none
abbrev zogoto {ρ : Type} : zO ρ := fun _ _ _ I kont _ _ _ ls st h => kont I.2.2.1 ls st h
abbrev zoifnull {ρ : Type} (s : Bool) : zO ρ := fun _ _ _ I kont _ _ pc ls st h => match st with
  | (t, x) :: st => zif (Nat.ble 100 t) ((match s with
    | false => if x < 0 then kont I.2.2.1 ls st h else kont (pc + 3) ls st h
    | true => if x < 0 then kont (pc + 3) ls st h else kont I.2.2.1 ls st h))
  | _ => none
abbrev zoacmp {ρ : Type} (s : Bool) : zO ρ := fun _ _ _ I kont _ _ pc ls st h => match st with
  | (t, y) :: (t', x) :: st => zif (Nat.ble 100 t && Nat.beq t t' && !(Nat.beq t 150)) ((match s with
    | false => if x = y then kont I.2.2.1 ls st h else kont (pc + 3) ls st h
    | true => if x = y then kont (pc + 3) ls st h else kont I.2.2.1 ls st h))
  | _ => none
abbrev zoswt {ρ : Type} : zO ρ := fun P _ _ I kont _ _ _ ls st h => match st with
  | (t, x) :: st => zif (Nat.beq t 0) (zswt (zget ([], 0) P.2.2.1 I.2.2.1).1 (zget ([], 0) P.2.2.1 I.2.2.1).2 x fun t => kont t ls st h)
  | _ => none
abbrev zogetf {ρ : Type} : zO ρ := fun P al _ I kont _ _ pc ls st h => match st with
  | (t, a) :: st => zif (Nat.beq t (100 + I.2.1.toNat) && Nat.ble I.2.1.toNat 12 && Nat.blt I.2.2.2 (znf P I.2.1.toNat)) (zobm al h I.2.1.toNat a fun p => kont (pc + 3) ls ((ztag (zft P I.2.1.toNat I.2.2.2), zrdm al h I.2.1.toNat p I.2.2.2 (zft P I.2.1.toNat I.2.2.2)) :: st) h)
  | _ => none
abbrev zoputf {ρ : Type} : zO ρ := fun P al _ I kont _ _ pc ls st h => match st with
  | (t', x) :: (t, a) :: st => zif (Nat.beq t (100 + I.2.1.toNat) && Nat.ble I.2.1.toNat 12 && Nat.blt I.2.2.2 (znf P I.2.1.toNat) && Nat.beq t' (ztag (zft P I.2.1.toNat I.2.2.2)) && (al || !(Nat.ble 100 t'))) (zobm al h I.2.1.toNat a fun p => znar (zft P I.2.1.toNat I.2.2.2) x fun x => zlet (zset h I.2.1.toNat p I.2.2.2 x) fun h => kont (pc + 3) ls st h)
  | _ => none
/-- from a row: its elements' type code e, tag r -/
abbrev zoald {ρ : Type} (e r : Nat) : zO ρ := fun P al _ I kont _ _ pc ls st h => match st with
  | (t1, i) :: (t, a) :: st => zif (Nat.beq t1 0 && Nat.ble 13 I.2.2.2 && Nat.beq t (100 + I.2.2.2) && Nat.beq (zft P I.2.2.2 0) e) (zobm al h I.2.2.2 a fun p => zix (zlenm al h I.2.2.2 p) i fun j => kont (pc + 1) ls ((r, zhD h I.2.2.2 p j) :: st) h)
  | _ => none
abbrev zoaald {ρ : Type} : zO ρ := fun P al _ I kont _ _ pc ls st h => match st with
  | (t1, i) :: (t, a) :: st => zif (Nat.beq t1 0 && Nat.ble 13 I.2.2.2 && Nat.beq t (100 + I.2.2.2) && Nat.ble 100 (zft P I.2.2.2 0)) (zobm al h I.2.2.2 a fun p => zix (zlenm al h I.2.2.2 p) i fun j => kont (pc + 1) ls ((zft P I.2.2.2 0, zhD h I.2.2.2 p j) :: st) h)
  | _ => none
abbrev zosld {ρ : Type} : zO ρ := fun _ al _ _ kont _ _ pc ls st h => match st with
  | (t1, i) :: (t, a) :: st => zif (Nat.beq t1 0 && Nat.beq t 150 && al) (zob h 50 a fun p => zix (zhL h 50 p) i fun j => kont (pc + 1) ls ((0, zhD h 50 p j) :: st) h)
  | _ => none
abbrev zoslen {ρ : Type} : zO ρ := fun _ al _ _ kont _ _ pc ls st h => match st with
  | (t, a) :: st => zif (Nat.beq t 150 && al) (zob h 50 a fun p => kont (pc + 1) ls ((0, (zhL h 50 p : Int)) :: st) h)
  | _ => none
/-- into a row: its elements' type code e, tag r -/
abbrev zoast {ρ : Type} (e r : Nat) : zO ρ := fun P al _ I kont _ _ pc ls st h => match st with
  | (t2, x) :: (t1, i) :: (t, a) :: st => zif (Nat.beq t2 r && Nat.beq t1 0 && Nat.ble 13 I.2.2.2 && Nat.beq t (100 + I.2.2.2) && Nat.beq (zft P I.2.2.2 0) e) (zobm al h I.2.2.2 a fun p => zix (zlenm al h I.2.2.2 p) i fun j => znar e x fun x => zlet (zset h I.2.2.2 p j x) fun h => kont (pc + 1) ls st h)
  | _ => none
abbrev zoaast {ρ : Type} : zO ρ := fun P al _ I kont _ _ pc ls st h => match st with
  | (t', x) :: (t1, i) :: (t, a) :: st => zif (al && Nat.beq t1 0 && Nat.ble 13 I.2.2.2 && Nat.beq t (100 + I.2.2.2) && Nat.ble 100 t' && Nat.beq t' (zft P I.2.2.2 0)) (zobm al h I.2.2.2 a fun p => zix (zlenm al h I.2.2.2 p) i fun j => zorn h (t' - 100) x (zlet (zset h I.2.2.2 p j x) fun h => kont (pc + 1) ls st h))
  | _ => none
abbrev zoalen {ρ : Type} : zO ρ := fun P al _ I kont _ _ pc ls st h => match st with
  | (t, a) :: st => zif (Nat.beq t (100 + I.2.2.2) && Nat.ble 13 I.2.2.2 && !(Nat.beq (zft P I.2.2.2 0) 7)) (zobm al h I.2.2.2 a fun p => kont (pc + 1) ls ((0, (zlenm al h I.2.2.2 p : Int)) :: st) h)
  | _ => none
/-- may a row of numbers be made of this type -/
def znum : Nat → Bool
  | 0 => true
  | 1 => true
  | 2 => true
  | 3 => true
  | 6 => true
  | _ => false
abbrev zonewa {ρ : Type} : zO ρ := fun P al _ I kont _ _ pc ls st h => match st with
  | (t, x) :: st => zif (Nat.beq t 0 && al && Nat.ble 13 I.2.2.2 && znum (zft P I.2.2.2 0)) ((zix 100000 x fun n => zlet (znew h I.2.2.2 n n (fun _ => 0)) fun h' => kont (pc + 2) ls ((100 + I.2.2.2, (zhN h I.2.2.2 : Int)) :: st) h'))
  | _ => none
abbrev zoanew {ρ : Type} : zO ρ := fun P al _ I kont _ _ pc ls st h => match st with
  | (t, x) :: st => zif (Nat.beq t 0 && al && Nat.ble 13 I.2.2.2 && Nat.ble 100 (zft P I.2.2.2 0)) ((zix 100000 x fun n => zlet (znew h I.2.2.2 n n (fun _ => -1)) fun h' => kont (pc + 3) ls ((100 + I.2.2.2, (zhN h I.2.2.2 : Int)) :: st) h'))
  | _ => none
abbrev zonew {ρ : Type} : zO ρ := fun P al _ I kont _ _ pc ls st h => zif (al && Nat.ble I.2.2.2 12) (zlet (znew h I.2.2.2 0 (znf P I.2.2.2) (fun k => zdef (zft P I.2.2.2 k))) fun h' => kont (pc + 3) ls ((100 + I.2.2.2, (zhN h I.2.2.2 : Int)) :: st) h')
/-- a call on an object -/
abbrev zocallv {ρ : Type} : zO ρ := fun P al call I kont _ kthr pc ls st h => zpop (zsig P I.2.2.2).2.1 st [] fun as st => zif (Nat.ble (zcat st) 8 && Nat.beq (zsig P I.2.2.2).1 1) ((match as with
  | a :: _ => zobm al h (zsig P I.2.2.2).2.2.2 a fun _ => call I.2.2.2 as h (fun v h => zret (zsig P I.2.2.2).2.2.1 v st fun st => kont (pc + 3) ls st h) kthr
  | [] => none))
abbrev zocallh {ρ : Type} : zO ρ := fun P al call I kont _ _ pc ls st h => zpop (zsig P I.2.2.2).2.1 st [] fun as st => zif (Nat.ble (zcat st) 8 && Nat.beq (zsig P I.2.2.2).1 1) ((match as with
  | a :: _ => zobm al h (zsig P I.2.2.2).2.2.2 a fun _ => call I.2.2.2 as h (fun v h => zret (zsig P I.2.2.2).2.2.1 v st fun st => kont (pc + 3) ls st h) (fun n h => zhnd (zget [] P.2.2.2 I.2.1.toNat) n fun t => kont t ls [(4, 0)] h)
  | [] => none))
abbrev zocalls {ρ : Type} : zO ρ := fun P _ call I kont _ kthr pc ls st h => zpop (zsig P I.2.2.2).2.1 st [] fun as st => zif (Nat.ble (zcat st) 8 && Nat.beq (zsig P I.2.2.2).1 0) (call I.2.2.2 as h (fun v h => zret (zsig P I.2.2.2).2.2.1 v st fun st => kont (pc + 3) ls st h) kthr)
abbrev zocalli {ρ : Type} : zO ρ := fun P al call I kont _ kthr pc ls st h => zpop (zsig P I.2.2.2).2.1 st [] fun as st => zif (Nat.ble (zcat st) 8 && Nat.beq (zsig P I.2.2.2).1 2) ((match as with
  | a :: _ => zobm al h (zsig P I.2.2.2).2.2.2 a fun _ => call I.2.2.2 as h (fun _ h => kont (pc + 3) ls st h) kthr
  | [] => none))
abbrev zoobj {ρ : Type} : zO ρ := fun _ al _ _ kont _ _ pc ls st h => match st with
  | (t, a) :: st => zif (Nat.ble 100 t && Nat.ble t 112 && Nat.ble (zcat st) 8) (zobm al h (t - 100) a fun _ => kont (pc + 3) ls st h)
  | _ => none
abbrev zocopy {ρ : Type} : zO ρ := fun P al _ I kont _ _ pc ls st h => match st with
  | (t3, n) :: (t2, j) :: (t', b) :: (t1, i) :: (t, a) :: st => zif (Nat.beq t3 0 && Nat.beq t2 0 && Nat.beq t1 0 && Nat.ble 13 I.2.2.2 && al && Nat.beq t (100 + I.2.2.2) && Nat.beq t' (100 + I.2.2.2) && Nat.beq (zft P I.2.2.2 0) 0 && Nat.ble (zcat st) 8) (zcopy I.2.2.2 h a i b j n fun h => kont (pc + 3) ls st h)
  | _ => none
abbrev zostix {ρ : Type} : zO ρ := fun _ _ _ _ kont _ _ pc ls st h => match st with
  | (t1, x) :: (t, s) :: st => zif (Nat.beq t1 0 && Nat.beq t 3 && Nat.ble (zcat st) 8) (zstix s x fun v => kont (pc + 3) ls ((0, v) :: st) h)
  | _ => none
abbrev zoret {ρ : Type} (t : Nat) : zO ρ := fun _ _ _ I _ kret _ _ _ st h => match st with
  | [(t', x)] => zif (Nat.beq t' t) (znar I.2.2.1 x fun x => kret x h)
  | _ => none
abbrev zoaret {ρ : Type} : zO ρ := fun _ _ _ I _ kret _ _ _ st h => match st with
  | [(t', x)] => zif (Nat.ble 100 t' && Nat.beq t' I.2.2.2) (kret x h)
  | _ => none
abbrev zovret {ρ : Type} : zO ρ := fun _ _ _ _ _ kret _ _ _ st h => match st with
  | [] => kret 0 h
  | _ => none
abbrev zothr {ρ : Type} : zO ρ := fun _ _ _ I _ _ kthr _ _ st h => match st with
  | [] => zlet (zthrown h) fun h => kthr I.2.2.2 h
  | _ => none
/-- which instruction does what -/
abbrev zsel {ρ : Type} : Nat → zO ρ
  | 0 => zopush 0 1
  | 1 => zopush 0 2
  | 2 => zopush 0 3
  | 3 => zopush 0 2
  | 4 => zopush 0 3
  | 5 => zopush 1 1
  | 6 => zopush 1 3
  | 7 => zonull
  | 8 => zopush 3 2
  | 10 => zoload 0 1
  | 11 => zoload 0 2
  | 12 => zoload 1 1
  | 13 => zoload 1 2
  | 14 => zoaload 1
  | 15 => zoaload 2
  | 16 => zosto 0 1
  | 17 => zosto 0 2
  | 18 => zosto2 1 1
  | 19 => zosto2 1 2
  | 20 => zoasto 1
  | 21 => zoasto 2
  | 22 => zoinc
  | 30 => zobin 0 0 (fun x y => wr (x + y))
  | 31 => zobin 0 0 (fun x y => wr (x - y))
  | 32 => zobin 0 0 (fun x y => wr (x * y))
  | 33 => zodiv (fun x y => wr (Int.tdiv x y))
  | 34 => zodiv Int.tmod
  | 36 => zobin 0 0 zand
  | 37 => zobin 0 0 zor
  | 38 => zobin 0 0 zxor
  | 39 => zobin 0 0 zshl
  | 40 => zobin 0 0 zshr
  | 41 => zobin 0 0 zushr
  | 42 => zoun 0 1 (fun x => x)
  | 43 => zoun 1 0 wr
  | 44 => zoun 0 0 (fun x => x % 65536)
  | 45 => zobin 1 1 (fun x y => wrl (x + y))
  | 46 => zobin 1 1 (fun x y => wrl (x - y))
  | 47 => zobin 1 1 (fun x y => wrl (x * y))
  | 48 => zobin 1 0 zlcmp
  | 50 => zodup
  | 51 => zodup2
  | 52 => zopop
  | 60 => zoif 0 false
  | 61 => zoif 0 true
  | 62 => zoif 1 false
  | 63 => zoif 1 true
  | 64 => zoif 2 false
  | 65 => zoif 2 true
  | 66 => zoicmp 0 false
  | 67 => zoicmp 0 true
  | 68 => zoicmp 1 false
  | 69 => zoicmp 1 true
  | 70 => zoicmp 2 false
  | 71 => zoicmp 2 true
  | 72 => zogoto
  | 73 => zoifnull false
  | 74 => zoifnull true
  | 75 => zoacmp false
  | 76 => zoacmp true
  | 77 => zoswt
  | 78 => zoswt
  | 80 => zogetf
  | 81 => zogetf
  | 82 => zoputf
  | 84 => zoputf
  | 90 => zoald 0 0
  | 91 => zoald 1 0
  | 92 => zoald 2 0
  | 93 => zoald 3 1
  | 158 => zoald 6 6
  | 94 => zoaald
  | 105 => zosld
  | 106 => zoslen
  | 95 => zoast 0 0
  | 96 => zoast 1 0
  | 97 => zoast 2 0
  | 98 => zoast 3 1
  | 159 => zoast 6 6
  | 99 => zoaast
  | 100 => zoalen
  | 101 => zonewa
  | 102 => zoanew
  | 103 => zonew
  | 110 => zocallv
  | 111 => zocallv
  | 118 => zocallh
  | 113 => zocalls
  | 114 => zocalls
  | 115 => zocalli
  | 116 => zocalli
  | 117 => zoobj
  | 119 => zocopy
  | 120 => zostix
  | 130 => zoret 0
  | 131 => zoret 1
  | 160 => zoret 5
  | 161 => zoret 6
  | 132 => zoaret
  | 133 => zovret
  | 134 => zothr
  | 140 => zopush 5 1
  | 141 => zopush 6 1
  | 142 => zoun 1 5 zl2f
  | 143 => zoun 0 5 zi2f
  | 144 => zofdiv
  | 145 => zoun 1 6 zl2d
  | 146 => zoun 0 6 zi2d
  | 147 => zoddiv
  | 148 => zof2d
  | 149 => zobin 6 0 zdcmp
  | 139 => zobin 5 0 zfcmp
  | 150 => zoload 5 1
  | 151 => zoload 5 2
  | 152 => zosto 5 1
  | 153 => zosto 5 2
  | 154 => zoload 6 1
  | 155 => zoload 6 2
  | 156 => zosto2 6 1
  | 157 => zosto2 6 2
  | _ => fun _ _ _ _ _ _ _ _ _ _ _ => none
abbrev zstp {ρ : Type} : zO ρ := fun P al call I => match I with
  | (o, x, u, v) => zsel o P al call (o, x, u, v)
abbrev zseg {ρ : Type} (P : zP) (al : Bool) (call : Nat → List Int → zH → (Int → zH → Option ρ) → (Nat → zH → Option ρ) → Option ρ) (code : Nat → zI)
    (cut : Nat → Option (List Bool)) (O : Nat → List (Option zV) → List zV → zH → Option ρ) (kret : Int → zH → Option ρ) (kthr : Nat → zH → Option ρ) : Nat → Nat → List (Option zV) → List zV → zH → Option ρ
  | 0, _, _, _, _ => none
  | f + 1, pc, ls, st, h => zstp P al call (code pc) (fun pc ls st h => match cut pc with
    | none => zseg P al call code cut O kret kthr f pc ls st h
    | some bm => O pc (zmask bm ls) st h) kret kthr pc ls st h
/-- a loop: its body, again and again, n times at most -/
def zit {T : Type} (b : T) (F : T → T) : Nat → T
  | 0 => b
  | n + 1 => F (zit b F n)
def zN : Nat := 5000
/-- the block of a method that stands at a place, out of a list of such -/
abbrev zmt {ρ : Type} : List (Option (Nat × Option Int)) → List (Option zV) → List Int → (List Int → Option ρ) → Option ρ
  | [], [], acc, k => k acc
  | none :: tl, none :: l, acc, k => zmt tl l acc k
  | some (t, none) :: tl, some (t', x) :: l, acc, k => if t' = t then zmt tl l (acc ++ [x]) k else none
  | some (t, some c) :: tl, some (t', x) :: l, acc, k => if t' = t ∧ x = c then zmt tl l acc k else none
  | _, _, _, _ => none
abbrev zms {ρ : Type} : List (Nat × Option Int) → List zV → List Int → (List Int → Option ρ) → Option ρ
  | [], [], acc, k => k acc
  | (t, none) :: tl, (t', x) :: l, acc, k => if t' = t then zms tl l (acc ++ [x]) k else none
  | (t, some c) :: tl, (t', x) :: l, acc, k => if t' = t ∧ x = c then zms tl l acc k else none
  | _, _, _, _ => none
abbrev zmc {ρ : Type} : List (Option Int) → List Int → List Int → (List Int → Option ρ) → Option ρ
  | [], [], acc, k => k acc
  | none :: tl, x :: l, acc, k => zmc tl l (acc ++ [x]) k
  | some c :: tl, x :: l, acc, k => if x = c then zmc tl l acc k else none
  | _, _, _, _ => none
abbrev zE (ρ : Type) : Type := Nat × List (Option (Nat × Option Int)) × List (Nat × Option Int) × (List Int → zH → Option ρ)
abbrev zC (ρ : Type) : Type := Nat × List (Option Int) × (List Int → zH → (Int → zH → Option ρ) → (Nat → zH → Option ρ) → Option ρ)
abbrev zorc {ρ : Type} : List (zE ρ) → Nat → List (Option zV) → List zV → zH → Option ρ
  | [], _, _, _, _ => none
  | (p, tl, ts, f) :: r, pc, ls, st, h => if p = pc then zmt tl ls [] (fun xs => zms ts st xs (fun xs => f xs h)) else zorc r pc ls st h
abbrev zcal {ρ : Type} : List (zC ρ) → Nat → List Int → zH → (Int → zH → Option ρ) → (Nat → zH → Option ρ) → Option ρ
  | [], _, _, _, _, _ => none
  | (j', cs, f) :: r, j, as, h, kr, kt => if j' = j then zmc cs as [] (fun xs => f xs h kr kt) else zcal r j as h kr kt
abbrev zcut : List (Nat × List Bool) → Nat → Option (List Bool)
  | [], _ => none
  | (p, bm) :: r, pc => if p = pc then some bm else zcut r pc
def zPP : zP := ([[101, 102, 105], [120, 121, 0, 0], [101, 122, 123, 104, 0, 2, 124, 125, 0, 0, 0], [126, 127, 0, 111], [3, 3, 3, 3, 0, 0, 0, 0], [128, 129, 130, 131, 107, 0, 1], [0, 132, 0, 0, 2], [0, 0, 133, 0, 1], [2, 0, 0, 0], [0, 0, 109, 109, 109, 107, 0, 0, 0, 0, 2, 2, 0, 0, 0, 0, 134, 135, 0], [109, 0, 136, 137, 138, 139, 140, 141], [110, 0, 142, 143, 144, 0, 0], [0, 0, 2, 160, 0, 161, 162, 163, 164, 165, 166, 167, 168, 0, 169, 170, 171, 172, 173, 174, 175, 176, 177, 178, 179, 180, 181, 182, 183, 184, 185, 186, 187, 188, 189, 190, 191, 192, 193, 194, 195, 196, 197, 198, 199, 200, 201, 202, 203, 204, 205, 206, 207, 208, 3, 0, 0, 0, 0, 0, 0, 0, 209, 0, 0, 0, 2, 0, 210, 211, 212, 213, 214, 215], [], [], [], [], [], [], [], [107], [109], [0], [103], [0], [0], [111], [0], [0], [0], [106], [0], [0], [108], [0], [1], [106], [111], [0], [0], [0], [1], [106], [0], [0], [], [], [], [], [], [7], [3], [6], [], [], [], [], [], [], [], [0], [0], [0], [0], [1], [2], [0], [0], [0], [2], [0], [0], [0], [0], [0], [0], [0], [0], [0], [0], [0], [0], [0], [0], [2], [0], [0], [1], [0], [2], [0], [0], [0], [0], [0], [0], [0], [0], [0], [0], [0], [0], [0], [0], [0], [1], [0], [0], [1], [0], [0], [0], [0], [0], [2], [0]],
 [(0, [0], 0, 99), (0, [0, 0], 0, 99), (0, [0, 0], 0, 99), (0, [0, 0], 0, 99), (0, [0, 129], 9, 99), (0, [0, 131], 9, 99), (0, [0, 132], 9, 99), (0, [0, 139], 9, 99), (0, [0, 140], 9, 99), (2, [100], 9, 0), (1, [0, 0, 100], 0, 0), (1, [0, 0, 0, 0, 0, 100], 0, 0), (1, [0, 0, 100], 0, 0), (1, [0, 0, 100], 0, 0), (1, [0, 100], 0, 0), (1, [0, 0, 0, 0, 0, 100], 0, 0), (1, [0, 0, 0, 0, 0, 100], 0, 0), (1, [100], 0, 0), (1, [0, 100], 0, 0), (1, [0, 100], 0, 0), (1, [0, 100], 0, 0), (1, [0, 100], 0, 0), (1, [0, 100], 0, 0), (1, [0, 100], 0, 0), (1, [100], 0, 0), (1, [0, 100], 0, 0), (1, [0, 0, 100], 0, 0), (1, [0, 0, 100], 0, 0), (1, [0, 0, 100], 0, 0), (1, [0, 0, 100], 0, 0), (1, [0, 0, 100], 0, 0), (1, [0, 0, 0, 0, 100], 0, 0), (1, [0, 0, 0, 100], 0, 0), (1, [0, 0, 100], 0, 0), (1, [0, 100], 0, 0), (1, [0, 100], 0, 0), (1, [0, 0, 100], 0, 0), (1, [0, 100], 0, 0), (1, [0, 0, 0, 0, 0, 100], 0, 0), (1, [100], 1, 0), (1, [100], 0, 0), (1, [100], 0, 0), (1, [100], 0, 0), (1, [100], 0, 0), (1, [100], 5, 0), (1, [100], 6, 0), (1, [100], 0, 0), (1, [0, 100], 107, 0), (1, [0, 100], 109, 0), (1, [0, 100], 109, 0), (1, [0, 100], 103, 0), (1, [0, 0, 100], 111, 0), (1, [0, 0, 100], 9, 0), (1, [100], 9, 0), (0, [0, 0, 0], 0, 0), (0, [0], 0, 0), (0, [0, 0], 0, 0), (0, [0], 0, 0), (0, [0, 0, 0], 0, 0), (0, [0, 0, 0], 0, 0), (0, [108, 106, 0, 122], 9, 0), (0, [108, 106, 0, 128], 9, 0), (2, [112], 9, 12), (1, [112], 0, 12), (0, [0, 0, 0], 0, 12), (1, [0, 0, 112], 0, 12), (1, [0, 112], 0, 12), (1, [0, 112], 0, 12), (0, [0], 0, 12), (1, [0, 0, 112], 0, 12), (0, [0], 0, 12), (1, [0, 0, 0, 0, 0, 112], 0, 12), (0, [0], 0, 12), (0, [0, 0], 0, 12), (1, [0, 0, 112], 0, 12), (1, [0, 0, 112], 0, 12), (1, [0, 0, 112], 0, 12), (1, [0, 112], 0, 12), (1, [0, 112], 0, 12), (1, [0, 0, 0, 112], 0, 12), (1, [0, 0, 0, 0, 0, 112], 0, 12), (1, [0, 0, 0, 0, 0, 112], 0, 12), (1, [0, 0, 0, 112], 0, 12), (1, [112], 0, 12), (1, [0, 112], 0, 12), (1, [0, 112], 0, 12), (1, [0, 112], 0, 12), (1, [112], 9, 12), (0, [0, 0], 0, 12), (1, [0, 112], 0, 12), (1, [0, 0, 112], 9, 12), (1, [0, 112], 9, 12), (1, [0, 0, 0, 0, 0, 112], 9, 12), (1, [0, 0, 112], 0, 12), (1, [0, 0, 112], 0, 12), (1, [0, 112], 9, 12), (1, [0, 112], 0, 12), (1, [0, 112], 9, 12), (1, [0, 112], 0, 12), (1, [0, 112], 9, 12), (1, [0, 112], 9, 12), (1, [0, 0, 0, 0, 112], 9, 12), (1, [0, 0, 0, 0, 112], 9, 12), (1, [0, 112], 0, 12), (1, [0, 112], 0, 12), (1, [0, 0, 0, 112], 0, 12), (1, [0, 0, 112], 0, 12), (1, [0, 0, 0, 0, 112], 9, 12), (1, [0, 112], 0, 12), (0, [0], 0, 12), (1, [0, 112], 0, 12), (1, [0, 0, 112], 0, 12), (1, [0, 0, 0, 112], 0, 12), (0, [0], 0, 12), (0, [0], 0, 12), (0, [0, 0, 0], 0, 12), (1, [0, 0, 0, 0, 112], 9, 12), (1, [0, 0, 0, 0, 112], 9, 12), (1, [0, 0, 0, 112], 0, 12), (1, [0, 0, 0, 112], 0, 12), (1, [0, 0, 112], 0, 12), (1, [0, 0, 112], 0, 12), (1, [0, 0, 0, 112], 9, 12), (1, [0, 0, 112], 9, 12), (1, [0, 112], 9, 12), (1, [0, 112], 0, 12), (1, [0, 112], 0, 12), (1, [0, 112], 9, 12), (1, [0, 112], 9, 12), (1, [0, 112], 0, 12), (1, [0, 112], 0, 12), (1, [0, 0, 112], 0, 12), (1, [0, 112], 0, 12), (1, [0, 0, 112], 9, 12), (1, [0, 112], 0, 12), (1, [0, 112], 0, 12), (1, [112], 0, 12), (1, [0, 112], 0, 12), (1, [112], 0, 12), (1, [0, 112], 0, 12), (1, [0, 112], 0, 12), (1, [112], 0, 12), (0, [0], 0, 12), (1, [0, 0, 112], 0, 12), (1, [0, 112], 0, 12), (1, [0, 0, 112], 0, 12), (1, [0, 0, 112], 0, 12), (1, [0, 0, 112], 0, 12), (1, [0, 0, 112], 0, 12), (1, [0, 0, 112], 0, 12), (1, [0, 0, 0, 0, 112], 0, 12), (1, [0, 0, 0, 112], 0, 12), (1, [0, 0, 112], 0, 12), (1, [0, 112], 0, 12), (1, [0, 112], 0, 12), (1, [0, 0, 112], 0, 12), (1, [0, 112], 0, 12), (1, [0, 0, 0, 112], 0, 12), (1, [0, 112], 0, 12), (1, [0, 0, 0, 0, 112], 0, 12), (1, [0, 0, 0, 0, 0, 112], 0, 12), (1, [112], 1, 12), (1, [112], 0, 12), (1, [112], 0, 12), (1, [112], 0, 12), (1, [112], 0, 12), (1, [112], 5, 12), (1, [112], 6, 12), (1, [112], 0, 12), (2, [0, 109, 110], 9, 10), (0, [109], 110, 10), (1, [0, 110], 0, 10), (1, [110], 0, 10), (1, [110], 0, 10), (1, [110], 106, 10), (1, [0, 110], 0, 10), (1, [0, 0, 0, 110], 9, 10), (1, [0, 0, 0, 110], 9, 10), (1, [122, 110], 9, 10), (2, [101, 102], 9, 2), (1, [102], 9, 2), (1, [102], 9, 2), (1, [102], 9, 2), (1, [109, 102], 103, 2), (1, [109, 103, 102], 9, 2), (1, [102], 9, 2), (1, [111, 103, 102], 0, 2), (1, [108, 111, 102], 9, 2), (1, [108, 106, 0, 111, 102], 0, 2), (1, [108, 106, 0, 111, 102], 0, 2), (0, [108, 106, 0, 110], 0, 2), (1, [108, 106, 109, 102], 9, 2), (1, [108, 103, 102], 0, 2), (1, [108, 103, 102], 0, 2), (1, [102], 0, 2), (1, [103, 102], 0, 2), (1, [0, 0, 102], 0, 2), (1, [110, 102], 9, 2), (1, [110, 102], 9, 2), (1, [110, 102], 9, 2), (1, [0, 0, 0, 110, 102], 9, 2), (2, [104], 9, 4), (2, [0, 110, 111], 9, 11), (1, [0, 111], 106, 11), (1, [0, 111], 0, 11), (1, [111], 0, 11), (1, [111], 0, 11), (1, [111], 0, 11), (1, [0, 111], 0, 11), (1, [111], 0, 11), (1, [0, 111], 0, 11), (1, [0, 111], 0, 11), (1, [111], 0, 11), (1, [111], 0, 11), (1, [0, 0, 111], 9, 11), (1, [122, 0, 111], 0, 11), (1, [122, 111], 9, 11), (1, [122, 111], 0, 11), (2, [0, 0, 0, 0, 108], 9, 8), (1, [3, 108], 0, 8), (1, [107, 108], 0, 8), (1, [108], 0, 8), (2, [0, 0, 107], 9, 7), (1, [108, 107], 0, 7), (1, [0, 107], 108, 7), (1, [0, 107], 0, 7), (1, [3, 107], 0, 7), (1, [0, 107], 0, 7), (2, [109, 109, 109, 0, 0, 109], 9, 9), (1, [0, 0, 107, 109], 9, 9), (1, [0, 0, 0, 109], 9, 9), (1, [109], 0, 9), (1, [109], 0, 9), (1, [109], 0, 9), (1, [109], 0, 9), (1, [109], 0, 9), (1, [109], 0, 9), (1, [122, 109], 9, 9), (1, [0, 109], 9, 9), (2, [101], 9, 1), (1, [0, 101], 107, 1), (1, [0, 101], 109, 1), (1, [107, 101], 0, 1), (1, [0, 0, 101], 109, 1), (1, [109, 101], 109, 1), (1, [0, 101], 109, 1), (1, [0, 0, 109, 101], 0, 1), (1, [101], 0, 1), (1, [101], 9, 1), (1, [0, 101], 9, 1), (0, [109], 9, 1), (1, [109, 101], 9, 1), (1, [109, 101], 0, 1), (2, [0, 0, 106], 9, 6), (1, [0, 0, 106], 9, 6), (1, [106], 0, 6), (1, [106], 0, 6), (1, [106], 0, 6), (1, [0, 106], 0, 6), (1, [0, 0, 106], 9, 6), (1, [108, 106], 9, 6), (1, [0, 108, 106], 9, 6), (1, [0, 0, 106], 9, 6), (0, [0, 136], 0, 6), (0, [0, 130], 106, 6), (0, [0, 136], 106, 6), (0, [0, 0, 0, 130], 0, 6), (0, [0, 0, 0, 136], 0, 6), (2, [105], 9, 5), (1, [122, 0, 0, 107, 105], 9, 5), (1, [0, 105], 0, 5), (1, [0, 105], 0, 5), (1, [106, 105], 0, 5), (1, [108, 106, 105], 0, 5), (1, [0, 108, 106, 105], 0, 5), (1, [0, 108, 106, 105], 0, 5), (2, [103], 9, 3), (1, [0, 103], 111, 3), (1, [0, 107, 103], 0, 3), (1, [103], 0, 3), (1, [103], 0, 3), (1, [110, 103], 9, 3), (1, [110, 103], 9, 3), (1, [109, 103], 9, 3), (1, [0, 103], 9, 3), (1, [0, 0, 103], 111, 3), (1, [103], 0, 3), (1, [0, 103], 0, 3), (1, [103], 0, 3), (0, [151, 0, 0, 100], 0, 99), (0, [151, 0, 0, 0, 0, 0, 100], 0, 99), (0, [151, 0, 0, 100], 0, 99), (0, [151, 0, 0, 100], 0, 99), (0, [151, 0, 100], 0, 99), (0, [151, 0, 0, 0, 0, 0, 100], 0, 99), (0, [151, 0, 0, 0, 0, 0, 100], 0, 99), (0, [151, 0, 100], 0, 99), (0, [151, 0, 100], 0, 99), (0, [151, 0, 100], 0, 99), (0, [151, 0, 100], 0, 99), (0, [151, 0, 100], 0, 99), (0, [151, 0, 100], 0, 99), (0, [151, 0, 100], 0, 99), (0, [151, 0, 0, 100], 0, 99), (0, [151, 0, 0, 100], 0, 99), (0, [151, 0, 0, 100], 0, 99), (0, [151, 0, 0, 100], 0, 99), (0, [151, 0, 0, 100], 0, 99), (0, [151, 0, 0, 0, 0, 100], 0, 99), (0, [151, 0, 0, 0, 100], 0, 99), (0, [151, 0, 0, 100], 0, 99), (0, [151, 0, 100], 0, 99), (0, [151, 0, 100], 0, 99), (0, [151, 0, 0, 100], 0, 99), (0, [151, 0, 100], 0, 99), (0, [151, 0, 0, 0, 0, 0, 100], 0, 99), (0, [152, 100], 0, 99), (0, [152, 100], 0, 99), (0, [150], 0, 99)],
 [([(42, 88), (82, 90), (87, 90), (97, 108), (99, 118), (102, 101), (114, 95), (119, 101), (120, 108)], 128), ([(42, 159), (43, 103), (45, 131), (60, 187), (61, 222), (107, 88), (108, 287), (110, 272), (116, 257)], 304), ([(0, 208), (1, 276), (2, 382), (3, 450), (4, 518), (5, 574), (6, 678), (7, 782), (8, 795), (9, 851), (10, 907), (11, 963), (12, 1019), (13, 1075), (14, 1133), (15, 1146), (16, 1202), (17, 1270), (18, 1338), (19, 1406), (20, 1474), (21, 1542), (22, 1634), (23, 1714), (24, 1782), (25, 1838), (26, 1894), (27, 1969), (28, 2025), (29, 2145), (30, 2159), (31, 2172), (32, 2185), (33, 2198), (34, 2211), (35, 2277), (36, 2342)], 2355)],
 [[(1, 13), (2, 17)], [(3, 19), (1, 23), (2, 27)], [(3, 13), (1, 17)], [(3, 13)], [(3, 12)], [(3, 19), (1, 23), (4, 27), (2, 31)], [(3, 19), (1, 23), (2, 27)], [(3, 12)], [(3, 12), (5, 15)], [(3, 12)], [(1, 12)], [(1, 12)], [(1, 12)], [(3, 12)], [(3, 13)], [(3, 13), (5, 17)], [(3, 13)], [(3, 13)], [(3, 13)], [(3, 17)], [(3, 15)], [(3, 13)], [(3, 12), (5, 15)], [(3, 12), (5, 15)], [(3, 20)], [(3, 12)], [(3, 19), (1, 23), (4, 27), (2, 31)], [(6, 11)], [(6, 10)]])
abbrev zap0 {ρ : Type} (f : zH → Option ρ) : List Int → zH → Option ρ := fun xs h => match xs with
  | [] => f h
  | _ => none
abbrev zca0 {ρ : Type} (f : zH → (Int → zH → Option ρ) → Option ρ) : List Int → zH → (Int → zH → Option ρ) → (Nat → zH → Option ρ) → Option ρ := fun xs h kr _ => match xs with
  | [] => f h kr
  | _ => none
abbrev zcx0 {ρ : Type} (f : zH → (Nat → zH → Option ρ) → (Int → zH → Option ρ) → Option ρ) : List Int → zH → (Int → zH → Option ρ) → (Nat → zH → Option ρ) → Option ρ := fun xs h kr kt => match xs with
  | [] => f h kt kr
  | _ => none
abbrev zcm0 {ρ : Type} (f : zH → (Int → zH → Option ρ) → Option ρ) : List Int → zH → (Int → zH → Option ρ) → (Nat → zH → Option ρ) → Option ρ := fun xs h kr _ => match xs with
  | [y] => zmch h y (f h kr)
  | _ => none
abbrev zap1 {ρ : Type} (f : Int → zH → Option ρ) : List Int → zH → Option ρ := fun xs h => match xs with
  | [x0] => f x0 h
  | _ => none
abbrev zca1 {ρ : Type} (f : Int → zH → (Int → zH → Option ρ) → Option ρ) : List Int → zH → (Int → zH → Option ρ) → (Nat → zH → Option ρ) → Option ρ := fun xs h kr _ => match xs with
  | [x0] => f x0 h kr
  | _ => none
abbrev zcx1 {ρ : Type} (f : Int → zH → (Nat → zH → Option ρ) → (Int → zH → Option ρ) → Option ρ) : List Int → zH → (Int → zH → Option ρ) → (Nat → zH → Option ρ) → Option ρ := fun xs h kr kt => match xs with
  | [x0] => f x0 h kt kr
  | _ => none
abbrev zcm1 {ρ : Type} (f : Int → zH → (Int → zH → Option ρ) → Option ρ) : List Int → zH → (Int → zH → Option ρ) → (Nat → zH → Option ρ) → Option ρ := fun xs h kr _ => match xs with
  | [y, x0] => zmch h y (f x0 h kr)
  | _ => none
abbrev zap2 {ρ : Type} (f : Int → Int → zH → Option ρ) : List Int → zH → Option ρ := fun xs h => match xs with
  | [x0, x1] => f x0 x1 h
  | _ => none
abbrev zca2 {ρ : Type} (f : Int → Int → zH → (Int → zH → Option ρ) → Option ρ) : List Int → zH → (Int → zH → Option ρ) → (Nat → zH → Option ρ) → Option ρ := fun xs h kr _ => match xs with
  | [x0, x1] => f x0 x1 h kr
  | _ => none
abbrev zcx2 {ρ : Type} (f : Int → Int → zH → (Nat → zH → Option ρ) → (Int → zH → Option ρ) → Option ρ) : List Int → zH → (Int → zH → Option ρ) → (Nat → zH → Option ρ) → Option ρ := fun xs h kr kt => match xs with
  | [x0, x1] => f x0 x1 h kt kr
  | _ => none
abbrev zcm2 {ρ : Type} (f : Int → Int → zH → (Int → zH → Option ρ) → Option ρ) : List Int → zH → (Int → zH → Option ρ) → (Nat → zH → Option ρ) → Option ρ := fun xs h kr _ => match xs with
  | [y, x0, x1] => zmch h y (f x0 x1 h kr)
  | _ => none
abbrev zap3 {ρ : Type} (f : Int → Int → Int → zH → Option ρ) : List Int → zH → Option ρ := fun xs h => match xs with
  | [x0, x1, x2] => f x0 x1 x2 h
  | _ => none
abbrev zca3 {ρ : Type} (f : Int → Int → Int → zH → (Int → zH → Option ρ) → Option ρ) : List Int → zH → (Int → zH → Option ρ) → (Nat → zH → Option ρ) → Option ρ := fun xs h kr _ => match xs with
  | [x0, x1, x2] => f x0 x1 x2 h kr
  | _ => none
abbrev zcx3 {ρ : Type} (f : Int → Int → Int → zH → (Nat → zH → Option ρ) → (Int → zH → Option ρ) → Option ρ) : List Int → zH → (Int → zH → Option ρ) → (Nat → zH → Option ρ) → Option ρ := fun xs h kr kt => match xs with
  | [x0, x1, x2] => f x0 x1 x2 h kt kr
  | _ => none
abbrev zcm3 {ρ : Type} (f : Int → Int → Int → zH → (Int → zH → Option ρ) → Option ρ) : List Int → zH → (Int → zH → Option ρ) → (Nat → zH → Option ρ) → Option ρ := fun xs h kr _ => match xs with
  | [y, x0, x1, x2] => zmch h y (f x0 x1 x2 h kr)
  | _ => none
abbrev zap4 {ρ : Type} (f : Int → Int → Int → Int → zH → Option ρ) : List Int → zH → Option ρ := fun xs h => match xs with
  | [x0, x1, x2, x3] => f x0 x1 x2 x3 h
  | _ => none
abbrev zca4 {ρ : Type} (f : Int → Int → Int → Int → zH → (Int → zH → Option ρ) → Option ρ) : List Int → zH → (Int → zH → Option ρ) → (Nat → zH → Option ρ) → Option ρ := fun xs h kr _ => match xs with
  | [x0, x1, x2, x3] => f x0 x1 x2 x3 h kr
  | _ => none
abbrev zcx4 {ρ : Type} (f : Int → Int → Int → Int → zH → (Nat → zH → Option ρ) → (Int → zH → Option ρ) → Option ρ) : List Int → zH → (Int → zH → Option ρ) → (Nat → zH → Option ρ) → Option ρ := fun xs h kr kt => match xs with
  | [x0, x1, x2, x3] => f x0 x1 x2 x3 h kt kr
  | _ => none
abbrev zcm4 {ρ : Type} (f : Int → Int → Int → Int → zH → (Int → zH → Option ρ) → Option ρ) : List Int → zH → (Int → zH → Option ρ) → (Nat → zH → Option ρ) → Option ρ := fun xs h kr _ => match xs with
  | [y, x0, x1, x2, x3] => zmch h y (f x0 x1 x2 x3 h kr)
  | _ => none
abbrev zap5 {ρ : Type} (f : Int → Int → Int → Int → Int → zH → Option ρ) : List Int → zH → Option ρ := fun xs h => match xs with
  | [x0, x1, x2, x3, x4] => f x0 x1 x2 x3 x4 h
  | _ => none
abbrev zca5 {ρ : Type} (f : Int → Int → Int → Int → Int → zH → (Int → zH → Option ρ) → Option ρ) : List Int → zH → (Int → zH → Option ρ) → (Nat → zH → Option ρ) → Option ρ := fun xs h kr _ => match xs with
  | [x0, x1, x2, x3, x4] => f x0 x1 x2 x3 x4 h kr
  | _ => none
abbrev zcx5 {ρ : Type} (f : Int → Int → Int → Int → Int → zH → (Nat → zH → Option ρ) → (Int → zH → Option ρ) → Option ρ) : List Int → zH → (Int → zH → Option ρ) → (Nat → zH → Option ρ) → Option ρ := fun xs h kr kt => match xs with
  | [x0, x1, x2, x3, x4] => f x0 x1 x2 x3 x4 h kt kr
  | _ => none
abbrev zcm5 {ρ : Type} (f : Int → Int → Int → Int → Int → zH → (Int → zH → Option ρ) → Option ρ) : List Int → zH → (Int → zH → Option ρ) → (Nat → zH → Option ρ) → Option ρ := fun xs h kr _ => match xs with
  | [y, x0, x1, x2, x3, x4] => zmch h y (f x0 x1 x2 x3 x4 h kr)
  | _ => none
abbrev zap6 {ρ : Type} (f : Int → Int → Int → Int → Int → Int → zH → Option ρ) : List Int → zH → Option ρ := fun xs h => match xs with
  | [x0, x1, x2, x3, x4, x5] => f x0 x1 x2 x3 x4 x5 h
  | _ => none
abbrev zca6 {ρ : Type} (f : Int → Int → Int → Int → Int → Int → zH → (Int → zH → Option ρ) → Option ρ) : List Int → zH → (Int → zH → Option ρ) → (Nat → zH → Option ρ) → Option ρ := fun xs h kr _ => match xs with
  | [x0, x1, x2, x3, x4, x5] => f x0 x1 x2 x3 x4 x5 h kr
  | _ => none
abbrev zcx6 {ρ : Type} (f : Int → Int → Int → Int → Int → Int → zH → (Nat → zH → Option ρ) → (Int → zH → Option ρ) → Option ρ) : List Int → zH → (Int → zH → Option ρ) → (Nat → zH → Option ρ) → Option ρ := fun xs h kr kt => match xs with
  | [x0, x1, x2, x3, x4, x5] => f x0 x1 x2 x3 x4 x5 h kt kr
  | _ => none
abbrev zcm6 {ρ : Type} (f : Int → Int → Int → Int → Int → Int → zH → (Int → zH → Option ρ) → Option ρ) : List Int → zH → (Int → zH → Option ρ) → (Nat → zH → Option ρ) → Option ρ := fun xs h kr _ => match xs with
  | [y, x0, x1, x2, x3, x4, x5] => zmch h y (f x0 x1 x2 x3 x4 x5 h kr)
  | _ => none
abbrev zap7 {ρ : Type} (f : Int → Int → Int → Int → Int → Int → Int → zH → Option ρ) : List Int → zH → Option ρ := fun xs h => match xs with
  | [x0, x1, x2, x3, x4, x5, x6] => f x0 x1 x2 x3 x4 x5 x6 h
  | _ => none
abbrev zca7 {ρ : Type} (f : Int → Int → Int → Int → Int → Int → Int → zH → (Int → zH → Option ρ) → Option ρ) : List Int → zH → (Int → zH → Option ρ) → (Nat → zH → Option ρ) → Option ρ := fun xs h kr _ => match xs with
  | [x0, x1, x2, x3, x4, x5, x6] => f x0 x1 x2 x3 x4 x5 x6 h kr
  | _ => none
abbrev zcx7 {ρ : Type} (f : Int → Int → Int → Int → Int → Int → Int → zH → (Nat → zH → Option ρ) → (Int → zH → Option ρ) → Option ρ) : List Int → zH → (Int → zH → Option ρ) → (Nat → zH → Option ρ) → Option ρ := fun xs h kr kt => match xs with
  | [x0, x1, x2, x3, x4, x5, x6] => f x0 x1 x2 x3 x4 x5 x6 h kt kr
  | _ => none
abbrev zcm7 {ρ : Type} (f : Int → Int → Int → Int → Int → Int → Int → zH → (Int → zH → Option ρ) → Option ρ) : List Int → zH → (Int → zH → Option ρ) → (Nat → zH → Option ρ) → Option ρ := fun xs h kr _ => match xs with
  | [y, x0, x1, x2, x3, x4, x5, x6] => zmch h y (f x0 x1 x2 x3 x4 x5 x6 h kr)
  | _ => none
abbrev zap8 {ρ : Type} (f : Int → Int → Int → Int → Int → Int → Int → Int → zH → Option ρ) : List Int → zH → Option ρ := fun xs h => match xs with
  | [x0, x1, x2, x3, x4, x5, x6, x7] => f x0 x1 x2 x3 x4 x5 x6 x7 h
  | _ => none
abbrev zap9 {ρ : Type} (f : Int → Int → Int → Int → Int → Int → Int → Int → Int → zH → Option ρ) : List Int → zH → Option ρ := fun xs h => match xs with
  | [x0, x1, x2, x3, x4, x5, x6, x7, x8] => f x0 x1 x2 x3 x4 x5 x6 x7 x8 h
  | _ => none
abbrev zap10 {ρ : Type} (f : Int → Int → Int → Int → Int → Int → Int → Int → Int → Int → zH → Option ρ) : List Int → zH → Option ρ := fun xs h => match xs with
  | [x0, x1, x2, x3, x4, x5, x6, x7, x8, x9] => f x0 x1 x2 x3 x4 x5 x6 x7 x8 x9 h
  | _ => none
abbrev zap11 {ρ : Type} (f : Int → Int → Int → Int → Int → Int → Int → Int → Int → Int → Int → zH → Option ρ) : List Int → zH → Option ρ := fun xs h => match xs with
  | [x0, x1, x2, x3, x4, x5, x6, x7, x8, x9, x10] => f x0 x1 x2 x3 x4 x5 x6 x7 x8 x9 x10 h
  | _ => none
abbrev zap12 {ρ : Type} (f : Int → Int → Int → Int → Int → Int → Int → Int → Int → Int → Int → Int → zH → Option ρ) : List Int → zH → Option ρ := fun xs h => match xs with
  | [x0, x1, x2, x3, x4, x5, x6, x7, x8, x9, x10, x11] => f x0 x1 x2 x3 x4 x5 x6 x7 x8 x9 x10 x11 h
  | _ => none
