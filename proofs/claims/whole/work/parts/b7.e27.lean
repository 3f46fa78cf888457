/-! BLOCKS, THREADS, GROUPS, UNITS: the class against the model -/
/-- a kernel's number -/
def zkn (A : zA) (b : Nat) : Nat := (A 70 (b / 6)).toNat
/-- a block that is in a unit, as the model has it -/
def BIn (A : zA) (L b : Nat) : Prop := b / 6 < L ∧ A 70 (b / 6) ≠ -1 ∧ ((b % 6 : Nat) : Int) < A 78 (b / 6) ∧ A 69 (b / 6) = 114 ∧ (A 88 b = 0 ∨ A 88 b = 1) ∧ 0 ≤ A 86 b
/-- the model's kinds and the law's own arrays -/
def zmk5 (c : Nat) : Bool := Nat.beq c 12 || (Nat.ble 50 c && Nat.ble c 52) || (Nat.ble 60 c && Nat.ble c 115)
/-- a bit -/
def zbt (v : Int) (i : Nat) : Bool := (Int32.ofInt v).toBitVec.getLsbD i
/-- an int -/
def zir (x : Int) : Prop := -2147483648 ≤ x ∧ x < 2147483648
def zsum (f : Nat → Int) (b : Nat) : Nat → Int
  | 0 => 0
  | n + 1 => zsum f b n + f (b + n)
def zsrm (A : zA) (u : Nat) : Nat → Int
  | 0 => 0
  | n + 1 => zsrm A u n + (if A 87 n = 1 ∧ A 88 n = (u : Int) then A 73 (n / 6) * A 61 (A 70 (n / 6)).toNat else 0)
def zsrc (A : zA) (u : Nat) : Nat → Int
  | 0 => 0
  | n + 1 => zsrc A u n + (if A 95 (4 * u + n) = 0 then A 73 ((A 94 (4 * u + n)).toNat / 6) * A 61 (A 70 ((A 94 (4 * u + n)).toNat / 6)).toNat else 0)
def zssm (A : zA) (u : Nat) : Nat → Int
  | 0 => 0
  | n + 1 => zssm A u n + (if A 87 n = 1 ∧ A 88 n = (u : Int) then A 62 (A 70 (n / 6)).toNat else 0)
def zssc (A : zA) (u : Nat) : Nat → Int
  | 0 => 0
  | n + 1 => zssc A u n + (if A 95 (4 * u + n) = 0 then A 62 (A 70 ((A 94 (4 * u + n)).toNat / 6)).toNat else 0)
theorem zsrm_fr {A A' : zA} {u : Nat} (h61 : A' 61 = A 61) (h70 : A' 70 = A 70) (h73 : A' 73 = A 73) (h87 : A' 87 = A 87) (h88 : A' 88 = A 88) : ∀ n, zsrm A' u n = zsrm A u n
  | 0 => rfl
  | n + 1 => by
    unfold zsrm
    rw [zsrm_fr h61 h70 h73 h87 h88 n, h61, h70, h73, h87, h88]
theorem zsrc_fr {A A' : zA} {u : Nat} (h61 : A' 61 = A 61) (h70 : A' 70 = A 70) (h73 : A' 73 = A 73) (h94 : A' 94 = A 94) (h95 : A' 95 = A 95) : ∀ n, zsrc A' u n = zsrc A u n
  | 0 => rfl
  | n + 1 => by
    unfold zsrc
    rw [zsrc_fr h61 h70 h73 h94 h95 n, h61, h70, h73, h94, h95]
theorem zssm_fr {A A' : zA} {u : Nat} (h62 : A' 62 = A 62) (h70 : A' 70 = A 70) (h87 : A' 87 = A 87) (h88 : A' 88 = A 88) : ∀ n, zssm A' u n = zssm A u n
  | 0 => rfl
  | n + 1 => by
    unfold zssm
    rw [zssm_fr h62 h70 h87 h88 n, h62, h70, h87, h88]
theorem zssc_fr {A A' : zA} {u : Nat} (h62 : A' 62 = A 62) (h70 : A' 70 = A 70) (h94 : A' 94 = A 94) (h95 : A' 95 = A 95) : ∀ n, zssc A' u n = zssc A u n
  | 0 => rfl
  | n + 1 => by
    unfold zssc
    rw [zssc_fr h62 h70 h94 h95 n, h62, h70, h94, h95]
theorem fr_zs {h : zH} {c p j : Nat} {v : Int} {f : Nat → Nat → Bool} (hk : f c j = false) : ∀ c' p' j', f c' j' = true → zhD (zset h c p j v) c' p' j' = zhD h c' p' j' := fun c' p' j' h1 => if_neg (fun z => by rw [z.1, z.2.2, hk] at h1; cases h1)
theorem fr_au {A : zA} {c j : Nat} {v : Int} {f : Nat → Nat → Bool} (hk : f c j = false) : ∀ c' j', f c' j' = true → au A c j v c' j' = A c' j' := fun c' j' h1 => if_neg (fun z => by rw [z.1, z.2, hk] at h1; cases h1)
theorem fr_row {A A' : zA} {f : Nat → Nat → Bool} (hA : ∀ c j, f c j = true → A' c j = A c j) (c : Nat) (hc : ∀ j, f c j = true) : A' c = A c := funext fun j => hA c j (hc j)
def BI (A : zA) (L : Nat) : Prop := (∀ b : Nat, b < 72 → A 87 b = 0 ∨ A 87 b = 1) ∧ (∀ b : Nat, b < 72 → A 87 b = 1 → b / 6 < L ∧ A 70 (b / 6) ≠ -1 ∧ ((b % 6 : Nat) : Int) < A 78 (b / 6) ∧ A 69 (b / 6) = 114 ∧ (A 88 b = 0 ∨ A 88 b = 1) ∧ 0 ≤ A 86 b) ∧
  (∀ l : Nat, l < L → A 70 l ≠ -1 → A 69 l ≠ 102 → A 79 l + (A 87 (6 * l) + A 87 (6 * l + 1) + A 87 (6 * l + 2) + A 87 (6 * l + 3) + A 87 (6 * l + 4) + A 87 (6 * l + 5)) = A 78 l)
def BIa (c j : Nat) : Bool := match c with
  | 69 => true
  | 70 => true
  | 78 => true
  | 79 => true
  | 86 => true
  | 87 => true
  | 88 => true
  | _ => false
theorem BI.fr {A A' : zA} {L : Nat} (q : BI A L) (hA : ∀ c j, BIa c j = true → A' c j = A c j) : BI A' L := by
  unfold BI at q ⊢
  simp only [fr_row hA 69 (fun _ => rfl), fr_row hA 70 (fun _ => rfl), fr_row hA 78 (fun _ => rfl), fr_row hA 79 (fun _ => rfl), fr_row hA 86 (fun _ => rfl), fr_row hA 87 (fun _ => rfl), fr_row hA 88 (fun _ => rfl)]
  exact q
theorem BI.au {A : zA} {L : Nat} {c j : Nat} {v : Int} (q : BI A L) (hk : BIa c j = false) : BI (au A c j v) L := q.fr (fr_au hk)
def BH (A : zA) (h : zH) (bc : Nat → Nat) : Prop := (∀ b : Nat, b < 72 → A 87 b = 1 → bc b < zhN h 10 ∧ zhD h 10 (bc b) 0 = ((b / 6 : Nat) : Int) ∧ zhD h 10 (bc b) 1 = ((b % 6 : Nat) : Int) ∧ (zhL h 36 (bc b) : Int) = A 73 (b / 6) ∧ (zhL h 37 (bc b) : Int) = Int.tdiv (A 73 (b / 6) + 3) 4 ∧ (zhL h 38 (bc b) : Int) = A 62 (A 70 (b / 6)).toNat) ∧
  (∀ b b2 : Nat, b < 72 → b2 < 72 → A 87 b = 1 → A 87 b2 = 1 → bc b = bc b2 → b = b2)
def BHa (c j : Nat) : Bool := match c with
  | 62 => true
  | 70 => true
  | 73 => true
  | 87 => true
  | _ => false
def BHd (c j : Nat) : Bool := match c with
  | 10 => Nat.beq j 0 || Nat.beq j 1
  | _ => false
theorem BH.fr {A A' : zA} {h h' : zH} {bc : Nat → Nat} (q : BH A h bc) (hA : ∀ c j, BHa c j = true → A' c j = A c j) (hD : ∀ c p j, BHd c j = true → zhD h' c p j = zhD h c p j) (hN : zhN h' = zhN h) (hL : zhL h' = zhL h) : BH A' h' bc := by
  unfold BH at q ⊢
  simp only [fr_row hA 62 (fun _ => rfl), fr_row hA 70 (fun _ => rfl), fr_row hA 73 (fun _ => rfl), fr_row hA 87 (fun _ => rfl), fun p => hD 10 p 0 rfl, fun p => hD 10 p 1 rfl, hN, hL]
  exact q
theorem BH.zs {A : zA} {h : zH} {bc : Nat → Nat} {c p j : Nat} {v : Int} (q : BH A h bc) (hk : BHd c j = false) : BH A (zset h c p j v) bc := q.fr (fun _ _ _ => rfl) (fr_zs hk) rfl rfl
theorem BH.au {A : zA} {h : zH} {bc : Nat → Nat} {c j : Nat} {v : Int} (q : BH A h bc) (hk : BHa c j = false) : BH (au A c j v) h bc := q.fr (fr_au hk) (fun _ _ _ _ => rfl) rfl rfl
def TH (A : zA) (h : zH) (bc tc : Nat → Nat) : Prop := (∀ b : Nat, b < 72 → A 87 b = 1 → ∀ t : Nat, (t : Int) < A 73 (b / 6) → 16 ≤ tc (16 * b + t) ∧ tc (16 * b + t) < zhN h 6 ∧ zhD h 36 (bc b) t = (tc (16 * b + t) : Int) ∧ zhD h 6 (tc (16 * b + t)) 0 = (t : Int) ∧ zhD h 6 (tc (16 * b + t)) 2 = ((b % 6 : Nat) : Int) ∧ (zhL h 32 (tc (16 * b + t)) : Int) = A 61 (A 70 (b / 6)).toNat) ∧
  (∀ b b2 : Nat, b < 72 → b2 < 72 → A 87 b = 1 → A 87 b2 = 1 → ∀ t t2 : Nat, (t : Int) < A 73 (b / 6) → (t2 : Int) < A 73 (b2 / 6) → tc (16 * b + t) = tc (16 * b2 + t2) → b = b2 ∧ t = t2)
def THa (c j : Nat) : Bool := match c with
  | 61 => true
  | 70 => true
  | 73 => true
  | 87 => true
  | _ => false
def THd (c j : Nat) : Bool := match c with
  | 6 => Nat.beq j 0 || Nat.beq j 2
  | 36 => true
  | _ => false
theorem TH.fr {A A' : zA} {h h' : zH} {bc tc : Nat → Nat} (q : TH A h bc tc) (hA : ∀ c j, THa c j = true → A' c j = A c j) (hD : ∀ c p j, THd c j = true → zhD h' c p j = zhD h c p j) (hN : zhN h' = zhN h) (hL : zhL h' = zhL h) : TH A' h' bc tc := by
  unfold TH at q ⊢
  simp only [fr_row hA 61 (fun _ => rfl), fr_row hA 70 (fun _ => rfl), fr_row hA 73 (fun _ => rfl), fr_row hA 87 (fun _ => rfl), fun p => hD 6 p 0 rfl, fun p => hD 6 p 2 rfl, fun p j => hD 36 p j rfl, hN, hL]
  exact q
theorem TH.zs {A : zA} {h : zH} {bc tc : Nat → Nat} {c p j : Nat} {v : Int} (q : TH A h bc tc) (hk : THd c j = false) : TH A (zset h c p j v) bc tc := q.fr (fun _ _ _ => rfl) (fr_zs hk) rfl rfl
theorem TH.au {A : zA} {h : zH} {bc tc : Nat → Nat} {c j : Nat} {v : Int} (q : TH A h bc tc) (hk : THa c j = false) : TH (au A c j v) h bc tc := q.fr (fr_au hk) (fun _ _ _ _ => rfl) rfl rfl
def TD (A : zA) (h : zH) (tc : Nat → Nat) : Prop := ∀ b : Nat, b < 72 → A 87 b = 1 → ∀ t : Nat, (t : Int) < A 73 (b / 6) → (A 89 (16 * b + t) = 114 ∨ A 89 (16 * b + t) = 119 ∨ A 89 (16 * b + t) = 101) ∧ zhD h 6 (tc (16 * b + t)) 4 = A 89 (16 * b + t) ∧
  (A 89 (16 * b + t) ≠ 101 → zhD h 6 (tc (16 * b + t)) 3 = A 90 (16 * b + t) ∧ 0 ≤ A 90 (16 * b + t) ∧ A 90 (16 * b + t) < A 63 (A 70 (b / 6)).toNat) ∧ ∀ r : Nat, (r : Int) < A 61 (A 70 (b / 6)).toNat → zhD h 32 (tc (16 * b + t)) r = A 91 (8 * (16 * b + t) + r)
def TDa (c j : Nat) : Bool := match c with
  | 61 => true
  | 63 => true
  | 70 => true
  | 73 => true
  | 87 => true
  | 89 => true
  | 90 => true
  | 91 => true
  | _ => false
def TDd (c j : Nat) : Bool := match c with
  | 6 => Nat.beq j 3 || Nat.beq j 4
  | 32 => true
  | _ => false
theorem TD.fr {A A' : zA} {h h' : zH} {tc : Nat → Nat} (q : TD A h tc) (hA : ∀ c j, TDa c j = true → A' c j = A c j) (hD : ∀ c p j, TDd c j = true → zhD h' c p j = zhD h c p j) (hN : zhN h' = zhN h) (hL : zhL h' = zhL h) : TD A' h' tc := by
  unfold TD at q ⊢
  simp only [fr_row hA 61 (fun _ => rfl), fr_row hA 63 (fun _ => rfl), fr_row hA 70 (fun _ => rfl), fr_row hA 73 (fun _ => rfl), fr_row hA 87 (fun _ => rfl), fr_row hA 89 (fun _ => rfl), fr_row hA 90 (fun _ => rfl), fr_row hA 91 (fun _ => rfl), fun p => hD 6 p 3 rfl, fun p => hD 6 p 4 rfl, fun p j => hD 32 p j rfl, hN, hL]
  exact q
theorem TD.zs {A : zA} {h : zH} {tc : Nat → Nat} {c p j : Nat} {v : Int} (q : TD A h tc) (hk : TDd c j = false) : TD A (zset h c p j v) tc := q.fr (fun _ _ _ => rfl) (fr_zs hk) rfl rfl
theorem TD.au {A : zA} {h : zH} {tc : Nat → Nat} {c j : Nat} {v : Int} (q : TD A h tc) (hk : TDa c j = false) : TD (au A c j v) h tc := q.fr (fr_au hk) (fun _ _ _ _ => rfl) rfl rfl
def GH (A : zA) (h : zH) (bc tc gc : Nat → Nat) : Prop := (∀ b : Nat, b < 72 → A 87 b = 1 → ∀ i : Nat, ((4 * i : Nat) : Int) < A 73 (b / 6) → gc (4 * b + i) < zhN h 11 ∧ zhD h 37 (bc b) i = (gc (4 * b + i) : Int) ∧ zhD h 11 (gc (4 * b + i)) 0 = (bc b : Int) ∧ zhD h 11 (gc (4 * b + i)) 1 = ((4 * i : Nat) : Int) ∧ ∀ k : Nat, k < 4 → zhD h 42 (gc (4 * b + i)) k = if ((4 * i + k : Nat) : Int) < A 73 (b / 6) then (tc (16 * b + (4 * i + k)) : Int) else -1) ∧
  (∀ b b2 : Nat, b < 72 → b2 < 72 → A 87 b = 1 → A 87 b2 = 1 → ∀ i i2 : Nat, ((4 * i : Nat) : Int) < A 73 (b / 6) → ((4 * i2 : Nat) : Int) < A 73 (b2 / 6) → gc (4 * b + i) = gc (4 * b2 + i2) → b = b2 ∧ i = i2)
def GHa (c j : Nat) : Bool := match c with
  | 73 => true
  | 87 => true
  | _ => false
def GHd (c j : Nat) : Bool := match c with
  | 11 => Nat.beq j 0 || Nat.beq j 1
  | 37 => true
  | 42 => true
  | _ => false
theorem GH.fr {A A' : zA} {h h' : zH} {bc tc gc : Nat → Nat} (q : GH A h bc tc gc) (hA : ∀ c j, GHa c j = true → A' c j = A c j) (hD : ∀ c p j, GHd c j = true → zhD h' c p j = zhD h c p j) (hN : zhN h' = zhN h) (hL : zhL h' = zhL h) : GH A' h' bc tc gc := by
  unfold GH at q ⊢
  simp only [fr_row hA 73 (fun _ => rfl), fr_row hA 87 (fun _ => rfl), fun p => hD 11 p 0 rfl, fun p => hD 11 p 1 rfl, fun p j => hD 37 p j rfl, fun p j => hD 42 p j rfl, hN, hL]
  exact q
theorem GH.zs {A : zA} {h : zH} {bc tc gc : Nat → Nat} {c p j : Nat} {v : Int} (q : GH A h bc tc gc) (hk : GHd c j = false) : GH A (zset h c p j v) bc tc gc := q.fr (fun _ _ _ => rfl) (fr_zs hk) rfl rfl
theorem GH.au {A : zA} {h : zH} {bc tc gc : Nat → Nat} {c j : Nat} {v : Int} (q : GH A h bc tc gc) (hk : GHa c j = false) : GH (au A c j v) h bc tc gc := q.fr (fr_au hk) (fun _ _ _ _ => rfl) rfl rfl
def SH (A : zA) (h : zH) (bc : Nat → Nat) : Prop := ∀ b : Nat, b < 72 → A 87 b = 1 → ∀ c : Nat, (c : Int) < A 62 (A 70 (b / 6)).toNat → zhD h 38 (bc b) c = A 92 (16 * b + c)
def SHa (c j : Nat) : Bool := match c with
  | 62 => true
  | 70 => true
  | 87 => true
  | 92 => true
  | _ => false
def SHd (c j : Nat) : Bool := match c with
  | 38 => true
  | _ => false
theorem SH.fr {A A' : zA} {h h' : zH} {bc : Nat → Nat} (q : SH A h bc) (hA : ∀ c j, SHa c j = true → A' c j = A c j) (hD : ∀ c p j, SHd c j = true → zhD h' c p j = zhD h c p j) (hN : zhN h' = zhN h) (hL : zhL h' = zhL h) : SH A' h' bc := by
  unfold SH at q ⊢
  simp only [fr_row hA 62 (fun _ => rfl), fr_row hA 70 (fun _ => rfl), fr_row hA 87 (fun _ => rfl), fr_row hA 92 (fun _ => rfl), fun p j => hD 38 p j rfl, hN, hL]
  exact q
theorem SH.zs {A : zA} {h : zH} {bc : Nat → Nat} {c p j : Nat} {v : Int} (q : SH A h bc) (hk : SHd c j = false) : SH A (zset h c p j v) bc := q.fr (fun _ _ _ => rfl) (fr_zs hk) rfl rfl
theorem SH.au {A : zA} {h : zH} {bc : Nat → Nat} {c j : Nat} {v : Int} (q : SH A h bc) (hk : SHa c j = false) : SH (au A c j v) h bc := q.fr (fr_au hk) (fun _ _ _ _ => rfl) rfl rfl
def US (A : zA) (h : zH) (gc : Nat → Nat) : Prop := ∀ u : Nat, u < 2 → (0 ≤ A 93 u ∧ A 93 u ≤ 4 ∧ zhD h 3 u 2 = A 93 u) ∧
  (∀ i : Nat, (i : Int) < A 93 u → ∃ b j : Nat, A 94 (4 * u + i) = (b : Int) ∧ b < 72 ∧ A 95 (4 * u + i) = (j : Int) ∧ ((4 * j : Nat) : Int) < A 73 (b / 6) ∧ A 87 b = 1 ∧ A 88 b = (u : Int) ∧ zhD h 26 u i = (gc (4 * b + j) : Int)) ∧
  (∀ i i2 : Nat, (i : Int) < A 93 u → (i2 : Int) < A 93 u → A 94 (4 * u + i) = A 94 (4 * u + i2) → A 95 (4 * u + i) = A 95 (4 * u + i2) → i = i2) ∧
  (∀ b j : Nat, b < 72 → A 87 b = 1 → A 88 b = (u : Int) → ((4 * j : Nat) : Int) < A 73 (b / 6) → ∃ i : Nat, (i : Int) < A 93 u ∧ A 94 (4 * u + i) = (b : Int) ∧ A 95 (4 * u + i) = (j : Int)) ∧
  (∀ i i2 : Nat, i < i2 → (i2 : Int) < A 93 u → A 94 (4 * u + i) = A 94 (4 * u + i2) → A 95 (4 * u + i) < A 95 (4 * u + i2))
def USa (c j : Nat) : Bool := match c with
  | 73 => true
  | 87 => true
  | 88 => true
  | 93 => true
  | 94 => true
  | 95 => true
  | _ => false
def USd (c j : Nat) : Bool := match c with
  | 3 => Nat.beq j 2
  | 26 => true
  | _ => false
theorem US.fr {A A' : zA} {h h' : zH} {gc : Nat → Nat} (q : US A h gc) (hA : ∀ c j, USa c j = true → A' c j = A c j) (hD : ∀ c p j, USd c j = true → zhD h' c p j = zhD h c p j) (hN : zhN h' = zhN h) (hL : zhL h' = zhL h) : US A' h' gc := by
  unfold US at q ⊢
  simp only [fr_row hA 73 (fun _ => rfl), fr_row hA 87 (fun _ => rfl), fr_row hA 88 (fun _ => rfl), fr_row hA 93 (fun _ => rfl), fr_row hA 94 (fun _ => rfl), fr_row hA 95 (fun _ => rfl), fun p => hD 3 p 2 rfl, fun p j => hD 26 p j rfl, hN, hL]
  exact q
theorem US.zs {A : zA} {h : zH} {gc : Nat → Nat} {c p j : Nat} {v : Int} (q : US A h gc) (hk : USd c j = false) : US A (zset h c p j v) gc := q.fr (fun _ _ _ => rfl) (fr_zs hk) rfl rfl
theorem US.au {A : zA} {h : zH} {gc : Nat → Nat} {c j : Nat} {v : Int} (q : US A h gc) (hk : USa c j = false) : US (au A c j v) h gc := q.fr (fr_au hk) (fun _ _ _ _ => rfl) rfl rfl
def UG (A : zA) (h : zH) (gc : Nat → Nat) : Prop := ∀ u i : Nat, u < 2 → (i : Int) < A 93 u → ∀ b j : Nat, A 94 (4 * u + i) = (b : Int) → A 95 (4 * u + i) = (j : Int) → (zhD h 11 (gc (4 * b + j)) 6 = A 96 (4 * u + i) ∨ (zhD h 11 (gc (4 * b + j)) 6 ≤ A 12 1 ∧ A 96 (4 * u + i) ≤ A 12 1)) ∧ zhD h 11 (gc (4 * b + j)) 5 = A 97 (4 * u + i) ∧ 0 ≤ A 97 (4 * u + i) ∧ A 97 (4 * u + i) ≤ 4 ∧
  ∀ k : Nat, (k : Int) < A 97 (4 * u + i) → zhD h 43 (gc (4 * b + j)) k = A 98 (4 * (4 * u + i) + k) ∧ zhD h 44 (gc (4 * b + j)) k = A 99 (4 * (4 * u + i) + k) ∧ 0 ≤ A 98 (4 * (4 * u + i) + k) ∧ A 98 (4 * (4 * u + i) + k) < 64
def UGa (c j : Nat) : Bool := match c with
  | 12 => Nat.beq j 1
  | 93 => true
  | 94 => true
  | 95 => true
  | 96 => true
  | 97 => true
  | 98 => true
  | 99 => true
  | _ => false
def UGd (c j : Nat) : Bool := match c with
  | 11 => Nat.beq j 5 || Nat.beq j 6
  | 43 => true
  | 44 => true
  | _ => false
theorem UG.fr {A A' : zA} {h h' : zH} {gc : Nat → Nat} (q : UG A h gc) (hA : ∀ c j, UGa c j = true → A' c j = A c j) (hD : ∀ c p j, UGd c j = true → zhD h' c p j = zhD h c p j) (hN : zhN h' = zhN h) (hL : zhL h' = zhL h) : UG A' h' gc := by
  unfold UG at q ⊢
  simp only [hA 12 1 rfl, fr_row hA 93 (fun _ => rfl), fr_row hA 94 (fun _ => rfl), fr_row hA 95 (fun _ => rfl), fr_row hA 96 (fun _ => rfl), fr_row hA 97 (fun _ => rfl), fr_row hA 98 (fun _ => rfl), fr_row hA 99 (fun _ => rfl), fun p => hD 11 p 5 rfl, fun p => hD 11 p 6 rfl, fun p j => hD 43 p j rfl, fun p j => hD 44 p j rfl, hN, hL]
  exact q
theorem UG.zs {A : zA} {h : zH} {gc : Nat → Nat} {c p j : Nat} {v : Int} (q : UG A h gc) (hk : UGd c j = false) : UG A (zset h c p j v) gc := q.fr (fun _ _ _ => rfl) (fr_zs hk) rfl rfl
theorem UG.au {A : zA} {h : zH} {gc : Nat → Nat} {c j : Nat} {v : Int} (q : UG A h gc) (hk : UGa c j = false) : UG (au A c j v) h gc := q.fr (fr_au hk) (fun _ _ _ _ => rfl) rfl rfl
def UL (A : zA) (h : zH)  : Prop := ∀ u : Nat, u < 2 → (∀ p : Nat, p < 2 → zhD h 27 u p = A 102 (2 * u + p)) ∧ (zhD h 3 u 3 = -1 ∨ ∃ G : Nat, zhD h 3 u 3 = (G : Int) ∧ G < zhN h 11) ∧
  (A 100 u = -1 ∨ ∃ b : Nat, A 100 u = (b : Int) ∧ b < 72 ∧ A 87 b = 1 ∧ A 88 b = (u : Int)) ∧
  (∀ i : Nat, (i : Int) < A 93 u → (zhD h 26 u i = zhD h 3 u 3 ↔ (A 94 (4 * u + i) = A 100 u ∧ A 95 (4 * u + i) = A 101 u)))
def ULa (c j : Nat) : Bool := match c with
  | 87 => true
  | 88 => true
  | 93 => true
  | 94 => true
  | 95 => true
  | 100 => true
  | 101 => true
  | 102 => true
  | _ => false
def ULd (c j : Nat) : Bool := match c with
  | 3 => Nat.beq j 3
  | 26 => true
  | 27 => true
  | _ => false
theorem UL.fr {A A' : zA} {h h' : zH}  (q : UL A h) (hA : ∀ c j, ULa c j = true → A' c j = A c j) (hD : ∀ c p j, ULd c j = true → zhD h' c p j = zhD h c p j) (hN : zhN h' = zhN h) (hL : zhL h' = zhL h) : UL A' h' := by
  unfold UL at q ⊢
  simp only [fr_row hA 87 (fun _ => rfl), fr_row hA 88 (fun _ => rfl), fr_row hA 93 (fun _ => rfl), fr_row hA 94 (fun _ => rfl), fr_row hA 95 (fun _ => rfl), fr_row hA 100 (fun _ => rfl), fr_row hA 101 (fun _ => rfl), fr_row hA 102 (fun _ => rfl), fun p => hD 3 p 3 rfl, fun p j => hD 26 p j rfl, fun p j => hD 27 p j rfl, hN, hL]
  exact q
theorem UL.zs {A : zA} {h : zH}  {c p j : Nat} {v : Int} (q : UL A h) (hk : ULd c j = false) : UL A (zset h c p j v) := q.fr (fun _ _ _ => rfl) (fr_zs hk) rfl rfl
theorem UL.au {A : zA} {h : zH}  {c j : Nat} {v : Int} (q : UL A h) (hk : ULa c j = false) : UL (au A c j v) h := q.fr (fr_au hk) (fun _ _ _ _ => rfl) rfl rfl
def SU (A : zA)  : Prop := ∀ u : Nat, u < 2 → zsrm A u 72 = zsrc A u (A 93 u).toNat ∧ zssm A u 72 = zssc A u (A 93 u).toNat ∧ zsrm A u 72 ≤ 64 ∧ zssm A u 72 ≤ 32
def SUa (c j : Nat) : Bool := match c with
  | 61 => true
  | 62 => true
  | 70 => true
  | 73 => true
  | 87 => true
  | 88 => true
  | 93 => true
  | 94 => true
  | 95 => true
  | _ => false
theorem SU.fr {A A' : zA}  (q : SU A) (hA : ∀ c j, SUa c j = true → A' c j = A c j) : SU A' := fun u hu => by
  rw [zsrm_fr (fr_row hA 61 (fun _ => rfl)) (fr_row hA 70 (fun _ => rfl)) (fr_row hA 73 (fun _ => rfl)) (fr_row hA 87 (fun _ => rfl)) (fr_row hA 88 (fun _ => rfl)), zssm_fr (fr_row hA 62 (fun _ => rfl)) (fr_row hA 70 (fun _ => rfl)) (fr_row hA 87 (fun _ => rfl)) (fr_row hA 88 (fun _ => rfl)), fr_row hA 93 (fun _ => rfl), zsrc_fr (fr_row hA 61 (fun _ => rfl)) (fr_row hA 70 (fun _ => rfl)) (fr_row hA 73 (fun _ => rfl)) (fr_row hA 94 (fun _ => rfl)) (fr_row hA 95 (fun _ => rfl)), zssc_fr (fr_row hA 62 (fun _ => rfl)) (fr_row hA 70 (fun _ => rfl)) (fr_row hA 94 (fun _ => rfl)) (fr_row hA 95 (fun _ => rfl))]
  exact q u hu
theorem SU.au {A : zA}  {c j : Nat} {v : Int} (q : SU A) (hk : SUa c j = false) : SU (au A c j v) := q.fr (fr_au hk)
def TA (A : zA) (L : Nat) : Prop := (∀ l cell k t : Nat, l < 12 → cell < 64 → k < 6 → t < 16 → ¬ (l < L ∧ (k : Int) < A 78 l ∧ (t : Int) < A 73 l) → A 103 (96 * (64 * l + cell) + (16 * k + t)) = 0 ∧ A 104 (96 * (64 * l + cell) + (16 * k + t)) = 0) ∧
  (∀ b c t : Nat, b < 72 → c < 16 → t < 16 → ¬ (b / 6 < L ∧ ((b % 6 : Nat) : Int) < A 78 (b / 6) ∧ (t : Int) < A 73 (b / 6)) → A 106 (16 * (16 * b + c) + t) = 0 ∧ A 107 (16 * (16 * b + c) + t) = 0) ∧
  (∀ b c : Nat, b < 72 → c < 16 → ¬ (b / 6 < L ∧ ((b % 6 : Nat) : Int) < A 78 (b / 6)) → A 108 (16 * b + c) = 0) ∧
  (∀ b c : Nat, b < 72 → c < 16 → A 108 (16 * b + c) = 0 ∨ A 108 (16 * b + c) = 1) ∧
  (∀ l cell : Nat, l < 12 → cell < 64 → A 105 (64 * l + cell) = 0 ∨ A 105 (64 * l + cell) = 1) ∧
  (∀ l cell : Nat, L ≤ l → l < 12 → cell < 64 → A 105 (64 * l + cell) = 0) ∧
  (∀ b cell t : Nat, b < 72 → A 87 b = 1 → cell < 64 → t < 16 → A 103 (96 * (64 * (b / 6) + cell) + (16 * (b % 6) + t)) ≤ A 86 b + 1 ∧ A 104 (96 * (64 * (b / 6) + cell) + (16 * (b % 6) + t)) ≤ A 86 b + 1) ∧
  (∀ b c t : Nat, b < 72 → A 87 b = 1 → c < 16 → t < 16 → A 106 (16 * (16 * b + c) + t) ≤ A 86 b + 1 ∧ A 107 (16 * (16 * b + c) + t) ≤ A 86 b + 1)
def TAa (c j : Nat) : Bool := match c with
  | 73 => true
  | 78 => true
  | 86 => true
  | 87 => true
  | 103 => true
  | 104 => true
  | 105 => true
  | 106 => true
  | 107 => true
  | 108 => true
  | _ => false
theorem TA.fr {A A' : zA} {L : Nat} (q : TA A L) (hA : ∀ c j, TAa c j = true → A' c j = A c j) : TA A' L := by
  unfold TA at q ⊢
  simp only [fr_row hA 73 (fun _ => rfl), fr_row hA 78 (fun _ => rfl), fr_row hA 86 (fun _ => rfl), fr_row hA 87 (fun _ => rfl), fr_row hA 103 (fun _ => rfl), fr_row hA 104 (fun _ => rfl), fr_row hA 105 (fun _ => rfl), fr_row hA 106 (fun _ => rfl), fr_row hA 107 (fun _ => rfl), fr_row hA 108 (fun _ => rfl)]
  exact q
theorem TA.au {A : zA} {L : Nat} {c j : Nat} {v : Int} (q : TA A L) (hk : TAa c j = false) : TA (au A c j v) L := q.fr (fr_au hk)
def TB (A : zA) (h : zH) (bc : Nat → Nat) : Prop := (∀ b cell t : Nat, b < 72 → A 87 b = 1 → cell < 64 → t < 16 → zbt (zhD h 39 (bc b) cell) t = decide (A 86 b + 1 ≤ A 103 (96 * (64 * (b / 6) + cell) + (16 * (b % 6) + t))) ∧ zbt (zhD h 39 (bc b) cell) (16 + t) = decide (A 86 b + 1 ≤ A 104 (96 * (64 * (b / 6) + cell) + (16 * (b % 6) + t)))) ∧
  (∀ b c : Nat, b < 72 → A 87 b = 1 → (c : Int) < A 62 (A 70 (b / 6)).toNat → zhD h 41 (bc b) c = A 108 (16 * b + c) ∧ ∀ t : Nat, t < 16 → zbt (zhD h 40 (bc b) c) t = decide (A 86 b + 1 ≤ A 106 (16 * (16 * b + c) + t)) ∧ zbt (zhD h 40 (bc b) c) (16 + t) = decide (A 86 b + 1 ≤ A 107 (16 * (16 * b + c) + t)))
def TBa (c j : Nat) : Bool := match c with
  | 62 => true
  | 70 => true
  | 86 => true
  | 87 => true
  | 103 => true
  | 104 => true
  | 106 => true
  | 107 => true
  | 108 => true
  | _ => false
def TBd (c j : Nat) : Bool := match c with
  | 39 => true
  | 40 => true
  | 41 => true
  | _ => false
theorem TB.fr {A A' : zA} {h h' : zH} {bc : Nat → Nat} (q : TB A h bc) (hA : ∀ c j, TBa c j = true → A' c j = A c j) (hD : ∀ c p j, TBd c j = true → zhD h' c p j = zhD h c p j) (hN : zhN h' = zhN h) (hL : zhL h' = zhL h) : TB A' h' bc := by
  unfold TB at q ⊢
  simp only [fr_row hA 62 (fun _ => rfl), fr_row hA 70 (fun _ => rfl), fr_row hA 86 (fun _ => rfl), fr_row hA 87 (fun _ => rfl), fr_row hA 103 (fun _ => rfl), fr_row hA 104 (fun _ => rfl), fr_row hA 106 (fun _ => rfl), fr_row hA 107 (fun _ => rfl), fr_row hA 108 (fun _ => rfl), fun p j => hD 39 p j rfl, fun p j => hD 40 p j rfl, fun p j => hD 41 p j rfl, hN, hL]
  exact q
theorem TB.zs {A : zA} {h : zH} {bc : Nat → Nat} {c p j : Nat} {v : Int} (q : TB A h bc) (hk : TBd c j = false) : TB A (zset h c p j v) bc := q.fr (fun _ _ _ => rfl) (fr_zs hk) rfl rfl
theorem TB.au {A : zA} {h : zH} {bc : Nat → Nat} {c j : Nat} {v : Int} (q : TB A h bc) (hk : TBa c j = false) : TB (au A c j v) h bc := q.fr (fr_au hk) (fun _ _ _ _ => rfl) rfl rfl
def TL (A : zA) (h : zH) (L : Nat) : Prop := ∀ l : Nat, l < L → (∀ cell : Nat, cell < 64 → zhD h 35 l cell = A 105 (64 * l + cell) ∧ (∀ k : Nat, k < 6 → (zbt (zhD h 34 l cell) k = true ↔ ∃ t : Nat, t < 16 ∧ 1 ≤ A 103 (96 * (64 * l + cell) + (16 * k + t))) ∧ (zbt (zhD h 34 l cell) (16 + k) = true ↔ ∃ t : Nat, t < 16 ∧ 1 ≤ A 104 (96 * (64 * l + cell) + (16 * k + t)))) ∧
  ∀ k : Nat, 6 ≤ k → k < 16 → zbt (zhD h 34 l cell) k = false ∧ zbt (zhD h 34 l cell) (16 + k) = false) ∧
  zhD h 9 l 18 = zsum (A 105) (64 * l) 64 + zsum (A 108) (96 * l) 96
def TLa (c j : Nat) : Bool := match c with
  | 103 => true
  | 104 => true
  | 105 => true
  | 108 => true
  | _ => false
def TLd (c j : Nat) : Bool := match c with
  | 9 => Nat.beq j 18
  | 34 => true
  | 35 => true
  | _ => false
theorem TL.fr {A A' : zA} {h h' : zH} {L : Nat} (q : TL A h L) (hA : ∀ c j, TLa c j = true → A' c j = A c j) (hD : ∀ c p j, TLd c j = true → zhD h' c p j = zhD h c p j) (hN : zhN h' = zhN h) (hL : zhL h' = zhL h) : TL A' h' L := by
  unfold TL at q ⊢
  simp only [fr_row hA 103 (fun _ => rfl), fr_row hA 104 (fun _ => rfl), fr_row hA 105 (fun _ => rfl), fr_row hA 108 (fun _ => rfl), fun p => hD 9 p 18 rfl, fun p j => hD 34 p j rfl, fun p j => hD 35 p j rfl, hN, hL]
  exact q
theorem TL.zs {A : zA} {h : zH} {L : Nat} {c p j : Nat} {v : Int} (q : TL A h L) (hk : TLd c j = false) : TL A (zset h c p j v) L := q.fr (fun _ _ _ => rfl) (fr_zs hk) rfl rfl
theorem TL.au {A : zA} {h : zH} {L : Nat} {c j : Nat} {v : Int} (q : TL A h L) (hk : TLa c j = false) : TL (au A c j v) h L := q.fr (fr_au hk) (fun _ _ _ _ => rfl) rfl rfl
def BD (A : zA) (n : Nat) : Prop := (∀ j : Nat, j = 1 ∨ (54 ≤ j ∧ j ≤ 61) → 0 ≤ A 12 j ∧ A 12 j ≤ 64 * (n : Int) ∧ (j = 55 → A 12 j ≤ (n : Int))) ∧ (∀ b : Nat, b < 72 → A 86 b ≤ (n : Int))
def BDa (c j : Nat) : Bool := match c with
  | 12 => Nat.beq j 1 || Nat.beq j 54 || Nat.beq j 55 || Nat.beq j 56 || Nat.beq j 57 || Nat.beq j 58 || Nat.beq j 59 || Nat.beq j 60 || Nat.beq j 61
  | 86 => true
  | _ => false
theorem BD.fr {A A' : zA} {n : Nat} (q : BD A n) (hA : ∀ c j, BDa c j = true → A' c j = A c j) : BD A' n := ⟨fun j hj => by
    have hf : BDa 12 j = true := by
      rcases (show j = 1 ∨ j = 54 ∨ j = 55 ∨ j = 56 ∨ j = 57 ∨ j = 58 ∨ j = 59 ∨ j = 60 ∨ j = 61 by omega) with rfl | rfl | rfl | rfl | rfl | rfl | rfl | rfl | rfl <;> rfl
    rw [hA 12 j hf]
    exact q.1 j hj, fun b hb => by
    rw [hA 86 b rfl]
    exact q.2 b hb⟩
theorem BD.au {A : zA} {n : Nat} {c j : Nat} {v : Int} (q : BD A n) (hk : BDa c j = false) : BD (au A c j v) n := q.fr (fr_au hk)
def RH (h : zH) (B : zA) : Prop := (∀ c j : Nat, zmk5 c = true → zhD h c 0 j = B c j) ∧ (∀ c : Nat, zmk5 c = true → zhN h c = 1 ∧ (c ≠ 12 → (zhL h c 0 : Int) = if c = 50 then B 53 0 else if c = 51 ∨ c = 52 then 1 else (zml c : Int)))
def RHd (c _j : Nat) : Bool := zmk5 c
theorem RH.fr {h h' : zH} {B : zA} (q : RH h B) (hD : ∀ c p j, RHd c j = true → zhD h' c p j = zhD h c p j) (hN : zhN h' = zhN h) (hL : zhL h' = zhL h) : RH h' B := ⟨fun c j hc => (hD c 0 j hc).trans (q.1 c j hc), fun c hc => by rw [hN, hL]; exact q.2 c hc⟩
theorem RH.zs {h : zH} {B : zA} {c p j : Nat} {v : Int} (q : RH h B) (hk : RHd c j = false) : RH (zset h c p j v) B := q.fr (fr_zs hk) rfl rfl
def IV (A : zA)  : Prop := ∀ j : Nat, zir (A 60 j) ∧ zir (A 67 j) ∧ zir (A 91 j) ∧ zir (A 92 j) ∧ zir (A 99 j)
def IVa (c j : Nat) : Bool := match c with
  | 60 => true
  | 67 => true
  | 91 => true
  | 92 => true
  | 99 => true
  | _ => false
theorem IV.fr {A A' : zA}  (q : IV A) (hA : ∀ c j, IVa c j = true → A' c j = A c j) : IV A' := by
  unfold IV at q ⊢
  simp only [fr_row hA 60 (fun _ => rfl), fr_row hA 67 (fun _ => rfl), fr_row hA 91 (fun _ => rfl), fr_row hA 92 (fun _ => rfl), fr_row hA 99 (fun _ => rfl)]
  exact q
theorem IV.au {A : zA}  {c j : Nat} {v : Int} (q : IV A) (hk : IVa c j = false) : IV (au A c j v) := q.fr (fr_au hk)
def RN (A : zA) (h : zH) (L : Nat) (N M : Int) : Prop := (zhC h : Int) - 60 * zsum (A 78) 0 12 - 4 * (L : Int) ≤ N ∧ (zhS h : Int) - 800 * zsum (A 78) 0 12 - 150 * (L : Int) ≤ M
def RNa (c j : Nat) : Bool := match c with
  | 78 => true
  | _ => false
def RNd (_c _j : Nat) : Bool := false
theorem RN.fr {A A' : zA} {h h' : zH} {L : Nat} {N M : Int} (q : RN A h L N M) (hA : ∀ c j, RNa c j = true → A' c j = A c j) (hC : zhC h' = zhC h) (hS : zhS h' = zhS h) : RN A' h' L N M := by
  unfold RN at q ⊢
  simp only [fr_row hA 78 (fun _ => rfl), hC, hS]
  exact q
theorem RN.zs {A : zA} {h : zH} {L : Nat} {N M : Int} {c p j : Nat} {v : Int} (q : RN A h L N M) (hk : RNd c j = false) : RN A (zset h c p j v) L N M := q.fr (fun _ _ _ => rfl)  rfl rfl
theorem RN.au {A : zA} {h : zH} {L : Nat} {N M : Int} {c j : Nat} {v : Int} (q : RN A h L N M) (hk : RNa c j = false) : RN (au A c j v) h L N M := q.fr (fr_au hk) rfl rfl
def RKa (c j : Nat) : Bool := match c with
  | 12 => Nat.beq j 4
  | 61 => true
  | 62 => true
  | 63 => true
  | 64 => true
  | 65 => true
  | 66 => true
  | 67 => true
  | 68 => true
  | _ => false
def RKd (c j : Nat) : Bool := match c with
  | 1 => Nat.beq j 2
  | 7 => Nat.beq j 0 || Nat.beq j 1 || Nat.beq j 3 || Nat.beq j 4
  | 8 => true
  | 20 => true
  | 33 => true
  | _ => false
theorem RK.fr {A A' : zA} {h h' : zH} {K : Nat} (q : RK A h K) (hA : ∀ c j, RKa c j = true → A' c j = A c j) (hD : ∀ c p j, RKd c j = true → zhD h' c p j = zhD h c p j) (hN : zhN h' = zhN h) : RK A' h' K := by
  unfold RK at q ⊢
  simp only [hA 12 4 rfl, fr_row hA 61 (fun _ => rfl), fr_row hA 62 (fun _ => rfl), fr_row hA 63 (fun _ => rfl), fr_row hA 64 (fun _ => rfl), fr_row hA 65 (fun _ => rfl), fr_row hA 66 (fun _ => rfl), fr_row hA 67 (fun _ => rfl), fr_row hA 68 (fun _ => rfl), fun p => hD 1 p 2 rfl, fun p => hD 7 p 0 rfl, fun p => hD 7 p 1 rfl, fun p => hD 7 p 3 rfl, fun p => hD 7 p 4 rfl, fun p j => hD 8 p j rfl, fun p j => hD 20 p j rfl, fun p j => hD 33 p j rfl, hN]
  exact q
theorem RK.zs {A : zA} {h : zH} {K : Nat} {c p j : Nat} {v : Int} (q : RK A h K) (hk : RKd c j = false) : RK A (zset h c p j v) K := q.fr (fun _ _ _ => rfl) (fr_zs hk) rfl
theorem RK.au {A : zA} {h : zH} {K : Nat} {c j : Nat} {v : Int} (q : RK A h K) (hk : RKa c j = false) : RK (au A c j v) h K := q.fr (fr_au hk) (fun _ _ _ _ => rfl) rfl
def RLa (c j : Nat) : Bool := match c with
  | 12 => Nat.beq j 13
  | 61 => true
  | 62 => true
  | 64 => true
  | 69 => true
  | 70 => true
  | 71 => true
  | 72 => true
  | 73 => true
  | 74 => true
  | 75 => true
  | 76 => true
  | 77 => true
  | 78 => true
  | 79 => true
  | 80 => true
  | 81 => true
  | 82 => true
  | 83 => true
  | 84 => true
  | 85 => true
  | _ => false
def RLd (c j : Nat) : Bool := match c with
  | 1 => Nat.beq j 3
  | 9 => Nat.beq j 0 || Nat.beq j 1 || Nat.beq j 2 || Nat.beq j 3 || Nat.beq j 4 || Nat.beq j 5 || Nat.beq j 6 || Nat.beq j 7 || Nat.beq j 8 || Nat.beq j 9 || Nat.beq j 10 || Nat.beq j 11 || Nat.beq j 12 || Nat.beq j 13 || Nat.beq j 14 || Nat.beq j 15
  | 21 => true
  | _ => false
theorem RL.fr {A A' : zA} {h h' : zH} {K L : Nat} (q : RL A h K L) (hA : ∀ c j, RLa c j = true → A' c j = A c j) (hD : ∀ c p j, RLd c j = true → zhD h' c p j = zhD h c p j) (hN : zhN h' = zhN h) : RL A' h' K L := by
  unfold RL RLn at q ⊢
  simp only [hA 12 13 rfl, fr_row hA 61 (fun _ => rfl), fr_row hA 62 (fun _ => rfl), fr_row hA 64 (fun _ => rfl), fr_row hA 69 (fun _ => rfl), fr_row hA 70 (fun _ => rfl), fr_row hA 71 (fun _ => rfl), fr_row hA 72 (fun _ => rfl), fr_row hA 73 (fun _ => rfl), fr_row hA 74 (fun _ => rfl), fr_row hA 75 (fun _ => rfl), fr_row hA 76 (fun _ => rfl), fr_row hA 77 (fun _ => rfl), fr_row hA 78 (fun _ => rfl), fr_row hA 79 (fun _ => rfl), fr_row hA 80 (fun _ => rfl), fr_row hA 81 (fun _ => rfl), fr_row hA 82 (fun _ => rfl), fr_row hA 83 (fun _ => rfl), fr_row hA 84 (fun _ => rfl), fr_row hA 85 (fun _ => rfl), fun p => hD 1 p 3 rfl, fun p => hD 9 p 0 rfl, fun p => hD 9 p 1 rfl, fun p => hD 9 p 2 rfl, fun p => hD 9 p 3 rfl, fun p => hD 9 p 4 rfl, fun p => hD 9 p 5 rfl, fun p => hD 9 p 6 rfl, fun p => hD 9 p 7 rfl, fun p => hD 9 p 8 rfl, fun p => hD 9 p 9 rfl, fun p => hD 9 p 10 rfl, fun p => hD 9 p 11 rfl, fun p => hD 9 p 12 rfl, fun p => hD 9 p 13 rfl, fun p => hD 9 p 14 rfl, fun p => hD 9 p 15 rfl, fun p j => hD 21 p j rfl, hN]
  exact q
theorem RL.zs {A : zA} {h : zH} {K L : Nat} {c p j : Nat} {v : Int} (q : RL A h K L) (hk : RLd c j = false) : RL A (zset h c p j v) K L := q.fr (fun _ _ _ => rfl) (fr_zs hk) rfl
theorem RL.au {A : zA} {h : zH} {K L : Nat} {c j : Nat} {v : Int} (q : RL A h K L) (hk : RLa c j = false) : RL (au A c j v) h K L := q.fr (fr_au hk) (fun _ _ _ _ => rfl) rfl
def RMa (c j : Nat) : Bool := match c with
  | 12 => Nat.beq j 1 || Nat.beq j 2 || Nat.beq j 54 || Nat.beq j 55 || Nat.beq j 56 || Nat.beq j 57 || Nat.beq j 58 || Nat.beq j 59 || Nat.beq j 60 || Nat.beq j 61
  | 60 => true
  | _ => false
def RMd (c j : Nat) : Bool := match c with
  | 2 => Nat.beq j 4 || Nat.beq j 5
  | 4 => Nat.beq j 0 || Nat.beq j 1 || Nat.beq j 2 || Nat.beq j 3 || Nat.beq j 4 || Nat.beq j 5 || Nat.beq j 6 || Nat.beq j 7
  | 22 => true
  | _ => false
theorem RM.fr {A A' : zA} {h h' : zH}  (q : RM A h) (hA : ∀ c j, RMa c j = true → A' c j = A c j) (hD : ∀ c p j, RMd c j = true → zhD h' c p j = zhD h c p j) (hN : zhN h' = zhN h) : RM A' h' := by
  unfold RM at q ⊢
  simp only [hA 12 1 rfl, hA 12 2 rfl, hA 12 54 rfl, hA 12 55 rfl, hA 12 56 rfl, hA 12 57 rfl, hA 12 58 rfl, hA 12 59 rfl, hA 12 60 rfl, hA 12 61 rfl, fr_row hA 60 (fun _ => rfl), fun p => hD 2 p 4 rfl, fun p => hD 2 p 5 rfl, fun p => hD 4 p 0 rfl, fun p => hD 4 p 1 rfl, fun p => hD 4 p 2 rfl, fun p => hD 4 p 3 rfl, fun p => hD 4 p 4 rfl, fun p => hD 4 p 5 rfl, fun p => hD 4 p 6 rfl, fun p => hD 4 p 7 rfl, fun p j => hD 22 p j rfl, hN]
  exact q
theorem RM.zs {A : zA} {h : zH}  {c p j : Nat} {v : Int} (q : RM A h) (hk : RMd c j = false) : RM A (zset h c p j v) := q.fr (fun _ _ _ => rfl) (fr_zs hk) rfl
theorem RM.au {A : zA} {h : zH}  {c j : Nat} {v : Int} (q : RM A h) (hk : RMa c j = false) : RM (au A c j v) h := q.fr (fr_au hk) (fun _ _ _ _ => rfl) rfl
def RCa (c j : Nat) : Bool := match c with
  | 12 => zpt j
  | 69 => true
  | 70 => true
  | 82 => true
  | 83 => true
  | _ => false
theorem RC.fr {A A' : zA} {L : Nat} (q : RC A L) (hA : ∀ c j, RCa c j = true → A' c j = A c j) : RC A' L := by
  obtain ⟨q1, q2⟩ := q
  refine ⟨?_, fun j hj => (hA 12 j hj).trans (q2 j hj)⟩
  simp only [fr_row hA 69 (fun _ => rfl), fr_row hA 70 (fun _ => rfl), fr_row hA 82 (fun _ => rfl), fr_row hA 83 (fun _ => rfl)]
  exact q1
theorem RC.au {A : zA} {L : Nat} {c j : Nat} {v : Int} (q : RC A L) (hk : RCa c j = false) : RC (au A c j v) L := q.fr (fr_au hk)
