/-! THE PURE PART: tools -/
abbrev zA : Type := Nat → Nat → Int
/-- the model's rows in a heap -/
def mh (h : zH) (A : zA) : zH := (h.1, h.2.1, fun c p j => if zmk c = true ∧ p = 0 then A c j else h.2.2.1 c p j, h.2.2.2)
def au (A : zA) (c j : Nat) (v : Int) : zA := fun c' j' => if c' = c ∧ j' = j then v else A c' j'
theorem mh_D {h : zH} {A : zA} {c j : Nat} (hc : zmk c = true) : zhD (mh h A) c 0 j = A c j := if_pos ⟨hc, rfl⟩
theorem mh_set {h : zH} {A : zA} {c j : Nat} {v : Int} (hc : zmk c = true) : zset (mh h A) c 0 j v = mh h (au A c j v) := by
  unfold zset mh au
  refine congrArg (fun f => (h.1, h.2.1, f, h.2.2.2)) (funext fun c' => funext fun p' => funext fun j' => ?_)
  show (if c' = c ∧ p' = 0 ∧ j' = j then v else if zmk c' = true ∧ p' = 0 then A c' j' else h.2.2.1 c' p' j') = if zmk c' = true ∧ p' = 0 then (if c' = c ∧ j' = j then v else A c' j') else h.2.2.1 c' p' j'
  by_cases hp : p' = 0
  · by_cases hcc : c' = c
    · subst hcc
      by_cases hj : j' = j
      · rw [if_pos ⟨rfl, hp, hj⟩, if_pos ⟨hc, hp⟩, if_pos ⟨rfl, hj⟩]
      · rw [if_neg (fun z => hj z.2.2), if_pos ⟨hc, hp⟩, if_pos ⟨hc, hp⟩, if_neg (fun z => hj z.2)]
    · rw [if_neg (fun z => hcc z.1)]
      by_cases hz : zmk c' = true
      · rw [if_pos ⟨hz, hp⟩, if_pos ⟨hz, hp⟩, if_neg (fun z => hcc z.1)]
      · rw [if_neg (fun z => hz z.1), if_neg (fun z => hz z.1)]
  · rw [if_neg (fun z => hp z.2.1), if_neg (fun z => hp z.2), if_neg (fun z => hp z.2)]
theorem au_same {A : zA} {c j : Nat} {v : Int} : au A c j v c j = v := if_pos ⟨rfl, rfl⟩
theorem au_j {A : zA} {c j j' : Nat} {v : Int} : au A c j v c j' = if j' = j then v else A c j' := by
  unfold au
  by_cases h : j' = j
  · rw [if_pos ⟨rfl, h⟩, if_pos h]
  · rw [if_neg (fun z => h z.2), if_neg h]
theorem au_ne {A : zA} {c j c' : Nat} {v : Int} (h : c' ≠ c) : au A c j v c' = A c' := funext fun j' => if_neg (fun z => h z.1)
theorem mh_mh {h : zH} {A B : zA} : mh (mh h A) B = mh h B := by
  unfold mh
  refine congrArg (fun f => (h.1, h.2.1, f, h.2.2.2)) (funext fun c' => funext fun p' => funext fun j' => ?_)
  show (if zmk c' = true ∧ p' = 0 then B c' j' else if zmk c' = true ∧ p' = 0 then A c' j' else h.2.2.1 c' p' j') = _
  split <;> rfl
/-- a heap's own rows -/
def ma (h : zH) : zA := fun c j => zhD h c 0 j
theorem mh_ma (h : zH) : mh h (ma h) = h := by
  unfold mh ma zhD
  obtain ⟨a, b, f, d⟩ := h
  refine congrArg (fun f => (a, b, f, d)) (funext fun c' => funext fun p' => funext fun j' => ?_)
  show (if zmk c' = true ∧ p' = 0 then f c' 0 j' else f c' p' j') = _
  split
  · rename_i hz
    rw [hz.2]
  · rfl
/-! reading behind writing -/
theorem zD_set {h : zH} {c p j c' p' j' : Nat} {v : Int} : zhD (zset h c p j v) c' p' j' = if c' = c ∧ p' = p ∧ j' = j then v else zhD h c' p' j' := rfl
theorem zD_ne {h : zH} {c p j c' : Nat} {v : Int} (hc : c' ≠ c) : zhD (zset h c p j v) c' = zhD h c' := funext fun p' => funext fun j' => if_neg fun z => hc z.1
theorem zD_np {h : zH} {c p j p' : Nat} {v : Int} (hp : p' ≠ p) : zhD (zset h c p j v) c p' = zhD h c p' := funext fun j' => if_neg fun z => hp z.2.1
theorem zD_nj {h : zH} {c p j j' : Nat} {v : Int} (hj : j' ≠ j) : zhD (zset h c p j v) c p j' = zhD h c p j' := if_neg fun z => hj z.2.2
theorem zD_eq {h : zH} {c p j : Nat} {v : Int} : zhD (zset h c p j v) c p j = v := if_pos ⟨rfl, rfl, rfl⟩
theorem zN_set {h : zH} {c p j : Nat} {v : Int} : zhN (zset h c p j v) = zhN h := rfl
theorem zL_set {h : zH} {c p j : Nat} {v : Int} : zhL (zset h c p j v) = zhL h := rfl
theorem zC_set {h : zH} {c p j : Nat} {v : Int} : zhC (zset h c p j v) = zhC h := rfl
theorem zS_set {h : zH} {c p j : Nat} {v : Int} : zhS (zset h c p j v) = zhS h := rfl
theorem zN_thr {h : zH} : zhN (zthrown h) = zhN h := rfl
theorem zL_thr {h : zH} : zhL (zthrown h) = zhL h := rfl
theorem zD_thr {h : zH} : zhD (zthrown h) = zhD h := rfl
theorem zN_new {h : zH} {c len n : Nat} {f : Nat → Int} {c' : Nat} : zhN (znew h c len n f) c' = if c' = c then zhN h c + 1 else zhN h c' := rfl
theorem zN_new1 {h : zH} {c len n : Nat} {f : Nat → Int} : zhN (znew h c len n f) c = zhN h c + 1 := if_pos rfl
theorem zN_newne {h : zH} {c len n : Nat} {f : Nat → Int} {c' : Nat} (hc : c' ≠ c) : zhN (znew h c len n f) c' = zhN h c' := if_neg hc
theorem zD_new1 {h : zH} {c len n : Nat} {f : Nat → Int} {j : Nat} : zhD (znew h c len n f) c (zhN h c) j = f j := if_pos ⟨rfl, rfl⟩
theorem zD_newne {h : zH} {c len n : Nat} {f : Nat → Int} {c' : Nat} (hc : c' ≠ c) : zhD (znew h c len n f) c' = zhD h c' := funext fun p' => funext fun j' => if_neg fun z => hc z.1
theorem zD_newp {h : zH} {c len n : Nat} {f : Nat → Int} {p : Nat} (hp : p ≠ zhN h c) : zhD (znew h c len n f) c p = zhD h c p := funext fun j' => if_neg fun z => hp z.2
theorem zL_new1 {h : zH} {c len n : Nat} {f : Nat → Int} : zhL (znew h c len n f) c (zhN h c) = len := if_pos ⟨rfl, rfl⟩
theorem zL_newne {h : zH} {c len n : Nat} {f : Nat → Int} {c' : Nat} (hc : c' ≠ c) : zhL (znew h c len n f) c' = zhL h c' := funext fun p' => if_neg fun z => hc z.1
theorem zL_newp {h : zH} {c len n : Nat} {f : Nat → Int} {p : Nat} (hp : p ≠ zhN h c) : zhL (znew h c len n f) c p = zhL h c p := if_neg fun z => hp z.2
theorem zC_new {h : zH} {c len n : Nat} {f : Nat → Int} : zhC (znew h c len n f) = zhC h + 1 := rfl
/-! places and cells -/
theorem zix_n {ρ : Type} {n i : Nat} {k : Nat → Option ρ} (hi : i < n) : zix n (i : Int) k = k i := by
  unfold zix
  rw [if_pos ⟨Int.natCast_nonneg i, Int.ofNat_lt.mpr hi⟩]
  rfl
theorem zix_i {ρ : Type} {n : Nat} {i : Int} {k : Nat → Option ρ} (h0 : 0 ≤ i) (h1 : i < (n : Int)) : zix n i k = k i.toNat := if_pos ⟨h0, h1⟩
theorem zob_n {ρ : Type} {h : zH} {c i : Nat} {k : Nat → Option ρ} (hi : i < zhN h c) : zob h c (i : Int) k = k i := by
  unfold zob
  rw [if_pos ⟨Int.natCast_nonneg i, Int.ofNat_lt.mpr hi⟩]
  rfl
theorem zob_0 {ρ : Type} {h : zH} {c : Nat} {k : Nat → Option ρ} (hi : zhN h c = 1) : zob h c 0 k = k 0 := zob_n (i := 0) (by rw [hi]; exact Nat.zero_lt_one)
theorem zob_set {ρ : Type} {h : zH} {c p j : Nat} {v : Int} {c' : Nat} {a : Int} {k : Nat → Option ρ} : zob (zset h c p j v) c' a k = zob h c' a k := rfl
theorem zorn_set {ρ : Type} {h : zH} {c p j : Nat} {v : Int} {c' : Nat} {a : Int} {k : Option ρ} : zorn (zset h c p j v) c' a k = zorn h c' a k := rfl
theorem zob_newne {ρ : Type} {h : zH} {c len n : Nat} {f : Nat → Int} {c' : Nat} {a : Int} {k : Nat → Option ρ} (hc : c' ≠ c) : zob (znew h c len n f) c' a k = zob h c' a k := by
  unfold zob
  rw [zN_newne hc]
theorem zorn_newne {ρ : Type} {h : zH} {c len n : Nat} {f : Nat → Int} {c' : Nat} {a : Int} {k : Option ρ} (hc : c' ≠ c) : zorn (znew h c len n f) c' a k = zorn h c' a k := by
  unfold zorn
  rw [zN_newne hc]
theorem zorn_n {ρ : Type} {h : zH} {c i : Nat} {k : Option ρ} (hi : i < zhN h c) : zorn h c (i : Int) k = k := if_pos (Or.inr ⟨Int.natCast_nonneg i, Int.ofNat_lt.mpr hi⟩)
theorem zorn_m {ρ : Type} {h : zH} {c : Nat} {k : Option ρ} : zorn h c (-1) k = k := if_pos (Or.inl rfl)
theorem zob_new1 {ρ : Type} {h : zH} {c len n : Nat} {f : Nat → Int} {k : Nat → Option ρ} : zob (znew h c len n f) c (zhN h c : Int) k = k (zhN h c) := zob_n (by rw [zN_new1]; exact Nat.lt_succ_self _)
theorem zlet_d {α ρ : Type} {x : α} {k : α → Option ρ} : zlet x k = k x := rfl
theorem znar_b {ρ : Type} {x : Int} {k : Int → Option ρ} (h : x = 0 ∨ x = 1) : znar 1 x k = k x := if_pos h
theorem znar_c {ρ : Type} {x : Int} {k : Int → Option ρ} (h : 0 ≤ x ∧ x < 65536) : znar 2 x k = k x := if_pos h
theorem znar_0 {ρ : Type} {k : Int → Option ρ} : znar 1 0 k = k 0 := znar_b (Or.inl rfl)
theorem znar_1 {ρ : Type} {k : Int → Option ρ} : znar 1 1 k = k 1 := znar_b (Or.inr rfl)
theorem wr_id {x : Int} (h0 : -2147483648 ≤ x) (h1 : x < 2147483648) : wr x = x := by
  unfold wr
  omega
theorem wr_rng (x : Int) : -2147483648 ≤ wr x ∧ wr x < 2147483648 := by
  unfold wr
  omega
theorem wrl_id {x : Int} (h0 : -9223372036854775808 ≤ x) (h1 : x < 9223372036854775808) : wrl x = x := by
  unfold wrl
  omega
/-- truth as a number -/
def tb (p : Bool) : Int := bif p then 1 else 0
theorem tb_01 (p : Bool) : tb p = 0 ∨ tb p = 1 := by cases p <;> simp [tb]
theorem mD12 {h : zH} {A : zA} {j : Nat} : zhD (mh h A) 12 0 j = A 12 j := mh_D rfl
theorem mS12 {h : zH} {A : zA} {j : Nat} {v : Int} : zset (mh h A) 12 0 j v = mh h (au A 12 j v) := mh_set rfl
theorem mD60 {h : zH} {A : zA} {j : Nat} : zhD (mh h A) 60 0 j = A 60 j := mh_D rfl
theorem mS60 {h : zH} {A : zA} {j : Nat} {v : Int} : zset (mh h A) 60 0 j v = mh h (au A 60 j v) := mh_set rfl
theorem mD61 {h : zH} {A : zA} {j : Nat} : zhD (mh h A) 61 0 j = A 61 j := mh_D rfl
theorem mS61 {h : zH} {A : zA} {j : Nat} {v : Int} : zset (mh h A) 61 0 j v = mh h (au A 61 j v) := mh_set rfl
theorem mD62 {h : zH} {A : zA} {j : Nat} : zhD (mh h A) 62 0 j = A 62 j := mh_D rfl
theorem mS62 {h : zH} {A : zA} {j : Nat} {v : Int} : zset (mh h A) 62 0 j v = mh h (au A 62 j v) := mh_set rfl
theorem mD63 {h : zH} {A : zA} {j : Nat} : zhD (mh h A) 63 0 j = A 63 j := mh_D rfl
theorem mS63 {h : zH} {A : zA} {j : Nat} {v : Int} : zset (mh h A) 63 0 j v = mh h (au A 63 j v) := mh_set rfl
theorem mD64 {h : zH} {A : zA} {j : Nat} : zhD (mh h A) 64 0 j = A 64 j := mh_D rfl
theorem mS64 {h : zH} {A : zA} {j : Nat} {v : Int} : zset (mh h A) 64 0 j v = mh h (au A 64 j v) := mh_set rfl
theorem mD65 {h : zH} {A : zA} {j : Nat} : zhD (mh h A) 65 0 j = A 65 j := mh_D rfl
theorem mS65 {h : zH} {A : zA} {j : Nat} {v : Int} : zset (mh h A) 65 0 j v = mh h (au A 65 j v) := mh_set rfl
theorem mD66 {h : zH} {A : zA} {j : Nat} : zhD (mh h A) 66 0 j = A 66 j := mh_D rfl
theorem mS66 {h : zH} {A : zA} {j : Nat} {v : Int} : zset (mh h A) 66 0 j v = mh h (au A 66 j v) := mh_set rfl
theorem mD67 {h : zH} {A : zA} {j : Nat} : zhD (mh h A) 67 0 j = A 67 j := mh_D rfl
theorem mS67 {h : zH} {A : zA} {j : Nat} {v : Int} : zset (mh h A) 67 0 j v = mh h (au A 67 j v) := mh_set rfl
theorem mD68 {h : zH} {A : zA} {j : Nat} : zhD (mh h A) 68 0 j = A 68 j := mh_D rfl
theorem mS68 {h : zH} {A : zA} {j : Nat} {v : Int} : zset (mh h A) 68 0 j v = mh h (au A 68 j v) := mh_set rfl
theorem mD69 {h : zH} {A : zA} {j : Nat} : zhD (mh h A) 69 0 j = A 69 j := mh_D rfl
theorem mS69 {h : zH} {A : zA} {j : Nat} {v : Int} : zset (mh h A) 69 0 j v = mh h (au A 69 j v) := mh_set rfl
theorem mD70 {h : zH} {A : zA} {j : Nat} : zhD (mh h A) 70 0 j = A 70 j := mh_D rfl
theorem mS70 {h : zH} {A : zA} {j : Nat} {v : Int} : zset (mh h A) 70 0 j v = mh h (au A 70 j v) := mh_set rfl
theorem mD71 {h : zH} {A : zA} {j : Nat} : zhD (mh h A) 71 0 j = A 71 j := mh_D rfl
theorem mS71 {h : zH} {A : zA} {j : Nat} {v : Int} : zset (mh h A) 71 0 j v = mh h (au A 71 j v) := mh_set rfl
theorem mD72 {h : zH} {A : zA} {j : Nat} : zhD (mh h A) 72 0 j = A 72 j := mh_D rfl
theorem mS72 {h : zH} {A : zA} {j : Nat} {v : Int} : zset (mh h A) 72 0 j v = mh h (au A 72 j v) := mh_set rfl
theorem mD73 {h : zH} {A : zA} {j : Nat} : zhD (mh h A) 73 0 j = A 73 j := mh_D rfl
theorem mS73 {h : zH} {A : zA} {j : Nat} {v : Int} : zset (mh h A) 73 0 j v = mh h (au A 73 j v) := mh_set rfl
theorem mD74 {h : zH} {A : zA} {j : Nat} : zhD (mh h A) 74 0 j = A 74 j := mh_D rfl
theorem mS74 {h : zH} {A : zA} {j : Nat} {v : Int} : zset (mh h A) 74 0 j v = mh h (au A 74 j v) := mh_set rfl
theorem mD75 {h : zH} {A : zA} {j : Nat} : zhD (mh h A) 75 0 j = A 75 j := mh_D rfl
theorem mS75 {h : zH} {A : zA} {j : Nat} {v : Int} : zset (mh h A) 75 0 j v = mh h (au A 75 j v) := mh_set rfl
theorem mD76 {h : zH} {A : zA} {j : Nat} : zhD (mh h A) 76 0 j = A 76 j := mh_D rfl
theorem mS76 {h : zH} {A : zA} {j : Nat} {v : Int} : zset (mh h A) 76 0 j v = mh h (au A 76 j v) := mh_set rfl
theorem mD77 {h : zH} {A : zA} {j : Nat} : zhD (mh h A) 77 0 j = A 77 j := mh_D rfl
theorem mS77 {h : zH} {A : zA} {j : Nat} {v : Int} : zset (mh h A) 77 0 j v = mh h (au A 77 j v) := mh_set rfl
theorem mD78 {h : zH} {A : zA} {j : Nat} : zhD (mh h A) 78 0 j = A 78 j := mh_D rfl
theorem mS78 {h : zH} {A : zA} {j : Nat} {v : Int} : zset (mh h A) 78 0 j v = mh h (au A 78 j v) := mh_set rfl
theorem mD79 {h : zH} {A : zA} {j : Nat} : zhD (mh h A) 79 0 j = A 79 j := mh_D rfl
theorem mS79 {h : zH} {A : zA} {j : Nat} {v : Int} : zset (mh h A) 79 0 j v = mh h (au A 79 j v) := mh_set rfl
theorem mD80 {h : zH} {A : zA} {j : Nat} : zhD (mh h A) 80 0 j = A 80 j := mh_D rfl
theorem mS80 {h : zH} {A : zA} {j : Nat} {v : Int} : zset (mh h A) 80 0 j v = mh h (au A 80 j v) := mh_set rfl
theorem mD81 {h : zH} {A : zA} {j : Nat} : zhD (mh h A) 81 0 j = A 81 j := mh_D rfl
theorem mS81 {h : zH} {A : zA} {j : Nat} {v : Int} : zset (mh h A) 81 0 j v = mh h (au A 81 j v) := mh_set rfl
theorem mD82 {h : zH} {A : zA} {j : Nat} : zhD (mh h A) 82 0 j = A 82 j := mh_D rfl
theorem mS82 {h : zH} {A : zA} {j : Nat} {v : Int} : zset (mh h A) 82 0 j v = mh h (au A 82 j v) := mh_set rfl
theorem mD83 {h : zH} {A : zA} {j : Nat} : zhD (mh h A) 83 0 j = A 83 j := mh_D rfl
theorem mS83 {h : zH} {A : zA} {j : Nat} {v : Int} : zset (mh h A) 83 0 j v = mh h (au A 83 j v) := mh_set rfl
theorem mD84 {h : zH} {A : zA} {j : Nat} : zhD (mh h A) 84 0 j = A 84 j := mh_D rfl
theorem mS84 {h : zH} {A : zA} {j : Nat} {v : Int} : zset (mh h A) 84 0 j v = mh h (au A 84 j v) := mh_set rfl
theorem mD85 {h : zH} {A : zA} {j : Nat} : zhD (mh h A) 85 0 j = A 85 j := mh_D rfl
theorem mS85 {h : zH} {A : zA} {j : Nat} {v : Int} : zset (mh h A) 85 0 j v = mh h (au A 85 j v) := mh_set rfl
theorem mD86 {h : zH} {A : zA} {j : Nat} : zhD (mh h A) 86 0 j = A 86 j := mh_D rfl
theorem mS86 {h : zH} {A : zA} {j : Nat} {v : Int} : zset (mh h A) 86 0 j v = mh h (au A 86 j v) := mh_set rfl
theorem mD87 {h : zH} {A : zA} {j : Nat} : zhD (mh h A) 87 0 j = A 87 j := mh_D rfl
theorem mS87 {h : zH} {A : zA} {j : Nat} {v : Int} : zset (mh h A) 87 0 j v = mh h (au A 87 j v) := mh_set rfl
theorem mD88 {h : zH} {A : zA} {j : Nat} : zhD (mh h A) 88 0 j = A 88 j := mh_D rfl
theorem mS88 {h : zH} {A : zA} {j : Nat} {v : Int} : zset (mh h A) 88 0 j v = mh h (au A 88 j v) := mh_set rfl
theorem mD89 {h : zH} {A : zA} {j : Nat} : zhD (mh h A) 89 0 j = A 89 j := mh_D rfl
theorem mS89 {h : zH} {A : zA} {j : Nat} {v : Int} : zset (mh h A) 89 0 j v = mh h (au A 89 j v) := mh_set rfl
theorem mD90 {h : zH} {A : zA} {j : Nat} : zhD (mh h A) 90 0 j = A 90 j := mh_D rfl
theorem mS90 {h : zH} {A : zA} {j : Nat} {v : Int} : zset (mh h A) 90 0 j v = mh h (au A 90 j v) := mh_set rfl
theorem mD91 {h : zH} {A : zA} {j : Nat} : zhD (mh h A) 91 0 j = A 91 j := mh_D rfl
theorem mS91 {h : zH} {A : zA} {j : Nat} {v : Int} : zset (mh h A) 91 0 j v = mh h (au A 91 j v) := mh_set rfl
theorem mD92 {h : zH} {A : zA} {j : Nat} : zhD (mh h A) 92 0 j = A 92 j := mh_D rfl
theorem mS92 {h : zH} {A : zA} {j : Nat} {v : Int} : zset (mh h A) 92 0 j v = mh h (au A 92 j v) := mh_set rfl
theorem mD93 {h : zH} {A : zA} {j : Nat} : zhD (mh h A) 93 0 j = A 93 j := mh_D rfl
theorem mS93 {h : zH} {A : zA} {j : Nat} {v : Int} : zset (mh h A) 93 0 j v = mh h (au A 93 j v) := mh_set rfl
theorem mD94 {h : zH} {A : zA} {j : Nat} : zhD (mh h A) 94 0 j = A 94 j := mh_D rfl
theorem mS94 {h : zH} {A : zA} {j : Nat} {v : Int} : zset (mh h A) 94 0 j v = mh h (au A 94 j v) := mh_set rfl
theorem mD95 {h : zH} {A : zA} {j : Nat} : zhD (mh h A) 95 0 j = A 95 j := mh_D rfl
theorem mS95 {h : zH} {A : zA} {j : Nat} {v : Int} : zset (mh h A) 95 0 j v = mh h (au A 95 j v) := mh_set rfl
theorem mD96 {h : zH} {A : zA} {j : Nat} : zhD (mh h A) 96 0 j = A 96 j := mh_D rfl
theorem mS96 {h : zH} {A : zA} {j : Nat} {v : Int} : zset (mh h A) 96 0 j v = mh h (au A 96 j v) := mh_set rfl
theorem mD97 {h : zH} {A : zA} {j : Nat} : zhD (mh h A) 97 0 j = A 97 j := mh_D rfl
theorem mS97 {h : zH} {A : zA} {j : Nat} {v : Int} : zset (mh h A) 97 0 j v = mh h (au A 97 j v) := mh_set rfl
theorem mD98 {h : zH} {A : zA} {j : Nat} : zhD (mh h A) 98 0 j = A 98 j := mh_D rfl
theorem mS98 {h : zH} {A : zA} {j : Nat} {v : Int} : zset (mh h A) 98 0 j v = mh h (au A 98 j v) := mh_set rfl
theorem mD99 {h : zH} {A : zA} {j : Nat} : zhD (mh h A) 99 0 j = A 99 j := mh_D rfl
theorem mS99 {h : zH} {A : zA} {j : Nat} {v : Int} : zset (mh h A) 99 0 j v = mh h (au A 99 j v) := mh_set rfl
theorem mD100 {h : zH} {A : zA} {j : Nat} : zhD (mh h A) 100 0 j = A 100 j := mh_D rfl
theorem mS100 {h : zH} {A : zA} {j : Nat} {v : Int} : zset (mh h A) 100 0 j v = mh h (au A 100 j v) := mh_set rfl
theorem mD101 {h : zH} {A : zA} {j : Nat} : zhD (mh h A) 101 0 j = A 101 j := mh_D rfl
theorem mS101 {h : zH} {A : zA} {j : Nat} {v : Int} : zset (mh h A) 101 0 j v = mh h (au A 101 j v) := mh_set rfl
theorem mD102 {h : zH} {A : zA} {j : Nat} : zhD (mh h A) 102 0 j = A 102 j := mh_D rfl
theorem mS102 {h : zH} {A : zA} {j : Nat} {v : Int} : zset (mh h A) 102 0 j v = mh h (au A 102 j v) := mh_set rfl
theorem mD103 {h : zH} {A : zA} {j : Nat} : zhD (mh h A) 103 0 j = A 103 j := mh_D rfl
theorem mS103 {h : zH} {A : zA} {j : Nat} {v : Int} : zset (mh h A) 103 0 j v = mh h (au A 103 j v) := mh_set rfl
theorem mD104 {h : zH} {A : zA} {j : Nat} : zhD (mh h A) 104 0 j = A 104 j := mh_D rfl
theorem mS104 {h : zH} {A : zA} {j : Nat} {v : Int} : zset (mh h A) 104 0 j v = mh h (au A 104 j v) := mh_set rfl
theorem mD105 {h : zH} {A : zA} {j : Nat} : zhD (mh h A) 105 0 j = A 105 j := mh_D rfl
theorem mS105 {h : zH} {A : zA} {j : Nat} {v : Int} : zset (mh h A) 105 0 j v = mh h (au A 105 j v) := mh_set rfl
theorem mD106 {h : zH} {A : zA} {j : Nat} : zhD (mh h A) 106 0 j = A 106 j := mh_D rfl
theorem mS106 {h : zH} {A : zA} {j : Nat} {v : Int} : zset (mh h A) 106 0 j v = mh h (au A 106 j v) := mh_set rfl
theorem mD107 {h : zH} {A : zA} {j : Nat} : zhD (mh h A) 107 0 j = A 107 j := mh_D rfl
theorem mS107 {h : zH} {A : zA} {j : Nat} {v : Int} : zset (mh h A) 107 0 j v = mh h (au A 107 j v) := mh_set rfl
theorem mD108 {h : zH} {A : zA} {j : Nat} : zhD (mh h A) 108 0 j = A 108 j := mh_D rfl
theorem mS108 {h : zH} {A : zA} {j : Nat} {v : Int} : zset (mh h A) 108 0 j v = mh h (au A 108 j v) := mh_set rfl
theorem mD109 {h : zH} {A : zA} {j : Nat} : zhD (mh h A) 109 0 j = A 109 j := mh_D rfl
theorem mS109 {h : zH} {A : zA} {j : Nat} {v : Int} : zset (mh h A) 109 0 j v = mh h (au A 109 j v) := mh_set rfl
theorem mD110 {h : zH} {A : zA} {j : Nat} : zhD (mh h A) 110 0 j = A 110 j := mh_D rfl
theorem mS110 {h : zH} {A : zA} {j : Nat} {v : Int} : zset (mh h A) 110 0 j v = mh h (au A 110 j v) := mh_set rfl
theorem mD111 {h : zH} {A : zA} {j : Nat} : zhD (mh h A) 111 0 j = A 111 j := mh_D rfl
theorem mS111 {h : zH} {A : zA} {j : Nat} {v : Int} : zset (mh h A) 111 0 j v = mh h (au A 111 j v) := mh_set rfl
theorem mD112 {h : zH} {A : zA} {j : Nat} : zhD (mh h A) 112 0 j = A 112 j := mh_D rfl
theorem mS112 {h : zH} {A : zA} {j : Nat} {v : Int} : zset (mh h A) 112 0 j v = mh h (au A 112 j v) := mh_set rfl
theorem mD113 {h : zH} {A : zA} {j : Nat} : zhD (mh h A) 113 0 j = A 113 j := mh_D rfl
theorem mS113 {h : zH} {A : zA} {j : Nat} {v : Int} : zset (mh h A) 113 0 j v = mh h (au A 113 j v) := mh_set rfl
theorem mD114 {h : zH} {A : zA} {j : Nat} : zhD (mh h A) 114 0 j = A 114 j := mh_D rfl
theorem mS114 {h : zH} {A : zA} {j : Nat} {v : Int} : zset (mh h A) 114 0 j v = mh h (au A 114 j v) := mh_set rfl
theorem mD115 {h : zH} {A : zA} {j : Nat} : zhD (mh h A) 115 0 j = A 115 j := mh_D rfl
theorem mS115 {h : zH} {A : zA} {j : Nat} {v : Int} : zset (mh h A) 115 0 j v = mh h (au A 115 j v) := mh_set rfl
