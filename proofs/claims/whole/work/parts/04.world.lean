/-! THE WORLD: the small machine's heap, cell by cell -/
/-- a row's contents, by the type code of its elements -/
def zra (μ : Nat → Nat → Nat) (N : Nat → Nat) (e len : Nat) (f : Nat → Int) (a : vp_A) : Prop :=
  a.1 = len ∧ (((e = 0 ∨ e = 1 ∨ e = 2) ∧ ∃ g : Nat → Int32, a.2 = .inl g ∧ ∀ j, j < len → (g j).toInt = f j) ∨ (e = 3 ∧ ∃ g : Nat → Int64, a.2 = .inr (.inl g) ∧ ∀ j, j < len → (g j).toInt = f j) ∨ (e = 6 ∧ ∃ g : Nat → UInt64, a.2 = .inr (.inr (.inr (.inl g))) ∧ ∀ j, j < len → ((g j).toNat : Int) = f j) ∨
    (100 ≤ e ∧ ∃ g : Nat → Option Nat, a.2 = .inr (.inr (.inr (.inr g))) ∧ ∀ j, j < len → (f j = -1 ∧ g j = none) ∨ (0 ≤ f j ∧ f j < (N (e - 100) : Int) ∧ g j = some (μ (e - 100) (f j).toNat))))
/-- a cell -/
def zce (σ : Nat → Nat) (μ : Nat → Nat → Nat) (N : Nat → Nat) (cA : Nat → ClassId) (len : Nat) (f : Nat → Int) (c : Nat) (E : va_E) : Prop :=
  (c < 13 ∧ ∃ fs : List Value, E = .inr (c, fs) ∧ fs.length = znf zPP c ∧ ∀ k, k < znf zPP c → ∃ v, fs[k]? = some v ∧ zvr σ μ N (ztag (zft zPP c k)) (f k) v) ∨
  (13 ≤ c ∧ len < 100000 ∧ ∃ a : vp_A, E = .inl (cA (zft zPP c 0), a) ∧ zra μ N (zft zPP c 0) len f a)
def zWd (σ : Nat → Nat) (cA : Nat → ClassId) (h : zH) (ws : va_W) (μ pos : Nat → Nat → Nat) : Prop :=
  (∀ c i, c ≠ 50 → i < zhN h c → ∃ E, ws[pos c i]? = some (μ c i, E) ∧ zce σ μ (zhN h) cA (zhL h c i) (zhD h c i) c E) ∧
  (∀ c i c' i', c ≠ 50 → c' ≠ 50 → i < zhN h c → i' < zhN h c' → pos c i = pos c' i' → c = c' ∧ i = i')
section
variable {σ : Nat → Nat} {μ : Nat → Nat → Nat} {N : Nat → Nat} {cA : Nat → ClassId}
theorem zra.mono {μ' : Nat → Nat → Nat} {N' : Nat → Nat} (hN : ∀ c i, i < N c → i < N' c ∧ μ' c i = μ c i) {e len : Nat} {f : Nat → Int} {a : vp_A} (h : zra μ N e len f a) : zra μ' N' e len f a := by
  obtain ⟨h0, h1 | h1 | h1 | ⟨h1, g, h2, h3⟩⟩ := h
  · exact ⟨h0, Or.inl h1⟩
  · exact ⟨h0, Or.inr (Or.inl h1)⟩
  · exact ⟨h0, Or.inr (Or.inr (Or.inl h1))⟩
  · refine ⟨h0, Or.inr (Or.inr (Or.inr ⟨h1, g, h2, fun j hj => ?_⟩))⟩
    rcases h3 j hj with h4 | ⟨h4, h5, h6⟩
    · exact Or.inl h4
    · obtain ⟨k1, k2⟩ := hN (e - 100) (f j).toNat (by omega)
      exact Or.inr ⟨h4, by omega, by rw [k2]; exact h6⟩
theorem zce.mono {μ' : Nat → Nat → Nat} {N' : Nat → Nat} (hN : ∀ c i, i < N c → i < N' c ∧ μ' c i = μ c i) {len : Nat} {f : Nat → Int} {c : Nat} {E : va_E} (h : zce σ μ N cA len f c E) : zce σ μ' N' cA len f c E := by
  rcases h with ⟨h0, fs, h1, h2, h3⟩ | ⟨h0, h1, a, h2, h3⟩
  · refine Or.inl ⟨h0, fs, h1, h2, fun k hk => ?_⟩
    obtain ⟨v, h4, h5⟩ := h3 k hk
    exact ⟨v, h4, h5.mono hN⟩
  · exact Or.inr ⟨h0, h1, a, h2, h3.mono hN⟩
theorem zhD_set_ne {h : zH} {c i j c' i' : Nat} {v : Int} (hne : ¬ (c' = c ∧ i' = i)) : zhD (zset h c i j v) c' i' = zhD h c' i' := by
  funext k
  unfold zhD zset
  exact if_neg fun q => hne ⟨q.1, q.2.1⟩
theorem zhD_set_at {h : zH} {c i j : Nat} {v : Int} (k : Nat) : zhD (zset h c i j v) c i k = if k = j then v else zhD h c i k := by
  unfold zhD zset
  by_cases hk : k = j
  · rw [if_pos hk]
    exact if_pos ⟨rfl, rfl, hk⟩
  · rw [if_neg hk]
    exact if_neg fun q => hk q.2.2
theorem zWd.set {h : zH} {ws : va_W} {pos : Nat → Nat → Nat} (hW : zWd σ cA h ws μ pos) {c i j : Nat} {v : Int} (hc : c ≠ 50) (hi : i < zhN h c) {E : va_E} (hE : zce σ μ (zhN h) cA (zhL h c i) (zhD (zset h c i j v) c i) c E) : zWd σ cA (zset h c i j v) (ws.set (pos c i) (μ c i, E)) μ pos := by
  refine ⟨fun c' i' hc' hi' => ?_, fun c1 i1 c2 i2 h1 h2 h3 h4 h5 => hW.2 c1 i1 c2 i2 h1 h2 h3 h4 h5⟩
  by_cases hq : c' = c ∧ i' = i
  · obtain ⟨rfl, rfl⟩ := hq
    obtain ⟨E0, h1, -⟩ := hW.1 c' i' hc hi
    exact ⟨E, List.getElem?_set_self (List.getElem?_eq_some_iff.mp h1).1, hE⟩
  · obtain ⟨E0, h1, h2⟩ := hW.1 c' i' hc' hi'
    refine ⟨E0, ?_, ?_⟩
    · rw [List.getElem?_set_ne (fun z => hq (hW.2 c i c' i' hc hc' hi hi' z |>.imp Eq.symm Eq.symm))]
      exact h1
    · rw [zhD_set_ne hq]
      exact h2
theorem zhN_new {h : zH} {c len slots : Nat} {f : Nat → Int} (c' : Nat) : zhN (znew h c len slots f) c' = if c' = c then zhN h c + 1 else zhN h c' := rfl
theorem zhN_new_le {h : zH} {c len slots : Nat} {f : Nat → Int} (c' : Nat) : zhN h c' ≤ zhN (znew h c len slots f) c' := by
  rw [zhN_new]
  split
  · subst_vars; omega
  · omega
theorem zhL_new_old {h : zH} {c len slots : Nat} {f : Nat → Int} {c' i' : Nat} (hi : i' < zhN h c') : zhL (znew h c len slots f) c' i' = zhL h c' i' := by
  unfold zhL znew
  exact if_neg fun q => by rw [q.1] at hi; exact absurd q.2 (Nat.ne_of_lt hi)
theorem zhD_new_old {h : zH} {c len slots : Nat} {f : Nat → Int} {c' i' : Nat} (hi : i' < zhN h c') : zhD (znew h c len slots f) c' i' = zhD h c' i' := by
  funext k
  unfold zhD znew
  exact if_neg fun q => by rw [q.1] at hi; exact absurd q.2 (Nat.ne_of_lt hi)
theorem zhL_new_at {h : zH} {c len slots : Nat} {f : Nat → Int} : zhL (znew h c len slots f) c (zhN h c) = len := if_pos ⟨rfl, rfl⟩
theorem zhD_new_at {h : zH} {c len slots : Nat} {f : Nat → Int} : zhD (znew h c len slots f) c (zhN h c) = f := by
  funext k
  exact if_pos ⟨rfl, rfl⟩
def zmu (h : zH) (c : Nat) (μ : Nat → Nat → Nat) (q : Nat) : Nat → Nat → Nat := fun c' i' => if c' = c ∧ i' = zhN h c then q else μ c' i'
theorem zmu_old {h : zH} {c q c' i' : Nat} (hi : i' < zhN h c') : zmu h c μ q c' i' = μ c' i' := if_neg fun z => by rw [z.1] at hi; exact absurd z.2 (Nat.ne_of_lt hi)
theorem zmu_at {h : zH} {c q : Nat} : zmu h c μ q c (zhN h c) = q := if_pos ⟨rfl, rfl⟩
theorem zmu_N {h : zH} {c len slots q : Nat} {f : Nat → Int} : ∀ c' i, i < zhN h c' → i < zhN (znew h c len slots f) c' ∧ zmu h c μ q c' i = μ c' i := fun c' _ hi => ⟨Nat.lt_of_lt_of_le hi (zhN_new_le c'), zmu_old hi⟩
theorem zWd.new {h : zH} {ws : va_W} {pos : Nat → Nat → Nat} (hW : zWd σ cA h ws μ pos) {c len slots q : Nat} {f : Nat → Int} {E : va_E} (hE : zce σ (zmu h c μ q) (zhN (znew h c len slots f)) cA len f c E) :
    zWd σ cA (znew h c len slots f) (ws ++ [(q, E)]) (zmu h c μ q) (zmu h c pos ws.length) := by
  have key : ∀ c' i', c' ≠ 50 → i' < zhN (znew h c len slots f) c' → (c' = c ∧ i' = zhN h c) ∨ i' < zhN h c' := by
    intro c' i' _ hi
    rw [zhN_new] at hi
    split at hi
    · subst_vars
      by_cases hz : i' = zhN h c'
      · exact Or.inl ⟨rfl, hz⟩
      · exact Or.inr (by omega)
    · exact Or.inr hi
  have lt : ∀ c' i', c' ≠ 50 → i' < zhN h c' → pos c' i' < ws.length := fun c' i' hc hi => by
    obtain ⟨E0, h1, -⟩ := hW.1 c' i' hc hi
    exact (List.getElem?_eq_some_iff.mp h1).1
  refine ⟨fun c' i' hc' hi' => ?_, fun c1 i1 c2 i2 h1 h2 h3 h4 h5 => ?_⟩
  · rcases key c' i' hc' hi' with ⟨rfl, rfl⟩ | hi
    · refine ⟨E, ?_, ?_⟩
      · rw [zmu_at, zmu_at]
        simp
      · rw [zhL_new_at, zhD_new_at]
        exact hE
    · obtain ⟨E0, h1, h2⟩ := hW.1 c' i' hc' hi
      refine ⟨E0, ?_, ?_⟩
      · rw [zmu_old hi, zmu_old hi, List.getElem?_append_left (lt c' i' hc' hi)]
        exact h1
      · rw [zhL_new_old hi, zhD_new_old hi]
        exact h2.mono zmu_N
  · rcases key c1 i1 h1 h3 with ⟨rfl, rfl⟩ | hi
    · rcases key c2 i2 h2 h4 with ⟨rfl, rfl⟩ | hi2
      · exact ⟨rfl, rfl⟩
      · rw [zmu_at, zmu_old hi2] at h5
        exact absurd h5.symm (Nat.ne_of_lt (lt c2 i2 h2 hi2))
    · rcases key c2 i2 h2 h4 with ⟨rfl, rfl⟩ | hi2
      · rw [zmu_at, zmu_old hi] at h5
        exact absurd h5 (Nat.ne_of_lt (lt c1 i1 h1 hi))
      · rw [zmu_old hi, zmu_old hi2] at h5
        exact hW.2 c1 i1 c2 i2 h1 h2 hi hi2 h5
/-- an object of the world -/
theorem zWd.obj {h : zH} {ws : va_W} {pos : Nat → Nat → Nat} (hW : zWd σ cA h ws μ pos) {c i : Nat} (hc : c < 13) (hi : i < zhN h c) : ∃ fs : List Value, ws[pos c i]? = some (μ c i, .inr (c, fs)) ∧ fs.length = znf zPP c ∧ ∀ k, k < znf zPP c → ∃ v, fs[k]? = some v ∧ zvr σ μ (zhN h) (ztag (zft zPP c k)) (zhD h c i k) v := by
  obtain ⟨E, h1, ⟨-, fs, rfl, h3, h4⟩ | ⟨h2, -⟩⟩ := hW.1 c i (by omega) hi
  · exact ⟨fs, h1, h3, h4⟩
  · omega
/-- a row of the world -/
theorem zWd.row {h : zH} {ws : va_W} {pos : Nat → Nat → Nat} (hW : zWd σ cA h ws μ pos) {c i : Nat} (hc : 13 ≤ c) (h50 : c ≠ 50) (hi : i < zhN h c) : zhL h c i < 100000 ∧ ∃ a : vp_A, ws[pos c i]? = some (μ c i, .inl (cA (zft zPP c 0), a)) ∧ zra μ (zhN h) (zft zPP c 0) (zhL h c i) (zhD h c i) a := by
  obtain ⟨E, h1, ⟨h2, -⟩ | ⟨-, h2, a, rfl, h4⟩⟩ := hW.1 c i h50 hi
  · omega
  · exact ⟨h2, a, h1, h4⟩
end
/-- what holds at a place: b, L, xs the law's script; al: the way of reading; μ0, N0: the cells at the method's entry -/
def zAt (s : State) (A : Nat → Prop) (H0 : Heap) (σ : Nat → Nat) (cA : Nat → ClassId) (D : va_G) (b L : Nat) (xs : Nat → Int32) (al : Bool) (C0 S0 : Nat) (μ0 : Nat → Nat → Nat) (N0 : Nat → Nat) (h : zH) (ws : va_W) (μ pos : Nat → Nat → Nat) (H : Heap) (locs : List Loc) : Prop :=
  zWd σ cA h ws μ pos ∧ va_P D zcl ws H ∧ va_D A ws ∧ va_S A H0 H locs ∧ (∀ c i, i < N0 c → i < zhN h c ∧ μ c i = μ0 c i) ∧ C0 ≤ zhC h ∧ S0 ≤ zhS h ∧ (al = false → zmok h = true) ∧
  (∀ i, i < zhN h 50 → i = 0 ∧ μ 50 i = b ∧ zhL h 50 i = L ∧ ∀ j, j < L → zhD h 50 i j = (xs j).toInt)
def zrh (r : zRes) : zH := match r with
  | .inl q => q.2
  | .inr q => q.2
