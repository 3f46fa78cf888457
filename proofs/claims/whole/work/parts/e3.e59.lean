/-! SLOTS KEPT -/
def SEL (kp : Nat → Prop) (m m' : Nat) (s : Nat → Nat) : Prop := (∀ i, i < m' → s i < m ∧ kp (s i)) ∧ (∀ i i2, i < i2 → i2 < m' → s i < s i2) ∧ (∀ i, i < m → kp i → ∃ i2, i2 < m' ∧ s i2 = i)
theorem SEL.le {kp : Nat → Prop} {m m' : Nat} {s : Nat → Nat} (x : SEL kp m m' s) : ∀ i, i < m' → i ≤ s i
  | 0, _ => Nat.zero_le _
  | i + 1, h => by
    have h1 := SEL.le x i (by omega)
    have h2 := x.2.1 i (i + 1) (by omega) h
    omega
theorem SEL.cnt {kp : Nat → Prop} {m m' : Nat} {s : Nat → Nat} (x : SEL kp m m' s) : m' ≤ m := by
  cases m' with
  | zero => exact Nat.zero_le _
  | succ k =>
    have h1 := x.le k (by omega)
    have h2 := (x.1 k (by omega)).1
    omega
theorem SEL.inj {kp : Nat → Prop} {m m' : Nat} {s : Nat → Nat} (x : SEL kp m m' s) {i i2 : Nat} (h1 : i < m') (h2 : i2 < m') (h : s i = s i2) : i = i2 := by
  by_cases h3 : i < i2
  · have := x.2.1 i i2 h3 h2
    omega
  · by_cases h4 : i2 < i
    · have := x.2.1 i2 i h4 h1
      omega
    · omega
theorem SEL.same {kp : Nat → Prop} {m m1 m2 : Nat} {s1 s2 : Nat → Nat} (x : SEL kp m m1 s1) (y : SEL kp m m2 s2) (i : Nat) : i < m1 → i < m2 → s1 i = s2 i := by
  induction i using Nat.strongRecOn with
  | _ i ih =>
    intro h1 h2
    by_cases hlt : s1 i < s2 i
    · exfalso
      obtain ⟨z1, z2⟩ := x.1 i h1
      obtain ⟨k, k1, k2⟩ := y.2.2 (s1 i) z1 z2
      have hk : k < i := by
        by_cases hk : k < i
        · exact hk
        · exfalso
          by_cases he : k = i
          · subst he
            omega
          · have := y.2.1 i k (by omega) k1
            omega
      have e := ih k hk (by omega) k1
      have := x.2.1 k i hk h1
      omega
    · by_cases hgt : s2 i < s1 i
      · exfalso
        obtain ⟨z1, z2⟩ := y.1 i h2
        obtain ⟨k, k1, k2⟩ := x.2.2 (s2 i) z1 z2
        have hk : k < i := by
          by_cases hk : k < i
          · exact hk
          · exfalso
            by_cases he : k = i
            · subst he
              omega
            · have := x.2.1 i k (by omega) k1
              omega
        have e := ih k hk k1 (by omega)
        have := y.2.1 k i hk h2
        omega
      · omega
theorem SEL.size {kp : Nat → Prop} {m m1 m2 : Nat} {s1 s2 : Nat → Nat} (x : SEL kp m m1 s1) (y : SEL kp m m2 s2) : m1 ≤ m2 := by
  by_cases h : m2 < m1
  · exfalso
    obtain ⟨z1, z2⟩ := x.1 m2 h
    obtain ⟨k, k1, k2⟩ := y.2.2 (s1 m2) z1 z2
    have e := x.same y k (by omega) k1
    have := x.2.1 k m2 k1 h
    omega
  · omega
theorem SEL.uniq {kp : Nat → Prop} {m m1 m2 : Nat} {s1 s2 : Nat → Nat} (x : SEL kp m m1 s1) (y : SEL kp m m2 s2) : m1 = m2 ∧ ∀ i, i < m1 → s1 i = s2 i := ⟨Nat.le_antisymm (x.size y) (y.size x), fun i hi => x.same y i hi (Nat.lt_of_lt_of_le hi (x.size y))⟩
theorem SEL.congr {kp kq : Nat → Prop} {m m' : Nat} {s : Nat → Nat} (x : SEL kp m m' s) (h : ∀ i, i < m → (kp i ↔ kq i)) : SEL kq m m' s := ⟨fun i hi => ⟨(x.1 i hi).1, (h _ (x.1 i hi).1).mp (x.1 i hi).2⟩, x.2.1, fun i hi hk => x.2.2 i hi ((h i hi).mpr hk)⟩
theorem SEL.id {kp : Nat → Prop} {m : Nat} (h : ∀ i, i < m → kp i) : SEL kp m m (fun i => i) := ⟨fun i hi => ⟨hi, h i hi⟩, fun _ _ h _ => h, fun i hi _ => ⟨i, hi, rfl⟩⟩
theorem SEL.rm {kp : Nat → Prop} {m m1 p : Nat} {s : Nat → Nat} (x : SEL kp m m1 s) (hp : p < m1) : SEL (fun i => kp i ∧ i ≠ s p) m (m1 - 1) (fun i => if i < p then s i else s (i + 1)) := by
  refine ⟨fun i hi => ?_, fun i i2 h1 h2 => ?_, fun i hi hk => ?_⟩
  · dsimp only
    by_cases h : i < p
    · rw [if_pos h]
      have h1 := x.1 i (by omega)
      have h2 := x.2.1 i p h hp
      exact ⟨h1.1, h1.2, by omega⟩
    · rw [if_neg h]
      have h1 := x.1 (i + 1) (by omega)
      have h2 := x.2.1 p (i + 1) (by omega) (by omega)
      exact ⟨h1.1, h1.2, by omega⟩
  · dsimp only
    by_cases h : i < p
    · by_cases h3 : i2 < p
      · rw [if_pos h, if_pos h3]
        exact x.2.1 i i2 h1 (by omega)
      · rw [if_pos h, if_neg h3]
        exact x.2.1 i (i2 + 1) (by omega) (by omega)
    · rw [if_neg h, if_neg (by omega)]
      exact x.2.1 (i + 1) (i2 + 1) (by omega) (by omega)
  · obtain ⟨k, k1, k2⟩ := x.2.2 i hi hk.1
    by_cases h : k < p
    · exact ⟨k, by omega, by dsimp only; rw [if_pos h]; exact k2⟩
    · have hkp : k ≠ p := fun z => by subst z; exact hk.2 k2.symm
      refine ⟨k - 1, by omega, ?_⟩
      dsimp only
      rw [if_neg (by omega), show k - 1 + 1 = k by omega]
      exact k2
theorem SEL.nil {kp : Nat → Prop} {s : Nat → Nat} : SEL kp 0 0 s := ⟨fun i hi => absurd hi (Nat.not_lt_zero _), fun i i2 _ h => absurd h (Nat.not_lt_zero _), fun i hi _ => absurd hi (Nat.not_lt_zero _)⟩
theorem SEL.snoc1 {kp : Nat → Prop} {i k : Nat} {s : Nat → Nat} (x : SEL kp i k s) (h : kp i) : SEL kp (i + 1) (k + 1) (fun y => if y = k then i else s y) := by
  refine ⟨fun y hy => ?_, fun y y2 h1 h2 => ?_, fun y hy hk => ?_⟩
  · dsimp only
    by_cases hyk : y = k
    · rw [if_pos hyk]
      exact ⟨Nat.lt_succ_self _, h⟩
    · rw [if_neg hyk]
      have := x.1 y (by omega)
      exact ⟨by omega, this.2⟩
  · dsimp only
    rw [if_neg (show y ≠ k by omega)]
    by_cases hyk : y2 = k
    · rw [if_pos hyk]
      exact (x.1 y (by omega)).1
    · rw [if_neg hyk]
      exact x.2.1 y y2 h1 (by omega)
  · by_cases hyi : y = i
    · exact ⟨k, Nat.lt_succ_self _, by dsimp only; rw [if_pos rfl, hyi]⟩
    · obtain ⟨z, z1, z2⟩ := x.2.2 y (by omega) hk
      exact ⟨z, by omega, by dsimp only; rw [if_neg (by omega)]; exact z2⟩
theorem SEL.snoc0 {kp : Nat → Prop} {i k : Nat} {s : Nat → Nat} (x : SEL kp i k s) (h : ¬ kp i) : SEL kp (i + 1) k s := by
  refine ⟨fun y hy => ?_, x.2.1, fun y hy hk => ?_⟩
  · have := x.1 y hy
    exact ⟨by omega, this.2⟩
  · have : y ≠ i := fun z => h (z ▸ hk)
    exact x.2.2 y (by omega) hk
/-! sums over blocks and over slots -/
/-- the slots of first groups of blocks below N -/
def zsb (A : zA) (u : Nat) (w : Nat → Int) (N : Nat) : Nat → Int
  | 0 => 0
  | m + 1 => zsb A u w N m + (if A 95 (4 * u + m) = 0 ∧ A 94 (4 * u + m) < (N : Int) then w (A 94 (4 * u + m)).toNat else 0)
def zsg (A : zA) (u : Nat) (w : Nat → Int) : Nat → Int
  | 0 => 0
  | N + 1 => zsg A u w N + (if A 87 N = 1 ∧ A 88 N = (u : Int) then w N else 0)
theorem zsb_0 {A : zA} {u : Nat} {w : Nat → Int} : ∀ m : Nat, (∀ i, i < m → 0 ≤ A 94 (4 * u + i)) → zsb A u w 0 m = 0
  | 0, _ => rfl
  | m + 1, h => by
    show zsb A u w 0 m + _ = 0
    have := h m (Nat.lt_succ_self m)
    rw [zsb_0 m (fun i hi => h i (Nat.lt_succ_of_lt hi)), if_neg (by omega)]
    rfl
theorem zsb_no {A : zA} {u N : Nat} {w : Nat → Int} : ∀ m : Nat, (∀ i, i < m → ¬ (A 95 (4 * u + i) = 0 ∧ A 94 (4 * u + i) = (N : Int))) → zsb A u w (N + 1) m = zsb A u w N m
  | 0, _ => rfl
  | m + 1, h => by
    show zsb A u w (N + 1) m + _ = zsb A u w N m + _
    have := h m (Nat.lt_succ_self m)
    rw [zsb_no m (fun i hi => h i (Nat.lt_succ_of_lt hi))]
    by_cases h1 : A 95 (4 * u + m) = 0 ∧ A 94 (4 * u + m) < (N : Int)
    · rw [if_pos h1, if_pos ⟨h1.1, by omega⟩]
    · rw [if_neg h1, if_neg (fun z => by omega)]
theorem zsb_one {A : zA} {u N : Nat} {w : Nat → Int} : ∀ m k : Nat, k < m → A 95 (4 * u + k) = 0 → A 94 (4 * u + k) = (N : Int) → (∀ i, i < m → i ≠ k → ¬ (A 95 (4 * u + i) = 0 ∧ A 94 (4 * u + i) = (N : Int))) → zsb A u w (N + 1) m = zsb A u w N m + w N
  | 0, k, h, _, _, _ => absurd h (Nat.not_lt_zero _)
  | m + 1, k, hk, h1, h2, h3 => by
    show zsb A u w (N + 1) m + _ = zsb A u w N m + _ + w N
    by_cases hkm : k = m
    · subst hkm
      rw [zsb_no k (fun i hi => h3 i (Nat.lt_succ_of_lt hi) (by omega)), if_pos ⟨h1, by omega⟩, if_neg (fun z => by omega), h2, Int.toNat_natCast]
      omega
    · rw [zsb_one m k (by omega) h1 h2 (fun i hi hik => h3 i (Nat.lt_succ_of_lt hi) hik)]
      have := h3 m (Nat.lt_succ_self m) (fun z => hkm z.symm)
      by_cases h4 : A 95 (4 * u + m) = 0 ∧ A 94 (4 * u + m) < (N : Int)
      · rw [if_pos h4, if_pos ⟨h4.1, by omega⟩]
        omega
      · rw [if_neg h4, if_neg (fun z => by omega)]
        omega
/-- a block in a unit has one slot of its first group -/
theorem zsg_eq {A : zA} {u m : Nat} {w : Nat → Int} (h0 : ∀ i, i < m → 0 ≤ A 94 (4 * u + i)) (hs : ∀ i, i < m → A 87 (A 94 (4 * u + i)).toNat = 1 ∧ A 88 (A 94 (4 * u + i)).toNat = (u : Int)) (hi : ∀ i i2, i < m → i2 < m → A 94 (4 * u + i) = A 94 (4 * u + i2) → A 95 (4 * u + i) = A 95 (4 * u + i2) → i = i2) (hc : ∀ b : Nat, b < 72 → A 87 b = 1 → A 88 b = (u : Int) → ∃ i, i < m ∧ A 94 (4 * u + i) = (b : Int) ∧ A 95 (4 * u + i) = 0) : ∀ N : Nat, N ≤ 72 → zsg A u w N = zsb A u w N m
  | 0, _ => (zsb_0 m h0).symm
  | N + 1, hN => by
    show zsg A u w N + _ = _
    rw [zsg_eq h0 hs hi hc N (by omega)]
    by_cases h : A 87 N = 1 ∧ A 88 N = (u : Int)
    · obtain ⟨k, k1, k2, k3⟩ := hc N (by omega) h.1 h.2
      rw [if_pos h, zsb_one m k k1 k3 k2 (fun i him hik z => hik (hi i k him k1 (z.2.trans k2.symm) (z.1.trans k3.symm)))]
    · rw [if_neg h, Int.add_zero, zsb_no m (fun i him z => h (by
        have := hs i him
        rw [z.2, Int.toNat_natCast] at this
        exact this))]
theorem zsrm_g {A : zA} {u : Nat} : ∀ N, zsrm A u N = zsg A u (fun b => A 73 (b / 6) * A 61 (A 70 (b / 6)).toNat) N
  | 0 => rfl
  | N + 1 => by
    show zsrm A u N + _ = zsg A u _ N + _
    rw [zsrm_g N]
theorem zssm_g {A : zA} {u : Nat} : ∀ N, zssm A u N = zsg A u (fun b => A 62 (A 70 (b / 6)).toNat) N
  | 0 => rfl
  | N + 1 => by
    show zssm A u N + _ = zsg A u _ N + _
    rw [zssm_g N]
theorem zsrc_g {A : zA} {u : Nat} : ∀ m, (∀ i, i < m → A 94 (4 * u + i) < 72) → zsrc A u m = zsb A u (fun b => A 73 (b / 6) * A 61 (A 70 (b / 6)).toNat) 72 m
  | 0, _ => rfl
  | m + 1, h => by
    show zsrc A u m + _ = zsb A u _ 72 m + _
    have := h m (Nat.lt_succ_self m)
    rw [zsrc_g m (fun i hi => h i (Nat.lt_succ_of_lt hi))]
    by_cases h1 : A 95 (4 * u + m) = 0
    · rw [if_pos h1, if_pos ⟨h1, this⟩]
    · rw [if_neg h1, if_neg (fun z => h1 z.1)]
theorem zssc_g {A : zA} {u : Nat} : ∀ m, (∀ i, i < m → A 94 (4 * u + i) < 72) → zssc A u m = zsb A u (fun b => A 62 (A 70 (b / 6)).toNat) 72 m
  | 0, _ => rfl
  | m + 1, h => by
    show zssc A u m + _ = zsb A u _ 72 m + _
    have := h m (Nat.lt_succ_self m)
    rw [zssc_g m (fun i hi => h i (Nat.lt_succ_of_lt hi))]
    by_cases h1 : A 95 (4 * u + m) = 0
    · rw [if_pos h1, if_pos ⟨h1, this⟩]
    · rw [if_neg h1, if_neg (fun z => h1 z.1)]
/-- both ways to reckon what a unit's blocks need -/
theorem us_su {A : zA} {h : zH} {gc : Nat → Nat} (q : US A h gc) (h73 : ∀ b : Nat, b < 72 → A 87 b = 1 → 0 < A 73 (b / 6)) {u : Nat} (hu : u < 2) : zsrm A u 72 = zsrc A u (A 93 u).toNat ∧ zssm A u 72 = zssc A u (A 93 u).toNat := by
  obtain ⟨⟨m0, m4, -⟩, s1, s2, s3, s4⟩ := q u hu
  have c : ∀ i : Nat, i < (A 93 u).toNat → (i : Int) < A 93 u := fun i hi => by omega
  have k1 : ∀ i, i < (A 93 u).toNat → 0 ≤ A 94 (4 * u + i) := fun i hi => by
    obtain ⟨b, j, e1, -⟩ := s1 i (c i hi)
    omega
  have k2 : ∀ i, i < (A 93 u).toNat → A 94 (4 * u + i) < 72 := fun i hi => by
    obtain ⟨b, j, e1, e2, -⟩ := s1 i (c i hi)
    omega
  have k3 : ∀ i, i < (A 93 u).toNat → A 87 (A 94 (4 * u + i)).toNat = 1 ∧ A 88 (A 94 (4 * u + i)).toNat = (u : Int) := fun i hi => by
    obtain ⟨b, j, e1, e2, e3, e4, e5, e6, -⟩ := s1 i (c i hi)
    rw [e1, Int.toNat_natCast]
    exact ⟨e5, e6⟩
  have k4 : ∀ b : Nat, b < 72 → A 87 b = 1 → A 88 b = (u : Int) → ∃ i, i < (A 93 u).toNat ∧ A 94 (4 * u + i) = (b : Int) ∧ A 95 (4 * u + i) = 0 := fun b hb h1 h2 => by
    obtain ⟨i, i1, i2, i3⟩ := s3 b 0 hb h1 h2 (h73 b hb h1)
    exact ⟨i, by omega, i2, i3⟩
  have k5 : ∀ i i2, i < (A 93 u).toNat → i2 < (A 93 u).toNat → A 94 (4 * u + i) = A 94 (4 * u + i2) → A 95 (4 * u + i) = A 95 (4 * u + i2) → i = i2 := fun i i2 h1 h2 => s2 i i2 (c i h1) (c i2 h2)
  rw [zsrm_g, zssm_g, zsrc_g _ k2, zssc_g _ k2]
  exact ⟨zsg_eq k1 k3 k5 k4 72 (Nat.le_refl _), zsg_eq k1 k3 k5 k4 72 (Nat.le_refl _)⟩
/-- fewer blocks need no more -/
theorem zsg_le {A A' : zA} {u : Nat} {w w' : Nat → Int} : ∀ N : Nat, (∀ b, b < N → A' 87 b = 1 → A' 88 b = (u : Int) → A 87 b = 1 ∧ A 88 b = (u : Int) ∧ w' b = w b) → (∀ b, b < N → A 87 b = 1 → 0 ≤ w b) → zsg A' u w' N ≤ zsg A u w N
  | 0, _, _ => Int.le_refl _
  | N + 1, h1, h2 => by
    have ih := zsg_le (A := A) (A' := A') (u := u) (w := w) (w' := w') N (fun b hb => h1 b (Nat.lt_succ_of_lt hb)) (fun b hb => h2 b (Nat.lt_succ_of_lt hb))
    show zsg A' u w' N + _ ≤ zsg A u w N + _
    by_cases h3 : A' 87 N = 1 ∧ A' 88 N = (u : Int)
    · obtain ⟨y1, y2, y3⟩ := h1 N (Nat.lt_succ_self N) h3.1 h3.2
      rw [if_pos h3, if_pos ⟨y1, y2⟩, y3]
      omega
    · rw [if_neg h3]
      by_cases h4 : A 87 N = 1 ∧ A 88 N = (u : Int)
      · have := h2 N (Nat.lt_succ_self N) h4.1
        rw [if_pos h4]
        omega
      · rw [if_neg h4]
        omega
