/-! A UNIT CHOOSES: both sides -/
section
variable {ρ : Type} {h h' g : zH} {A A' B : zA} {kr : Int → zH → Option ρ} {K L n n' : Nat} {bc tc gc : Nat → Nat} {N M : Int} {s : Nat → Int} {u m : Nat}
theorem x_il_none (x : UO h u m) (hn : ∀ i, i < m → zhD h 26 u i ≠ zhD h 3 u 3) : ∀ f k n : Nat, k + n = m → n < f → zit (fun _ _ _ => none) (Un_indexOfLast_2b kr) f (u : Int) (k : Int) h = kr (-1) h
  | 0, _, _, _, hf => absurd hf (Nat.not_lt_zero _)
  | f + 1, k, 0, hk, _ => by
    obtain ⟨o1, o2, o3, o4, o5, o6, -⟩ := x
    rw [zit_s]
    have : k = m := by omega
    subst this
    unfold Un_indexOfLast_2b
    rw [zob_n o1, o5, if_neg (Int.lt_irrefl _)]
  | f + 1, k, n2 + 1, hk, hf => by
    have ih := x_il_none x hn f (k + 1) n2 (by omega) (by omega)
    obtain ⟨o1, o2, o3, o4, o5, o6, -⟩ := x
    have hkm : (k : Int) < (m : Int) := by omega
    have k4 : k < 4 := by omega
    have k9 : k < 100000 := by omega
    rw [zit_s]
    generalize zit (fun _ _ _ => none) (Un_indexOfLast_2b kr) f = r9 at ih ⊢
    unfold Un_indexOfLast_2b
    rw [zob_n o1, o5, if_pos hkm, zob_n o1, o2, zob_n o3, o4, zix_n k4, zob_n o1, if_neg (hn k (by omega)), wr_s k9]
    exact ih
theorem x_il_some (x : UO h u m) {i0 : Nat} (h0 : i0 < m) (e0 : zhD h 26 u i0 = zhD h 3 u 3) (uq : ∀ i, i < m → zhD h 26 u i = zhD h 3 u 3 → i = i0) : ∀ f k n : Nat, k + n = m → n < f → k ≤ i0 → zit (fun _ _ _ => none) (Un_indexOfLast_2b kr) f (u : Int) (k : Int) h = kr (i0 : Int) h
  | 0, _, _, _, hf, _ => absurd hf (Nat.not_lt_zero _)
  | f + 1, k, n2, hk, hf, hi => by
    have x' := x
    obtain ⟨o1, o2, o3, o4, o5, o6, -⟩ := x'
    have hkm : (k : Int) < (m : Int) := by omega
    have k4 : k < 4 := by omega
    have k9 : k < 100000 := by omega
    rw [zit_s]
    by_cases hm : zhD h 26 u k = zhD h 3 u 3
    · have := uq k (by omega) hm
      subst this
      unfold Un_indexOfLast_2b
      rw [zob_n o1, o5, if_pos hkm, zob_n o1, o2, zob_n o3, o4, zix_n k4, zob_n o1, if_pos hm]
    · have ne : k ≠ i0 := fun e => hm (by rw [e]; exact e0)
      have ih := x_il_some x h0 e0 uq f (k + 1) (n2 - 1) (by omega) (by omega) (by omega)
      generalize zit (fun _ _ _ => none) (Un_indexOfLast_2b kr) f = r9 at ih ⊢
      unfold Un_indexOfLast_2b
      rw [zob_n o1, o5, if_pos hkm, zob_n o1, o2, zob_n o3, o4, zix_n k4, zob_n o1, if_neg hm, wr_s k9]
      exact ih
theorem m_il_after {k0 : Nat} (hu : u < 2) (m4 : m ≤ 4) (h93 : A 93 u = (m : Int)) (hn : ∀ i, k0 ≤ i → i < m → ¬ (A 94 (4 * u + i) = A 100 u ∧ A 95 (4 * u + i) = A 101 u)) {acc : Int} : ∀ f k n : Nat, k + n = m → n < f → k0 ≤ k → zit (fun _ _ _ _ => none) (M_choose_23b kr) f (u : Int) acc (k : Int) (mh g A) = M_choose_85 kr (u : Int) acc (mh g A)
  | 0, _, _, _, hf, _ => absurd hf (Nat.not_lt_zero _)
  | f + 1, k, 0, hk, _, _ => by
    rw [zit_s]
    have : k = m := by omega
    subst this
    unfold M_choose_23b
    rw [zix_n hu, mD93, h93, if_neg (Int.lt_irrefl _)]
  | f + 1, k, n2 + 1, hk, hf, h0 => by
    have ih := m_il_after (acc := acc) hu m4 h93 hn f (k + 1) n2 (by omega) (by omega) (by omega)
    have hkm : (k : Int) < (m : Int) := by omega
    have k9 : k < 100000 := by omega
    have y8 : 4 * u + k < 8 := by omega
    have nk := hn k h0 (by omega)
    rw [zit_s]
    generalize zit (fun _ _ _ _ => none) (M_choose_23b kr) f = r9 at ih ⊢
    unfold M_choose_23b M_choose_77 M_choose_78
    rw [zix_n hu, mD93, h93, if_pos hkm, wr_ut y8, zix_n y8, zix_n hu, mD94, mD100, wr_s k9]
    by_cases e1 : A 94 (4 * u + k) = A 100 u
    · rw [if_pos e1, zix_n y8, zix_n hu, mD95, mD101, if_neg (fun e2 => nk ⟨e1, e2⟩)]
      exact ih
    · rw [if_neg e1]
      exact ih
theorem m_il_some {i0 : Nat} (hu : u < 2) (m4 : m ≤ 4) (h93 : A 93 u = (m : Int)) (h0 : i0 < m) (e0 : A 94 (4 * u + i0) = A 100 u ∧ A 95 (4 * u + i0) = A 101 u) (uq : ∀ i, i < m → (A 94 (4 * u + i) = A 100 u ∧ A 95 (4 * u + i) = A 101 u) → i = i0) {acc : Int} : ∀ f k n : Nat, k + n = m → n < f → k ≤ i0 → zit (fun _ _ _ _ => none) (M_choose_23b kr) f (u : Int) acc (k : Int) (mh g A) = M_choose_85 kr (u : Int) ((i0 + 1 : Nat) : Int) (mh g A)
  | 0, _, _, _, hf, _ => absurd hf (Nat.not_lt_zero _)
  | f + 1, k, n2, hk, hf, hi => by
    have hkm : (k : Int) < (m : Int) := by omega
    have k9 : k < 100000 := by omega
    have y8 : 4 * u + k < 8 := by omega
    rw [zit_s]
    by_cases hm : A 94 (4 * u + k) = A 100 u ∧ A 95 (4 * u + k) = A 101 u
    · have := uq k (by omega) hm
      subst this
      have ih := m_il_after (kr := kr) (g := g) (k0 := k + 1) (acc := ((k + 1 : Nat) : Int)) hu m4 h93 (fun i i1 i2 z => by have := uq i i2 z; omega) f (k + 1) (n2 - 1) (by omega) (by omega) (Nat.le_refl _)
      generalize zit (fun _ _ _ _ => none) (M_choose_23b kr) f = r9 at ih ⊢
      unfold M_choose_23b M_choose_77 M_choose_78
      rw [zix_n hu, mD93, h93, if_pos hkm, wr_ut y8, zix_n y8, zix_n hu, mD94, mD100, wr_s k9, if_pos hm.1, zix_n y8, zix_n hu, mD95, mD101, if_pos hm.2]
      exact ih
    · have ne : k ≠ i0 := fun e => hm (by rw [e]; exact e0)
      have ih := m_il_some (acc := acc) hu m4 h93 h0 e0 uq f (k + 1) (n2 - 1) (by omega) (by omega) (by omega)
      generalize zit (fun _ _ _ _ => none) (M_choose_23b kr) f = r9 at ih ⊢
      unfold M_choose_23b M_choose_77 M_choose_78
      rw [zix_n hu, mD93, h93, if_pos hkm, wr_ut y8, zix_n y8, zix_n hu, mD94, mD100, wr_s k9]
      by_cases e1 : A 94 (4 * u + k) = A 100 u
      · rw [if_pos e1, zix_n y8, zix_n hu, mD95, mD101, if_neg (fun e2 => hm ⟨e1, e2⟩)]
        exact ih
      · rw [if_neg e1]
        exact ih
theorem start_both (q : RR A h K L bc tc gc n B N M) (hu : u < 2) (h93 : A 93 u = (m : Int)) (g : zH) : ∃ st : Nat, st ≤ 4 ∧ (∀ (kr : Int → zH → Option ρ) (cy : Int), Un_choose (u : Int) (A 12 2) cy h kr = zit (fun _ _ _ _ _ _ => none) (Un_choose_20b kr) zN (u : Int) (A 12 2) cy (st : Int) ((0 : Nat) : Int) h) ∧ (∀ kr : Int → zH → Option ρ, M_choose (u : Int) (mh g A) kr = zit (fun _ _ _ _ _ => none) (M_choose_90b kr) zN (u : Int) (st : Int) (-1) ((0 : Nat) : Int) (mh g A)) ∧ (A 12 2 ≠ 97 → st = 0) := by
  have uo := q.uo hu
  rw [h93, Int.toNat_natCast] at uo
  have u4 := (q.un hu).2.1
  rw [h93] at u4
  have m4 : m ≤ 4 := by omega
  have fm : m < zN := by show m < 5000; omega
  obtain ⟨-, -, ul3, ul4⟩ := q.ul u hu
  rw [h93] at ul4
  by_cases h97 : A 12 2 = 97
  · have o1 := uo.1
    by_cases hex : ∃ i0, i0 < m ∧ (A 94 (4 * u + i0) = A 100 u ∧ A 95 (4 * u + i0) = A 101 u)
    · obtain ⟨i0, i1, i2⟩ := hex
      have uq : ∀ i, i < m → (A 94 (4 * u + i) = A 100 u ∧ A 95 (4 * u + i) = A 101 u) → i = i0 := fun i hi z => (q.us u hu).2.2.1 i i0 (by rw [h93]; omega) (by rw [h93]; omega) (z.1.trans i2.1.symm) (z.2.trans i2.2.symm)
      have n100 : ¬ A 100 u = -1 := fun z => by
        obtain ⟨b, j, e1, -⟩ := (q.us u hu).2.1 i0 (by rw [h93]; omega)
        rw [← i2.1, e1] at z
        omega
      refine ⟨i0 + 1, by omega, fun kr cy => ?_, fun kr => ?_, fun z => absurd h97 z⟩
      · have ix : ∀ kr : Int → zH → Option ρ, Un_indexOfLast (u : Int) h kr = kr (i0 : Int) h := fun kr => x_il_some uo i1 ((ul4 i0 (by omega)).mpr i2) (fun i hi z => uq i hi ((ul4 i (by omega)).mp z)) zN 0 m (Nat.zero_add m) fm (Nat.zero_le _)
        unfold Un_choose Un_choose_16
        rw [if_pos h97, zob_n o1, ix, wr_s (by omega)]
        rfl
      · unfold M_choose
        rw [mD12, if_pos h97, zix_n hu, mD100, if_neg n100]
        exact (m_il_some hu m4 h93 i1 i2 uq zN 0 m (Nat.zero_add m) fm (Nat.zero_le _)).trans rfl
    · have hn : ∀ i, 0 ≤ i → i < m → ¬ (A 94 (4 * u + i) = A 100 u ∧ A 95 (4 * u + i) = A 101 u) := fun i _ hi z => hex ⟨i, hi, z⟩
      refine ⟨0, by omega, fun kr cy => ?_, fun kr => ?_, fun _ => rfl⟩
      · have ix : ∀ kr : Int → zH → Option ρ, Un_indexOfLast (u : Int) h kr = kr (-1) h := fun kr => x_il_none uo (fun i hi z => hn i (Nat.zero_le _) hi ((ul4 i (by omega)).mp z)) zN 0 m (Nat.zero_add m) fm
        have w0 : wr (-1 + 1) = ((0 : Nat) : Int) := by decide
        unfold Un_choose Un_choose_16
        rw [if_pos h97, zob_n o1, ix, w0]
        rfl
      · unfold M_choose
        rw [mD12, if_pos h97, zix_n hu, mD100]
        by_cases n100 : A 100 u = -1
        · rw [if_pos n100]
          rfl
        · rw [if_neg n100]
          exact (m_il_after (acc := 0) hu m4 h93 hn zN 0 m (Nat.zero_add m) fm (Nat.zero_le _)).trans rfl
  · refine ⟨0, by omega, fun kr cy => ?_, fun kr => ?_, fun _ => rfl⟩
    · unfold Un_choose Un_choose_16
      rw [if_neg h97]
      rfl
    · unfold M_choose
      rw [mD12, if_neg h97]
      rfl
/-- the group that acts is noted -/
theorem rr_lb (q : RR A h K L bc tc gc n B N M) {i b j : Nat} (hu : u < 2) (hi : (i : Int) < A 93 u) (e94 : A 94 (4 * u + i) = (b : Int)) (e95 : A 95 (4 * u + i) = (j : Int)) : RR (lb u b j A) (zset h 3 u 3 (gc (4 * b + j) : Int)) K L bc tc gc n B N M := by
  have n100 : ∀ c, c ≠ 100 → c ≠ 101 → lb u b j A c = A c := fun c h1 h2 => lb_c ⟨h1, h2⟩
  refine up_ul q (fun c k hz => by rw [n100 c (fun z => by subst z; cases hz) (fun z => by subst z; cases hz)]) (fr_zs rfl) rfl rfl rfl rfl (fun u2 hu2 => ?_)
  obtain ⟨l1, l2, l3, l4⟩ := q.ul u2 hu2
  obtain ⟨b0, j0, s1, s2, s3, s4, s5, s6, s7, -⟩ := q.slot hu hi
  have y1 : b0 = b ∧ j0 = j := by omega
  obtain ⟨rfl, rfl⟩ := y1
  obtain ⟨gw, -⟩ := q.grp s3 s4 s6
  rw [n100 87 (by decide) (by decide), n100 88 (by decide) (by decide), n100 93 (by decide) (by decide), n100 94 (by decide) (by decide), n100 95 (by decide) (by decide), n100 102 (by decide) (by decide)]
  have e100 : ∀ x, lb u b0 j0 A 100 x = if x = u then (b0 : Int) else A 100 x := fun x => by
    unfold lb
    rw [au_ne (by decide), au_j]
  have e101 : ∀ x, lb u b0 j0 A 101 x = if x = u then (j0 : Int) else A 101 x := fun x => by
    unfold lb
    rw [au_j, au_ne (by decide)]
  have e3 : zhD (zset h 3 u 3 (gc (4 * b0 + j0) : Int)) 3 u2 3 = if u2 = u then (gc (4 * b0 + j0) : Int) else zhD h 3 u2 3 := by rw [zD_set]; simp
  rw [e100, e101, e3, zD_ne (show 27 ≠ 3 by decide), zD_ne (show 26 ≠ 3 by decide)]
  by_cases e : u2 = u
  · subst e
    rw [if_pos rfl, if_pos rfl, if_pos rfl]
    refine ⟨l1, Or.inr ⟨_, rfl, gw.1⟩, Or.inr ⟨b0, rfl, s3, s4, s5⟩, fun i2 hi2 => ?_⟩
    obtain ⟨b2, j2, t1, t2, t3, t4, t5, t6, t7, -⟩ := q.slot hu2 hi2
    rw [t7, t1, t2]
    constructor
    · intro z
      obtain ⟨z1, z2⟩ := q.gh.2 b2 b0 t3 s3 t4 s4 j2 j0 t6 s6 (Int.ofNat.inj z)
      rw [z1, z2]
      exact ⟨rfl, rfl⟩
    · rintro ⟨z1, z2⟩
      rw [Int.ofNat.inj z1, Int.ofNat.inj z2]
  · rw [if_neg e, if_neg e, if_neg e]
    exact ⟨l1, l2, l3, l4⟩
end
