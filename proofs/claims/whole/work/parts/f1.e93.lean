/-! THE SERIAL RUN: a barrier -/
def zw1 (A : zA) : Nat → Nat → Int
  | _, 0 => -1
  | i, n + 1 => if A 114 i = 119 then (i : Int) else zw1 A (i + 1) n
def zbp (A : zA) : Nat → Int
  | 0 => -1
  | n + 1 => if A 114 n = 119 then A 113 n else zbp A n
def zbsm (A : zA) : Nat → Bool
  | 0 => true
  | n + 1 => if A 114 n = 119 then (zbsm A n && (decide (zbp A n = -1) || decide (zbp A n = A 113 n))) else zbsm A n
theorem zw1_r {A : zA} : ∀ n i : Nat, (zw1 A i n = -1 ∧ ∀ t, i ≤ t → t < i + n → A 114 t ≠ 119) ∨ (∃ t : Nat, zw1 A i n = (t : Int) ∧ i ≤ t ∧ t < i + n ∧ A 114 t = 119)
  | 0, i => Or.inl ⟨rfl, fun t h1 h2 => absurd h1 (by omega)⟩
  | n + 1, i => by
    unfold zw1
    by_cases h : A 114 i = 119
    · rw [if_pos h]
      exact Or.inr ⟨i, rfl, Nat.le_refl _, by omega, h⟩
    · rw [if_neg h]
      rcases zw1_r n (i + 1) with ⟨z1, z2⟩ | ⟨t, z1, z2, z3, z4⟩
      · refine Or.inl ⟨z1, fun t h1 h2 => ?_⟩
        by_cases ht : t = i
        · rw [ht]; exact h
        · exact z2 t (by omega) (by omega)
      · exact Or.inr ⟨t, z1, by omega, by omega, z4⟩
theorem zb_spec {A : zA} : ∀ n : Nat, (∀ t, t < n → A 114 t = 119 → 0 ≤ A 113 t) → ((zbp A n = -1 ∧ (∀ t, t < n → A 114 t ≠ 119) ∧ zbsm A n = true) ∨ (0 ≤ zbp A n ∧ (∃ t, t < n ∧ A 114 t = 119) ∧ (zbsm A n = true → ∀ t, t < n → A 114 t = 119 → A 113 t = zbp A n) ∧ (zbsm A n = false → ∃ t t2, t < n ∧ t2 < n ∧ A 114 t = 119 ∧ A 114 t2 = 119 ∧ A 113 t ≠ A 113 t2)))
  | 0, _ => Or.inl ⟨rfl, fun t h => absurd h (Nat.not_lt_zero _), rfl⟩
  | n + 1, hp => by
    have ih := zb_spec n (fun t ht => hp t (by omega))
    unfold zbp zbsm
    by_cases h : A 114 n = 119
    · rw [if_pos h, if_pos h]
      have p0 := hp n (by omega) h
      refine Or.inr ⟨p0, ⟨n, by omega, h⟩, ?_, ?_⟩
      · intro hs t ht h1
        rw [Bool.and_eq_true] at hs
        obtain ⟨s1, s2⟩ := hs
        rcases ih with ⟨i1, i2, i3⟩ | ⟨i1, i2, i3, i4⟩
        · by_cases htn : t = n
          · rw [htn]
          · exact absurd h1 (i2 t (by omega))
        · rw [decide_eq_false (show ¬ zbp A n = -1 by omega), Bool.false_or, decide_eq_true_eq] at s2
          by_cases htn : t = n
          · rw [htn]
          · rw [i3 s1 t (by omega) h1, s2]
      · intro hs
        rcases ih with ⟨i1, i2, i3⟩ | ⟨i1, i2, i3, i4⟩
        · rw [i3, decide_eq_true i1] at hs
          cases hs
        · cases hb : zbsm A n with
          | false =>
            obtain ⟨t, t2, z1, z2, z3⟩ := i4 hb
            exact ⟨t, t2, by omega, by omega, z3⟩
          | true =>
            rw [hb, Bool.true_and, decide_eq_false (show ¬ zbp A n = -1 by omega), Bool.false_or, decide_eq_false_iff_not] at hs
            obtain ⟨t, j1, j2⟩ := i2
            exact ⟨t, n, by omega, by omega, j2, h, by rw [i3 hb t j1 j2]; exact hs⟩
    · rw [if_neg h, if_neg h]
      rcases ih with ⟨i1, i2, i3⟩ | ⟨i1, ⟨t9, j1, j2⟩, i3, i4⟩
      · refine Or.inl ⟨i1, fun t ht => ?_, i3⟩
        by_cases htn : t = n
        · rw [htn]; exact h
        · exact i2 t (by omega)
      · refine Or.inr ⟨i1, ⟨t9, by omega, j2⟩, fun hs t ht h1 => ?_, fun hs => ?_⟩
        · by_cases htn : t = n
          · rw [htn] at h1
            exact absurd h1 h
          · exact i3 hs t (by omega) h1
        · obtain ⟨t, t2, z1, z2, z3⟩ := i4 hs
          exact ⟨t, t2, by omega, by omega, z3⟩
section
variable {ρ : Type} {h h0 g : zH} {A A0 B : zA} {kr : Int → zH → Option ρ} {K L n k T t p r : Nat} {M bn v c a b d w : Int}
theorem x_isWait {t : Nat} (hT : t < zhN h 6) : Th_isWaiting (t : Int) h kr = kr (tb (decide (zhD h 6 t 4 = 119))) h := by
  unfold Th_isWaiting Th_isWaiting_14
  rw [zob_n hT]
  by_cases hz : zhD h 6 t 4 = 119
  · rw [if_pos hz, decide_eq_true hz, tb_t, znar_1]
  · rw [if_neg hz, decide_eq_false hz, tb_f, znar_0]
theorem sq_wt (x : SQ A h k T bn) (rd : RD h) (ht : t < T) (t16 : T ≤ 16) : Th_isWaiting (t : Int) h kr = kr (tb (decide (A 114 t = 119))) h := by
  rw [x_isWait (sq_th rd ht t16).1, (x.2.2.2 t ht).2.1.1]
theorem x_lw30 (x : SQ A h k T bn) (rs : RS h) (rd : RD h) (t16 : T ≤ 16) : ∀ (f i n : Nat), i + n = T → n < f → zit (fun _ _ _ _ => none) (Th_lowestOfWaiting_30_2b kr) f 0 (T : Int) (i : Int) h = kr (zw1 A i n) h
  | 0, _, _, _, hf => absurd hf (Nat.not_lt_zero _)
  | f + 1, i, 0, hi, hf => by
    have : i = T := by omega
    subst this
    rw [zit_s]
    unfold Th_lowestOfWaiting_30_2b Th_lowestOfWaiting_30_32
    rw [if_neg (Int.lt_irrefl _)]
    rfl
  | f + 1, i, n + 1, hi, hf => by
    have ih := x_lw30 x rs rd t16 f (i + 1) n (by omega) (by omega)
    have ht : i < T := by omega
    have lt : (i : Int) < (T : Int) := by omega
    have l16 : i < 16 := by omega
    have l16' : (i : Int) < ((16 : Nat) : Int) := by omega
    have i9 : i < 100000 := by omega
    rw [zit_s]
    generalize zit (fun _ _ _ _ => none) (Th_lowestOfWaiting_30_2b kr) f = r2 at ih ⊢
    unfold Th_lowestOfWaiting_30_2b zw1
    rw [if_pos lt, zob_0 rs.N30, rs.L30_0, if_pos l16', zob_0 rs.N30, rs.L30_0, zix_n l16, rs.T i l16, zob_n (sq_th rd ht t16).1, sq_wt x rd ht t16]
    by_cases hw : A 114 i = 119
    · rw [decide_eq_true hw, tb_t, if_neg (by decide), if_pos hw, zob_0 rs.N30, rs.L30_0, zix_n l16, rs.T i l16]
    · rw [decide_eq_false hw, tb_f, if_pos rfl, if_neg hw, wr_s i9]
      exact ih
theorem x_ck_ok (x : SQ A h k T bn) (rs : RS h) (rd : RD h) (t16 : T ≤ 16) {pl len : Int} : ∀ (f i : Nat), i ≤ T → T - i < f → (∀ t, i ≤ t → t < T → A 114 t = 119 → A 113 t = pl) → zit (fun _ _ _ _ _ _ => none) (Th_release_30_3b kr) f 0 (T : Int) pl len (i : Int) h = Th_release_30_45 kr 0 (T : Int) pl len h
  | 0, _, _, hf, _ => absurd hf (Nat.not_lt_zero _)
  | f + 1, i, hi, hf, ha => by
    rw [zit_s]
    by_cases ht : i < T
    · have ih := x_ck_ok (len := len) x rs rd t16 f (i + 1) ht (by omega) (fun t h1 h2 => ha t (by omega) h2)
      have lt : (i : Int) < (T : Int) := by omega
      have l16 : i < 16 := by omega
      have l16' : (i : Int) < ((16 : Nat) : Int) := by omega
      have i9 : i < 100000 := by omega
      have th := (sq_th rd ht t16).1
      generalize zit (fun _ _ _ _ _ _ => none) (Th_release_30_3b kr) f = r2 at ih ⊢
      unfold Th_release_30_3b Th_release_30_39
      rw [if_pos lt, zob_0 rs.N30, rs.L30_0, if_pos l16', zob_0 rs.N30, rs.L30_0, zix_n l16, rs.T i l16, zob_n th, sq_wt x rd ht t16, wr_s i9]
      by_cases hw : A 114 i = 119
      · have e3 := ((x.2.2.2 i ht).2.2.1 (by rw [hw]; decide)).1
        rw [decide_eq_true hw, tb_t, if_neg (by decide), zob_0 rs.N30, rs.L30_0, zix_n l16, rs.T i l16, zob_n th, e3, if_pos (ha i (Nat.le_refl _) ht hw)]
        exact ih
      · rw [decide_eq_false hw, tb_f, if_pos rfl]
        exact ih
    · have : i = T := by omega
      subst this
      unfold Th_release_30_3b
      rw [if_neg (Int.lt_irrefl _)]
theorem x_ck_bad (x : SQ A h k T bn) (rs : RS h) (rd : RD h) (t16 : T ≤ 16) {pl len : Int} : ∀ (f i : Nat), i ≤ T → T - i < f → (∃ t, i ≤ t ∧ t < T ∧ A 114 t = 119 ∧ A 113 t ≠ pl) → zit (fun _ _ _ _ _ _ => none) (Th_release_30_3b kr) f 0 (T : Int) pl len (i : Int) h = kr 0 h
  | 0, _, _, hf, _ => absurd hf (Nat.not_lt_zero _)
  | f + 1, i, hi, hf, ⟨t9, k1, k2, k3, k4⟩ => by
    rw [zit_s]
    have ht : i < T := by omega
    have lt : (i : Int) < (T : Int) := by omega
    have l16 : i < 16 := by omega
    have l16' : (i : Int) < ((16 : Nat) : Int) := by omega
    have i9 : i < 100000 := by omega
    have th := (sq_th rd ht t16).1
    have go : (¬ (A 114 i = 119 ∧ A 113 i ≠ pl)) → zit (fun _ _ _ _ _ _ => none) (Th_release_30_3b kr) f 0 (T : Int) pl len ((i + 1 : Nat) : Int) h = kr 0 h := fun hz => x_ck_bad x rs rd t16 f (i + 1) ht (by omega) ⟨t9, by
      by_cases e : t9 = i
      · rw [e] at k3 k4
        exact absurd ⟨k3, k4⟩ hz
      · omega, k2, k3, k4⟩
    generalize zit (fun _ _ _ _ _ _ => none) (Th_release_30_3b kr) f = r2 at go ⊢
    unfold Th_release_30_3b Th_release_30_39
    rw [if_pos lt, zob_0 rs.N30, rs.L30_0, if_pos l16', zob_0 rs.N30, rs.L30_0, zix_n l16, rs.T i l16, zob_n th, sq_wt x rd ht t16, wr_s i9]
    by_cases hw : A 114 i = 119
    · have e3 := ((x.2.2.2 i ht).2.2.1 (by rw [hw]; decide)).1
      rw [decide_eq_true hw, tb_t, if_neg (by decide), zob_0 rs.N30, rs.L30_0, zix_n l16, rs.T i l16, zob_n th, e3]
      by_cases hp : A 113 i = pl
      · rw [if_pos hp]
        exact go (fun z => z.2 hp)
      · rw [if_neg hp]
    · rw [decide_eq_false hw, tb_f, if_pos rfl]
      exact go (fun z => hw z.1)
/-- the model looks at all that wait -/
theorem m_rb7 (t16 : T ≤ 16) : ∀ (f i : Nat), i ≤ T → T - i < f → zit (fun _ _ _ _ _ => none) (M_runBarrier_7b kr) f (T : Int) (zbp A i) (tb (zbsm A i)) (i : Int) (mh g A) = M_runBarrier_68 kr (T : Int) (zbp A T) (tb (zbsm A T)) 0 (mh g A)
  | 0, _, _, hf => absurd hf (Nat.not_lt_zero _)
  | f + 1, i, hi, hf => by
    rw [zit_s]
    by_cases ht : i < T
    · have ih := m_rb7 t16 f (i + 1) ht (by omega)
      have lt : (i : Int) < (T : Int) := by omega
      have l16 : i < 16 := by omega
      have i9 : i < 100000 := by omega
      have n1 : ¬ (1 : Int) = 0 := by decide
      have e1 : zbp A (i + 1) = if A 114 i = 119 then A 113 i else zbp A i := rfl
      have e2 : zbsm A (i + 1) = if A 114 i = 119 then (zbsm A i && (decide (zbp A i = -1) || decide (zbp A i = A 113 i))) else zbsm A i := rfl
      rw [e1, e2] at ih
      generalize zit (fun _ _ _ _ _ => none) (M_runBarrier_7b kr) f = r2 at ih ⊢
      unfold M_runBarrier_7b M_runBarrier_49 M_runBarrier_45 M_runBarrier_50 M_runBarrier_59
      rw [if_pos lt, zix_n l16, mD114, wr_s i9]
      by_cases hw : A 114 i = 119
      · rw [if_pos hw, if_pos hw] at ih
        rw [if_pos hw]
        cases hb : zbsm A i with
        | false =>
          rw [hb, Bool.false_and, tb_f] at ih
          rw [tb_f, if_pos rfl, zix_n l16, mD113]
          exact ih
        | true =>
          rw [hb, Bool.true_and] at ih
          rw [tb_t, if_neg n1]
          by_cases hm : zbp A i = -1
          · rw [decide_eq_true hm, Bool.true_or, tb_t] at ih
            rw [if_pos hm, zix_n l16, mD113]
            exact ih
          · rw [decide_eq_false hm, Bool.false_or] at ih
            rw [if_neg hm, zix_n l16, mD113]
            by_cases he : zbp A i = A 113 i
            · rw [decide_eq_true he, tb_t] at ih
              rw [if_pos he, zix_n l16, mD113]
              exact ih
            · rw [decide_eq_false he, tb_f] at ih
              rw [if_neg he, zix_n l16, mD113]
              exact ih
      · rw [if_neg hw, if_neg hw] at ih
        rw [if_neg hw]
        exact ih
    · have : i = T := by omega
      subst this
      unfold M_runBarrier_7b
      rw [if_neg (Int.lt_irrefl _)]
/-- lagging -/
def lgs (A : zA) (k t : Nat) : Int := if A 114 t = 114 ∧ ¬ A 113 t < A 63 k then 101 else A 114 t
/-- both release -/
theorem rl_both (q : RS h0) (qd : RD h0) (t16 : T ≤ 16) {pl a2 : Int} (p0 : 0 ≤ pl ∧ pl < 40) (ha2 : a2 ≠ -1) (g : zH) : ∀ (f1 f2 i : Nat) (h : zH) (A : zA) (s : Nat → Int), i ≤ T → T - i < f1 → T - i < f2 → SF A0 A h0 h → SQ (ard A 114 s) h k T bn → (∀ t, i ≤ t → t < T → s t = A 114 t ∧ A 114 t ≠ 114 ∧ (A 114 t = 119 → A 113 t = pl)) → (∀ t, t < i → s t = lgs A k t ∧ (A 114 t = 114 ∨ A 114 t = 101)) → ∃ (h' : zH) (A' : zA) (s' : Nat → Int), (∀ kr : Int → zH → Option ρ, zit (fun _ _ _ _ _ _ => none) (Th_release_30_48b kr) f1 0 (T : Int) pl (A0 63 k) (i : Int) h = kr 1 h') ∧ (∀ kr : Int → zH → Option ρ, zit (fun _ _ _ _ _ => none) (M_runBarrier_68b kr) f2 (T : Int) a2 1 (i : Int) (mh g A) = kr 112 (mh g A')) ∧ SF A0 A' h0 h' ∧ SQ (ard A' 114 s') h' k T bn ∧ (∀ t, t < T → s' t = lgs A' k t ∧ (A' 114 t = 114 ∨ A' 114 t = 101) ∧ (A 114 t = 101 → A' 114 t = 101)) ∧ A' 115 = A 115
  | 0, _, _, _, _, _, _, hf, _, _, _, _, _ => absurd hf (Nat.not_lt_zero _)
  | _ + 1, 0, _, _, _, _, _, _, hf, _, _, _, _ => absurd hf (Nat.not_lt_zero _)
  | f1 + 1, f2 + 1, i, h, A, s, hi, hf1, hf2, x, sq, hs1, hs2 => by
    have rs := x.rs q
    have rd := x.rd qd
    have n1 : ¬ (1 : Int) = 0 := by decide
    by_cases ht : i < T
    · have lt : (i : Int) < (T : Int) := by omega
      have l16 : i < 16 := by omega
      have l16' : (i : Int) < ((16 : Nat) : Int) := by omega
      have i9 : i < 100000 := by omega
      have th := (sq_th rd ht t16).1
      obtain ⟨si, ni, pi⟩ := hs1 i (Nat.le_refl _) ht
      have wt := fun kr : Int → zH → Option ρ => sq_wt (kr := kr) sq rd ht t16
      rw [ard_same, si] at wt
      by_cases hw : A 114 i = 119
      · have hpl := pi hw
        have e63 : A 63 k = A0 63 k := by rw [x.1 63 (by decide)]
        have hP : pl + 1 < 2147483648 := by omega
        -- the new state
        obtain ⟨hN, hN1, hN2⟩ : ∃ hN : zH, (∀ kr : Int → zH → Option ρ, Th_goTo (i : Int) (pl + 1) (A0 63 k) (zset h 6 i 4 114) kr = kr 0 hN) ∧ hN = (if pl + 1 < A0 63 k then zset (zset h 6 i 4 114) 6 i 3 (pl + 1) else zset (zset (zset h 6 i 4 114) 6 i 3 (pl + 1)) 6 i 4 101) := ⟨_, fun kr => x_goTo (h := zset h 6 i 4 114) th (by omega), rfl⟩
        have xN : SF A0 (au (au A 114 i 114) 113 i (pl + 1)) h0 hN := by
          rw [hN2]
          by_cases hl : pl + 1 < A0 63 k
          · rw [if_pos hl]
            exact ((((x.au (by decide)).au (by decide)).zs (srp_6 l16 (by decide))).zs (srp_6 l16 (by decide)))
          · rw [if_neg hl]
            exact (((((x.au (by decide)).au (by decide)).zs (srp_6 l16 (by decide))).zs (srp_6 l16 (by decide))).zs (srp_6 l16 (by decide)))
        have eN63 : au (au A 114 i 114) 113 i (pl + 1) 63 = A 63 := by rw [au_ne (by decide), au_ne (by decide)]
        have n114 : au (au A 114 i 114) 113 i (pl + 1) 114 = zup (A 114) i 114 := by rw [au_ne (by decide), au_zup]
        have n113 : au (au A 114 i 114) 113 i (pl + 1) 113 = zup (A 113) i (pl + 1) := by rw [au_zup, au_ne (by decide)]
        have lgi : lgs (au (au A 114 i 114) 113 i (pl + 1)) k i = if pl + 1 < A0 63 k then 114 else 101 := by
          unfold lgs
          rw [n114, n113, eN63, zup_same, zup_same, e63]
          by_cases hl : pl + 1 < A0 63 k
          · rw [if_pos hl, if_neg (fun z => z.2 hl)]
          · rw [if_neg hl, if_pos ⟨rfl, hl⟩]
        have lgo : ∀ t, t ≠ i → lgs (au (au A 114 i 114) 113 i (pl + 1)) k t = lgs A k t := fun t hn => by
          unfold lgs
          rw [n114, n113, eN63, zup_ne hn, zup_ne hn]
        have sqN : SQ (ard (au (au A 114 i 114) 113 i (pl + 1)) 114 (zup s i (if pl + 1 < A0 63 k then 114 else 101))) hN k T bn := by
          refine SQ.pl (t := i) sq (fun c c1 c2 => by rw [ard_ne c2, ard_ne c2, au_ne c1, au_ne c2]) (fun j hj => ⟨by rw [ard_ne (by decide), ard_ne (by decide), n113, zup_ne hj], by rw [ard_same, ard_same, zup_ne hj]⟩) (fun c p j hc => ?_) ?_ ?_
          · rw [hN2]
            have n3 : ¬ (c = 6 ∧ p = i ∧ j = 3) := fun z => hc ⟨z.1, z.2.1, Or.inl z.2.2⟩
            have n4 : ¬ (c = 6 ∧ p = i ∧ j = 4) := fun z => hc ⟨z.1, z.2.1, Or.inr z.2.2⟩
            by_cases hl : pl + 1 < A0 63 k
            · rw [if_pos hl, zD_set, if_neg n3, zD_set, if_neg n4]
            · rw [if_neg hl, zD_set, if_neg n4, zD_set, if_neg n3, zD_set, if_neg n4]
          · rw [ard_same, zup_same, hN2]
            by_cases hl : pl + 1 < A0 63 k
            · rw [if_pos hl, if_pos hl, zD_nj (by decide), zD_eq]
              exact ⟨rfl, Or.inl rfl⟩
            · rw [if_neg hl, if_neg hl, zD_eq]
              exact ⟨rfl, Or.inr (Or.inr rfl)⟩
          · rw [ard_same, zup_same, ard_ne (by decide), n113, zup_same, ard_ne (by decide), e63, hN2]
            by_cases hl : pl + 1 < A0 63 k
            · rw [if_pos hl, if_pos hl, zD_eq]
              exact fun _ => ⟨rfl, by omega, hl⟩
            · rw [if_neg hl]
              exact fun z => absurd rfl z
        obtain ⟨h', A', s', y1, y2, y3, y4, y5, y6⟩ := rl_both q qd t16 p0 ha2 g f1 f2 (i + 1) hN _ _ ht (by omega) (by omega) xN sqN (fun t h1 h2 => by
          have hn : t ≠ i := by omega
          rw [zup_ne hn, n114, n113, zup_ne hn, zup_ne hn]
          exact hs1 t (by omega) h2) (fun t h1 => by
          by_cases hn : t = i
          · rw [hn, zup_same, lgi, n114, zup_same]
            exact ⟨rfl, Or.inl rfl⟩
          · rw [zup_ne hn, lgo t hn, n114, zup_ne hn]
            exact hs2 t (by omega))
        refine ⟨h', A', s', fun kr => ?_, fun kr => ?_, y3, y4, fun t htT => ?_, ?_⟩
        · have ww : wr (pl + 1) = pl + 1 := wr_id (by omega) hP
          have th2 : i < zhN (zset h 6 i 4 114) 6 := th
          rw [zit_s, ← y1 kr]
          generalize zit (fun _ _ _ _ _ _ => none) (Th_release_30_48b kr) f1 = r2
          unfold Th_release_30_48b Th_release_30_91
          have N30 : zhN (zset h 6 i 4 114) 30 = 1 := rs.N30
          have L30 : zhL (zset h 6 i 4 114) 30 0 = 16 := rs.L30_0
          have T30 : zhD (zset h 6 i 4 114) 30 0 i = (i : Int) := by rw [zD_ne (by decide)]; exact rs.T i l16
          rw [if_pos lt, zob_0 rs.N30, rs.L30_0, if_pos l16', zob_0 rs.N30, rs.L30_0, zix_n l16, rs.T i l16, zob_n th, wt, decide_eq_true hw, tb_t, if_neg n1, zob_0 rs.N30, rs.L30_0, zix_n l16, rs.T i l16, zob_n th, zlet_d, zob_0 N30, L30, zix_n l16, T30, zob_n th2, ww, hN1, wr_s i9]
        · have ww : wr (A 113 i + 1) = pl + 1 := by
            rw [hpl]
            exact wr_id (by omega) hP
          rw [zit_s, ← y2 kr]
          generalize zit (fun _ _ _ _ _ => none) (M_runBarrier_68b kr) f2 = r2
          unfold M_runBarrier_68b M_runBarrier_110
          rw [if_pos lt, if_neg n1, zix_n l16, mD114, if_pos hw, zix_n l16, mS114, zlet_d, zix_n l16, zix_n l16, mD113, au_ne (by decide), ww, mS113, zlet_d, wr_s i9]
        · obtain ⟨v1, v2, v3⟩ := y5 t htT
          refine ⟨v1, v2, fun hz => v3 ?_⟩
          have hn : t ≠ i := fun e => by rw [e, hw] at hz; cases hz
          rw [n114, zup_ne hn]
          exact hz
        · rw [y6, au_ne (by decide), au_ne (by decide)]
      · -- it does not wait: it has ended
        have h101 : A 114 i = 101 := by
          have := (sq.2.2.2 i ht).2.1.2
          rw [ard_same, si] at this
          rcases this with z | z | z
          · exact absurd z ni
          · exact absurd z hw
          · exact z
        obtain ⟨h', A', s', y1, y2, y3, y4, y5, y6⟩ := rl_both q qd t16 p0 ha2 g f1 f2 (i + 1) h A s ht (by omega) (by omega) x sq (fun t h1 h2 => hs1 t (by omega) h2) (fun t h1 => by
          by_cases hn : t = i
          · rw [hn]
            refine ⟨?_, Or.inr h101⟩
            rw [si]
            unfold lgs
            rw [if_neg (fun z => ni z.1)]
          · exact hs2 t (by omega))
        refine ⟨h', A', s', fun kr => ?_, fun kr => ?_, y3, y4, y5, y6⟩
        · rw [zit_s, ← y1 kr]
          generalize zit (fun _ _ _ _ _ _ => none) (Th_release_30_48b kr) f1 = r2
          unfold Th_release_30_48b Th_release_30_91
          rw [if_pos lt, zob_0 rs.N30, rs.L30_0, if_pos l16', zob_0 rs.N30, rs.L30_0, zix_n l16, rs.T i l16, zob_n th, wt, decide_eq_false hw, tb_f, if_pos rfl, wr_s i9]
        · rw [zit_s, ← y2 kr]
          generalize zit (fun _ _ _ _ _ => none) (M_runBarrier_68b kr) f2 = r2
          unfold M_runBarrier_68b M_runBarrier_110
          rw [if_pos lt, if_neg n1, zix_n l16, mD114, if_neg hw, wr_s i9]
    · have : i = T := by omega
      subst this
      refine ⟨h, A, s, fun kr => ?_, fun kr => ?_, x, sq, fun t htT => ⟨(hs2 t htT).1, (hs2 t htT).2, fun z => z⟩, rfl⟩
      · rw [zit_s]
        unfold Th_release_30_48b Th_release_30_97
        rw [if_neg (Int.lt_irrefl _)]
      · rw [zit_s]
        unfold M_runBarrier_68b M_runBarrier_116 M_runBarrier_137
        rw [if_neg (Int.lt_irrefl _), if_neg ha2, if_neg n1, znar_c (by decide)]
end
