/-! A BLOCK ENDS -/
/-- the first thread that waits, of n from i on -/
def zlw (A : zA) (b : Nat) : Nat → Nat → Int
  | _, 0 => -1
  | i, n + 1 => if A 89 (16 * b + i) = 119 then (i : Int) else zlw A b (i + 1) n
theorem zlw_r {A : zA} {b : Nat} : ∀ n i : Nat, zlw A b i n = -1 ∨ ((i : Int) ≤ zlw A b i n ∧ zlw A b i n < ((i + n : Nat) : Int) ∧ A 89 (16 * b + (zlw A b i n).toNat) = 119 ∧ ∀ k : Nat, i ≤ k → (k : Int) < zlw A b i n → A 89 (16 * b + k) ≠ 119)
  | 0, i => Or.inl rfl
  | n + 1, i => by
    unfold zlw
    by_cases h : A 89 (16 * b + i) = 119
    · rw [if_pos h]
      refine Or.inr ⟨Int.le_refl _, by omega, by rw [Int.toNat_natCast]; exact h, fun k h1 h2 => by omega⟩
    · rw [if_neg h]
      rcases zlw_r (A := A) (b := b) n (i + 1) with z | ⟨z1, z2, z3, z4⟩
      · exact Or.inl z
      · refine Or.inr ⟨by omega, by omega, z3, fun k h1 h2 => ?_⟩
        by_cases hk : k = i
        · rw [hk]
          exact h
        · exact z4 k (by omega) h2
theorem zlw_n {A : zA} {b : Nat} : ∀ n i : Nat, zlw A b i n = -1 → ∀ k, i ≤ k → k < i + n → A 89 (16 * b + k) ≠ 119
  | 0, i, _, k, h1, h2 => absurd h2 (by omega)
  | n + 1, i, h, k, h1, h2 => by
    unfold zlw at h
    by_cases h3 : A 89 (16 * b + i) = 119
    · rw [if_pos h3] at h
      omega
    · rw [if_neg h3] at h
      by_cases hk : k = i
      · rw [hk]
        exact h3
      · exact zlw_n n (i + 1) h k (by omega) (by omega)
def zcv (A : zA) (b : Nat) (v : Int) : Nat → Int
  | 0 => 0
  | n + 1 => zcv A b v n + (if A 89 (16 * b + n) = v then 1 else 0)
theorem zcv_r {A : zA} {b : Nat} {v : Int} : ∀ n : Nat, 0 ≤ zcv A b v n ∧ zcv A b v n ≤ n ∧ (zcv A b v n = 0 ↔ ∀ k, k < n → A 89 (16 * b + k) ≠ v)
  | 0 => ⟨Int.le_refl 0, Int.le_refl 0, fun _ k hk => absurd hk (Nat.not_lt_zero _), fun _ => rfl⟩
  | n + 1 => by
    obtain ⟨h1, h2, h3⟩ := zcv_r (A := A) (b := b) (v := v) n
    unfold zcv
    by_cases h : A 89 (16 * b + n) = v
    · rw [if_pos h]
      refine ⟨by omega, by omega, fun z => by omega, fun z => absurd h (z n (Nat.lt_succ_self n))⟩
    · rw [if_neg h]
      refine ⟨by omega, by omega, fun z k hk => ?_, fun z => ?_⟩
      · by_cases hk2 : k = n
        · rw [hk2]
          exact h
        · exact h3.mp (by omega) k (by omega)
      · have := h3.mpr (fun k hk => z k (by omega))
        omega
section
variable {ρ : Type} {h g : zH} {A B : zA} {kr : Int → zH → Option ρ} {K L n : Nat} {bc tc gc : Nat → Nat} {N M : Int} {s : Nat → Int}
theorem m_cnt_loop {b th : Nat} {v : Int} (hb : b < 72) (hth : th ≤ 16) (h73 : A 73 (b / 6) = (th : Int)) : ∀ f t : Nat, t ≤ th → th - t < f → zit (fun _ _ _ _ _ => none) (M_count_5b kr) f (b : Int) v (zcv A b v t) (t : Int) (mh g A) = kr (zcv A b v th) (mh g A)
  | 0, t, _, hf => absurd hf (Nat.not_lt_zero _)
  | f + 1, t, ht, hf => by
    rw [zit_s]
    have hb12 : b / 6 < 12 := by omega
    by_cases h4 : t < th
    · have ih := m_cnt_loop (v := v) hb hth h73 f (t + 1) h4 (by omega)
      have hlt : (t : Int) < (th : Int) := by omega
      have t16 : t < 16 := by omega
      have i1 : 16 * b + t < 1152 := by omega
      have hc := zcv_r (A := A) (b := b) (v := v) t
      have c1 : -2147483648 ≤ zcv A b v t + 1 ∧ zcv A b v t + 1 < 2147483648 := by omega
      have c0 : -2147483648 ≤ zcv A b v t + 0 ∧ zcv A b v t + 0 < 2147483648 := by omega
      have e1 : zcv A b v (t + 1) = zcv A b v t + (if A 89 (16 * b + t) = v then 1 else 0) := rfl
      have w1 : wr ((t : Int) + 1) = ((t + 1 : Nat) : Int) := by
        rw [wr_id (by omega) (by omega)]
        rfl
      rw [e1] at ih
      generalize zit (fun _ _ _ _ _ => none) (M_count_5b kr) f = r2 at ih ⊢
      unfold M_count_5b M_count_41
      rw [wtd6 hb, zix_n hb12, mD73, h73, if_pos hlt, m_threadCell hb t16, zix_n i1, mD89, w1]
      by_cases hv : A 89 (16 * b + t) = v
      · rw [if_pos hv] at ih ⊢
        rw [wr_id c1.1 c1.2]
        exact ih
      · rw [if_neg hv] at ih ⊢
        rw [wr_id c0.1 c0.2]
        exact ih
    · have : t = th := Nat.le_antisymm ht (Nat.le_of_not_lt h4)
      subst this
      unfold M_count_5b
      rw [wtd6 hb, zix_n hb12, mD73, h73, if_neg (Int.lt_irrefl _)]
theorem m_count {b th : Nat} {v : Int} (hb : b < 72) (hth : th ≤ 16) (h73 : A 73 (b / 6) = (th : Int)) : M_count (b : Int) v (mh g A) kr = kr (zcv A b v th) (mh g A) := by
  unfold M_count
  exact m_cnt_loop hb hth h73 zN 0 (Nat.zero_le _) (by show th - 0 < 5000; omega)
/-- a block's threads, by their numbers -/
def TT (A : zA) (h : zH) (bc tc : Nat → Nat) (b th : Nat) : Prop := bc b < zhN h 10 ∧ zhD h 10 (bc b) 2 = (bc b : Int) ∧ bc b < zhN h 36 ∧ zhL h 36 (bc b) = th ∧ 1 ≤ th ∧ th ≤ 16 ∧ ∀ t, t < th → zhD h 36 (bc b) t = (tc (16 * b + t) : Int) ∧ tc (16 * b + t) < zhN h 6 ∧ zhD h 6 (tc (16 * b + t)) 4 = A 89 (16 * b + t)
theorem RR.thr9 (q : RR A h K L bc tc gc n B N M) {b th : Nat} (hb : b < 72) (hin : A 87 b = 1) (h73 : A 73 (b / 6) = (th : Int)) : TT A h bc tc b th := by
  obtain ⟨k, hk, e70, hbL, ⟨f1, f2⟩, -⟩ := q.blk hb hin
  obtain ⟨b1, b2, b3, b4, -⟩ := q.bh.1 b hb hin
  obtain ⟨n36, -, -, -, -, -, d⟩ := q.rd.2.2.2.1
  obtain ⟨d2, -⟩ := d (bc b) b1
  show bc b < zhN h 10 ∧ zhD h 10 (bc b) 2 = (bc b : Int) ∧ bc b < zhN h 36 ∧ zhL h 36 (bc b) = th ∧ 1 ≤ th ∧ th ≤ 16 ∧ ∀ t, t < th → zhD h 36 (bc b) t = (tc (16 * b + t) : Int) ∧ tc (16 * b + t) < zhN h 6 ∧ zhD h 6 (tc (16 * b + t)) 4 = A 89 (16 * b + t)
  refine ⟨b1, d2, by rw [n36]; exact b1, by omega, by omega, by omega, fun t ht => ?_⟩
  obtain ⟨-, t2, t3, -⟩ := q.th.1 b hb hin t (by omega)
  obtain ⟨-, t4, -⟩ := q.td b hb hin t (by omega)
  exact ⟨t3, t2, t4⟩
theorem x_iar_loop {b th : Nat} (q : TT A h bc tc b th) : ∀ f t : Nat, t ≤ th → th - t < f → zan (fun t => decide (A 89 (16 * b + t) = 114)) t = false → zit (fun _ _ _ _ => none) (Th_isAnyRunning_2b kr) f (bc b : Int) (th : Int) (t : Int) h = kr (tb (zan (fun t => decide (A 89 (16 * b + t) = 114)) th)) h
  | 0, t, _, hf, _ => absurd hf (Nat.not_lt_zero _)
  | f + 1, t, ht, hf, hz => by
    rw [zit_s]
    have q' := q
    obtain ⟨b1, b2, b3, b4, b5, b6, b7⟩ := q'
    by_cases h4 : t < th
    · have ih := x_iar_loop q f (t + 1) h4 (by omega)
      obtain ⟨t1, t2, t3⟩ := b7 t h4
      have hlt : (t : Int) < (th : Int) := by omega
      have e1 : zan (fun t => decide (A 89 (16 * b + t) = 114)) (t + 1) = (zan (fun t => decide (A 89 (16 * b + t) = 114)) t || decide (A 89 (16 * b + t) = 114)) := rfl
      rw [hz, Bool.false_or] at e1
      have w1 : wr ((t : Int) + 1) = ((t + 1 : Nat) : Int) := by
        rw [wr_id (by omega) (by omega)]
        rfl
      generalize zit (fun _ _ _ _ => none) (Th_isAnyRunning_2b kr) f = r2 at ih ⊢
      unfold Th_isAnyRunning_2b Th_isAnyRunning_30
      rw [if_pos hlt, zob_n b3, b4, if_pos hlt, zob_n b3, b4, zix_n h4, t1, zob_n t2, x_isRunning t2, t3]
      by_cases hv : A 89 (16 * b + t) = 114
      · rw [decide_eq_true hv, tb_t, if_neg (by decide), (zan_iff th).mpr ⟨t, h4, decide_eq_true hv⟩, tb_t]
      · rw [decide_eq_false hv, tb_f, if_pos rfl, w1]
        rw [decide_eq_false hv] at e1
        exact ih e1
    · have : t = th := Nat.le_antisymm ht (Nat.le_of_not_lt h4)
      subst this
      unfold Th_isAnyRunning_2b Th_isAnyRunning_30
      rw [if_neg (Int.lt_irrefl _), hz, tb_f]
theorem x_low_loop {b th : Nat} (q : TT A h bc tc b th) : ∀ f t m : Nat, t + m = th → m < f → zit (fun _ _ _ _ => none) (Th_lowestOfWaiting_36_2b kr) f (bc b : Int) (th : Int) (t : Int) h = kr (if zlw A b t m = -1 then -1 else (tc (16 * b + (zlw A b t m).toNat) : Int)) h
  | 0, t, m, _, hf => absurd hf (Nat.not_lt_zero _)
  | f + 1, t, m, ht, hf => by
    rw [zit_s]
    have q' := q
    obtain ⟨b1, b2, b3, b4, b5, b6, b7⟩ := q'
    cases m with
    | zero =>
      have : t = th := by omega
      subst this
      unfold Th_lowestOfWaiting_36_2b Th_lowestOfWaiting_36_32
      rw [if_neg (Int.lt_irrefl _)]
      rfl
    | succ m =>
      have h4 : t < th := by omega
      have ih := x_low_loop q f (t + 1) m (by omega) (by omega)
      obtain ⟨t1, t2, t3⟩ := b7 t h4
      have hlt : (t : Int) < (th : Int) := by omega
      have hne : ¬ (t : Int) = -1 := by omega
      have w1 : wr ((t : Int) + 1) = ((t + 1 : Nat) : Int) := by
        rw [wr_id (by omega) (by omega)]
        rfl
      generalize zit (fun _ _ _ _ => none) (Th_lowestOfWaiting_36_2b kr) f = r2 at ih ⊢
      unfold Th_lowestOfWaiting_36_2b Th_lowestOfWaiting_36_32 zlw
      rw [if_pos hlt, zob_n b3, b4, if_pos hlt, zob_n b3, b4, zix_n h4, t1, zob_n t2, x_isWaiting t2, t3]
      by_cases hv : A 89 (16 * b + t) = 119
      · rw [decide_eq_true hv, tb_t, if_neg (by decide), zob_n b3, b4, zix_n h4, t1, if_pos hv, if_neg hne, Int.toNat_natCast]
      · rw [decide_eq_false hv, tb_f, if_pos rfl, w1, if_neg hv]
        exact ih
theorem x_anyRunning {b th : Nat} (q : TT A h bc tc b th) : Th_isAnyRunning (bc b : Int) (th : Int) h kr = kr (tb (zan (fun t => decide (A 89 (16 * b + t) = 114)) th)) h := by
  have b6 := q.2.2.2.2.2.1
  unfold Th_isAnyRunning
  exact x_iar_loop q zN 0 (Nat.zero_le _) (by show th - 0 < 5000; omega) rfl
theorem x_lowest {b th : Nat} (q : TT A h bc tc b th) : Th_lowestOfWaiting_36 (bc b : Int) (th : Int) h kr = kr (if zlw A b 0 th = -1 then -1 else (tc (16 * b + (zlw A b 0 th).toNat) : Int)) h := by
  have b6 := q.2.2.2.2.2.1
  unfold Th_lowestOfWaiting_36
  exact x_low_loop q zN 0 th (Nat.zero_add th) (by show th < 5000; omega)
theorem x_isAllEnded {b th : Nat} (q : TT A h bc tc b th) : Bl_isAllEnded (bc b : Int) h kr = kr (tb (!(zan (fun t => decide (A 89 (16 * b + t) = 114)) th) && decide (zlw A b 0 th = -1))) h := by
  have q' := q
  obtain ⟨b1, b2, b3, b4, b5, b6, b7⟩ := q'
  unfold Bl_isAllEnded Bl_isAllEnded_34 Bl_isAllEnded_35
  rw [zob_n b1, zob_n b1, b2, zob_n b3, b4, x_anyRunning q]
  cases hz : zan (fun t => decide (A 89 (16 * b + t) = 114)) th with
  | true => rw [tb_t, if_neg (by decide), znar_0]; rfl
  | false =>
    rw [tb_f, if_pos rfl, zob_n b1, zob_n b1, b2, zob_n b3, b4, x_lowest q]
    by_cases hl : zlw A b 0 th = -1
    · rw [if_pos hl, if_pos (by decide), znar_1, decide_eq_true hl]
      rfl
    · rw [if_neg hl, if_neg (Int.not_lt.mpr (Int.natCast_nonneg _)), znar_0, decide_eq_false hl]
      rfl
theorem x_isAllWaiting {b th : Nat} (q : TT A h bc tc b th) : Bl_isAllWaiting (bc b : Int) h kr = kr (tb (!(zan (fun t => decide (A 89 (16 * b + t) = 114)) th) && !(decide (zlw A b 0 th = -1)))) h := by
  have q' := q
  obtain ⟨b1, b2, b3, b4, b5, b6, b7⟩ := q'
  unfold Bl_isAllWaiting Bl_isAllWaiting_34 Bl_isAllWaiting_35
  rw [zob_n b1, zob_n b1, b2, zob_n b3, b4, x_anyRunning q]
  cases hz : zan (fun t => decide (A 89 (16 * b + t) = 114)) th with
  | true => rw [tb_t, if_neg (by decide), znar_0]; rfl
  | false =>
    rw [tb_f, if_pos rfl, zob_n b1, zob_n b1, b2, zob_n b3, b4, x_lowest q]
    by_cases hl : zlw A b 0 th = -1
    · rw [if_pos hl, if_pos (by decide), znar_0, decide_eq_true hl]
      rfl
    · rw [if_neg hl, if_neg (Int.not_lt.mpr (Int.natCast_nonneg _)), znar_1, decide_eq_false hl]
      rfl
/-! both units without groups of some blocks -/
theorem RR.uo (q : RR A h K L bc tc gc n B N M) {u : Nat} (hu : u < 2) : UO h u (A 93 u).toNat := by
  obtain ⟨u1, u2, u3⟩ := q.un hu
  obtain ⟨s1, s2, s3, s4, s5, s6, s7⟩ := q.rs.u0 hu
  refine ⟨s1, s2, s4, s5, by omega, by omega, fun i hi => ?_⟩
  obtain ⟨b, j, e1, e2, e3, e4, e5, e6, e7⟩ := (q.us u hu).2.1 i (by omega)
  obtain ⟨g1, g2, g3, -⟩ := q.gh.1 b e2 e5 j e4
  exact ⟨_, e7, g1, bc b, g3, (q.bh.1 b e2 e5).1⟩
def hD2 (h : zH) (r0 r1 : Nat → Int) (m0 m1 : Nat) : zH := zset (hrw (zset (hrw h 26 0 r0) 3 0 2 (m0 : Int)) 26 1 r1) 3 1 2 (m1 : Int)
theorem hD2_D {r0 r1 : Nat → Int} {m0 m1 c p j : Nat} (h26 : c ≠ 26) (h3 : ¬ (c = 3 ∧ j = 2)) : zhD (hD2 h r0 r1 m0 m1) c p j = zhD h c p j := by
  unfold hD2
  rw [zD_set, if_neg (fun z => h3 ⟨z.1, z.2.2⟩), hrw_D, if_neg (fun z => h26 z.1), zD_set, if_neg (fun z => h3 ⟨z.1, z.2.2⟩), hrw_D, if_neg (fun z => h26 z.1)]
theorem hD2_26 {r0 r1 : Nat → Int} {m0 m1 u j : Nat} (hu : u < 2) : zhD (hD2 h r0 r1 m0 m1) 26 u j = if u = 0 then r0 j else r1 j := by
  unfold hD2
  rw [zD_ne (by decide), hrw_D]
  by_cases h1 : u = 1
  · rw [if_pos ⟨rfl, h1⟩, if_neg (by omega)]
  · rw [if_neg (fun z => h1 z.2), zD_ne (by decide), hrw_D, if_pos ⟨rfl, by omega⟩, if_pos (by omega)]
theorem hD2_3 {r0 r1 : Nat → Int} {m0 m1 u : Nat} (hu : u < 2) : zhD (hD2 h r0 r1 m0 m1) 3 u 2 = if u = 0 then (m0 : Int) else (m1 : Int) := by
  unfold hD2
  rw [zD_set]
  by_cases h1 : u = 1
  · rw [if_pos ⟨rfl, h1, rfl⟩, if_neg (by omega)]
  · rw [if_neg (fun z => h1 z.2.1), hrw_D, if_neg (fun z => absurd z.1 (by decide)), zD_set, if_pos ⟨rfl, by omega, rfl⟩, if_pos (by omega)]
theorem hD2_N {r0 r1 : Nat → Int} {m0 m1 : Nat} : zhN (hD2 h r0 r1 m0 m1) = zhN h ∧ zhL (hD2 h r0 r1 m0 m1) = zhL h ∧ zhC (hD2 h r0 r1 m0 m1) = zhC h ∧ zhS (hD2 h r0 r1 m0 m1) = zhS h := ⟨rfl, rfl, rfl, rfl⟩
theorem UO.mv {m r0 : _} {m0 : Nat} (x : UO h 1 m) : UO (zset (hrw h 26 0 r0) 3 0 2 (m0 : Int)) 1 m := by
  obtain ⟨x1, x2, x3, x4, x5, x6, x7⟩ := x
  have D : ∀ c p j, ¬ (c = 26 ∧ p = 0) → ¬ (c = 3 ∧ p = 0) → zhD (zset (hrw h 26 0 r0) 3 0 2 (m0 : Int)) c p j = zhD h c p j := fun c p j h1 h2 => by rw [zD_set, if_neg (fun z => h2 ⟨z.1, z.2.1⟩), hrw_D, if_neg h1]
  refine ⟨x1, by rw [D 3 1 0 (by decide) (by decide)]; exact x2, x3, x4, by rw [D 3 1 2 (by decide) (by decide)]; exact x5, x6, fun i hi => ?_⟩
  obtain ⟨G, g1, g2, b, g3, g4⟩ := x7 i hi
  exact ⟨G, by rw [D 26 1 i (by decide) (by decide)]; exact g1, g2, b, by rw [D 11 G 0 (by omega) (by omega)]; exact g3, g4⟩
theorem x_drop2 {m0 m1 bb : Nat} (x0 : UO h 0 m0) (x1 : UO h 1 m1) : ∃ (r0 r1 : Nat → Int) (k0 k1 : Nat) (s0 s1 : Nat → Nat), (∀ kr : Int → zH → Option ρ, Un_dropBlock 0 (bb : Int) h kr = kr 0 (zset (hrw h 26 0 r0) 3 0 2 (k0 : Int))) ∧ (∀ kr : Int → zH → Option ρ, Un_dropBlock 1 (bb : Int) (zset (hrw h 26 0 r0) 3 0 2 (k0 : Int)) kr = kr 0 (hD2 h r0 r1 k0 k1)) ∧ SEL (fun i => zhD h 11 (zhD h 26 0 i).toNat 0 ≠ (bb : Int)) m0 k0 s0 ∧ (∀ j, j < k0 → r0 j = zhD h 26 0 (s0 j)) ∧ SEL (fun i => zhD h 11 (zhD h 26 1 i).toNat 0 ≠ (bb : Int)) m1 k1 s1 ∧ (∀ j, j < k1 → r1 j = zhD h 26 1 (s1 j)) := by
  obtain ⟨r0, k0, s0, y1, y2, y3⟩ := x_dropBlock (ρ := ρ) (bb := bb) x0
  obtain ⟨r1, k1, s1, z1, z2, z3⟩ := x_dropBlock (ρ := ρ) (bb := bb) (x1.mv (r0 := r0) (m0 := k0))
  have D : ∀ c p j, ¬ (c = 26 ∧ p = 0) → ¬ (c = 3 ∧ p = 0) → zhD (zset (hrw h 26 0 r0) 3 0 2 (k0 : Int)) c p j = zhD h c p j := fun c p j h1 h2 => by rw [zD_set, if_neg (fun z => h2 ⟨z.1, z.2.1⟩), hrw_D, if_neg h1]
  refine ⟨r0, r1, k0, k1, s0, s1, y1, z1, y2, y3, z2.congr (fun i _ => ?_), fun j hj => ?_⟩
  · rw [D 26 1 i (by decide) (by decide), D 11 _ 0 (by omega) (by omega)]
  · rw [z3 j hj, D 26 1 _ (by decide) (by decide)]
theorem x_drop2L {m0 m1 bb : Nat} (x0 : UO h 0 m0) (x1 : UO h 1 m1) : ∃ (r0 r1 : Nat → Int) (k0 k1 : Nat) (s0 s1 : Nat → Nat), (∀ kr : Int → zH → Option ρ, Un_dropLaunch 0 (bb : Int) h kr = kr 0 (zset (hrw h 26 0 r0) 3 0 2 (k0 : Int))) ∧ (∀ kr : Int → zH → Option ρ, Un_dropLaunch 1 (bb : Int) (zset (hrw h 26 0 r0) 3 0 2 (k0 : Int)) kr = kr 0 (hD2 h r0 r1 k0 k1)) ∧ SEL (fun i => zhD h 10 (zhD h 11 (zhD h 26 0 i).toNat 0).toNat 0 ≠ (bb : Int)) m0 k0 s0 ∧ (∀ j, j < k0 → r0 j = zhD h 26 0 (s0 j)) ∧ SEL (fun i => zhD h 10 (zhD h 11 (zhD h 26 1 i).toNat 0).toNat 0 ≠ (bb : Int)) m1 k1 s1 ∧ (∀ j, j < k1 → r1 j = zhD h 26 1 (s1 j)) := by
  obtain ⟨r0, k0, s0, y1, y2, y3⟩ := x_dropLaunch (ρ := ρ) (bb := bb) x0
  obtain ⟨r1, k1, s1, z1, z2, z3⟩ := x_dropLaunch (ρ := ρ) (bb := bb) (x1.mv (r0 := r0) (m0 := k0))
  have D : ∀ c p j, ¬ (c = 26 ∧ p = 0) → ¬ (c = 3 ∧ p = 0) → zhD (zset (hrw h 26 0 r0) 3 0 2 (k0 : Int)) c p j = zhD h c p j := fun c p j h1 h2 => by rw [zD_set, if_neg (fun z => h2 ⟨z.1, z.2.1⟩), hrw_D, if_neg h1]
  refine ⟨r0, r1, k0, k1, s0, s1, y1, z1, y2, y3, z2.congr (fun i _ => ?_), fun j hj => ?_⟩
  · rw [D 26 1 i (by decide) (by decide), D 11 _ 0 (by omega) (by omega), D 10 _ 0 (by omega) (by omega)]
  · rw [z3 j hj, D 26 1 _ (by decide) (by decide)]
/-- a slot's block, in the class's words -/
theorem RR.slb (q : RR A h K L bc tc gc n B N M) {u i b : Nat} (hu : u < 2) (hi : i < (A 93 u).toNat) (hb : b < 72) (hin : A 87 b = 1) : (zhD h 11 (zhD h 26 u i).toNat 0 = (bc b : Int) ↔ A 94 (4 * u + i) = (b : Int)) ∧ (zhD h 10 (zhD h 11 (zhD h 26 u i).toNat 0).toNat 0 = (((A 94 (4 * u + i)).toNat / 6 : Nat) : Int)) := by
  obtain ⟨b', j, e1, e2, e3, e4, e5, e6, e7⟩ := (q.us u hu).2.1 i (by omega)
  obtain ⟨g1, g2, g3, -⟩ := q.gh.1 b' e2 e5 j e4
  obtain ⟨-, h2, -⟩ := q.bh.1 b' e2 e5
  rw [e7, Int.toNat_natCast, g3, Int.toNat_natCast, h2, e1, Int.toNat_natCast]
  refine ⟨⟨fun z => ?_, fun z => ?_⟩, rfl⟩
  · have := q.bh.2 b' b e2 hb e5 hin (Int.ofNat.inj z)
    rw [this]
  · have : b' = b := Int.ofNat.inj z
    rw [this]
/-- statuses marked -/
theorem rr_mark (q : RR A h K L bc tc gc n B N M) {s : Nat → Int} (m : MKS A L (A 69) s) (hd : ∀ l, s l ≠ A 69 l → l < L → A 79 l = A 72 l ∧ A 70 l ≠ -1) : RR (ard A 69 s) (hfd h 9 10 L s) K L bc tc gc n B N M := by
  have e : ∀ c, c ≠ 69 → ard A 69 s c = A c := fun c hc => ard_ne hc
  have D : ∀ c p j, ¬ (c = 9 ∧ j = 10) → zhD (hfd h 9 10 L s) c p j = zhD h c p j := fun c p j hc => by rw [hfd_D, if_neg (fun z => hc ⟨z.1, z.2.1⟩)]
  have fa : ∀ f : Nat → Nat → Bool, f 69 0 = false → (∀ j, f 69 j = f 69 0) → ∀ c j, f c j = true → ard A 69 s c j = A c j := fun f h1 h2 c j hz => by
    rw [e c (fun z => by subst z; rw [h2, h1] at hz; cases hz)]
  have fd : ∀ f : Nat → Nat → Bool, f 9 10 = false → ∀ c p j, f c j = true → zhD (hfd h 9 10 L s) c p j = zhD h c p j := fun f h1 c p j hz => D c p j (fun z => by rw [z.1, z.2, h1] at hz; cases hz)
  refine ⟨q.rs.fr (fd rsf rfl) rfl rfl, q.rd.fr (fd rdf rfl) rfl rfl, q.rk.fr (fa RKa rfl (fun _ => rfl)) (fd RKd rfl) rfl, q.rl.st (fun l hl => ?_), q.rm.fr (fa RMa rfl (fun _ => rfl)) (fd RMd rfl) rfl, ⟨fun l hl h1 h2 => ?_, by rw [e 12 (by decide)]; exact q.rc.2⟩, ⟨?_, fun b hb hin => ?_, fun l hl h1 h2 => ?_⟩, q.bh.fr (fa BHa rfl (fun _ => rfl)) (fd BHd rfl) rfl rfl, q.th.fr (fa THa rfl (fun _ => rfl)) (fd THd rfl) rfl rfl, q.td.fr (fa TDa rfl (fun _ => rfl)) (fd TDd rfl) rfl rfl, q.gh.fr (fa GHa rfl (fun _ => rfl)) (fd GHd rfl) rfl rfl, q.sh.fr (fa SHa rfl (fun _ => rfl)) (fd SHd rfl) rfl rfl, q.us.fr (fa USa rfl (fun _ => rfl)) (fd USd rfl) rfl rfl, q.ug.fr (fa UGa rfl (fun _ => rfl)) (fd UGd rfl) rfl rfl, q.ul.fr (fa ULa rfl (fun _ => rfl)) (fd ULd rfl) rfl rfl, q.su.fr (fa SUa rfl (fun _ => rfl)), q.ta.fr (fa TAa rfl (fun _ => rfl)), q.tb.fr (fa TBa rfl (fun _ => rfl)) (fd TBd rfl) rfl rfl, q.tl.fr (fa TLa rfl (fun _ => rfl)) (fd TLd rfl) rfl rfl, q.bd.fr (fa BDa rfl (fun _ => rfl)), q.rh.fr (fd RHd rfl) rfl rfl, q.iv.fr (fa IVa rfl (fun _ => rfl)), q.rn.fr (fa RNa rfl (fun _ => rfl)) rfl rfl⟩
  · rcases m.1 l with z | ⟨-, -, z⟩
    · exact Or.inl z
    · exact Or.inr ⟨by rw [z]; decide, by rw [z]; exact Or.inr (Or.inr (Or.inl rfl))⟩
  · rw [e 70 (by decide)] at h1
    rw [ard_same] at h2
    rw [e 82 (by decide), e 83 (by decide)]
    have e69 : s l = A 69 l := by
      rcases m.1 l with z | ⟨-, -, z⟩
      · exact z
      · exact absurd z h2
    exact q.rc.1 l hl h1 (by rw [← e69]; exact h2)
  · rw [e 87 (by decide)]
    exact q.bi.1
  · rw [e 87 (by decide)] at hin
    rw [e 70 (by decide), e 78 (by decide), e 88 (by decide), e 86 (by decide), ard_same]
    obtain ⟨y1, y2, y3, y4, y5, y6⟩ := q.bi.2.1 b hb hin
    refine ⟨y1, y2, y3, ?_, y5, y6⟩
    by_cases hz : s (b / 6) = A 69 (b / 6)
    · rw [hz]
      exact y4
    · exfalso
      obtain ⟨z1, z2⟩ := hd (b / 6) hz y1
      have h3 := q.bi.2.2 (b / 6) y1 y2 (by rw [y4]; decide)
      obtain ⟨-, -, -, -, -, -, -, -, -, -, -, r12, -⟩ := q.rl.l y1
      obtain ⟨-, -, -, -, -, -, -, -, r9, -⟩ := r12 y2
      have hL := q.rl.2.1
      have p := fun k : Nat => q.bi.1 (6 * (b / 6) + k)
      have p0 := p 0 (by omega)
      have p1 := p 1 (by omega)
      have p2 := p 2 (by omega)
      have p3 := p 3 (by omega)
      have p4 := p 4 (by omega)
      have p5 := p 5 (by omega)
      rw [Nat.add_zero] at p0
      rcases (show b = 6 * (b / 6) ∨ b = 6 * (b / 6) + 1 ∨ b = 6 * (b / 6) + 2 ∨ b = 6 * (b / 6) + 3 ∨ b = 6 * (b / 6) + 4 ∨ b = 6 * (b / 6) + 5 by omega) with w | w | w | w | w | w
      · rw [← w] at h3 p1 p2 p3 p4 p5
        omega
      all_goals (rw [← w] at h3; omega)
  · rw [e 70 (by decide)] at h1
    rw [ard_same] at h2
    rw [e 79 (by decide), e 87 (by decide), e 78 (by decide)]
    refine q.bi.2.2 l hl h1 (fun z => ?_)
    rcases m.1 l with y | ⟨-, y, -⟩
    · exact h2 (y.trans z)
    · rw [z] at y
      exact absurd y (by decide)
end
