/-! GROUPS: places, reasons; the model's side -/
theorem gex_f {p : Nat → Int} {v : Int} {k : Nat} (h : p k = v) : ∀ n, k < n → gex p n v = true
  | 0, hn => absurd hn (Nat.not_lt_zero _)
  | n + 1, hn => by
    unfold gex
    by_cases hk : k = n
    · subst hk
      rw [h, decide_eq_true rfl, Bool.or_true]
    · rw [gex_f h n (by omega), Bool.true_or]
theorem gex_stop {p : Nat → Int} {v : Int} {k : Nat} (h : ∀ j, k ≤ j → p j ≠ v) : ∀ d, gex p (k + d) v = gex p k v
  | 0 => rfl
  | d + 1 => by
    show (gex p (k + d) v || decide (p (k + d) = v)) = _
    rw [decide_eq_false (h _ (by omega)), Bool.or_false, gex_stop h d]
theorem gex_end {p : Nat → Int} {v : Int} {k : Nat} (hk : k ≤ 4) (h : ∀ j, k ≤ j → p j ≠ v) : gex p 4 v = gex p k v := by
  have := gex_stop h (4 - k)
  rw [← this]
  congr 1
  omega
def zct (p : Nat → Int) (n : Nat) : Nat → Int
  | 0 => 0
  | N + 1 => zct p n N + tb (gex p n (N : Int))
theorem zct_rng (p : Nat → Int) (n : Nat) : ∀ N : Nat, 0 ≤ zct p n N ∧ zct p n N ≤ N
  | 0 => ⟨Int.le_refl _, Int.le_refl _⟩
  | N + 1 => by
    have := zct_rng p n N
    unfold zct
    cases gex p n (N : Int) <;> simp only [tb_t, tb_f] <;> omega
theorem zct_0 (p : Nat → Int) : ∀ N, zct p 0 N = 0
  | 0 => rfl
  | N + 1 => by
    show zct p 0 N + tb false = 0
    rw [zct_0 p N, tb_f]
    rfl
theorem zct_s (p : Nat → Int) (n : Nat) : ∀ N : Nat, zct p (n + 1) N = zct p n N + (if 0 ≤ p n ∧ p n < (N : Int) ∧ gex p n (p n) = false then 1 else 0)
  | 0 => by
    rw [if_neg (fun z => by omega)]
    rfl
  | N + 1 => by
    have ih := zct_s p n N
    show zct p (n + 1) N + tb (gex p n (N : Int) || decide (p n = (N : Int))) = zct p n N + tb (gex p n (N : Int)) + _
    rw [ih]
    by_cases he : p n = (N : Int)
    · rw [he, decide_eq_true rfl, Bool.or_true, tb_t, if_neg (fun z => by omega)]
      cases hg : gex p n (N : Int) with
      | true =>
        rw [if_neg (fun z => by cases z.2.2), tb_t]
        omega
      | false =>
        rw [if_pos ⟨by omega, by omega, rfl⟩, tb_f]
    · rw [decide_eq_false he, Bool.or_false]
      by_cases hq : 0 ≤ p n ∧ p n < (N : Int) ∧ gex p n (p n) = false
      · rw [if_pos hq, if_pos ⟨hq.1, by omega, hq.2.2⟩]
        omega
      · rw [if_neg hq, if_neg (fun z => hq ⟨z.1, by omega, z.2.2⟩)]
        omega
theorem zct_gdf (p : Nat → Int) {N : Nat} : ∀ n, (∀ k, k < n → p k = -1 ∨ (0 ≤ p k ∧ p k < (N : Int))) → zct p n N = gdf p n
  | 0, _ => zct_0 p N
  | n + 1, h => by
    rw [zct_s, zct_gdf p n (fun k hk => h k (Nat.lt_succ_of_lt hk))]
    show _ = if p n ≠ -1 ∧ gex p n (p n) = false then gdf p n + 1 else gdf p n
    rcases h n (Nat.lt_succ_self _) with h1 | ⟨h1, h2⟩
    · rw [if_neg (fun z => by omega), if_neg (fun z => z.1 h1)]
      omega
    · cases hg : gex p n (p n) with
      | true => simp
      | false =>
        rw [if_pos ⟨h1, h2, rfl⟩, if_pos ⟨by omega, rfl⟩]
section
variable {ρ : Type} {h : zH} {A : zA} {kr : Int → zH → Option ρ} {kt : Nat → zH → Option ρ} {K L G : Nat}
theorem x_pl_loop (qd : RD h) (hG : GW h G) {c : Nat} (hc : c < 4) : ∀ n k : Nat, k ≤ c → 4 - k < n → gex (gpl h G) k (gpl h G c) = false → zit (fun _ _ _ _ => none) (Gr_isPlaceOfLower_2b kr) n (G : Int) (c : Int) (k : Int) h = kr (tb (gex (gpl h G) c (gpl h G c))) h
  | 0, k, _, hn, _ => absurd hn (Nat.not_lt_zero _)
  | n + 1, k, hk, hn, hb => by
    show Gr_isPlaceOfLower_2b kr (zit (fun _ _ _ _ => none) (Gr_isPlaceOfLower_2b kr) n) (G : Int) (c : Int) (k : Int) h = _
    have w1 : wr ((k : Int) + 1) = ((k + 1 : Nat) : Int) := by rw [wr_id (by omega) (by omega)]; rfl
    by_cases hkc : k < c
    · by_cases he : gpl h G k = gpl h G c
      · rw [gex_f he c hkc]
        unfold Gr_isPlaceOfLower_2b
        rw [if_pos (show (k : Int) < (c : Int) by omega), zob_n hG.1, x_placeIn qd hG (show k < 4 by omega), zob_n hG.1, x_placeIn qd hG hc, if_pos he, tb_t]
      · have ih := x_pl_loop qd hG hc n (k + 1) hkc (by omega) (by show (gex (gpl h G) k (gpl h G c) || decide (gpl h G k = gpl h G c)) = false; rw [hb, decide_eq_false he]; rfl)
        generalize zit (fun _ _ _ _ => none) (Gr_isPlaceOfLower_2b kr) n = r2 at ih ⊢
        unfold Gr_isPlaceOfLower_2b
        rw [if_pos (show (k : Int) < (c : Int) by omega), zob_n hG.1, x_placeIn qd hG (show k < 4 by omega), zob_n hG.1, x_placeIn qd hG hc, if_neg he, w1]
        exact ih
    · have : k = c := by omega
      subst this
      unfold Gr_isPlaceOfLower_2b
      rw [if_neg (show ¬ (k : Int) < (k : Int) by omega), hb, tb_f]
theorem x_isPlaceOfLower (qd : RD h) (hG : GW h G) {c : Nat} (hc : c < 4) : Gr_isPlaceOfLower (G : Int) (c : Int) h kr = kr (tb (gex (gpl h G) c (gpl h G c))) h := x_pl_loop qd hG hc zN 0 (Nat.zero_le _) (by show 4 - 0 < 5000; omega) rfl
theorem x_dp_loop (qd : RD h) (hG : GW h G) : ∀ n k : Nat, k ≤ 4 → 4 - k < n → zit (fun _ _ _ _ => none) (Gr_differentPlaces_4b kr) n (G : Int) (gdf (gpl h G) k) (k : Int) h = kr (gdf (gpl h G) 4) h
  | 0, k, _, hn => absurd hn (Nat.not_lt_zero _)
  | n + 1, k, hk, hn => by
    show Gr_differentPlaces_4b kr (zit (fun _ _ _ _ => none) (Gr_differentPlaces_4b kr) n) (G : Int) (gdf (gpl h G) k) (k : Int) h = _
    by_cases hk4 : k < 4
    · have ih := x_dp_loop qd hG n (k + 1) hk4 (by omega)
      have w1 : wr ((k : Int) + 1) = ((k + 1 : Nat) : Int) := by rw [wr_id (by omega) (by omega)]; rfl
      have hr := gdf_rng (gpl h G) k
      have w2 : wr (gdf (gpl h G) k + 1) = gdf (gpl h G) k + 1 := wr_id (by omega) (by omega)
      have e1 : gdf (gpl h G) (k + 1) = if gpl h G k ≠ -1 ∧ gex (gpl h G) k (gpl h G k) = false then gdf (gpl h G) k + 1 else gdf (gpl h G) k := rfl
      rw [e1] at ih
      generalize zit (fun _ _ _ _ => none) (Gr_differentPlaces_4b kr) n = r2 at ih ⊢
      unfold Gr_differentPlaces_4b Gr_differentPlaces_29
      rw [if_pos (show (k : Int) < 4 by omega), zob_n hG.1, x_placeIn qd hG hk4, zob_n hG.1, x_isPlaceOfLower qd hG hk4, w1]
      by_cases h1 : gpl h G k = -1
      · rw [if_pos h1]
        rw [if_neg (fun z => z.1 h1)] at ih
        exact ih
      · rw [if_neg h1]
        cases hg : gex (gpl h G) k (gpl h G k) with
        | true =>
          rw [if_neg (fun z => by rw [hg] at z; cases z.2)] at ih
          rw [tb_t, if_neg (by decide)]
          exact ih
        | false =>
          rw [if_pos ⟨h1, hg⟩] at ih
          rw [tb_f, if_pos rfl, w2]
          exact ih
    · have : k = 4 := by omega
      subst this
      unfold Gr_differentPlaces_4b
      rw [if_neg (by decide)]
theorem x_differentPlaces (qd : RD h) (hG : GW h G) : Gr_differentPlaces (G : Int) h kr = kr (gdf (gpl h G) 4) h := x_dp_loop qd hG zN 0 (by omega) (by show 4 - 0 < 5000; omega)
theorem x_whyIdle (qd : RD h) (hG : GW h G) {c : Int} : Gr_whyIdle (G : Int) c h kr = kr (if zlm (gpl h G) 4 = -1 then (if zal (gen h G) 4 = true then 101 else 98) else if c < zhD h 11 G 6 then 100 else 45) h := by
  have n1 : ∀ kk : Int → Option ρ, znar 2 101 kk = kk 101 := fun kk => znar_c (by decide)
  have n2 : ∀ kk : Int → Option ρ, znar 2 98 kk = kk 98 := fun kk => znar_c (by decide)
  have n3 : ∀ kk : Int → Option ρ, znar 2 100 kk = kk 100 := fun kk => znar_c (by decide)
  have n4 : ∀ kk : Int → Option ρ, znar 2 45 kk = kk 45 := fun kk => znar_c (by decide)
  unfold Gr_whyIdle Gr_whyIdle_22 Gr_whyIdle_38
  rw [zob_n hG.1, x_leastPlace qd hG]
  by_cases h1 : zlm (gpl h G) 4 = -1
  · rw [if_pos h1, if_pos h1, zob_n hG.1, x_hasEnded qd hG]
    cases zal (gen h G) 4
    · rw [tb_f, if_pos rfl, if_neg (by decide), n2]
    · rw [tb_t, if_neg (by decide), if_pos rfl, n1]
  · rw [if_neg h1, if_neg h1, zob_n hG.1]
    by_cases h2 : c < zhD h 11 G 6
    · rw [if_pos h2, if_pos h2, n3]
    · rw [if_neg h2, if_neg h2, n4]
theorem x_canAct (qd : RD h) (hG : GW h G) {c : Int} : Gr_canAct (G : Int) c h kr = kr (tb (decide (zlm (gpl h G) 4 ≠ -1 ∧ zhD h 11 G 6 ≤ c))) h := by
  unfold Gr_canAct Gr_canAct_20 Gr_canAct_21
  rw [zob_n hG.1, x_leastPlace qd hG]
  by_cases h1 : zlm (gpl h G) 4 = -1
  · rw [if_pos h1, znar_0, decide_eq_false (fun z => z.1 h1), tb_f]
  · rw [if_neg h1, zob_n hG.1]
    by_cases h2 : c < zhD h 11 G 6
    · rw [if_pos h2, znar_0, decide_eq_false (fun z => by omega), tb_f]
    · rw [if_neg h2, znar_1, decide_eq_true ⟨h1, by omega⟩, tb_t]
/-! the model -/
/-- a group of the model at an index of the rows -/
def MG (A : zA) (y b i : Nat) : Prop := y < 8 ∧ b < 72 ∧ i < 4 ∧ A 94 y = (b : Int) ∧ A 95 y = (i : Int) ∧ 0 ≤ A 73 (b / 6) ∧ A 73 (b / 6) ≤ 16
def mpl (A : zA) (b i k : Nat) : Int := if ((4 * i + k : Nat) : Int) < A 73 (b / 6) ∧ k < 4 then (if A 89 (16 * b + (4 * i + k)) = 114 then A 90 (16 * b + (4 * i + k)) else -1) else -1
def mmf (A : zA) (b i k : Nat) : Bool := decide (zlm (mpl A b i) 4 ≠ -1 ∧ mpl A b i k = zlm (mpl A b i) 4)
def men (A : zA) (b i k : Nat) : Bool := !(decide (((4 * i + k : Nat) : Int) < A 73 (b / 6) ∧ k < 4)) || decide (A 89 (16 * b + (4 * i + k)) = 101)
/-- the places of running threads are places -/
def MP (A : zA) (b i : Nat) : Prop := ∀ k : Nat, k < 4 → ((4 * i + k : Nat) : Int) < A 73 (b / 6) → A 89 (16 * b + (4 * i + k)) = 114 → 0 ≤ A 90 (16 * b + (4 * i + k)) ∧ A 90 (16 * b + (4 * i + k)) < 40
theorem m_threadCell {b t : Nat} (hb : b < 72) (ht : t < 16) : M_threadCell (b : Int) (t : Int) h kr = kr ((16 * b + t : Nat) : Int) h := by
  unfold M_threadCell
  rw [wr_id (x := 16 * (b : Int)) (by omega) (by omega), wr_id (by omega) (by omega)]
  rfl
theorem wtd6 {b : Nat} (hb : b < 72) : wr (Int.tdiv (b : Int) 6) = ((b / 6 : Nat) : Int) := by
  rw [Int.tdiv_eq_ediv_of_nonneg (by omega), wr_id (by omega) (by omega)]
  rfl
theorem wtm6 {b : Nat} : Int.tmod (b : Int) 6 = ((b % 6 : Nat) : Int) := by
  rw [Int.tmod_eq_emod_of_nonneg (by omega)]
  rfl
theorem mpl_out {b i k : Nat} (hk : ¬ (((4 * i + k : Nat) : Int) < A 73 (b / 6) ∧ k < 4)) : ∀ j, k ≤ j → mpl A b i j = -1 := fun j hj => if_neg (fun z => hk ⟨by omega, by omega⟩)
theorem men_out {b i k : Nat} (hk : ¬ (((4 * i + k : Nat) : Int) < A 73 (b / 6) ∧ k < 4)) : ∀ j, k ≤ j → men A b i j = true := fun j hj => by
  unfold men
  rw [decide_eq_false (fun z => hk ⟨by omega, by omega⟩)]
  rfl
theorem wi1 {i k : Nat} (hi : i < 4) (hk : k ≤ 4) : wr (((4 * i + k : Nat) : Int) + 1) = ((4 * i + (k + 1) : Nat) : Int) := by
  rw [wr_id (by omega) (by omega)]
  omega
theorem wk1 {k : Nat} (hk : k ≤ 4) : wr ((k : Int) + 1) = ((k + 1 : Nat) : Int) := by
  rw [wr_id (by omega) (by omega)]
  omega
theorem wi2 {i k : Nat} (hi : i < 4) (hk : k ≤ 4) : wr (wr (4 * (i : Int)) + (k : Int)) = ((4 * i + k : Nat) : Int) := by
  rw [wr_id (x := 4 * (i : Int)) (by omega) (by omega), wr_id (by omega) (by omega)]
  omega
theorem MG.w {y b i : Nat} (g : MG A y b i) : wr (wr (4 * (i : Int)) + 4) = ((4 * i + 4 : Nat) : Int) ∧ wr (4 * (i : Int)) = ((4 * i : Nat) : Int) := by
  obtain ⟨-, -, h3, -⟩ := g
  rw [wr_id (x := 4 * (i : Int)) (by omega) (by omega), wr_id (by omega) (by omega)]
  exact ⟨by omega, by omega⟩
theorem m_po_loop {y b i : Nat} (g : MG A y b i) (hp : MP A b i) : ∀ n k : Nat, k ≤ 4 → 4 - k < n → zit (fun _ _ _ _ _ => none) (M_placeOf_19b kr) n (y : Int) (b : Int) (zlm (mpl A b i) k) ((4 * i + k : Nat) : Int) (mh h A) = kr (zlm (mpl A b i) 4) (mh h A)
  | 0, k, _, hn => absurd hn (Nat.not_lt_zero _)
  | n + 1, k, hk, hn => by
    show M_placeOf_19b kr (zit (fun _ _ _ _ _ => none) (M_placeOf_19b kr) n) (y : Int) (b : Int) (zlm (mpl A b i) k) ((4 * i + k : Nat) : Int) (mh h A) = _
    obtain ⟨hy, hb, hi, e94, e95, t0, t16⟩ := id g
    by_cases hz : ((4 * i + k : Nat) : Int) < A 73 (b / 6) ∧ k < 4
    · obtain ⟨hz1, hz2⟩ := hz
      have ih := m_po_loop g hp n (k + 1) hz2 (by omega)
      have hx : 16 * b + (4 * i + k) < 1152 := by omega
      have e1 : zlm (mpl A b i) (k + 1) = if mpl A b i k ≠ -1 ∧ (zlm (mpl A b i) k = -1 ∨ mpl A b i k < zlm (mpl A b i) k) then mpl A b i k else zlm (mpl A b i) k := rfl
      have e2 : mpl A b i k = if A 89 (16 * b + (4 * i + k)) = 114 then A 90 (16 * b + (4 * i + k)) else -1 := if_pos ⟨hz1, hz2⟩
      have hp1 := hp k hz2 hz1
      rw [e1, e2] at ih
      generalize zit (fun _ _ _ _ _ => none) (M_placeOf_19b kr) n = r2 at ih ⊢
      unfold M_placeOf_19b M_placeOf_85 M_placeOf_95 M_placeOf_96
      rw [zix_n hy, mD95, e95, g.w.1, if_pos (show ((4 * i + k : Nat) : Int) < ((4 * i + 4 : Nat) : Int) by omega), wtd6 hb, zix_n (show b / 6 < 12 by omega), mD73, if_pos hz1, m_threadCell hb (show 4 * i + k < 16 by omega)]
      simp only [zix_n hx, mD89, mD90, wi1 hi hk]
      by_cases h1 : A 89 (16 * b + (4 * i + k)) = 114
      · have hp2 := hp1 h1
        rw [if_pos h1] at ih ⊢
        by_cases h2 : zlm (mpl A b i) k = -1
        · rw [if_pos h2]
          rw [if_pos ⟨by omega, Or.inl h2⟩] at ih
          exact ih
        · rw [if_neg h2]
          by_cases h3 : A 90 (16 * b + (4 * i + k)) < zlm (mpl A b i) k
          · rw [if_pos h3]
            rw [if_pos ⟨by omega, Or.inr h3⟩] at ih
            exact ih
          · rw [if_neg h3]
            rw [if_neg (fun z => by omega)] at ih
            exact ih
      · rw [if_neg h1] at ih ⊢
        rw [if_neg (fun z => z.1 rfl)] at ih
        exact ih
    · rw [zlm_end hk (mpl_out hz)]
      generalize zit (fun _ _ _ _ _ => none) (M_placeOf_19b kr) n = r2
      unfold M_placeOf_19b M_placeOf_103
      rw [zix_n hy, mD95, e95, g.w.1, wtd6 hb, zix_n (show b / 6 < 12 by omega), mD73]
      by_cases h4 : k < 4
      · rw [if_pos (show ((4 * i + k : Nat) : Int) < ((4 * i + 4 : Nat) : Int) by omega), if_neg (fun z => hz ⟨z, h4⟩)]
      · rw [if_neg (show ¬ ((4 * i + k : Nat) : Int) < ((4 * i + 4 : Nat) : Int) by omega)]
theorem m_placeOf {y b i : Nat} (g : MG A y b i) (hp : MP A b i) : M_placeOf (y : Int) (mh h A) kr = kr (zlm (mpl A b i) 4) (mh h A) := by
  obtain ⟨hy, hb, hi, e94, e95, t0, t16⟩ := id g
  unfold M_placeOf
  rw [zix_n hy, zix_n hy, mD94, mD95, e94, e95, g.w.2]
  exact m_po_loop g hp zN 0 (by omega) (by show 4 - 0 < 5000; omega)
theorem m_mo_loop {y b i : Nat} (g : MG A y b i) (hp : MP A b i) : ∀ n k : Nat, k ≤ 4 → 4 - k < n → zit (fun _ _ _ _ _ _ => none) (M_maskOf_19b kr) n (y : Int) (b : Int) (zlm (mpl A b i) 4) (zbs (mmf A b i) k) (k : Int) (mh h A) = kr (zbs (mmf A b i) 4) (mh h A)
  | 0, k, _, hn => absurd hn (Nat.not_lt_zero _)
  | n + 1, k, hk, hn => by
    show M_maskOf_19b kr (zit (fun _ _ _ _ _ _ => none) (M_maskOf_19b kr) n) (y : Int) (b : Int) (zlm (mpl A b i) 4) (zbs (mmf A b i) k) (k : Int) (mh h A) = _
    obtain ⟨hy, hb, hi, e94, e95, t0, t16⟩ := id g
    by_cases hz : ((4 * i + k : Nat) : Int) < A 73 (b / 6) ∧ k < 4
    · obtain ⟨hz1, hz2⟩ := hz
      have ih := m_mo_loop g hp n (k + 1) hz2 (by omega)
      have hx : 16 * b + (4 * i + k) < 1152 := by omega
      have e1 : zbs (mmf A b i) (k + 1) = if mmf A b i k = true then zor (zbs (mmf A b i) k) (zshl 1 (k : Int)) else zbs (mmf A b i) k := rfl
      have e2 : mpl A b i k = if A 89 (16 * b + (4 * i + k)) = 114 then A 90 (16 * b + (4 * i + k)) else -1 := if_pos ⟨hz1, hz2⟩
      have hp1 := hp k hz2 hz1
      have hzo : zor (zbs (mmf A b i) k) 0 = zbs (mmf A b i) k := zor_zbs hk
      have e3 : mmf A b i k = decide (zlm (mpl A b i) 4 ≠ -1 ∧ (if A 89 (16 * b + (4 * i + k)) = 114 then A 90 (16 * b + (4 * i + k)) else -1) = zlm (mpl A b i) 4) := by rw [← e2]; rfl
      rw [e1, e3] at ih
      have hno : zlm (mpl A b i) 4 = -1 → A 89 (16 * b + (4 * i + k)) ≠ 114 := fun z1 z2 => by
        have := zlm_none 4 z1 k hz2
        rw [e2, if_pos z2] at this
        have := hp1 z2
        omega
      generalize zit (fun _ _ _ _ _ _ => none) (M_maskOf_19b kr) n = r2 at ih ⊢
      unfold M_maskOf_19b M_maskOf_98 M_maskOf_99
      rw [if_pos (show (k : Int) < 4 by omega)]
      simp only [zix_n hy, mD95, e95, wi2 hi hk, wtd6 hb, zix_n (show b / 6 < 12 by omega), mD73]
      rw [if_pos hz1, m_threadCell hb (show 4 * i + k < 16 by omega)]
      simp only [zix_n hx, mD89, mD90, wk1 hk, hzo]
      by_cases h1 : A 89 (16 * b + (4 * i + k)) = 114
      · have hn1 : zlm (mpl A b i) 4 ≠ -1 := fun z => hno z h1
        rw [if_pos h1] at ih ⊢
        by_cases h2 : A 90 (16 * b + (4 * i + k)) = zlm (mpl A b i) 4
        · rw [if_pos h2]
          rw [if_pos (by simp [hn1, h2])] at ih
          exact ih
        · rw [if_neg h2]
          rw [if_neg (by simp [h2])] at ih
          exact ih
      · rw [if_neg h1] at ih ⊢
        rw [if_neg (by simp; omega)] at ih
        exact ih
    · have hout : ∀ j, k ≤ j → mmf A b i j = false := fun j hj => by
        unfold mmf
        rw [mpl_out hz j hj]
        exact decide_eq_false (fun z => z.1 z.2.symm)
      rw [zbs_end hk hout]
      generalize zit (fun _ _ _ _ _ _ => none) (M_maskOf_19b kr) n = r2
      unfold M_maskOf_19b M_maskOf_108
      simp only [zix_n hy, mD95, e95, wi2 hi hk, wtd6 hb, zix_n (show b / 6 < 12 by omega), mD73]
      by_cases h4 : k < 4
      · rw [if_pos (show (k : Int) < 4 by omega), if_neg (fun z => hz ⟨z, h4⟩)]
      · rw [if_neg (show ¬ (k : Int) < 4 by omega)]
theorem m_maskOf {y b i : Nat} (g : MG A y b i) (hp : MP A b i) : M_maskOf (y : Int) (mh h A) kr = kr (zbs (mmf A b i) 4) (mh h A) := by
  obtain ⟨hy, hb, hi, e94, e95, t0, t16⟩ := id g
  unfold M_maskOf
  rw [zix_n hy, mD94, e94, m_placeOf g hp]
  exact m_mo_loop g hp zN 0 (by omega) (by show 4 - 0 < 5000; omega)
theorem m_he_loop {y b i : Nat} (g : MG A y b i) : ∀ n k : Nat, k ≤ 4 → 4 - k < n → zit (fun _ _ _ _ _ => none) (M_hasEnded_19b kr) n (y : Int) (b : Int) (tb (zal (men A b i) k)) ((4 * i + k : Nat) : Int) (mh h A) = kr (tb (zal (men A b i) 4)) (mh h A)
  | 0, k, _, hn => absurd hn (Nat.not_lt_zero _)
  | n + 1, k, hk, hn => by
    show M_hasEnded_19b kr (zit (fun _ _ _ _ _ => none) (M_hasEnded_19b kr) n) (y : Int) (b : Int) (tb (zal (men A b i) k)) ((4 * i + k : Nat) : Int) (mh h A) = _
    obtain ⟨hy, hb, hi, e94, e95, t0, t16⟩ := id g
    by_cases hz : ((4 * i + k : Nat) : Int) < A 73 (b / 6) ∧ k < 4
    · obtain ⟨hz1, hz2⟩ := hz
      have ih := m_he_loop g n (k + 1) hz2 (by omega)
      have hx : 16 * b + (4 * i + k) < 1152 := by omega
      have e1 : zal (men A b i) (k + 1) = (zal (men A b i) k && men A b i k) := rfl
      have e2 : men A b i k = decide (A 89 (16 * b + (4 * i + k)) = 101) := by
        unfold men
        rw [decide_eq_true ⟨hz1, hz2⟩]
        rfl
      rw [e1, e2] at ih
      generalize zit (fun _ _ _ _ _ => none) (M_hasEnded_19b kr) n = r2 at ih ⊢
      unfold M_hasEnded_19b M_hasEnded_73 M_hasEnded_74
      rw [zix_n hy, mD95, e95, g.w.1, if_pos (show ((4 * i + k : Nat) : Int) < ((4 * i + 4 : Nat) : Int) by omega), wtd6 hb, zix_n (show b / 6 < 12 by omega), mD73, if_pos hz1, m_threadCell hb (show 4 * i + k < 16 by omega)]
      simp only [zix_n hx, mD89, wi1 hi hk]
      cases hs : zal (men A b i) k with
      | false =>
        rw [hs, Bool.false_and] at ih
        rw [tb_f, if_pos rfl]
        exact ih
      | true =>
        rw [hs, Bool.true_and] at ih
        rw [tb_t, if_neg (by decide)]
        by_cases h1 : A 89 (16 * b + (4 * i + k)) = 101
        · rw [if_pos h1]
          rw [decide_eq_true h1] at ih
          exact ih
        · rw [if_neg h1]
          rw [decide_eq_false h1] at ih
          exact ih
    · rw [zal_end hk (men_out hz)]
      generalize zit (fun _ _ _ _ _ => none) (M_hasEnded_19b kr) n = r2
      unfold M_hasEnded_19b M_hasEnded_81
      rw [zix_n hy, mD95, e95, g.w.1, wtd6 hb, zix_n (show b / 6 < 12 by omega), mD73, znar_tb]
      by_cases h4 : k < 4
      · rw [if_pos (show ((4 * i + k : Nat) : Int) < ((4 * i + 4 : Nat) : Int) by omega), if_neg (fun z => hz ⟨z, h4⟩)]
      · rw [if_neg (show ¬ ((4 * i + k : Nat) : Int) < ((4 * i + 4 : Nat) : Int) by omega)]
theorem m_hasEnded {y b i : Nat} (g : MG A y b i) : M_hasEnded (y : Int) (mh h A) kr = kr (tb (zal (men A b i) 4)) (mh h A) := by
  obtain ⟨hy, hb, hi, e94, e95, t0, t16⟩ := id g
  unfold M_hasEnded
  rw [zix_n hy, zix_n hy, mD94, mD95, e94, e95, g.w.2]
  exact m_he_loop g zN 0 (by omega) (by show 4 - 0 < 5000; omega)
theorem m_canGo {y b i : Nat} (g : MG A y b i) (hp : MP A b i) : M_canGo (y : Int) (mh h A) kr = kr (tb (decide (zlm (mpl A b i) 4 ≠ -1 ∧ A 96 y ≤ A 12 1))) (mh h A) := by
  unfold M_canGo M_canGo_26 M_canGo_27
  rw [m_placeOf g hp, zix_n g.1, mD12, mD96]
  by_cases h1 : zlm (mpl A b i) 4 = -1
  · rw [if_pos h1, znar_0, decide_eq_false (fun z => z.1 h1), tb_f]
  · rw [if_neg h1]
    by_cases h2 : A 12 1 < A 96 y
    · rw [if_pos h2, znar_0, decide_eq_false (fun z => by omega), tb_f]
    · rw [if_neg h2, znar_1, decide_eq_true ⟨h1, by omega⟩, tb_t]
end
