/-! GROUPS: what is asked of them -/
def zlm (p : Nat → Int) : Nat → Int
  | 0 => -1
  | n + 1 => if p n ≠ -1 ∧ (zlm p n = -1 ∨ p n < zlm p n) then p n else zlm p n
theorem zlm_stop {p : Nat → Int} {k : Nat} (h : ∀ j, k ≤ j → p j = -1) : ∀ d, zlm p (k + d) = zlm p k
  | 0 => rfl
  | d + 1 => by
    show (if p (k + d) ≠ -1 ∧ (zlm p (k + d) = -1 ∨ p (k + d) < zlm p (k + d)) then p (k + d) else zlm p (k + d)) = _
    rw [if_neg (fun z => z.1 (h _ (by omega))), zlm_stop h d]
theorem zlm_end {p : Nat → Int} {k : Nat} (hk : k ≤ 4) (h : ∀ j, k ≤ j → p j = -1) : zlm p 4 = zlm p k := by
  have := zlm_stop h (4 - k)
  rw [← this]
  congr 1
  omega
theorem zlm_congr {p q : Nat → Int} : ∀ n, (∀ k, k < n → p k = q k) → zlm p n = zlm q n
  | 0, _ => rfl
  | n + 1, h => by
    unfold zlm
    rw [h n (Nat.lt_succ_self _), zlm_congr n (fun k hk => h k (Nat.lt_succ_of_lt hk))]
/-- the least place is one of them -/
theorem zlm_or {p : Nat → Int} : ∀ n, zlm p n = -1 ∨ ∃ k, k < n ∧ zlm p n = p k
  | 0 => Or.inl rfl
  | n + 1 => by
    unfold zlm
    by_cases hz : p n ≠ -1 ∧ (zlm p n = -1 ∨ p n < zlm p n)
    · rw [if_pos hz]
      exact Or.inr ⟨n, Nat.lt_succ_self _, rfl⟩
    · rw [if_neg hz]
      rcases zlm_or (p := p) n with h | ⟨k, hk, h⟩
      · exact Or.inl h
      · exact Or.inr ⟨k, Nat.lt_succ_of_lt hk, h⟩
theorem zlm_none {p : Nat → Int} : ∀ n, zlm p n = -1 → ∀ k, k < n → p k = -1
  | 0, _, k, hk => absurd hk (Nat.not_lt_zero _)
  | n + 1, h, k, hk => by
    unfold zlm at h
    by_cases hz : p n ≠ -1 ∧ (zlm p n = -1 ∨ p n < zlm p n)
    · rw [if_pos hz] at h
      exact absurd h hz.1
    · rw [if_neg hz] at h
      by_cases hkn : k = n
      · subst hkn
        by_cases hp : p k = -1
        · exact hp
        · exact absurd ⟨hp, Or.inl h⟩ hz
      · exact zlm_none n h k (by omega)
/-- bits of lanes -/
def zbs (f : Nat → Bool) : Nat → Int
  | 0 => 0
  | n + 1 => if f n = true then zor (zbs f n) (zshl 1 n) else zbs f n
theorem zbs_congr {f g : Nat → Bool} : ∀ n, (∀ k, k < n → f k = g k) → zbs f n = zbs g n
  | 0, _ => rfl
  | n + 1, h => by
    unfold zbs
    rw [h n (Nat.lt_succ_self _), zbs_congr n (fun k hk => h k (Nat.lt_succ_of_lt hk))]
theorem zbs_stop {f : Nat → Bool} {k : Nat} (h : ∀ j, k ≤ j → f j = false) : ∀ d, zbs f (k + d) = zbs f k
  | 0 => rfl
  | d + 1 => by
    show (if f (k + d) = true then _ else zbs f (k + d)) = _
    rw [h _ (by omega), if_neg (by decide), zbs_stop h d]
theorem zbs_end {f : Nat → Bool} {k : Nat} (hk : k ≤ 4) (h : ∀ j, k ≤ j → f j = false) : zbs f 4 = zbs f k := by
  have := zbs_stop h (4 - k)
  rw [← this]
  congr 1
  omega
def zb4 (a b c d : Bool) : Int := (bif a then 1 else 0) + (bif b then 2 else 0) + (bif c then 4 else 0) + (bif d then 8 else 0)
set_option maxRecDepth 10000 in
theorem zbs_4 (f : Nat → Bool) : zbs f 1 = zb4 (f 0) false false false ∧ zbs f 2 = zb4 (f 0) (f 1) false false ∧ zbs f 3 = zb4 (f 0) (f 1) (f 2) false ∧ zbs f 4 = zb4 (f 0) (f 1) (f 2) (f 3) := by
  have h0 : zbs f 0 = 0 := rfl
  have h1 : zbs f 1 = if f 0 = true then zor (zbs f 0) (zshl 1 0) else zbs f 0 := rfl
  have h2 : zbs f 2 = if f 1 = true then zor (zbs f 1) (zshl 1 1) else zbs f 1 := rfl
  have h3 : zbs f 3 = if f 2 = true then zor (zbs f 2) (zshl 1 2) else zbs f 2 := rfl
  have h4 : zbs f 4 = if f 3 = true then zor (zbs f 3) (zshl 1 3) else zbs f 3 := rfl
  rw [h4, h3, h2, h1, h0]
  generalize f 0 = a
  generalize f 1 = b
  generalize f 2 = c
  generalize f 3 = d
  revert a b c d
  decide +kernel
theorem zb4_bit : ∀ a b c d : Bool, zand (zshr (zb4 a b c d) 0) 1 = tb a ∧ zand (zshr (zb4 a b c d) 1) 1 = tb b ∧ zand (zshr (zb4 a b c d) 2) 1 = tb c ∧ zand (zshr (zb4 a b c d) 3) 1 = tb d := by decide +kernel
theorem zbs_bit {f : Nat → Bool} {k : Nat} (hk : k < 4) : zand (zshr (zbs f 4) (k : Int)) 1 = tb (f k) := by
  rw [(zbs_4 f).2.2.2]
  obtain ⟨h0, h1, h2, h3⟩ := zb4_bit (f 0) (f 1) (f 2) (f 3)
  rcases (show k = 0 ∨ k = 1 ∨ k = 2 ∨ k = 3 by omega) with rfl | rfl | rfl | rfl
  · exact h0
  · exact h1
  · exact h2
  · exact h3
theorem zor_0b : ∀ a b c d : Bool, zor (zb4 a b c d) 0 = zb4 a b c d := by decide +kernel
theorem zor_zbs {f : Nat → Bool} {k : Nat} (hk : k ≤ 4) : zor (zbs f k) 0 = zbs f k := by
  obtain ⟨h1, h2, h3, h4⟩ := zbs_4 f
  rcases (show k = 0 ∨ k = 1 ∨ k = 2 ∨ k = 3 ∨ k = 4 by omega) with rfl | rfl | rfl | rfl | rfl
  · show zor 0 0 = 0
    decide +kernel
  · rw [h1]
    exact zor_0b _ _ _ _
  · rw [h2]
    exact zor_0b _ _ _ _
  · rw [h3]
    exact zor_0b _ _ _ _
  · rw [h4]
    exact zor_0b _ _ _ _
/-! the class -/
/-- a group's own threads are there -/
def GW (h : zH) (G : Nat) : Prop := G < zhN h 11 ∧ ∀ k : Nat, k < 4 → zhD h 42 G k = -1 ∨ ∃ T : Nat, zhD h 42 G k = (T : Int) ∧ T < zhN h 6
def gpl (h : zH) (G k : Nat) : Int := if zhD h 42 G k < 0 then -1 else if zhD h 6 (zhD h 42 G k).toNat 4 = 114 then zhD h 6 (zhD h 42 G k).toNat 3 else -1
def gmf (h : zH) (G k : Nat) : Bool := decide (zlm (gpl h G) 4 ≠ -1 ∧ gpl h G k = zlm (gpl h G) 4)
/-- all of the first lanes have ended -/
def gen (h : zH) (G : Nat) (k : Nat) : Bool := decide (zhD h 42 G k < 0) || decide (zhD h 6 (zhD h 42 G k).toNat 4 = 101)
def gex (p : Nat → Int) : Nat → Int → Bool
  | 0, _ => false
  | n + 1, v => gex p n v || decide (p n = v)
def gdf (p : Nat → Int) : Nat → Int
  | 0 => 0
  | n + 1 => if p n ≠ -1 ∧ gex p n (p n) = false then gdf p n + 1 else gdf p n
theorem gdf_rng (p : Nat → Int) : ∀ n : Nat, 0 ≤ gdf p n ∧ gdf p n ≤ n
  | 0 => ⟨Int.le_refl _, Int.le_refl _⟩
  | n + 1 => by
    have := gdf_rng p n
    unfold gdf
    split <;> omega
def zal (f : Nat → Bool) : Nat → Bool
  | 0 => true
  | n + 1 => zal f n && f n
theorem zal_f {f : Nat → Bool} {k : Nat} (h : f k = false) : ∀ n, k < n → zal f n = false
  | 0, hn => absurd hn (Nat.not_lt_zero _)
  | n + 1, hn => by
    show (zal f n && f n) = false
    by_cases hk : k = n
    · subst hk
      rw [h, Bool.and_false]
    · rw [zal_f h n (by omega), Bool.false_and]
theorem zal_congr {f g : Nat → Bool} : ∀ n, (∀ k, k < n → f k = g k) → zal f n = zal g n
  | 0, _ => rfl
  | n + 1, h => by
    unfold zal
    rw [h n (Nat.lt_succ_self _), zal_congr n (fun k hk => h k (Nat.lt_succ_of_lt hk))]
theorem zal_stop {f : Nat → Bool} {k : Nat} (h : ∀ j, k ≤ j → f j = true) : ∀ d, zal f (k + d) = zal f k
  | 0 => rfl
  | d + 1 => by
    show (zal f (k + d) && f (k + d)) = _
    rw [h _ (by omega), Bool.and_true, zal_stop h d]
theorem zal_end {f : Nat → Bool} {k : Nat} (hk : k ≤ 4) (h : ∀ j, k ≤ j → f j = true) : zal f 4 = zal f k := by
  have := zal_stop h (4 - k)
  rw [← this]
  congr 1
  omega
theorem zal_t {f : Nat → Bool} : ∀ n, zal f n = true → ∀ k, k < n → f k = true
  | 0, _, k, hk => absurd hk (Nat.not_lt_zero _)
  | n + 1, h, k, hk => by
    obtain ⟨h1, h2⟩ := zand_t h
    by_cases hkn : k = n
    · rw [hkn]
      exact h2
    · exact zal_t n h1 k (by omega)
theorem zal_i {f : Nat → Bool} : ∀ n, (∀ k, k < n → f k = true) → zal f n = true
  | 0, _ => rfl
  | n + 1, h => by
    unfold zal
    rw [h n (Nat.lt_succ_self _), zal_i n (fun k hk => h k (Nat.lt_succ_of_lt hk))]
    rfl
section
variable {ρ : Type} {h : zH} {A : zA} {kr : Int → zH → Option ρ} {kt : Nat → zH → Option ρ} {K L G : Nat}
theorem x_isRunning {T : Nat} (hT : T < zhN h 6) : Th_isRunning (T : Int) h kr = kr (tb (decide (zhD h 6 T 4 = 114))) h := by
  unfold Th_isRunning Th_isRunning_14
  by_cases hz : zhD h 6 T 4 = 114 <;> simp [zob_n hT, hz, znar_0, znar_1, tb]
theorem x_isWaiting {T : Nat} (hT : T < zhN h 6) : Th_isWaiting (T : Int) h kr = kr (tb (decide (zhD h 6 T 4 = 119))) h := by
  unfold Th_isWaiting Th_isWaiting_14
  by_cases hz : zhD h 6 T 4 = 119 <;> simp [zob_n hT, hz, znar_0, znar_1, tb]
theorem x_isEnded {T : Nat} (hT : T < zhN h 6) : Th_isEnded (T : Int) h kr = kr (tb (decide (zhD h 6 T 4 = 101))) h := by
  unfold Th_isEnded Th_isEnded_14
  by_cases hz : zhD h 6 T 4 = 101 <;> simp [zob_n hT, hz, znar_0, znar_1, tb]
theorem x_threadIn (qd : RD h) (hG : GW h G) {k : Int} : Gr_threadIn (G : Int) k h kr = kr (if zwi k 0 3 = true then zhD h 42 G k.toNat else -1) h := by
  obtain ⟨c1, -, -, c4⟩ := qd.2.2.2.2
  obtain ⟨e1, -, -, e4, -⟩ := c4 G hG.1
  unfold Gr_threadIn Gr_threadIn_18 Gr_threadIn_19
  cases hz : zwi k 0 3 with
  | true =>
    obtain ⟨h1, h2⟩ := zwi_t hz
    have z1 : ∀ kk : Nat → Option ρ, zix 4 k kk = kk k.toNat := fun kk => zix_i (by omega) (by omega)
    simp [show ¬ k < 0 by omega, show k < 4 by omega, zob_n hG.1, e1, zob_n (show G < zhN h 42 by rw [c1]; exact hG.1), e4, z1]
  | false =>
    rcases zwi_f hz with h1 | h1
    · simp [h1]
    · simp [show ¬ k < 4 by omega]
theorem x_threadIn_n (qd : RD h) (hG : GW h G) {k : Nat} (hk : k < 4) : Gr_threadIn (G : Int) (k : Int) h kr = kr (zhD h 42 G k) h := by
  have hz : zwi (k : Int) 0 3 = true := by
    unfold zwi
    simp
    omega
  rw [x_threadIn qd hG, if_pos hz]
  rfl
theorem x_placeIn (qd : RD h) (hG : GW h G) {k : Nat} (hk : k < 4) : Gr_placeIn (G : Int) (k : Int) h kr = kr (gpl h G k) h := by
  unfold Gr_placeIn Gr_placeIn_24 Gr_placeIn_25 gpl
  simp only [zob_n hG.1, x_threadIn_n qd hG hk]
  rcases hG.2 k hk with h1 | ⟨T, h1, h2⟩
  · simp [h1]
  · simp only [h1, Int.toNat_natCast]
    rw [if_neg (by omega), if_neg (by omega), zob_n h2, x_isRunning h2]
    by_cases hz : zhD h 6 T 4 = 114 <;> simp [hz, tb, zob_n h2]
theorem x_lp_loop (qd : RD h) (hG : GW h G) : ∀ n k : Nat, k ≤ 4 → 4 - k < n → zit (fun _ _ _ _ => none) (Gr_leastPlace_4b kr) n (G : Int) (zlm (gpl h G) k) (k : Int) h = kr (zlm (gpl h G) 4) h
  | 0, k, _, hn => absurd hn (Nat.not_lt_zero _)
  | n + 1, k, hk, hn => by
    show Gr_leastPlace_4b kr (zit (fun _ _ _ _ => none) (Gr_leastPlace_4b kr) n) (G : Int) (zlm (gpl h G) k) (k : Int) h = _
    by_cases hk4 : k < 4
    · have ih := x_lp_loop qd hG n (k + 1) hk4 (by omega)
      have w1 : wr ((k : Int) + 1) = ((k + 1 : Nat) : Int) := by rw [wr_id (by omega) (by omega)]; rfl
      have e1 : zlm (gpl h G) (k + 1) = if gpl h G k ≠ -1 ∧ (zlm (gpl h G) k = -1 ∨ gpl h G k < zlm (gpl h G) k) then gpl h G k else zlm (gpl h G) k := rfl
      rw [e1] at ih
      generalize zit (fun _ _ _ _ => none) (Gr_leastPlace_4b kr) n = r2 at ih ⊢
      unfold Gr_leastPlace_4b Gr_leastPlace_30 Gr_leastPlace_32
      rw [if_pos (show (k : Int) < 4 by omega), zob_n hG.1, x_placeIn qd hG hk4, w1]
      generalize gpl h G k = a at ih ⊢
      generalize zlm (gpl h G) k = b at ih ⊢
      by_cases h1 : a = -1
      · rw [if_pos h1]
        rw [if_neg (fun z => z.1 h1)] at ih
        exact ih
      · rw [if_neg h1]
        by_cases h2 : b = -1
        · rw [if_pos h2]
          rw [if_pos ⟨h1, Or.inl h2⟩] at ih
          exact ih
        · rw [if_neg h2]
          by_cases h3 : a < b
          · rw [if_pos h3]
            rw [if_pos ⟨h1, Or.inr h3⟩] at ih
            exact ih
          · rw [if_neg h3]
            rw [if_neg (fun z => by omega)] at ih
            exact ih
    · have : k = 4 := by omega
      subst this
      unfold Gr_leastPlace_4b
      rw [if_neg (by decide)]
theorem x_leastPlace (qd : RD h) (hG : GW h G) : Gr_leastPlace (G : Int) h kr = kr (zlm (gpl h G) 4) h := x_lp_loop qd hG zN 0 (by omega) (by show 4 - 0 < 5000; omega)
theorem x_lm_loop (qd : RD h) (hG : GW h G) : ∀ n k : Nat, k ≤ 4 → 4 - k < n → zit (fun _ _ _ _ _ => none) (Gr_lanesUnderMask_9b kr) n (G : Int) (zlm (gpl h G) 4) (zbs (gmf h G) k) (k : Int) h = kr (zbs (gmf h G) 4) h
  | 0, k, _, hn => absurd hn (Nat.not_lt_zero _)
  | n + 1, k, hk, hn => by
    show Gr_lanesUnderMask_9b kr (zit (fun _ _ _ _ _ => none) (Gr_lanesUnderMask_9b kr) n) (G : Int) (zlm (gpl h G) 4) (zbs (gmf h G) k) (k : Int) h = _
    by_cases hk4 : k < 4
    · have ih := x_lm_loop qd hG n (k + 1) hk4 (by omega)
      have w1 : wr ((k : Int) + 1) = ((k + 1 : Nat) : Int) := by rw [wr_id (by omega) (by omega)]; rfl
      have e1 : zbs (gmf h G) (k + 1) = if gmf h G k = true then zor (zbs (gmf h G) k) (zshl 1 (k : Int)) else zbs (gmf h G) k := rfl
      rw [e1] at ih
      have e2 : gmf h G k = decide (zlm (gpl h G) 4 ≠ -1 ∧ gpl h G k = zlm (gpl h G) 4) := rfl
      rw [e2] at ih
      generalize zit (fun _ _ _ _ _ => none) (Gr_lanesUnderMask_9b kr) n = r2 at ih ⊢
      unfold Gr_lanesUnderMask_9b Gr_lanesUnderMask_34
      rw [if_pos (show (k : Int) < 4 by omega), zob_n hG.1, x_placeIn qd hG hk4, w1]
      generalize gpl h G k = a at ih ⊢
      generalize zlm (gpl h G) 4 = b at ih ⊢
      by_cases h1 : b = -1
      · rw [if_pos h1]
        rw [if_neg (by simp [h1])] at ih
        exact ih
      · rw [if_neg h1]
        by_cases h2 : a = b
        · rw [if_pos h2]
          rw [if_pos (by simp [h1, h2])] at ih
          exact ih
        · rw [if_neg h2]
          rw [if_neg (by simp [h2])] at ih
          exact ih
    · have : k = 4 := by omega
      subst this
      unfold Gr_lanesUnderMask_9b
      rw [if_neg (by decide)]
theorem x_lanesUnderMask (qd : RD h) (hG : GW h G) : Gr_lanesUnderMask (G : Int) h kr = kr (zbs (gmf h G) 4) h := by
  unfold Gr_lanesUnderMask
  rw [zob_n hG.1, x_leastPlace qd hG]
  exact x_lm_loop qd hG zN 0 (by omega) (by show 4 - 0 < 5000; omega)
theorem x_he_loop (qd : RD h) (hG : GW h G) : ∀ n k : Nat, k ≤ 4 → 4 - k < n → zal (gen h G) k = true → zit (fun _ _ _ => none) (Gr_hasEnded_2b kr) n (G : Int) (k : Int) h = kr (tb (zal (gen h G) 4)) h
  | 0, k, _, hn, _ => absurd hn (Nat.not_lt_zero _)
  | n + 1, k, hk, hn, hb => by
    show Gr_hasEnded_2b kr (zit (fun _ _ _ => none) (Gr_hasEnded_2b kr) n) (G : Int) (k : Int) h = _
    by_cases hk4 : k < 4
    · have w1 : wr ((k : Int) + 1) = ((k + 1 : Nat) : Int) := by rw [wr_id (by omega) (by omega)]; rfl
      cases hg : gen h G k with
      | true =>
        have ih := x_he_loop qd hG n (k + 1) hk4 (by omega) (by show (zal (gen h G) k && gen h G k) = true; rw [hb, hg]; rfl)
        generalize zit (fun _ _ _ => none) (Gr_hasEnded_2b kr) n = r2 at ih ⊢
        unfold Gr_hasEnded_2b Gr_hasEnded_26
        unfold gen at hg
        rw [if_pos (show (k : Int) < 4 by omega), zob_n hG.1, x_threadIn_n qd hG hk4, w1]
        rcases hG.2 k hk4 with h1 | ⟨T, h1, h2⟩
        · rw [h1, if_pos (by decide)]
          exact ih
        · rw [h1, Int.toNat_natCast] at hg
          rw [h1, if_neg (by omega), zob_n h2, x_isEnded h2]
          rw [decide_eq_false (show ¬ (T : Int) < 0 by omega), Bool.false_or] at hg
          rw [hg, tb_t, if_neg (by decide)]
          exact ih
      | false =>
        rw [zal_f hg 4 hk4]
        generalize zit (fun _ _ _ => none) (Gr_hasEnded_2b kr) n = r2
        unfold Gr_hasEnded_2b
        unfold gen at hg
        rw [if_pos (show (k : Int) < 4 by omega), zob_n hG.1, x_threadIn_n qd hG hk4]
        rcases hG.2 k hk4 with h1 | ⟨T, h1, h2⟩
        · rw [h1] at hg
          cases hg
        · rw [h1, Int.toNat_natCast] at hg
          rw [h1, if_neg (by omega), zob_n h2, x_isEnded h2]
          rw [decide_eq_false (show ¬ (T : Int) < 0 by omega), Bool.false_or] at hg
          rw [hg, tb_f, if_pos rfl]
    · have : k = 4 := by omega
      subst this
      unfold Gr_hasEnded_2b
      rw [if_neg (by decide), hb, tb_t]
theorem x_hasEnded (qd : RD h) (hG : GW h G) : Gr_hasEnded (G : Int) h kr = kr (tb (zal (gen h G) 4)) h := x_he_loop qd hG zN 0 (by omega) (by show 4 - 0 < 5000; omega) rfl
end
