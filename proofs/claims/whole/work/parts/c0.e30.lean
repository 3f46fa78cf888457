/-! PLACES -/
section
variable {ρ : Type} {h : zH} {A B : zA} {kr : Int → zH → Option ρ} {kt : Nat → zH → Option ρ} {K L n : Nat} {bc tc gc : Nat → Nat} {N M : Int}
theorem m_p53_loop {r33 : Int → Int → Int → zH → Option ρ} {y b i w : Nat} {cnt : Int} (g : MG A y b i) (hc : 0 ≤ cnt ∧ cnt ≤ 40) (hw : w < 40) : ∀ n k : Nat, k ≤ 4 → 4 - k < n → zit (fun _ _ _ _ _ _ => none) (M_places_53b kr r33) n (y : Int) cnt (w : Int) (tb (gex (mpl A b i) k (w : Int))) ((4 * i + k : Nat) : Int) (mh h A) = r33 (y : Int) (cnt + tb (gex (mpl A b i) 4 (w : Int))) ((w + 1 : Nat) : Int) (mh h A)
  | 0, k, _, hn => absurd hn (Nat.not_lt_zero _)
  | n + 1, k, hk, hn => by
    show M_places_53b kr r33 (zit (fun _ _ _ _ _ _ => none) (M_places_53b kr r33) n) (y : Int) cnt (w : Int) (tb (gex (mpl A b i) k (w : Int))) ((4 * i + k : Nat) : Int) (mh h A) = _
    obtain ⟨hy, hb, hi, e94, e95, t0, t16⟩ := id g
    by_cases hz : ((4 * i + k : Nat) : Int) < A 73 (b / 6) ∧ k < 4
    · obtain ⟨hz1, hz2⟩ := hz
      have ih := m_p53_loop (r33 := r33) (cnt := cnt) g hc hw n (k + 1) hz2 (by omega)
      have hx : 16 * b + (4 * i + k) < 1152 := by omega
      have e1 : gex (mpl A b i) (k + 1) (w : Int) = (gex (mpl A b i) k (w : Int) || decide (mpl A b i k = (w : Int))) := rfl
      have e2 : mpl A b i k = if A 89 (16 * b + (4 * i + k)) = 114 then A 90 (16 * b + (4 * i + k)) else -1 := if_pos ⟨hz1, hz2⟩
      rw [e1, e2] at ih
      generalize zit (fun _ _ _ _ _ _ => none) (M_places_53b kr r33) n = r2 at ih ⊢
      unfold M_places_53b M_places_136 M_places_140 M_places_141
      rw [zix_n hy, mD95, e95, g.w.1, if_pos (show ((4 * i + k : Nat) : Int) < ((4 * i + 4 : Nat) : Int) by omega), zix_n hy, mD94, e94, wtd6 hb, zix_n (show b / 6 < 12 by omega), mD73, if_pos hz1]
      cases hs : gex (mpl A b i) k (w : Int) with
      | true =>
        rw [hs, Bool.true_or] at ih
        rw [tb_t, if_neg (by decide), wi1 hi hk]
        exact ih
      | false =>
        rw [hs, Bool.false_or] at ih
        rw [tb_f, if_pos rfl, zix_n hy, mD94, e94, m_threadCell hb (show 4 * i + k < 16 by omega)]
        simp only [zix_n hx, mD89, mD90, mD94, e94, zix_n hy, wi1 hi hk]
        by_cases h1 : A 89 (16 * b + (4 * i + k)) = 114
        · rw [if_pos h1] at ih ⊢
          rw [m_threadCell hb (show 4 * i + k < 16 by omega), zix_n hx, mD90]
          by_cases h2 : A 90 (16 * b + (4 * i + k)) = (w : Int)
          · rw [if_pos h2]
            rw [decide_eq_true h2] at ih
            exact ih
          · rw [if_neg h2]
            rw [decide_eq_false h2] at ih
            exact ih
        · rw [if_neg h1] at ih ⊢
          rw [decide_eq_false (show ¬ (-1 : Int) = (w : Int) by omega)] at ih
          exact ih
    · rw [gex_end hk (fun j hj => by rw [mpl_out hz j hj]; omega)]
      generalize zit (fun _ _ _ _ _ _ => none) (M_places_53b kr r33) n = r2
      have e3 : wr ((w : Int) + 1) = ((w + 1 : Nat) : Int) := by rw [wr_id (by omega) (by omega)]; rfl
      have key : M_places_149 kr r33 (y : Int) cnt (w : Int) (tb (gex (mpl A b i) k (w : Int))) (mh h A) = r33 (y : Int) (cnt + tb (gex (mpl A b i) k (w : Int))) ((w + 1 : Nat) : Int) (mh h A) := by
        unfold M_places_149 M_places_161
        cases gex (mpl A b i) k (w : Int)
        · rw [tb_f, if_pos rfl, e3, wr_id (by omega) (by omega)]
        · rw [tb_t, if_neg (by decide), e3, wr_id (by omega) (by omega)]
      unfold M_places_53b
      rw [zix_n hy, mD95, e95, g.w.1, zix_n hy, mD94, e94, wtd6 hb, zix_n (show b / 6 < 12 by omega), mD73]
      by_cases h4 : k < 4
      · rw [if_pos (show ((4 * i + k : Nat) : Int) < ((4 * i + 4 : Nat) : Int) by omega), if_neg (fun z => hz ⟨z, h4⟩)]
        exact key
      · rw [if_neg (show ¬ ((4 * i + k : Nat) : Int) < ((4 * i + 4 : Nat) : Int) by omega)]
        exact key
theorem m_p33_loop {y b i : Nat} (g : MG A y b i) : ∀ n w : Nat, w ≤ 40 → 40 - w < n → zit (fun _ _ _ _ => none) (M_places_33b kr) n (y : Int) (zct (mpl A b i) 4 w) (w : Int) (mh h A) = kr (zct (mpl A b i) 4 40) (mh h A)
  | 0, w, _, hn => absurd hn (Nat.not_lt_zero _)
  | n + 1, w, hw, hn => by
    show M_places_33b kr (zit (fun _ _ _ _ => none) (M_places_33b kr) n) (y : Int) (zct (mpl A b i) 4 w) (w : Int) (mh h A) = _
    obtain ⟨hy, hb, hi, e94, e95, t0, t16⟩ := id g
    by_cases hw4 : w < 40
    · have ih := m_p33_loop g n (w + 1) hw4 (by omega)
      have hr := zct_rng (mpl A b i) 4 w
      generalize zit (fun _ _ _ _ => none) (M_places_33b kr) n = r2 at ih ⊢
      have hb1 := m_p53_loop (kr := kr) (h := h) (r33 := r2) (w := w) (cnt := zct (mpl A b i) 4 w) g ⟨hr.1, by omega⟩ hw4 zN 0 (by omega) (by show 4 - 0 < 5000; omega)
      unfold M_places_33b
      rw [if_pos (show (w : Int) < 40 by omega), zix_n hy, mD95, e95, g.w.2]
      exact hb1.trans ih
    · have : w = 40 := by omega
      subst this
      unfold M_places_33b
      rw [if_neg (by decide)]
theorem m_places (q : RR A h K L bc tc gc n B N M) {u i : Int} : M_places u i (mh h A) kr = if yin A u i = true then kr (gdf (mpl A (yb A u i) (yj A u i)) 4) (mh h (a0 A)) else kr 0 (mh h (au A 12 0 1)) := by
  unfold M_places
  simp only [mS12, zlet_d]
  show M_noGroup u i (mh h (a0 A)) _ = _
  rw [m_noGroup (A := a0 A) q.mm, m_fails a0_0 (by decide)]
  show (if (!(yin A u i)) = true then _ else _) = _
  cases hz : yin A u i with
  | false => simp [a0_thr]
  | true =>
    obtain ⟨s1, s2, s3, s4, s5, s6, s7, s8, s9, s10⟩ := q.at hz
    obtain ⟨g1, g2, g3, g4⟩ := q.grp s3 s4 s5
    rw [Bool.not_true, if_neg (by decide), if_pos rfl, if_pos rfl, s8]
    have hl := m_p33_loop (A := a0 A) (h := h) (kr := kr) s7 zN 0 (by omega) (by show 40 - 0 < 5000; omega)
    refine (Eq.trans ?_ hl).trans ?_
    · rfl
    · refine congrArg (fun z => kr z (mh h (a0 A))) (zct_gdf _ 4 (fun k hk => ?_))
      show mpl A (yb A u i) (yj A u i) k = -1 ∨ _
      by_cases hlt : ((4 * yj A u i + k : Nat) : Int) < A 73 (yb A u i / 6)
      · by_cases h89 : A 89 (16 * yb A u i + (4 * yj A u i + k)) = 114
        · have := g4 k hk hlt h89
          have e : mpl A (yb A u i) (yj A u i) k = A 90 (16 * yb A u i + (4 * yj A u i + k)) := (if_pos ⟨hlt, hk⟩).trans (if_pos h89)
          exact Or.inr (by show 0 ≤ mpl A _ _ k ∧ mpl A _ _ k < _; rw [e]; exact this)
        · exact Or.inl ((if_pos ⟨hlt, hk⟩).trans (if_neg h89))
      · exact Or.inl (if_neg (fun z => hlt z.1))
end
