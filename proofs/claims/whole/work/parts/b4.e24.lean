/-! ALL COPIES MOVE -/
def RQ (A : zA) (h : zH) (K L : Nat) : Prop := RS h ∧ RD h ∧ RK A h K ∧ RL A h K L ∧ RM A h ∧ RC A L
/-- what copies change -/
def CF (h : zH) (A : zA) (h' : zH) (A' : zA) : Prop := (zhN h' = zhN h ∧ zhL h' = zhL h ∧ zhC h' = zhC h ∧ zhS h' = zhS h) ∧
  (∀ c, c ≠ 9 → c ≠ 22 → zhD h' c = zhD h c) ∧ (∀ l j, j ≠ 10 → j ≠ 13 → j ≠ 14 → j ≠ 15 → zhD h' 9 l j = zhD h 9 l j) ∧
  (∀ c, c ≠ 69 → c ≠ 83 → c ≠ 60 → A' c = A c) ∧ (∀ l, ¬ (A 69 l = 114 ∧ A 70 l = -1) → A' 69 l = A 69 l) ∧ (∀ l, A 69 l = 114 → A 70 l = -1 → A' 69 l = 114 ∨ A' 69 l = 100) ∧ (∀ j, ∃ j2, A' 60 j = A 60 j2)
theorem CF.rfl' {h : zH} {A : zA} : CF h A h A := ⟨⟨rfl, rfl, rfl, rfl⟩, fun _ _ _ => rfl, fun _ _ _ _ _ _ => rfl, fun _ _ _ _ => rfl, fun _ _ => rfl, fun _ hs _ => Or.inl hs, fun j => ⟨j, rfl⟩⟩
theorem CF.tr {h h1 h2 : zH} {A A1 A2 : zA} (x : CF h A h1 A1) (y : CF h1 A1 h2 A2) : CF h A h2 A2 := by
  obtain ⟨⟨n1, n2, n3, n4⟩, d1, e1, a1, b1, c1, i1⟩ := x
  obtain ⟨⟨m1, m2, m3, m4⟩, d2, e2, a2, b2, c2, i2⟩ := y
  refine ⟨⟨m1.trans n1, m2.trans n2, m3.trans n3, m4.trans n4⟩, fun c h9 h22 => (d2 c h9 h22).trans (d1 c h9 h22), fun l j x1 x2 x3 x4 => (e2 l j x1 x2 x3 x4).trans (e1 l j x1 x2 x3 x4), fun c x1 x2 x3 => (a2 c x1 x2 x3).trans (a1 c x1 x2 x3), fun l hz => ?_, fun l hs hk => ?_, fun j => by
    obtain ⟨j1, w1⟩ := i2 j
    obtain ⟨j2, w2⟩ := i1 j1
    exact ⟨j2, w1.trans w2⟩⟩
  · have h0 := b1 l hz
    have h70 : A1 70 l = A 70 l := by rw [a1 70 (by decide) (by decide) (by decide)]
    rw [b2 l (by rw [h0, h70]; exact hz), h0]
  · have h70 : A1 70 l = -1 := by rw [a1 70 (by decide) (by decide) (by decide)]; exact hk
    rcases c1 l hs hk with k | k
    · exact c2 l k h70
    · rw [b2 l (by rw [k]; exact fun z => absurd z.1 (by decide))]
      exact Or.inr k
section
variable {ρ : Type} {h g : zH} {A : zA} {kr : Int → zH → Option ρ} {K L : Nat} {s : Nat → Int}
theorem RQ.cd (x : RQ A h K L) {i : Nat} (hi : i < L) (hk : A 70 i = -1) (hs : A 69 i = 114) : RQ (mcd A i) (hcd h i) K L := by
  obtain ⟨q, d, rk, r, m, rc⟩ := x
  exact ⟨q.cd, d.cd, rk.cd, r.cd rc hi hk hs, m.cd r rc hi hk hs, rc.cd (by omega)⟩
theorem CF.cd {i : Nat} (hk : A 70 i = -1) (hs : A 69 i = 114) : CF h A (hcd h i) (mcd A i) := by
  refine ⟨⟨hcd_N, hcd_L, hcd_C, hcd_S⟩, fun c h9 h22 => hcd_D h9 h22, fun l j h1 h2 h3 h4 => ?_, fun c h1 h2 h3 => mcd_c h1 h2 h3, fun l hz => ?_, fun l _ _ => ?_, fun j => ?_⟩
  · rw [hcd_9, if_neg (fun z => h1 z.2.1), if_neg (fun z => h4 z.2), if_neg (fun z => h3 z.2), if_neg (fun z => h2 z.2)]
  · exact mcd_l (by decide) (fun z => hz (by rw [z]; exact ⟨hs, hk⟩))
  · by_cases hli : l = i
    · subst hli
      have : mcd A l 69 l = if A 83 l + 1 = A 82 l then 100 else 114 := by simp [mcd_k]
      rw [this]
      split
      · exact Or.inr rfl
      · exact Or.inl rfl
    · rw [mcd_l (by decide) hli]
      exact Or.inl (by assumption)
  · rw [mcd_k, if_neg (fun z => absurd z.1 (by decide)), if_neg (fun z => absurd z.1 (by decide))]
    by_cases hd : 60 = 60 ∧ j = (A 81 i + A 83 i).toNat
    · rw [if_pos hd]
      exact ⟨_, rfl⟩
    · rw [if_neg hd]
      exact ⟨j, rfl⟩
theorem x_isCopyRunning {i : Nat} (hi : i < zhN h 9) : La_isCopyRunning (i : Int) h kr = kr (tb (decide (zhD h 9 i 5 < 0) && decide (zhD h 9 i 10 = 114))) h := by
  unfold La_isCopyRunning La_isCopyRunning_20 La_isCopyRunning_21
  by_cases h1 : zhD h 9 i 5 < 0
  · by_cases h2 : zhD h 9 i 10 = 114
    · simp [zob_n hi, h1, h2, znar_1, tb]
    · simp [zob_n hi, h1, h2, znar_0, tb]
  · simp [zob_n hi, h1, znar_0, tb]
theorem copies_loop : ∀ (f i n : Nat) (h : zH) (A : zA), i + n = L → n < f → RQ A h K L → ∃ h' A',
    (∀ kr : Int → zH → Option ρ, zit (fun _ _ _ => none) (Co_moveCopies_2b kr) f 0 (i : Int) h = kr 0 h') ∧
    (∀ (kz : Int → zH → Option ρ) (a1 : Int) (g : zH), zit (fun _ _ _ => none) (M_comeOne_59b kz) f a1 (i : Int) (mh g A) = M_comeOne_101 kz a1 0 (mh g A')) ∧ RQ A' h' K L ∧ CF h A h' A'
  | 0, i, n, h, A, _, hf, _ => absurd hf (Nat.not_lt_zero _)
  | f + 1, i, n, h, A, hin, hf, x => by
    have x0 := x
    obtain ⟨q, d, rk, r, m, rc⟩ := x
    obtain ⟨a1, a2, a3, a4⟩ := r.at
    cases n with
    | zero =>
      refine ⟨h, A, fun kr => ?_, fun kz a1' g => ?_, x0, CF.rfl'⟩
      · show Co_moveCopies_2b kr (zit (fun _ _ _ => none) (Co_moveCopies_2b kr) f) 0 (i : Int) h = _
        unfold Co_moveCopies_2b
        rw [zob_0 q.N2, q.D2_0_0, zob_0 q.N1, a4, if_neg (by omega)]
      · show M_comeOne_59b kz (zit (fun _ _ _ => none) (M_comeOne_59b kz) f) a1' (i : Int) (mh g A) = _
        unfold M_comeOne_59b
        rw [mD12, if_neg (by omega)]
    | succ n =>
      have hi : i < L := by omega
      have hi12 : i < 12 := by omega
      have hi9 : i < zhN h 9 := by omega
      have w1 : wr ((i : Int) + 1) = ((i + 1 : Nat) : Int) := by rw [wr_id (by omega) (by omega)]; rfl
      obtain ⟨-, -, -, -, -, -, ⟨e5, f5, -⟩, -, ⟨e10, -⟩, -⟩ := r.l hi
      have lo : ∀ kk : Int → zH → Option ρ, Le_launchOf 0 (i : Int) h kk = kk (i : Int) h := fun kk => by
        rw [x_launchOf q r, a1]
        have : zwi (i : Int) 0 ((L : Int) - 1) = true := by unfold zwi; rw [decide_eq_true (by omega), decide_eq_true (by omega)]; rfl
        rw [if_pos this]
      by_cases hc : A 70 i = -1 ∧ A 69 i = 114
      · obtain ⟨hk, hs⟩ := hc
        obtain ⟨h', A', y1, y2, y3, y4⟩ := copies_loop f (i + 1) n (hcd h i) (mcd A i) (by omega) (by omega) (x0.cd hi hk hs)
        refine ⟨h', A', fun kr => ?_, fun kz a1' g => ?_, y3, (CF.cd hk hs).tr y4⟩
        · have y := y1 kr
          show Co_moveCopies_2b kr (zit (fun _ _ _ => none) (Co_moveCopies_2b kr) f) 0 (i : Int) h = _
          generalize zit (fun _ _ _ => none) (Co_moveCopies_2b kr) f = r2 at y ⊢
          unfold Co_moveCopies_2b Co_moveCopies_41
          rw [zob_0 q.N2, q.D2_0_0, zob_0 q.N1, a4, if_pos (show (i : Int) < (L : Int) by omega), zob_0 q.N2, q.D2_0_0, zob_0 q.N1, lo, if_neg (by omega), zob_n hi9, x_isCopyRunning hi9, decide_eq_true (show zhD h 9 i 5 < 0 by omega), decide_eq_true (show zhD h 9 i 10 = 114 by omega), Bool.and_self, tb_t, if_neg (by decide), zob_0 q.N2, q.D2_0_1, zob_n hi9, x_moveCell q r rc hi hk hs, w1]
          exact y
        · have y := y2 kz a1' g
          show M_comeOne_59b kz (zit (fun _ _ _ => none) (M_comeOne_59b kz) f) a1' (i : Int) (mh g A) = _
          generalize zit (fun _ _ _ => none) (M_comeOne_59b kz) f = r2 at y ⊢
          unfold M_comeOne_59b M_comeOne_93
          rw [mD12, if_pos (show (i : Int) < A 12 13 by omega), zix_n hi12, mD69, if_pos hs, zix_n hi12, mD70, if_pos hk, m_copyOne r rc hi hk hs, w1]
          exact y
      · obtain ⟨h', A', y1, y2, y3, y4⟩ := copies_loop f (i + 1) n h A (by omega) (by omega) x0
        refine ⟨h', A', fun kr => ?_, fun kz a1' g => ?_, y3, y4⟩
        · have y := y1 kr
          show Co_moveCopies_2b kr (zit (fun _ _ _ => none) (Co_moveCopies_2b kr) f) 0 (i : Int) h = _
          generalize zit (fun _ _ _ => none) (Co_moveCopies_2b kr) f = r2 at y ⊢
          unfold Co_moveCopies_2b Co_moveCopies_41
          rw [zob_0 q.N2, q.D2_0_0, zob_0 q.N1, a4, if_pos (show (i : Int) < (L : Int) by omega), zob_0 q.N2, q.D2_0_0, zob_0 q.N1, lo, if_neg (by omega), zob_n hi9, x_isCopyRunning hi9]
          have : (decide (zhD h 9 i 5 < 0) && decide (zhD h 9 i 10 = 114)) = false := by
            by_cases h5 : zhD h 9 i 5 < 0
            · rw [decide_eq_false (show ¬ zhD h 9 i 10 = 114 from fun z => hc ⟨by omega, by omega⟩), Bool.and_false]
            · rw [decide_eq_false h5, Bool.false_and]
          rw [this, tb_f, if_pos rfl, w1]
          exact y
        · have y := y2 kz a1' g
          show M_comeOne_59b kz (zit (fun _ _ _ => none) (M_comeOne_59b kz) f) a1' (i : Int) (mh g A) = _
          generalize zit (fun _ _ _ => none) (M_comeOne_59b kz) f = r2 at y ⊢
          unfold M_comeOne_59b M_comeOne_93
          rw [mD12, if_pos (show (i : Int) < A 12 13 by omega), zix_n hi12, mD69]
          by_cases hs : A 69 i = 114
          · rw [if_pos hs, zix_n hi12, mD70, if_neg (fun z => hc ⟨z, hs⟩), w1]
            exact y
          · rw [if_neg hs, w1]
            exact y
theorem copies (x : RQ A h K L) : ∃ h' A', (∀ kr : Int → zH → Option ρ, Co_moveCopies 0 h kr = kr 0 h') ∧
    (∀ (kz : Int → zH → Option ρ) (a1 : Int) (g : zH), M_comeOne_59 kz a1 0 (mh g A) = M_comeOne_101 kz a1 0 (mh g A')) ∧ RQ A' h' K L ∧ CF h A h' A' :=
  copies_loop zN 0 L h A (by omega) (by have := x.2.2.2.1.2.1; show L < 5000; omega) x
end
