/-! A LAUNCH FAILS -/
section
variable {ρ : Type} {h h' g : zH} {A A' B : zA} {kr : Int → zH → Option ρ} {K L n : Nat} {bc tc gc : Nat → Nat} {N M : Int} {s : Nat → Int}
theorem UO.fr {u m : Nat} (x : UO h u m) (hD : ∀ c p j, c ≠ 9 → zhD h' c p j = zhD h c p j) (hN : zhN h' = zhN h) (hL : zhL h' = zhL h) : UO h' u m := by
  obtain ⟨a1, a2, a3, a4, a5, a6, a7⟩ := x
  refine ⟨by rw [hN]; exact a1, by rw [hD _ _ _ (by decide)]; exact a2, by rw [hN]; exact a3, by rw [hL]; exact a4, by rw [hD _ _ _ (by decide)]; exact a5, a6, fun i hi => ?_⟩
  obtain ⟨G, g1, g2, b, g3, g4⟩ := a7 i hi
  exact ⟨G, by rw [hD _ _ _ (by decide)]; exact g1, by rw [hN]; exact g2, b, by rw [hD _ _ _ (by decide)]; exact g3, by rw [hN]; exact g4⟩
def dpn (l : Nat) : Nat → Nat → Bool
  | 0 => fun _ => false
  | x + 1 => dpo (dpn l x) (6 * l + x)
theorem dpn_i {l c : Nat} : ∀ x, dpn l x c = true ↔ 6 * l ≤ c ∧ c < 6 * l + x
  | 0 => ⟨fun (z : false = true) => absurd z (by decide), fun z => by omega⟩
  | x + 1 => by
    have ih := dpn_i (l := l) (c := c) x
    show (dpn l x c || decide (c = 6 * l + x)) = true ↔ _
    rw [Bool.or_eq_true, ih, decide_eq_true_iff]
    omega
theorem DP.skip {A1 : zA} {dp : Nat → Bool} {b : Nat} (x : DP A A1 dp) (h87 : A 87 b = 0) (h94 : ∀ u i, u < 2 → i < (A 93 u).toNat → (A 94 (4 * u + i)).toNat ≠ b) (h100 : ∀ u, u < 2 → ¬ (0 ≤ A 100 u ∧ (A 100 u).toNat = b)) : DP A A1 (dpo dp b) := by
  obtain ⟨x1, x2, x3, x4, x5⟩ := x
  refine ⟨x1, fun c => ?_, fun u hu => ?_, fun u hu => ?_, x5⟩
  · rw [x2 c]
    by_cases e : c = b
    · subst e
      rw [h87]
      split <;> split <;> rfl
    · have : dpo dp b c = dp c := by
        unfold dpo
        rw [decide_eq_false e, Bool.or_false]
      rw [this]
  · obtain ⟨m', s, e1, e2, e3⟩ := x3 u hu
    refine ⟨m', s, e1, e2.congr (fun i hi => ?_), e3⟩
    have : dpo dp b (A 94 (4 * u + i)).toNat = dp (A 94 (4 * u + i)).toNat := by
      unfold dpo
      rw [decide_eq_false (h94 u i hu hi), Bool.or_false]
    rw [this]
  · rw [x4 u hu]
    by_cases e : 0 ≤ A 100 u ∧ dp (A 100 u).toNat = true
    · rw [if_pos e, if_pos ⟨e.1, by unfold dpo; rw [e.2]; rfl⟩]
    · rw [if_neg e, if_neg (fun z => e ⟨z.1, ?_⟩)]
      have := z.2
      unfold dpo at this
      rw [decide_eq_false (fun w => h100 u hu ⟨z.1, w⟩), Bool.or_false] at this
      exact this
/-- where blocks sit -/
def FBs (A : zA) : Prop := (∀ u, u < 2 → 0 ≤ A 93 u ∧ A 93 u ≤ 4) ∧ (∀ b, b < 72 → A 87 b = 0 ∨ (A 87 b = 1 ∧ ∃ u : Nat, u < 2 ∧ A 88 b = (u : Int))) ∧ (∀ u i, u < 2 → i < (A 93 u).toNat → ∃ c : Nat, c < 72 ∧ A 94 (4 * u + i) = (c : Int) ∧ A 87 c = 1 ∧ A 88 c = (u : Int)) ∧ (∀ u, u < 2 → A 100 u = -1 ∨ ∃ c : Nat, c < 72 ∧ A 100 u = (c : Int) ∧ A 87 c = 1 ∧ A 88 c = (u : Int))
theorem m_fail_loop {l nb : Nat} (hl : l < 12) (nb6 : nb ≤ 6) (h72 : A 72 l = (nb : Int)) (fb : FBs A) (g : zH) : ∀ (f x : Nat) (A1 : zA), x ≤ nb → nb - x < f → DP A A1 (dpn l x) → ∃ A' : zA, (∀ kr : Int → zH → Option ρ, zit (fun _ _ _ => none) (M_fail_50b kr) f (l : Int) (x : Int) (mh g A1) = kr 0 (mh g A')) ∧ DP A A' (dpn l nb)
  | 0, _, _, _, hf, _ => absurd hf (Nat.not_lt_zero _)
  | f + 1, x, A1, hx, hf, d => by
    obtain ⟨f1, f2, f3, f4⟩ := fb
    have e72 : A1 72 l = (nb : Int) := by rw [d.1 72 (by decide) (Or.inl (by decide))]; exact h72
    by_cases hxe : x = nb
    · subst hxe
      refine ⟨A1, fun kr => ?_, d⟩
      rw [zit_s]
      unfold M_fail_50b
      rw [zix_n hl, mD72, e72, if_neg (by omega)]
    · have hxn : (x : Int) < (nb : Int) := by omega
      have hb : 6 * l + x < 72 := by omega
      have w1 : wr (wr (6 * (l : Int)) + (x : Int)) = ((6 * l + x : Nat) : Int) := by
        rw [wr_id (x := 6 * (l : Int)) (by omega) (by omega), wr_id (by omega) (by omega)]
        omega
      have w2 : wr ((x : Int) + 1) = ((x + 1 : Nat) : Int) := by
        clear w1
        rw [wr_id (by omega) (by omega)]
        omega
      have e87 : A1 87 (6 * l + x) = A 87 (6 * l + x) := by
        rw [d.2.1, if_neg (fun z => by have := (dpn_i x).mp z; clear w1 w2; omega)]
      rcases f2 _ hb with h0 | ⟨h1, u, hu, h88⟩
      · have d2 : DP A A1 (dpn l (x + 1)) := d.skip h0 (fun u i hu hi z => by
          obtain ⟨c, c1, c2, c3, c4⟩ := f3 u i hu hi
          rw [c2, Int.toNat_natCast] at z
          rw [z, h0] at c3
          exact absurd c3 (by decide)) (fun u hu z => by
          rcases f4 u hu with w | ⟨c, c1, c2, c3, c4⟩
          · rw [w] at z
            exact absurd z.1 (by decide)
          · rw [c2, Int.toNat_natCast] at z
            rw [z.2, h0] at c3
            exact absurd c3 (by decide))
        obtain ⟨A', z1, z2⟩ := m_fail_loop hl nb6 h72 ⟨f1, f2, f3, f4⟩ g f (x + 1) A1 (by clear w1 w2; omega) (by clear w1 w2; omega) d2
        refine ⟨A', fun kr => ?_, z2⟩
        rw [zit_s, ← z1 kr]
        generalize zit (fun _ _ _ => none) (M_fail_50b kr) f = r9
        unfold M_fail_50b M_blockOf M_fail_85
        rw [zix_n hl, mD72, e72, if_pos hxn, w1]
        dsimp only
        rw [zix_n hb, mD87, e87, if_pos h0, w2]
      · obtain ⟨m0, s0, q1, q2, q3⟩ := d.2.2.1 u hu
        have m4 : m0 ≤ 4 := by
          have := q2.cnt
          have := f1 u hu
          clear w1 w2
          omega
        obtain ⟨A2, m', s', y1, y2, y3⟩ := m_leave (ρ := ρ) (A := A1) (m0 := m0) hb hu m4 (by rw [d.1 88 (by decide) (Or.inl (by decide))]; exact h88) q1 g
        have d2 : DP A A2 (dpn l (x + 1)) := d.step hu y2 (by rw [q1, Int.toNat_natCast]; exact y3) (fun u2 i hu2 hi => by
          obtain ⟨c, c1, c2, c3, c4⟩ := f3 u2 i hu2 hi
          refine ⟨by rw [c2]; exact Int.natCast_nonneg _, fun z => ?_⟩
          rw [Int.ofNat.inj (c2.symm.trans z), h88] at c4
          exact (Int.ofNat.inj c4).symm) (fun u2 hu2 => by
          have := f1 u2 hu2
          clear w1 w2
          omega) (fun u2 hu2 => by
          rcases f4 u2 hu2 with w | ⟨c, c1, c2, c3, c4⟩
          · exact Or.inl w
          · refine Or.inr ⟨by rw [c2]; exact Int.natCast_nonneg _, fun z => ?_⟩
            rw [Int.ofNat.inj (c2.symm.trans z), h88] at c4
            exact (Int.ofNat.inj c4).symm)
        obtain ⟨A', z1, z2⟩ := m_fail_loop hl nb6 h72 ⟨f1, f2, f3, f4⟩ g f (x + 1) A2 (by clear w1 w2; omega) (by clear w1 w2; omega) d2
        refine ⟨A', fun kr => ?_, z2⟩
        rw [zit_s, ← z1 kr]
        generalize zit (fun _ _ _ => none) (M_fail_50b kr) f = r9
        have n0 : ¬ A 87 (6 * l + x) = 0 := by
          rw [h1]
          decide
        unfold M_fail_50b M_blockOf M_fail_85
        rw [zix_n hl, mD72, e72, if_pos hxn, w1]
        dsimp only
        rw [zix_n hb, mD87, e87, if_neg n0, y1, w2]
/-- launches marked, to the end -/
theorem PF.end (q4 : RR (ard A 69 s) h K L bc tc gc n B N M) (m : MKS A L (A 69) s) (cp : ∀ l, l < L → A 76 l ≠ -1 → A 70 (A 76 l).toNat ≠ -1 ∧ (A 76 l).toNat < l) (cq : ∀ l, l < L → A 69 l = 113 → A 70 l ≠ -1 → A 79 l ≠ A 72 l) (c7 : ∀ l, l < L → A 76 l ≠ -1 → A 71 l = -1) (wl : WL A) {c : Int} (hu : ∀ l, l < L → zenb A L s l → (l : Int) = c) (hc : c = -1 ∨ ∃ l, l < L ∧ c = (l : Int) ∧ A 70 l ≠ -1) : ∃ s' : Nat → Int, (∀ kr : Int → zH → Option ρ, Le_endIfDone 0 c h kr = kr 0 (hfd h 9 10 L s')) ∧ PF A (hfd h 9 10 L s') K L bc tc gc n B N M := by
  have F : ∀ c, c ≠ 69 → ard A 69 s c = A c := fun c hc => ard_ne hc
  have zrow : ∀ (ss : Nat → Int) (l2 : Nat), zenb (ard A 69 s) L ss l2 ↔ zenb A L ss l2 := fun ss l2 => zenb_row (F 70 (by decide)) (F 72 (by decide)) (F 76 (by decide)) (by rw [F 79 (by decide)])
  obtain ⟨s', e1, e2, e3⟩ := x_endIfDone (ρ := ρ) (s := s) (c := c) q4.rs q4.rl (fun l2 h1 h2 => by
    rw [F 76 (by decide)] at h2 ⊢
    rw [F 70 (by decide)]
    exact (cp l2 h1 h2).1) (fun l2 h1 h2 => hu l2 h1 ((zrow s l2).mp h2)) (hc.imp id (fun ⟨l, h1, h2, h3⟩ => ⟨l, h1, h2, by rw [F 70 (by decide)]; exact h3⟩))
  have hid : hfd h 9 10 L s = h := hfd_id (fun p hp => by
    have := (q4.rl.l hp).2.2.2.2.2.2.2.2.1.1
    rw [ard_same] at this
    exact this)
  rw [hid] at e1
  have m3' : MKS A L s s' := by
    refine ⟨e2.1, fun T hT => e2.2 T (fun l2 h1 h2 h3 h4 h5 => hT l2 h1 h2 (by rw [← F 70 (by decide)]; exact h3) (by rw [← F 79 (by decide), ← F 72 (by decide)]; exact h4) (fun k hk ek => h5 k hk (by rw [F 76 (by decide)]; exact ek)))⟩
  have q5 := rr_mark (s := s') q4 (by rw [ard_same]; exact e2) (fun l2 h1 _ => by
    rw [ard_same] at h1
    have := m3'.2 (fun l2 => A 79 l2 = A 72 l2 ∧ A 70 l2 ≠ -1) (fun l3 _ _ w3 w4 _ => ⟨w4, w3⟩) l2 h1
    rw [F 79 (by decide), F 72 (by decide), F 70 (by decide)]
    exact this)
  have eard : ard (ard A 69 s) 69 s' = ard A 69 s' := by
    refine zA_ext (fun c => ?_)
    by_cases e : c = 69
    · rw [e, ard_same, ard_same]
    · rw [ard_ne e, ard_ne e, ard_ne e]
  rw [eard] at q5
  exact ⟨s', e1, s', q5, m.tr m3', fun l2 h1 h2 => e3 l2 h1 ((zrow s' l2).mpr h2), cp, cq, c7, wl⟩
/-- a status failed on both sides -/
theorem MKS.fail {s0 : Nat → Int} {l : Nat} (m : MKS A L s0 s) (h70 : A' 70 = A 70) (h72 : A' 72 = A 72) (h76 : A' 76 = A 76) (h79 : A' 79 = A 79) : MKS A' L (zup s0 l 102) (zup s l 102) := by
  refine ⟨fun k => ?_, fun T hT k hk => ?_⟩
  · by_cases e : k = l
    · subst e
      rw [zup_same, zup_same]
      exact Or.inl rfl
    · rw [zup_ne e, zup_ne e]
      exact m.1 k
  · have kl : k ≠ l := fun e => by
      subst e
      rw [zup_same, zup_same] at hk
      exact hk rfl
    rw [zup_ne kl, zup_ne kl] at hk
    have := m.2 (fun k => T k ∨ k = l) (fun l2 h1 h2 h3 h4 h5 => by
      by_cases e : l2 = l
      · exact Or.inr e
      · refine Or.inl (hT l2 h1 (by rw [zup_ne e]; exact h2) (by rw [h70]; exact h3) (by rw [h79, h72]; exact h4) (fun k2 hk2 ek => ?_))
        rw [h76] at ek
        by_cases e2 : k2 = l
        · rw [e2, zup_same]
          exact Or.inl rfl
        · rw [zup_ne e2]
          rcases h5 k2 hk2 ek with w | w | w
          · exact Or.inl w
          · exact Or.inr w
          · exact absurd w e2) k hk
    exact this.resolve_right kl
theorem zenb_fail {l k : Nat} (h70 : A' 70 = A 70) (h72 : A' 72 = A 72) (h76 : A' 76 = A 76) (h79 : A' 79 = A 79) (h : zenb A' L (zup s l 102) k) : zenb A L s k ∨ A 76 l = (k : Int) := by
  obtain ⟨h1, h2, h3, h4⟩ := h
  have kl : k ≠ l := fun e => by
    subst e
    rw [zup_same] at h1
    exact absurd h1 (by decide)
  rw [zup_ne kl] at h1
  rw [h70] at h2
  rw [h79, h72] at h3
  by_cases e : A 76 l = (k : Int)
  · exact Or.inr e
  · refine Or.inl ⟨h1, h2, h3, fun k2 hk2 ek => ?_⟩
    have := h4 k2 hk2 (by rw [h76]; exact ek)
    rw [zup_ne (fun z => e (by rw [← z]; exact ek))] at this
    exact this
end
