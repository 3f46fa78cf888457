/-! A NEW KERNEL, KEPT -/
section
variable {h : zH} {A : zA} {K : Nat}
theorem RS.newK (q : RS h) {r s : Int} : RS (hK h r s) := by
  rw [hK_0]
  exact ((q.hK0.set rfl).set rfl)
theorem RD.newK (q : RD h) {r s : Int} : RD (hK h r s) := by
  obtain ⟨⟨a1, a2⟩, ⟨b1, b2, b3⟩, ⟨c1, c2, c3, c4⟩, ⟨d1, d2, d3, d4, d5, d6, d7⟩, ⟨e1, e2, e3, e4⟩⟩ := q
  have hN : ∀ c, c ≠ 7 → c ≠ 33 → zhN (hK h r s) c = zhN h c := fun c h1 h2 => hK0_Nn (r := r) (s := s) h1 h2
  have hD : ∀ c, c ≠ 7 → c ≠ 33 → c ≠ 20 → c ≠ 1 → zhD (hK h r s) c = zhD h c := fun c h1 h2 h3 h4 => by rw [hK_0, zD_ne h4, zD_ne h3, hK0_D h1 h2]
  have hL : ∀ c, c ≠ 7 → c ≠ 33 → zhL (hK h r s) c = zhL h c := fun c h1 h2 => hK0_L (r := r) (s := s) h1 h2
  have h7 : zhD (hK h r s) 7 = zhD (hK0 h r s) 7 := by rw [hK_0, zD_ne (by decide), zD_ne (by decide)]
  have n7 : zhN (hK h r s) 7 = zhN h 7 + 1 := rfl
  have n33 : zhN (hK h r s) 33 = zhN h 33 + 1 := rfl
  have l33 : ∀ p, zhL (hK h r s) 33 p = if p = zhN h 33 then 40 else zhL h 33 p := fun p => hK0_L33 (r := r) (s := s)
  refine ⟨⟨by rw [n7, n33, a1], fun k hk => ?_⟩, ?_, ?_, ?_, ?_⟩
  · rw [h7, l33]
    by_cases hkn : k = zhN h 7
    · subst hkn
      obtain ⟨-, -, f3, -⟩ := hK0_new (h := h) (r := r) (s := s)
      rw [f3, a1, if_pos rfl]
      exact ⟨rfl, rfl⟩
    · have hk2 : k < zhN h 7 := by
        rw [n7] at hk
        omega
      rw [hK0_D7 hkn, if_neg (by rw [a1]; exact hkn)]
      exact a2 k hk2
  · rw [hN 34 (by decide) (by decide), hN 35 (by decide) (by decide), hN 9 (by decide) (by decide), hD 9 (by decide) (by decide) (by decide) (by decide), hL 34 (by decide) (by decide), hL 35 (by decide) (by decide)]
    exact ⟨b1, b2, b3⟩
  · rw [hN 32 (by decide) (by decide), hN 6 (by decide) (by decide), hD 6 (by decide) (by decide) (by decide) (by decide), hL 32 (by decide) (by decide)]
    exact ⟨c1, c2, c3, c4⟩
  · rw [hN 36 (by decide) (by decide), hN 37 (by decide) (by decide), hN 38 (by decide) (by decide), hN 39 (by decide) (by decide), hN 40 (by decide) (by decide), hN 41 (by decide) (by decide), hN 10 (by decide) (by decide), hD 10 (by decide) (by decide) (by decide) (by decide), hL 38 (by decide) (by decide), hL 39 (by decide) (by decide), hL 40 (by decide) (by decide), hL 41 (by decide) (by decide)]
    exact ⟨d1, d2, d3, d4, d5, d6, d7⟩
  · rw [hN 42 (by decide) (by decide), hN 43 (by decide) (by decide), hN 44 (by decide) (by decide), hN 11 (by decide) (by decide), hD 11 (by decide) (by decide) (by decide) (by decide), hL 42 (by decide) (by decide), hL 43 (by decide) (by decide), hL 44 (by decide) (by decide)]
    exact ⟨e1, e2, e3, e4⟩
theorem RK.new (qd : RD h) (hR : RK A h K) (hK4 : K < 4) {r s : Int} (h1 : 1 ≤ r) (h2 : r ≤ 8) (h3 : 0 ≤ s) (h4 : s ≤ 16) :
    RK (au (au (au (a0 A) 61 K r) 62 K s) 12 4 ((K : Int) + 1)) (hK h r s) (K + 1) := by
  obtain ⟨a1, a2, a3, a4, a5, a6⟩ := hR
  generalize hA' : au (au (au (a0 A) 61 K r) 62 K s) 12 4 ((K : Int) + 1) = A'
  have b0 : A' 12 4 = (K : Int) + 1 := by rw [← hA']; exact au_same
  have bn : ∀ c, c ≠ 12 → c ≠ 61 → c ≠ 62 → A' c = A c := fun c h1 h2 h3 => by rw [← hA', au_ne h1, au_ne h3, au_ne h2, a0_c h1]
  have b61 : ∀ k, A' 61 k = if k = K then r else A 61 k := fun k => by rw [← hA', au_ne (by decide), au_ne (by decide), au_j, a0_c (by decide)]
  have b62 : ∀ k, A' 62 k = if k = K then s else A 62 k := fun k => by rw [← hA', au_ne (by decide), au_j, au_ne (by decide), a0_c (by decide)]
  have hN : ∀ c, c ≠ 7 → c ≠ 33 → zhN (hK h r s) c = zhN h c := fun c h1 h2 => hK0_Nn (r := r) (s := s) h1 h2
  have hD : ∀ c, c ≠ 7 → c ≠ 33 → c ≠ 20 → c ≠ 1 → zhD (hK h r s) c = zhD h c := fun c h1 h2 h3 h4 => by rw [hK_0, zD_ne h4, zD_ne h3, hK0_D h1 h2]
  have d7 : zhD (hK h r s) 7 = zhD (hK0 h r s) 7 := by rw [hK_0, zD_ne (by decide), zD_ne (by decide)]
  have d33 : zhD (hK h r s) 33 = zhD (hK0 h r s) 33 := by rw [hK_0, zD_ne (by decide), zD_ne (by decide)]
  have d20 : ∀ j, zhD (hK h r s) 20 0 j = if j = K then (K : Int) else zhD h 20 0 j := fun j => by
    rw [hK_0, zD_ne (by decide), zD_set, hK0_D (by decide) (by decide), a3]
    simp
  refine ⟨by rw [b0]; rfl, by omega, by show zhN h 7 + 1 = K + 1; rw [a3], ?_, fun k hk => ?_, fun k hk hk4 => ?_⟩
  · rw [hK_0, zD_eq, a3]
    rfl
  · rw [d20, d7, d33, b61, b62, bn 63 (by decide) (by decide) (by decide), bn 64 (by decide) (by decide) (by decide), bn 65 (by decide) (by decide) (by decide), bn 66 (by decide) (by decide) (by decide), bn 67 (by decide) (by decide) (by decide), bn 68 (by decide) (by decide) (by decide)]
    by_cases hkn : k = K
    · subst hkn
      obtain ⟨f1, f2, f3, f4, f5⟩ := hK0_new (h := h) (r := r) (s := s)
      rw [a3] at f1 f2 f4 f5
      obtain ⟨g1, g2⟩ := a6 k (Nat.le_refl _) hK4
      rw [if_pos rfl, if_pos rfl, if_pos rfl, f1, f2, f4, f5, g1, g2]
      exact ⟨rfl, h1, h2, h3, h4, Int.le_refl _, by decide, Or.inl rfl, rfl, rfl, rfl, rfl, fun i hi => by omega⟩
    · have hk2 : k < K := by omega
      rw [if_neg hkn, if_neg hkn, if_neg hkn, hK0_D7 (by omega), hK0_D33 (by have := qd.1.1; omega), hN 8 (by decide) (by decide), hD 8 (by decide) (by decide) (by decide) (by decide)]
      exact a5 k hk2
  · rw [bn 63 (by decide) (by decide) (by decide), bn 64 (by decide) (by decide) (by decide)]
    exact a6 k (by omega) hk4
end
