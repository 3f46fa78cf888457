/-! KERNELS, KEPT -/
theorem zallow_ok {regs c a b d : Int} (h : zallow regs c a b d = true) : zinsOK regs c a b d := by
  obtain ⟨o4, o5, o6, o7, o8, -⟩ := zone_all c
  unfold zallow at h
  rw [o4, o5, o6, o7, o8] at h
  obtain ⟨h, h5⟩ := zand_t h
  obtain ⟨h, h4⟩ := zand_t h
  obtain ⟨h, h3⟩ := zand_t h
  obtain ⟨h1, h2⟩ := zand_t h
  have g1 : zbits c ≠ -1 := of_decide_eq_true h1
  refine ⟨g1, fun q => ?_, fun q => ?_, fun q => ?_, fun q => ?_, fun q => ?_⟩
  · rcases Bool.or_eq_true_iff.mp h2 with k | k
    · simp at k
      omega
    · have := zwi_t k
      omega
  · rcases Bool.or_eq_true_iff.mp h3 with k | k
    · simp at k
      omega
    · have := zwi_t k
      omega
  · rcases Bool.or_eq_true_iff.mp h4 with k | k
    · simp at k
      omega
    · have := zwi_t k
      omega
  · rw [if_pos (by simpa using q)] at h5
    have := zwi_t h5
    omega
  · have n1 : ¬ (c = 122 ∨ c = 106) := by omega
    rw [if_neg (by simpa using n1)] at h5
    subst q
    have := zwi_t (by simpa using h5)
    omega
section
variable {ρ : Type} {h : zH} {A : zA} {kr : Int → zH → Option ρ} {kt : Nat → zH → Option ρ} {K : Nat}
theorem RK.thr (hR : RK A h K) {e : Int} : RK (au A 12 0 e) (zthrown h) K := by
  obtain ⟨a1, a2, a3, a4, a5, a6⟩ := hR
  have e1 : ∀ c, c ≠ 12 → au A 12 0 e c = A c := fun c hc => au_ne hc
  unfold RK
  rw [e1 61 (by decide), e1 62 (by decide), e1 63 (by decide), e1 64 (by decide), e1 65 (by decide), e1 66 (by decide), e1 67 (by decide), e1 68 (by decide)]
  exact ⟨(by rw [au_j, if_neg (by decide)]; exact a1), a2, a3, a4, a5, a6⟩
/-- what RK reads -/
theorem RK.frame (hR : RK A h K) {A' : zA} {h' : zH} (hA : A' 12 4 = A 12 4 ∧ A' 61 = A 61 ∧ A' 62 = A 62 ∧ A' 63 = A 63 ∧ A' 64 = A 64 ∧ A' 65 = A 65 ∧ A' 66 = A 66 ∧ A' 67 = A 67 ∧ A' 68 = A 68) (hN7 : zhN h' 7 = zhN h 7) (hN8 : zhN h 8 ≤ zhN h' 8) (h1 : zhD h' 1 0 2 = zhD h 1 0 2) (h7 : zhD h' 7 = zhD h 7) (h8 : ∀ r, r < zhN h 8 → zhD h' 8 r = zhD h 8 r) (h20 : zhD h' 20 = zhD h 20) (h33 : zhD h' 33 = zhD h 33) : RK A' h' K := by
  obtain ⟨a1, a2, a3, a4, a5, a6⟩ := hR
  obtain ⟨b0, b1, b2, b3, b4, b5, b6, b7, b8⟩ := hA
  unfold RK
  rw [b0, b1, b2, b3, b4, b5, b6, b7, b8, hN7, h1, h7, h20, h33]
  refine ⟨a1, a2, a3, a4, fun k hk => ?_, a6⟩
  obtain ⟨c0, c1, c2, c3, c4, c5, c6, c7, d1, d2, d3, d4, d5⟩ := a5 k hk
  refine ⟨c0, c1, c2, c3, c4, c5, c6, c7, d1, d2, d3, d4, fun i hi => ?_⟩
  obtain ⟨r, f1, f2, f3⟩ := d5 i hi
  refine ⟨r, f1, Nat.lt_of_lt_of_le f2 hN8, ?_⟩
  rw [h8 r f2]
  exact f3
theorem RK.code (hR : RK A h K) {n : Nat} {c a b d : Int} (hn : n < K) (hal : zallow (A 61 n) c a b d = true) (h40 : A 63 n < 40) (h64 : A 64 n = 0) :
    RK (au (au (au (au (au (a0 A) 65 (40 * n + (A 63 n).toNat) c) 66 (40 * n + (A 63 n).toNat) a) 67 (40 * n + (A 63 n).toNat) b) 68 (40 * n + (A 63 n).toNat) d) 63 n (A 63 n + 1)) (zset (zset (hI h c a b d) 33 n (A 63 n).toNat (zhN h 8 : Int)) 7 n 3 (A 63 n + 1)) K := by
  obtain ⟨a1, a2, a3, a4, a5, a6⟩ := hR
  have hlen : 0 ≤ A 63 n := (a5 n hn).2.2.2.2.2.1
  generalize hA' : au (au (au (au (au (a0 A) 65 (40 * n + (A 63 n).toNat) c) 66 (40 * n + (A 63 n).toNat) a) 67 (40 * n + (A 63 n).toNat) b) 68 (40 * n + (A 63 n).toNat) d) 63 n (A 63 n + 1) = A'
  generalize hh' : zset (zset (hI h c a b d) 33 n (A 63 n).toNat (zhN h 8 : Int)) 7 n 3 (A 63 n + 1) = h'
  have b0 : A' 12 4 = A 12 4 := by rw [← hA']; simp [au_ne, a0_j]
  have b1 : A' 61 = A 61 := by rw [← hA']; simp [au_ne, a0_c]
  have b2 : A' 62 = A 62 := by rw [← hA']; simp [au_ne, a0_c]
  have b4 : A' 64 = A 64 := by rw [← hA']; simp [au_ne, a0_c]
  have b3 : ∀ k, A' 63 k = if k = n then A 63 n + 1 else A 63 k := fun k => by rw [← hA', au_j]; simp [au_ne, a0_c]
  have b5 : ∀ k, A' 65 k = if k = 40 * n + (A 63 n).toNat then c else A 65 k := fun k => by rw [← hA']; simp [au_ne, au_j, a0_c]
  have b6 : ∀ k, A' 66 k = if k = 40 * n + (A 63 n).toNat then a else A 66 k := fun k => by rw [← hA']; simp [au_ne, au_j, a0_c]
  have b7 : ∀ k, A' 67 k = if k = 40 * n + (A 63 n).toNat then b else A 67 k := fun k => by rw [← hA']; simp [au_ne, au_j, a0_c]
  have b8 : ∀ k, A' 68 k = if k = 40 * n + (A 63 n).toNat then d else A 68 k := fun k => by rw [← hA']; simp [au_ne, au_j, a0_c]
  have g7 : zhN h' 7 = zhN h 7 := by rw [← hh']; rfl
  have g8 : zhN h' 8 = zhN h 8 + 1 := by rw [← hh']; rfl
  have g1 : zhD h' 1 = zhD h 1 := by rw [← hh', zD_ne (by decide), zD_ne (by decide), hI_D (by decide)]
  have g20 : zhD h' 20 = zhD h 20 := by rw [← hh', zD_ne (by decide), zD_ne (by decide), hI_D (by decide)]
  have gD8 : zhD h' 8 = zhD (hI h c a b d) 8 := by rw [← hh', zD_ne (by decide), zD_ne (by decide)]
  have gD7 : ∀ k j, zhD h' 7 k j = if k = n ∧ j = 3 then A 63 n + 1 else zhD h 7 k j := fun k j => by rw [← hh', zD_set, zD_ne (by decide), hI_D (by decide)]; simp
  have gD33 : ∀ k j, zhD h' 33 k j = if k = n ∧ j = (A 63 n).toNat then (zhN h 8 : Int) else zhD h 33 k j := fun k j => by rw [← hh', zD_ne (by decide), zD_set, hI_D (by decide)]; simp
  refine ⟨by rw [b0]; exact a1, a2, by rw [g7]; exact a3, by rw [g1]; exact a4, fun k hk => ?_, fun k hk hk4 => ?_⟩
  · obtain ⟨c0, c1, c2, c3, c4, c5, c6, c7, d1, d2, d3, d4, d5⟩ := a5 k hk
    rw [g20, b1, b2, b4]
    refine ⟨c0, c1, c2, c3, c4, ?_, ?_, c7, ?_, ?_, ?_, ?_, fun i hi => ?_⟩
    · rw [b3]
      split
      · omega
      · exact c5
    · rw [b3]
      split
      · omega
      · exact c6
    · rw [gD7, if_neg (fun z => absurd z.2 (by decide))]
      exact d1
    · rw [gD7, if_neg (fun z => absurd z.2 (by decide))]
      exact d2
    · rw [gD7, b3]
      by_cases hkn : k = n
      · rw [if_pos ⟨hkn, rfl⟩, if_pos hkn]
      · rw [if_neg (fun z => hkn z.1), if_neg hkn]
        exact d3
    · rw [gD7, if_neg (fun z => absurd z.2 (by decide))]
      exact d4
    · rw [b3] at hi
      by_cases hq : k = n ∧ i = (A 63 n).toNat
      · obtain ⟨rfl, rfl⟩ := hq
        obtain ⟨x0, x1, x2, x3⟩ := hI_8 (h := h) (c := c) (a := a) (b := b) (d := d)
        refine ⟨zhN h 8, ?_, by rw [g8]; exact Nat.lt_succ_self _, ?_⟩
        · rw [gD33, if_pos ⟨rfl, rfl⟩]
        · rw [gD8, x0, x1, x2, x3, b5, b6, b7, b8, if_pos rfl, if_pos rfl, if_pos rfl, if_pos rfl]
          exact ⟨rfl, rfl, rfl, rfl, zallow_ok hal⟩
      · have hne : ¬ (40 * k + i = 40 * n + (A 63 n).toNat) := fun z => hq (by
          split at hi
          · rename_i hkn
            subst hkn
            exact ⟨rfl, by omega⟩
          · exfalso
            omega)
        have hi2 : (i : Int) < A 63 k := by
          split at hi
          · rename_i hkn
            subst hkn
            have : i ≠ (A 63 k).toNat := fun z => hq ⟨rfl, z⟩
            omega
          · exact hi
        obtain ⟨r, f1, f2, f3⟩ := d5 i hi2
        refine ⟨r, ?_, by rw [g8]; omega, ?_⟩
        · rw [gD33, if_neg hq]
          exact f1
        · rw [gD8, hI_Dp (by omega), b5, b6, b7, b8, if_neg hne, if_neg hne, if_neg hne, if_neg hne]
          exact f3
  · rw [b3, b4, if_neg (by omega)]
    exact a6 k hk hk4
end
