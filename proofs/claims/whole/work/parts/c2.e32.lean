/-! BUFFERS -/
/-- entries moved up by one -/
def zshf (s : Nat → Int) (lo hi : Nat) : Nat → Int := fun j => if lo ≤ j ∧ j < hi then s (j + 1) else s j
theorem zshf_0 {s : Nat → Int} {lo : Nat} : zshf s lo lo = s := funext fun j => if_neg (fun z => by omega)
theorem zshf_s {s : Nat → Int} {lo hi : Nat} (h : lo ≤ hi) : zup (zshf s lo hi) hi (s (hi + 1)) = zshf s lo (hi + 1) := by
  funext j
  unfold zup zshf
  by_cases h1 : j = hi
  · rw [if_pos h1, if_pos (by omega), h1]
  · rw [if_neg h1]
    by_cases h2 : lo ≤ j ∧ j < hi
    · rw [if_pos h2, if_pos (by omega)]
    · rw [if_neg h2, if_neg (by omega)]
theorem zshf_h {s : Nat → Int} {lo hi : Nat} : zshf s lo hi hi = s hi ∧ zshf s lo hi (hi + 1) = s (hi + 1) := ⟨if_neg (fun z => by omega), if_neg (fun z => by omega)⟩
theorem ard_au_ne {A : zA} {c c2 j : Nat} {s : Nat → Int} {v : Int} (h : c2 ≠ c) : au (ard A c s) c2 j v = ard (au A c2 j v) c s := by
  funext c' j'
  unfold au ard
  by_cases h1 : c' = c
  · rw [if_neg (fun z => h (z.1.symm.trans h1)), if_pos h1, if_pos h1]
  · rw [if_neg h1, if_neg h1]
theorem mRD {h : zH} {A : zA} {c : Nat} {s : Nat → Int} (hc : zmk c = true) (j : Nat) : zhD (mh h (ard A c s)) c 0 j = s j := (mh_D hc).trans (by rw [ard_same])
/-- the first write of a buffer goes to the memory: the model's rows -/
def mWF (A : zA) (y : Nat) : zA := ard (ard (au (au A 60 (A 98 (4 * y)).toNat (A 99 (4 * y))) 97 y (A 97 y - 1)) 98 (zshf (A 98) (4 * y) (4 * y + (A 97 y - 1).toNat))) 99 (zshf (A 99) (4 * y) (4 * y + (A 97 y - 1).toNat))
theorem mWF_c {A : zA} {y c : Nat} (h60 : c ≠ 60) (h97 : c ≠ 97) (h98 : c ≠ 98) (h99 : c ≠ 99) : mWF A y c = A c := by
  unfold mWF
  rw [ard_ne h99, ard_ne h98, au_ne h97, au_ne h60]
theorem mWF_60 {A : zA} {y : Nat} : mWF A y 60 = zup (A 60) (A 98 (4 * y)).toNat (A 99 (4 * y)) := by
  unfold mWF
  rw [ard_ne (by decide), ard_ne (by decide), au_ne (by decide)]
  funext j
  unfold zup
  rw [au_j]
theorem mWF_97 {A : zA} {y j : Nat} : mWF A y 97 j = if j = y then A 97 y - 1 else A 97 j := by
  unfold mWF
  rw [ard_ne (by decide), ard_ne (by decide), au_j, au_ne (by decide)]
theorem mWF_98 {A : zA} {y : Nat} : mWF A y 98 = zshf (A 98) (4 * y) (4 * y + (A 97 y - 1).toNat) := by
  unfold mWF
  rw [ard_ne (by decide), ard_same]
theorem mWF_99 {A : zA} {y : Nat} : mWF A y 99 = zshf (A 99) (4 * y) (4 * y + (A 97 y - 1).toNat) := by
  unfold mWF
  rw [ard_same]
/-- .. and the class's -/
def hWF (h : zH) (G : Nat) : zH :=
  let w := zhD h 11 G 5 - 1
  (h.1, h.2.1, (fun c p q => if (c = 43 ∨ c = 44) ∧ p = G then zshf (fun j => zhD h c G j) 0 w.toNat q else if c = 11 ∧ p = G ∧ q = 5 then w else if c = 22 ∧ p = 0 ∧ q = (zhD h 43 G 0).toNat then zhD h 44 G 0 else h.2.2.1 c p q), h.2.2.2)
section
variable {ρ : Type} {h : zH} {A B : zA} {kr : Int → zH → Option ρ} {kt : Nat → zH → Option ρ} {K L n G : Nat} {bc tc gc : Nat → Nat} {N M : Int}
theorem hWF_D {c p q : Nat} : zhD (hWF h G) c p q = if (c = 43 ∨ c = 44) ∧ p = G then zshf (fun j => zhD h c G j) 0 (zhD h 11 G 5 - 1).toNat q else if c = 11 ∧ p = G ∧ q = 5 then zhD h 11 G 5 - 1 else if c = 22 ∧ p = 0 ∧ q = (zhD h 43 G 0).toNat then zhD h 44 G 0 else zhD h c p q := rfl
theorem hWF_o {c p q : Nat} (h1 : ¬ ((c = 43 ∨ c = 44) ∧ p = G)) (h2 : ¬ (c = 11 ∧ p = G ∧ q = 5)) (h3 : c ≠ 22) : zhD (hWF h G) c p q = zhD h c p q := by
  rw [hWF_D, if_neg h1, if_neg h2, if_neg (fun z => h3 z.1)]
theorem m_wf_loop {y w : Nat} (hy : y < 8) (hw : w ≤ 3) {s t : Nat → Int} (h97 : A 97 y = (w : Int)) : ∀ n k : Nat, k ≤ w → w - k < n → zit (fun _ _ _ => none) (M_writeFirst_35b kr) n (y : Int) ((4 * y + k : Nat) : Int) (mh h (ard (ard A 98 (zshf s (4 * y) (4 * y + k))) 99 (zshf t (4 * y) (4 * y + k)))) = kr 0 (mh h (ard (ard A 98 (zshf s (4 * y) (4 * y + w))) 99 (zshf t (4 * y) (4 * y + w))))
  | 0, k, _, hn => absurd hn (Nat.not_lt_zero _)
  | n + 1, k, hk, hn => by
    show M_writeFirst_35b kr (zit (fun _ _ _ => none) (M_writeFirst_35b kr) n) (y : Int) ((4 * y + k : Nat) : Int) _ = _
    have e97 : ∀ u v : Nat → Int, ard (ard A 98 u) 99 v 97 = A 97 := fun u v => by rw [ard_ne (by decide), ard_ne (by decide)]
    have w1 : wr (wr (4 * (y : Int)) + (w : Int)) = ((4 * y + w : Nat) : Int) := by
      rw [wr_id (x := 4 * (y : Int)) (by omega) (by omega), wr_id (by omega) (by omega)]
      omega
    by_cases hkw : k < w
    · have ih := m_wf_loop (s := s) (t := t) hy hw h97 n (k + 1) hkw (by clear w1; omega)
      have w2 : wr (((4 * y + k : Nat) : Int) + 1) = ((4 * y + (k + 1) : Nat) : Int) := by
        clear w1
        rw [wr_id (by omega) (by omega)]
        omega
      have i1 : 4 * y + k < 32 := by clear w1 w2; omega
      have i2 : 4 * y + (k + 1) < 32 := by clear w1 w2; omega
      have i3 : ((4 * y + k : Nat) : Int) < ((4 * y + w : Nat) : Int) := by clear w1 w2; omega
      generalize zit (fun _ _ _ => none) (M_writeFirst_35b kr) n = r2 at ih ⊢
      unfold M_writeFirst_35b
      rw [zix_n hy, mD97, e97, h97, w1, if_pos i3, w2]
      simp only [zix_n i1, zix_n i2, mD98, mD99, mS98, mS99, zlet_d]
      have a1 : ∀ u v : Nat → Int, ard (ard A 98 u) 99 v 98 = u := fun u v => by rw [ard_ne (by decide), ard_same]
      rw [a1, ard_au_ne (by decide), au_ard]
      rw [ard_same, au_ard]
      have b1 := zshf_s (s := s) (show 4 * y ≤ 4 * y + k by clear w1 w2; omega)
      have b2 := zshf_s (s := t) (show 4 * y ≤ 4 * y + k by clear w1 w2; omega)
      have c1 : zshf s (4 * y) (4 * y + k) (4 * y + (k + 1)) = s (4 * y + k + 1) := (zshf_h (s := s)).2
      have c2 : zshf t (4 * y) (4 * y + k) (4 * y + (k + 1)) = t (4 * y + k + 1) := (zshf_h (s := t)).2
      rw [c1, c2, b1, b2]
      exact ih
    · have : k = w := by clear w1; omega
      subst this
      unfold M_writeFirst_35b
      rw [zix_n hy, mD97, e97, h97, w1, if_neg (by clear w1; omega)]
theorem m_writeFirst {y : Nat} (hy : y < 8) (h0 : 0 < A 97 y) (h4 : A 97 y ≤ 4) (hc : 0 ≤ A 98 (4 * y) ∧ A 98 (4 * y) < 64) : M_writeFirst (y : Int) (mh h A) kr = kr 0 (mh h (mWF A y)) := by
  unfold M_writeFirst mWF
  have w1 : wr (4 * (y : Int)) = ((4 * y : Nat) : Int) := by
    rw [wr_id (by omega) (by omega)]
    omega
  have i1 : 4 * y < 32 := by clear w1; omega
  have z1 : ∀ kk : Nat → Option ρ, zix 64 (A 98 (4 * y)) kk = kk (A 98 (4 * y)).toNat := fun kk => zix_i hc.1 (by clear w1; omega)
  obtain ⟨w, hw⟩ : ∃ w : Nat, A 97 y - 1 = (w : Int) := ⟨(A 97 y - 1).toNat, by clear w1; omega⟩
  rw [w1]
  simp only [zix_n i1, mD98, mD99, z1, zlet_d, mS60, zix_n hy, mD97, mS97, au_ne (show 97 ≠ 60 by decide), hw, Int.toNat_natCast]
  have hl := m_wf_loop (kr := kr) (h := h) (A := au (au A 60 (A 98 (4 * y)).toNat (A 99 (4 * y))) 97 y (w : Int)) (s := A 98) (t := A 99) hy (show w ≤ 3 by clear w1 z1; omega) au_same zN 0 (Nat.zero_le _) (by show w - 0 < 5000; clear w1 z1; omega)
  rw [Nat.add_zero, zshf_0, zshf_0] at hl
  have e1 : wr (w : Int) = (w : Int) := wr_id (by clear w1 z1; omega) (by clear w1 z1; omega)
  rw [e1]
  have e2 : ard (ard (au (au A 60 (A 98 (4 * y)).toNat (A 99 (4 * y))) 97 y (w : Int)) 98 (A 98)) 99 (A 99) = au (au A 60 (A 98 (4 * y)).toNat (A 99 (4 * y))) 97 y (w : Int) := by
    funext c j
    unfold ard
    by_cases c9 : c = 99
    · rw [if_pos c9, c9, au_ne (by decide), au_ne (by decide)]
    · rw [if_neg c9]
      by_cases c8 : c = 98
      · rw [if_pos c8, c8, au_ne (by decide), au_ne (by decide)]
      · rw [if_neg c8]
  rw [e2] at hl
  exact hl
theorem x_writeFirst (q : RS h) (qd : RD h) (hG : G < zhN h 11) (h0 : 0 < zhD h 11 G 5) (h4 : zhD h 11 G 5 ≤ 4) (hc : 0 ≤ zhD h 43 G 0 ∧ zhD h 43 G 0 < 64) : Gr_writeFirst (G : Int) 0 h kr = kr 0 (hWF h G) := by
  obtain ⟨n1, n2, n3, n4⟩ := qd.2.2.2.2
  obtain ⟨d2, d3, d4, l2, l3, l4⟩ := n4 G hG
  have g43 : G < zhN h 43 := by omega
  have g44 : G < zhN h 44 := by omega
  have z1 : ∀ kk : Nat → Option ρ, zix 64 (zhD h 43 G 0) kk = kk (zhD h 43 G 0).toNat := fun kk => zix_i hc.1 (by omega)
  have z0 : ∀ kk : Nat → Option ρ, zix 4 0 kk = kk 0 := fun kk => zix_n (i := 0) (by decide)
  have w1 : wr (zhD h 11 G 5 - 1) = zhD h 11 G 5 - 1 := wr_id (by omega) (by omega)
  unfold Gr_writeFirst
  rw [zob_n hG, if_neg (by clear w1; omega), zob_n hG, d3, zob_n g43, l3, z0, zob_n hG, d4, zob_n g44, l4, z0, zob_0 q.N22, q.L22_0, z1, zlet_d]
  rw [zob_n (show G < zhN (zset h 22 0 (zhD h 43 G 0).toNat (zhD h 44 G 0)) 11 from hG), zob_n (show G < zhN (zset h 22 0 (zhD h 43 G 0).toNat (zhD h 44 G 0)) 11 from hG), zD_ne (show 11 ≠ 22 by decide), w1, zlet_d]
  obtain ⟨w, hw⟩ : ∃ w : Nat, zhD h 11 G 5 - 1 = (w : Int) := ⟨(zhD h 11 G 5 - 1).toNat, by clear w1; omega⟩
  rw [hw]
  clear w1
  generalize hh : zset (zset h 22 0 (zhD h 43 G 0).toNat (zhD h 44 G 0)) 11 G 5 (w : Int) = h2
  have N2 : zhN h2 = zhN h := by rw [← hh]; rfl
  have L2 : zhL h2 = zhL h := by rw [← hh]; rfl
  have D3 : zhD h2 11 G 3 = (G : Int) := by rw [← hh, zD_nj (by decide), zD_ne (by decide)]; exact d3
  have D4 : zhD h2 11 G 4 = (G : Int) := by rw [← hh, zD_nj (by decide), zD_ne (by decide)]; exact d4
  have D5 : zhD h2 11 G 5 = (w : Int) := by rw [← hh, zD_eq]
  have hG2 : G < zhN h2 11 := by rw [N2]; exact hG
  have hG43 : G < zhN h2 43 := by rw [N2]; exact g43
  simp only [zob_n hG2, D3, D5]
  unfold zcopy
  rw [if_pos (by simp), zob_n hG43, L2, l3, if_pos ⟨by omega, by omega⟩, zlet_d]
  generalize hh3 : ((h2.1, h2.2.1, (fun (c' p' q : Nat) => if c' = 43 ∧ p' = G ∧ (0 : Int) ≤ (q : Int) ∧ (q : Int) < 0 + (w : Int) then h2.2.2.1 43 G (q + (1 : Int).toNat - (0 : Int).toNat) else h2.2.2.1 c' p' q), h2.2.2.2) : zH) = h3
  have D3' : ∀ c p j, zhD h3 c p j = if c = 43 ∧ p = G ∧ (0 : Int) ≤ (j : Int) ∧ (j : Int) < 0 + (w : Int) then zhD h2 43 G (j + 1) else zhD h2 c p j := fun c p j => by rw [← hh3]; rfl
  have N3 : zhN h3 = zhN h2 := by rw [← hh3]; rfl
  have L3 : zhL h3 = zhL h2 := by rw [← hh3]; rfl
  have hG3 : G < zhN h3 11 := by rw [N3]; exact hG2
  have hG44 : G < zhN h3 44 := by rw [N3, N2]; exact g44
  have E4 : zhD h3 11 G 4 = (G : Int) := by rw [D3', if_neg (fun z => by omega)]; exact D4
  have E5 : zhD h3 11 G 5 = (w : Int) := by rw [D3', if_neg (fun z => by omega)]; exact D5
  simp only [zob_n hG3, E4, E5]
  rw [if_pos (by simp), zob_n hG44, L3, L2, l4, if_pos ⟨by omega, by omega⟩, zlet_d]
  refine congrArg (kr 0) ?_
  have P1 : h3.1 = h.1 := N3.trans N2
  have P2 : h3.2.1 = h.2.1 := L3.trans L2
  have P4 : h3.2.2.2 = h.2.2.2 := by rw [← hh3, ← hh]; rfl
  unfold hWF
  rw [P1, P2, P4, hw]
  refine congrArg (fun f => (h.1, h.2.1, f, h.2.2.2)) (funext fun c => funext fun p => funext fun j => ?_)
  show (if c = 44 ∧ p = G ∧ (0 : Int) ≤ (j : Int) ∧ (j : Int) < 0 + (w : Int) then zhD h3 44 G (j + 1) else zhD h3 c p j) = _
  have V : ∀ c p j, zhD h2 c p j = if c = 11 ∧ p = G ∧ j = 5 then (w : Int) else if c = 22 ∧ p = 0 ∧ j = (zhD h 43 G 0).toNat then zhD h 44 G 0 else zhD h c p j := fun c p j => by rw [← hh]; rfl
  have T2 : zhD h2 43 G (j + 1) = zhD h 43 G (j + 1) := by rw [V, if_neg (fun z => absurd z.1 (by decide)), if_neg (fun z => absurd z.1 (by decide))]
  have T1 : zhD h3 44 G (j + 1) = zhD h 44 G (j + 1) := by rw [D3', if_neg (fun z => absurd z.1 (by decide)), V, if_neg (fun z => absurd z.1 (by decide)), if_neg (fun z => absurd z.1 (by decide))]
  rw [T1, D3', T2, V]
  show _ = if (c = 43 ∨ c = 44) ∧ p = G then zshf (fun j => zhD h c G j) 0 (w : Int).toNat j else if c = 11 ∧ p = G ∧ j = 5 then (w : Int) else if c = 22 ∧ p = 0 ∧ j = (zhD h 43 G 0).toNat then zhD h 44 G 0 else zhD h c p j
  unfold zshf
  rw [Int.toNat_natCast]
  have hj0 : ((0 : Int) ≤ (j : Int) ∧ (j : Int) < 0 + (w : Int)) ↔ (0 ≤ j ∧ j < w) := ⟨fun z => ⟨by omega, by omega⟩, fun z => ⟨by omega, by omega⟩⟩
  simp only [hj0]
  by_cases c44 : c = 44
  · subst c44
    by_cases hp : p = G
    · subst hp
      by_cases hj : 0 ≤ j ∧ j < w
      · simp [hj]
      · simp [hj]
    · simp [hp]
  · by_cases c43 : c = 43
    · subst c43
      by_cases hp : p = G
      · subst hp
        by_cases hj : 0 ≤ j ∧ j < w
        · simp [hj]
        · simp [hj]
      · simp [hp]
    · simp [c44, c43]
/-- a buffer that is empty -/
theorem x_writeFirst0 (hG : G < zhN h 11) (h0 : zhD h 11 G 5 = 0) : Gr_writeFirst (G : Int) 0 h kr = kr 0 h := by
  unfold Gr_writeFirst
  rw [zob_n hG, if_pos h0]
end
