/-! A KERNEL MORE -/
section
variable {ρ : Type} {h h' : zH} {A A' B : zA} {K L n len a : Nat} {bc tc gc : Nat → Nat} {N M : Int} {S : Nat → Int} {kt : Nat → zH → Option ρ} {kr : Int → zH → Option ρ} {r28 : Int → Int → Int → Int → Int → Int → zH → Option ρ}
theorem rr_newK (q : RR A h K L bc tc gc n B N M) (hK4 : K < 4) {r s : Int} (h1 : 1 ≤ r) (h2 : r ≤ 8) (h3 : 0 ≤ s) (h4 : s ≤ 16) : RR (au (au (au A 61 K r) 62 K s) 12 4 ((K : Int) + 1)) (hK h r s) (K + 1) L bc tc gc n B (N + 10) (M + 100) := by
  have rk := RK.new q.rd q.rk hK4 h1 h2 h3 h4
  rw [q.a0] at rk
  have hD : ∀ c, c ≠ 7 → c ≠ 33 → c ≠ 20 → c ≠ 1 → zhD (hK h r s) c = zhD h c := fun c z1 z2 z3 z4 => by rw [hK_0, zD_ne z4, zD_ne z3, hK0_D z1 z2]
  have hD1 : zhD (hK h r s) 1 0 3 = zhD h 1 0 3 := by rw [hK_0, zD_nj (by decide), zD_ne (by decide), hK0_D (by decide) (by decide)]
  have hN : ∀ c, c ≠ 7 → c ≠ 33 → zhN (hK h r s) c = zhN h c := fun c z1 z2 => hK0_Nn (r := r) (s := s) z1 z2
  have hL : ∀ c, c ≠ 7 → c ≠ 33 → zhL (hK h r s) c = zhL h c := fun c z1 z2 => hK0_L (r := r) (s := s) z1 z2
  have hr : ∀ c, c ≠ 12 → c ≠ 61 → c ≠ 62 → (au (au (au A 61 K r) 62 K s) 12 4 ((K : Int) + 1)) c = A c := fun c z1 z2 z3 => by rw [au_ne z1, au_ne z3, au_ne z2]
  have h61 : ∀ k, k ≠ K → (au (au (au A 61 K r) 62 K s) 12 4 ((K : Int) + 1)) 61 k = A 61 k := fun k hk => by rw [au_ne (by decide), au_ne (by decide), au_j, if_neg hk]
  have h62 : ∀ k, k ≠ K → (au (au (au A 61 K r) 62 K s) 12 4 ((K : Int) + 1)) 62 k = A 62 k := fun k hk => by rw [au_ne (by decide), au_j, if_neg hk, au_ne (by decide)]
  have h12 : ∀ j, j ≠ 4 → (au (au (au A 61 K r) 62 K s) 12 4 ((K : Int) + 1)) 12 j = A 12 j := fun j hj => by rw [au_j, if_neg hj, au_ne (by decide), au_ne (by decide)]
  have rl : RL (au (au (au A 61 K r) 62 K s) 12 4 ((K : Int) + 1)) (hK h r s) (K + 1) L := by
    obtain ⟨a1, a2, a3, a4, a5, a6⟩ := q.rl
    refine ⟨by rw [h12 13 (by decide)]; exact a1, a2, by rw [hN 9 (by decide) (by decide)]; exact a3, by rw [hD1]; exact a4, fun l hl => ?_, fun l h1 h2 => ?_⟩
    · obtain ⟨b1, b2, b3, b4, b5, b6, b7, b8, b9, b10, b11, b12, b13, b14⟩ := a5 l hl
      unfold RLn
      rw [hD 21 (by decide) (by decide) (by decide) (by decide), hD 9 (by decide) (by decide) (by decide) (by decide)]
      simp (disch := decide) only [hr]
      refine ⟨b1, b2, b3, b4, b5, b6, ⟨b7.1, b7.2.1, by omega⟩, b8, b9, b10, b11, fun z => ?_, b13, b14⟩
      rw [h61 _ (by omega), h62 _ (by omega)]
      exact b12 z
    · simp (disch := decide) only [hr]
      exact a6 l h1 h2
  refine rr_k q ⟨fun c z1 z2 z3 z4 z5 z6 z7 z8 => hr c z1 z2 z3, fun b hb hin => ?_⟩ h12 q.rs.newK q.rd.newK rk rl (fun c p j z1 z2 z3 z4 z5 => by rw [hD c z1 z3 z4 z5]) (fun c z1 z2 z3 => hN c z1 z3) (fun c p z1 z2 z3 => by rw [hL c z1 z3]) (fun j => by rw [hr 67 (by decide) (by decide) (by decide)]; exact (q.iv j).2.1) ?_ ?_
  · obtain ⟨k, k1, k2, -⟩ := q.blk hb hin
    rw [k2, Int.toNat_natCast, h61 k (by omega), h62 k (by omega), hr 63 (by decide) (by decide) (by decide)]
    exact ⟨rfl, rfl, Int.le_refl _⟩
  · show zhC h + 1 + 1 ≤ zhC h + 10
    omega
  · show zhS h + znf zPP 7 + 40 ≤ zhS h + 100
    have : znf zPP 7 ≤ 60 := by decide +kernel
    omega
theorem op_addKernel (q : RR A h K L bc tc gc n B N M) (cl : CW A L) {r s : Int} : OP (ρ := ρ) A h B n N M (fun kt kr => X_addKernel 0 r s h kt kr) (fun g kr => M_addKernel r s g kr) (fun (e : Nat) (m : Int) => (e = 1 ∧ m = 1) ∨ (e = 2 ∧ m = 2)) kt := by
  have xl := fun kr : Int → zH → Option ρ => x_addKernel (kt := kt) (kr := kr) q.rs q.rk (r := r) (s := s)
  obtain ⟨r1, r2, r3, r4, r5⟩ := q.rk.at
  have ml := fun (g : zH) (kr : Int → zH → Option ρ) => m_addKernel (h := g) (kr := kr) (A := A) (r := r) (s := s) (by omega)
  by_cases h1 : (zwi r 1 8 && zwi s 0 16) = true
  · by_cases h2 : A 12 4 = 4
    · exact OP.no q cl (Or.inr (⟨rfl, rfl⟩)) (fun kr => (xl kr).trans (by rw [if_pos h1, if_pos h2])) (fun g K2 L2 bc2 tc2 gc2 n2 B2 N2 M2 q2 kr => (ml g kr).trans (by rw [if_pos h1, if_pos h2]))
    · obtain ⟨h3, h4⟩ := zand_t h1
      obtain ⟨y1, y2⟩ := zwi_t h3
      obtain ⟨y3, y4⟩ := zwi_t h4
      exact Or.inl ⟨_, _, K + 1, L, bc, tc, gc, A 12 4, fun kr => (xl kr).trans (by rw [if_pos h1, if_neg h2]), fun g _ _ kr => (ml g kr).trans (by rw [if_pos h1, if_neg h2, q.a0, r5, Int.toNat_natCast]), (rr_newK q (by omega) y1 y2 y3 y4).mono (by omega) (by omega) (by omega), cl.eq (fun c z1 z2 => by rw [au_ne (by omega), au_ne (by omega), au_ne (by omega)]) (fun c z1 z2 => by rw [au_ne (by omega), au_ne (by omega), au_ne (by omega)]) (fun k9 => by rw [au_ne (by decide), au_ne (by decide), au_ne (by decide)]; exact Int.le_refl _)⟩
  · exact OP.no q cl (Or.inl ⟨rfl, rfl⟩) (fun kr => (xl kr).trans (by rw [if_neg h1])) (fun g K2 L2 bc2 tc2 gc2 n2 B2 N2 M2 q2 kr => (ml g kr).trans (by rw [if_neg h1]))
theorem law_addKernel (v : LV S len h K L n N M) (ha : a + 5 < len) (hl : len ≤ 3072) (hSi : ∀ j, zir (S j)) : ∃ (h1 : zH) (K1 L1 : Nat), Lw_law_208 kr r28 ((0 : Nat) : Int) ((0 : Nat) : Int) ((0 : Nat) : Int) ((0 : Nat) : Int) ((0 : Nat) : Int) (a : Int) h = r28 ((0 : Nat) : Int) ((0 : Nat) : Int) ((0 : Nat) : Int) ((0 : Nat) : Int) ((0 : Nat) : Int) (wr ((a : Int) + 6)) h1 ∧ LV S len h1 K1 L1 (n + 18500) (N + 1000) (M + 13000) := by
  obtain ⟨A0, B0, bc0, tc0, gc0, m0, q, cl, hB, hS, hlen⟩ := id v
  obtain ⟨KF, hKF⟩ : ∃ KF : Int → zH → Option ρ, KF = (fun v5 h6 => zob h6 50 ((0 : Nat) : Int) fun p7 =>
    zix (zhL h6 50 p7) (wr ((a : Int) + 1)) fun j8 =>
    zob h6 50 ((0 : Nat) : Int) fun p9 =>
    zix (zhL h6 50 p9) (wr ((a : Int) + 2)) fun j10 =>
    zob h6 12 ((0 : Nat) : Int) fun _ =>
    zmch h6 ((0 : Nat) : Int) (M_addKernel (zhD h6 50 p7 j8) (zhD h6 50 p9 j10) h6  fun v11 h12 =>
    zob h12 12 ((0 : Nat) : Int) fun _ =>
    zmch h12 ((0 : Nat) : Int) (M_thrown h12  fun v13 h14 =>
    if v13 = v5 then (if v5 = 0 then (zob h14 51 ((0 : Nat) : Int) fun p15 =>
    zix (zhL h14 51 p15) 0 fun j16 =>
    if (zlcmp (zhD h14 51 p15 j16) v11) = 0 then Lw_law_273 kr r28 ((0 : Nat) : Int) ((0 : Nat) : Int) ((0 : Nat) : Int) ((0 : Nat) : Int) ((0 : Nat) : Int) (a : Int) h14
    else kr 0 h14)
    else Lw_law_273 kr r28 ((0 : Nat) : Int) ((0 : Nat) : Int) ((0 : Nat) : Int) ((0 : Nat) : Int) ((0 : Nat) : Int) (a : Int) h14)
    else kr 0 h14))) := ⟨_, rfl⟩
  have core := law_core (cod := fun (e : Nat) (m : Int) => (e = 1 ∧ m = 1) ∨ (e = 2 ∧ m = 2)) (X := fun kt kr => X_addKernel 0 (S (a + 1)) (S (a + 2)) h kt kr) (Mo := fun g kr => M_addKernel (S (a + 1)) (S (a + 2)) g kr) (kt := (fun n h6 => if n = 1 then KF 1 h6 else if n = 2 then KF 2 h6 else none)) (K1 := KF) (R := fun hh => Lw_law_273 kr r28 ((0 : Nat) : Int) ((0 : Nat) : Int) ((0 : Nat) : Int) ((0 : Nat) : Int) ((0 : Nat) : Int) (a : Int) hh) (bad := fun hh => kr 0 hh) v (fun A B bc tc gc q cl => op_addKernel q cl) (fun g A m kr h0 => by
    show M_addKernel (S (a + 1)) (S (a + 2)) (mh g (au A 12 0 m)) kr = M_addKernel (S (a + 1)) (S (a + 2)) (mh g A) kr
    unfold M_addKernel
    rw [mh_thr0 h0]) (fun e m hc => by
    rcases hc with ⟨rfl, rfl⟩ | ⟨rfl, rfl⟩
    · exact ⟨by decide, fun hh => rfl⟩
    · exact ⟨by decide, fun hh => rfl⟩) (fun v0 hX B1 qX sX lX => by
    rw [hKF]
    show (zob hX 50 ((0 : Nat) : Int) fun p7 =>
    zix (zhL hX 50 p7) (wr ((a : Int) + 1)) fun j8 =>
    zob hX 50 ((0 : Nat) : Int) fun p9 =>
    zix (zhL hX 50 p9) (wr ((a : Int) + 2)) fun j10 =>
    zob hX 12 ((0 : Nat) : Int) fun _ =>
    zmch hX ((0 : Nat) : Int) (M_addKernel (zhD hX 50 p7 j8) (zhD hX 50 p9 j10) hX  fun v11 h12 =>
    zob h12 12 ((0 : Nat) : Int) fun _ =>
    zmch h12 ((0 : Nat) : Int) (M_thrown h12  fun v13 h14 =>
    if v13 = v0 then (if v0 = 0 then (zob h14 51 ((0 : Nat) : Int) fun p15 =>
    zix (zhL h14 51 p15) 0 fun j16 =>
    if (zlcmp (zhD h14 51 p15 j16) v11) = 0 then Lw_law_273 kr r28 ((0 : Nat) : Int) ((0 : Nat) : Int) ((0 : Nat) : Int) ((0 : Nat) : Int) ((0 : Nat) : Int) (a : Int) h14
    else kr 0 h14)
    else Lw_law_273 kr r28 ((0 : Nat) : Int) ((0 : Nat) : Int) ((0 : Nat) : Int) ((0 : Nat) : Int) ((0 : Nat) : Int) (a : Int) h14)
    else kr 0 h14))) = _
    refine Eq.trans (z50 qX lX (i := 1) (by omega) hl) ?_
    refine Eq.trans (z50 qX lX (i := 2) (by omega) hl) ?_
    refine Eq.trans (z12 qX) ?_
    rw [qX.1 50 (a + 1) rfl, sX, qX.1 50 (a + 2) rfl, sX])
  obtain ⟨h1, K1, L1, e, v1⟩ := core
  refine ⟨h1, K1, L1, ?_, v1⟩
  rw [hKF] at e
  unfold Lw_law_208
  refine Eq.trans (z50 q.rh hlen (i := 1) (by omega) hl) ?_
  refine Eq.trans (z50 q.rh hlen (i := 2) (by omega) hl) ?_
  unfold Lw_addKernel
  refine Eq.trans (zob_n (show 0 < zhN h 0 by rw [q.rs.N0]; decide)) ?_
  rw [q.rh.1 50 (a + 1) rfl, hS, q.rh.1 50 (a + 2) rfl, hS]
  exact e
end
