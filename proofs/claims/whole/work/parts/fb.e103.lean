/-! THE LAW'S CALLS THAT CHANGE SOMETHING -/
theorem zin_inj {v v' : Int} {h h' : zH} (e : zin v h = zin v' h') : v' = v ∧ h' = h := by
  unfold zin at e
  injection e with e
  injection e with e
  injection e with e1 e2
  exact ⟨e1.symm, e2.symm⟩
section
variable {ρ : Type} {h : zH} {A B : zA} {K L n len a : Nat} {bc tc gc : Nat → Nat} {N M : Int} {S : Nat → Int}
variable {kt : Nat → zH → Option ρ} {kt9 : Nat → zH → Option zRes} {kr : Int → zH → Option ρ} {r28 : Int → Int → Int → Int → Int → Int → zH → Option ρ}
theorem CL.eq {A' : zA} (cl : CL A L) (hr : ∀ c, 69 ≤ c → c ≤ 79 → A' c = A c) : CL A' L := cl.mv ⟨Nat.le_refl _, fun l h1 h2 => absurd h2 (Nat.not_lt.mpr h1)⟩ (fun c hc l hl => by rw [hr c (by omega) (by omega)])
theorem WL.up {A' : zA} (x : WL A) (h63 : ∀ k, A 63 k ≤ A' 63 k) (h70 : A' 70 = A 70) (h73 : A' 73 = A 73) (h89 : A' 89 = A 89) (h90 : A' 90 = A 90) (h93 : A' 93 = A 93) (h94 : A' 94 = A 94) (h95 : A' 95 = A 95) (h97 : A' 97 = A 97) : WL A' := by
  unfold WL
  rw [h70, h73, h89, h90, h93, h94, h95, h97]
  exact fun u i b j k hu hi e94 e95 hk hlt hw hp => x u i b j k hu hi e94 e95 hk hlt hw (Int.le_trans (h63 _) hp)
theorem CW.eq {A' : zA} (cl : CW A L) (hr : ∀ c, 69 ≤ c → c ≤ 79 → A' c = A c) (hs : ∀ c, 89 ≤ c → c ≤ 97 → A' c = A c) (h63 : ∀ k, A 63 k ≤ A' 63 k) : CW A' L := ⟨cl.1.eq hr, cl.2.up h63 (hr 70 (by decide) (by decide)) (hr 73 (by decide) (by decide)) (hs 89 (by decide) (by decide)) (hs 90 (by decide) (by decide)) (hs 93 (by decide) (by decide)) (hs 94 (by decide) (by decide)) (hs 95 (by decide) (by decide)) (hs 97 (by decide) (by decide))⟩
theorem op_poke (q : RR A h K L bc tc gc n B N M) (cl : CW A L) {p v : Int} (hv : zir v) : OP (ρ := ρ) A h B n N M (fun kt kr => X_poke 0 p v h kt kr) (fun g kr => M_poke p v g kr) (fun (e : Nat) (m : Int) => (e = 3 ∧ m = 1)) kt := by
  by_cases h1 : zwi p 0 63 = true
  · refine Or.inl ⟨_, _, K, L, bc, tc, gc, A 60 p.toNat, fun kr => (x_poke q.rs).trans ?_, fun g _ _ kr => m_poke.trans ?_, (rr_mem (c := p.toNat) q hv).mono (by omega) (by omega) (by omega), cl.eq (fun c h2 h3 => au_ne (by omega)) (fun c h2 h3 => au_ne (by omega)) (fun k9 => by rw [au_ne (by decide)]; exact Int.le_refl _)⟩
    · rw [if_pos h1, q.rm.1 p.toNat (by have := zwi_t h1; omega)]
    · rw [if_pos h1, q.a0]
  · exact OP.no q cl (⟨rfl, rfl⟩) (fun kr => (x_poke q.rs).trans (by rw [if_neg h1])) (fun g K2 L2 bc2 tc2 gc2 n2 B2 N2 M2 q2 kr => m_poke.trans (by rw [if_neg h1]))
theorem rr_ord (q : RR A h K L bc tc gc n B N M) {c : Int} (hc : c = 111 ∨ c = 121 ∨ c = 97) : RR (au A 12 2 c) (zset h 2 0 5 c) K L bc tc gc n B N M := by
  refine up_rm q (fr_au rfl) (fr_zs rfl) rfl rfl rfl rfl ?_ (q.bd.au rfl) (fun i => q.iv i)
  obtain ⟨m1, m2, m3, m4, m5⟩ := q.rm
  exact ⟨m1, m2, rfl, hc, m5⟩
theorem op_setOrder (q : RR A h K L bc tc gc n B N M) (cl : CW A L) {c : Int} : OP (ρ := ρ) A h B n N M (fun kt kr => X_setOrder 0 c h kt kr) (fun g kr => M_setOrder c g kr) (fun (e : Nat) (m : Int) => (e = 1 ∧ m = 1)) kt := by
  have m4 := q.rm.2.2.2.1
  have m3 := q.rm.2.2.1
  by_cases h1 : c = 111 ∨ c = 121 ∨ c = 97
  · refine Or.inl ⟨_, _, K, L, bc, tc, gc, A 12 2, fun kr => (x_setOrder q.rs (by rw [m3]; exact m4)).trans ?_, fun g _ _ kr => (m_setOrder m4).trans ?_, (rr_ord q h1).mono (by omega) (by omega) (by omega), cl.eq (fun c h2 h3 => au_ne (by omega)) (fun c h2 h3 => au_ne (by omega)) (fun k9 => by rw [au_ne (by decide)]; exact Int.le_refl _)⟩
    · rw [if_pos h1, m3]
    · rw [if_pos h1, q.a0]
  · exact OP.no q cl (⟨rfl, rfl⟩) (fun kr => (x_setOrder q.rs (by rw [m3]; exact m4)).trans (by rw [if_neg h1])) (fun g K2 L2 bc2 tc2 gc2 n2 B2 N2 M2 q2 kr => (m_setOrder m4).trans (by rw [if_neg h1]))
theorem op_step (q : RR A h K L bc tc gc n B N M) (cl : CW A L) (bn : n ≤ 9980000) {p : Int} : OP (ρ := zRes) A h B n N M (fun kt kr => X_step 0 p h kt kr) (fun g kr => M_step p g kr) (fun (e : Nat) (m : Int) => (e = 1 ∧ m = 1)) kt9 := by
  by_cases h1 : zwi p 1 100 = true
  · obtain ⟨h1', A1, L1, bc1, tc1, gc1, v1, hx1, -⟩ := step_both (ρ := zRes) (kt := kt9) q cl (a := p) (by omega) h
    obtain ⟨h2', A2, L2, bc2, tc2, gc2, v2, hx2, hm2, q2, cl2, -⟩ := step_both (ρ := zRes) (kt := kt9) q cl (a := p) (by omega) (zset h1' 51 0 0 v1)
    have e := (hx1 zin).symm.trans (hx2 zin)
    rw [if_pos h1, if_pos h1] at e
    obtain ⟨rfl, rfl⟩ := zin_inj e
    refine Or.inl ⟨h2', A2, K, L2, bc2, tc2, gc2, v2, fun kr => (hx2 kr).trans (if_pos h1), fun g hg _ kr => ?_, q2.mono (by omega) (by omega) (by omega), cl2⟩
    rw [hg]
    exact (hm2 kr).trans (if_pos h1)
  · obtain ⟨h1', A1, L1, bc1, tc1, gc1, v1, hx1, -⟩ := step_both (ρ := zRes) (kt := kt9) q cl (a := p) (by omega) h
    refine OP.no (w := 0) q cl (⟨rfl, rfl⟩) (fun kr => (hx1 kr).trans (if_neg h1)) (fun g K2 L2 bc2 tc2 gc2 n2 B2 N2 M2 q2 kr => ?_)
    obtain ⟨h1', A1, L1, bc1, tc1, gc1, v1, -, hm1, -⟩ := step_both (ρ := zRes) (kt := kt9) q cl (a := p) (by omega) g
    exact (hm1 kr).trans (if_neg h1)
theorem op_run (q : RR A h K L bc tc gc n B N M) (cl : CW A L) (bn : n ≤ 9980000) {p : Int} : OP (ρ := zRes) A h B n N M (fun kt kr => X_run 0 p h kt kr) (fun g kr => M_run p g kr) (fun (e : Nat) (m : Int) => (e = 1 ∧ m = 1)) kt9 := by
  by_cases h1 : zwi p 1 500 = true
  · obtain ⟨h1', A1, L1, bc1, tc1, gc1, v1, hx1, -⟩ := run_both (ρ := zRes) (kt := kt9) q cl (a := p) (by omega) h
    obtain ⟨h2', A2, L2, bc2, tc2, gc2, v2, hx2, hm2, q2, cl2, -⟩ := run_both (ρ := zRes) (kt := kt9) q cl (a := p) (by omega) (zset h1' 51 0 0 v1)
    have e := (hx1 zin).symm.trans (hx2 zin)
    rw [if_pos h1, if_pos h1] at e
    obtain ⟨rfl, rfl⟩ := zin_inj e
    refine Or.inl ⟨h2', A2, K, L2, bc2, tc2, gc2, v2, fun kr => (hx2 kr).trans (if_pos h1), fun g hg _ kr => ?_, q2.mono (by omega) (by omega) (by omega), cl2⟩
    rw [hg]
    exact (hm2 kr).trans (if_pos h1)
  · obtain ⟨h1', A1, L1, bc1, tc1, gc1, v1, hx1, -⟩ := run_both (ρ := zRes) (kt := kt9) q cl (a := p) (by omega) h
    refine OP.no (w := 0) q cl (⟨rfl, rfl⟩) (fun kr => (hx1 kr).trans (if_neg h1)) (fun g K2 L2 bc2 tc2 gc2 n2 B2 N2 M2 q2 kr => ?_)
    obtain ⟨h1', A1, L1, bc1, tc1, gc1, v1, -, hm1, -⟩ := run_both (ρ := zRes) (kt := kt9) q cl (a := p) (by omega) g
    exact (hm1 kr).trans (if_neg h1)
theorem law_poke (v : LV S len h K L n N M) (ha : a + 5 < len) (hl : len ≤ 3072) (hSi : ∀ j, zir (S j)) : ∃ (h1 : zH) (K1 L1 : Nat), Lw_law_450 kr r28 ((0 : Nat) : Int) ((0 : Nat) : Int) ((0 : Nat) : Int) ((0 : Nat) : Int) ((0 : Nat) : Int) (a : Int) h = r28 ((0 : Nat) : Int) ((0 : Nat) : Int) ((0 : Nat) : Int) ((0 : Nat) : Int) ((0 : Nat) : Int) (wr ((a : Int) + 6)) h1 ∧ LV S len h1 K1 L1 (n + 18500) (N + 1000) (M + 13000) := by
  obtain ⟨A0, B0, bc0, tc0, gc0, m0, q, cl, hB, hS, hlen⟩ := id v
  obtain ⟨KF, hKF⟩ : ∃ KF : Int → zH → Option ρ, KF = (fun v5 h6 => zob h6 50 ((0 : Nat) : Int) fun p7 =>
    zix (zhL h6 50 p7) (wr ((a : Int) + 1)) fun j8 =>
    zob h6 50 ((0 : Nat) : Int) fun p9 =>
    zix (zhL h6 50 p9) (wr ((a : Int) + 2)) fun j10 =>
    zob h6 12 ((0 : Nat) : Int) fun _ =>
    zmch h6 ((0 : Nat) : Int) (M_poke (zhD h6 50 p7 j8) (zhD h6 50 p9 j10) h6  fun v11 h12 =>
    zob h12 12 ((0 : Nat) : Int) fun _ =>
    zmch h12 ((0 : Nat) : Int) (M_thrown h12  fun v13 h14 =>
    if v13 = v5 then (if v5 = 0 then (zob h14 51 ((0 : Nat) : Int) fun p15 =>
    zix (zhL h14 51 p15) 0 fun j16 =>
    if (zlcmp (zhD h14 51 p15 j16) v11) = 0 then Lw_law_515 kr r28 ((0 : Nat) : Int) ((0 : Nat) : Int) ((0 : Nat) : Int) ((0 : Nat) : Int) ((0 : Nat) : Int) (a : Int) h14
    else kr 0 h14)
    else Lw_law_515 kr r28 ((0 : Nat) : Int) ((0 : Nat) : Int) ((0 : Nat) : Int) ((0 : Nat) : Int) ((0 : Nat) : Int) (a : Int) h14)
    else kr 0 h14))) := ⟨_, rfl⟩
  have core := law_core (cod := fun (e : Nat) (m : Int) => (e = 3 ∧ m = 1)) (X := fun kt kr => X_poke 0 (S (a + 1)) (S (a + 2)) h kt kr) (Mo := fun g kr => M_poke (S (a + 1)) (S (a + 2)) g kr) (kt := (fun n h6 => if n = 3 then KF 1 h6 else none)) (K1 := KF) (R := fun hh => Lw_law_515 kr r28 ((0 : Nat) : Int) ((0 : Nat) : Int) ((0 : Nat) : Int) ((0 : Nat) : Int) ((0 : Nat) : Int) (a : Int) hh) (bad := fun hh => kr 0 hh) v (fun A B bc tc gc q cl => op_poke q cl (hSi _)) (fun g A m kr h0 => by
    show M_poke (S (a + 1)) (S (a + 2)) (mh g (au A 12 0 m)) kr = M_poke (S (a + 1)) (S (a + 2)) (mh g A) kr
    unfold M_poke
    rw [mh_thr0 h0]) (fun e m hc => by
    rcases hc with ⟨rfl, rfl⟩
    · exact ⟨by decide, fun hh => rfl⟩) (fun v0 hX B1 qX sX lX => by
    rw [hKF]
    show (zob hX 50 ((0 : Nat) : Int) fun p7 =>
    zix (zhL hX 50 p7) (wr ((a : Int) + 1)) fun j8 =>
    zob hX 50 ((0 : Nat) : Int) fun p9 =>
    zix (zhL hX 50 p9) (wr ((a : Int) + 2)) fun j10 =>
    zob hX 12 ((0 : Nat) : Int) fun _ =>
    zmch hX ((0 : Nat) : Int) (M_poke (zhD hX 50 p7 j8) (zhD hX 50 p9 j10) hX  fun v11 h12 =>
    zob h12 12 ((0 : Nat) : Int) fun _ =>
    zmch h12 ((0 : Nat) : Int) (M_thrown h12  fun v13 h14 =>
    if v13 = v0 then (if v0 = 0 then (zob h14 51 ((0 : Nat) : Int) fun p15 =>
    zix (zhL h14 51 p15) 0 fun j16 =>
    if (zlcmp (zhD h14 51 p15 j16) v11) = 0 then Lw_law_515 kr r28 ((0 : Nat) : Int) ((0 : Nat) : Int) ((0 : Nat) : Int) ((0 : Nat) : Int) ((0 : Nat) : Int) (a : Int) h14
    else kr 0 h14)
    else Lw_law_515 kr r28 ((0 : Nat) : Int) ((0 : Nat) : Int) ((0 : Nat) : Int) ((0 : Nat) : Int) ((0 : Nat) : Int) (a : Int) h14)
    else kr 0 h14))) = _
    refine Eq.trans (z50 qX lX (i := 1) (by omega) hl) ?_
    refine Eq.trans (z50 qX lX (i := 2) (by omega) hl) ?_
    refine Eq.trans (z12 qX) ?_
    rw [qX.1 50 (a + 1) rfl, sX, qX.1 50 (a + 2) rfl, sX])
  obtain ⟨h1, K1, L1, e, v1⟩ := core
  refine ⟨h1, K1, L1, ?_, v1⟩
  rw [hKF] at e
  unfold Lw_law_450
  refine Eq.trans (z50 q.rh hlen (i := 1) (by omega) hl) ?_
  refine Eq.trans (z50 q.rh hlen (i := 2) (by omega) hl) ?_
  unfold Lw_poke
  refine Eq.trans (zob_n (show 0 < zhN h 0 by rw [q.rs.N0]; decide)) ?_
  rw [q.rh.1 50 (a + 1) rfl, hS, q.rh.1 50 (a + 2) rfl, hS]
  exact e
theorem law_setOrder (v : LV S len h K L n N M) (ha : a + 5 < len) (hl : len ≤ 3072) (hSi : ∀ j, zir (S j)) : ∃ (h1 : zH) (K1 L1 : Nat), Lw_law_1075 kr r28 ((0 : Nat) : Int) ((0 : Nat) : Int) ((0 : Nat) : Int) ((0 : Nat) : Int) ((0 : Nat) : Int) (a : Int) h = r28 ((0 : Nat) : Int) ((0 : Nat) : Int) ((0 : Nat) : Int) ((0 : Nat) : Int) ((0 : Nat) : Int) (wr ((a : Int) + 6)) h1 ∧ LV S len h1 K1 L1 (n + 18500) (N + 1000) (M + 13000) := by
  obtain ⟨A0, B0, bc0, tc0, gc0, m0, q, cl, hB, hS, hlen⟩ := id v
  obtain ⟨KF, hKF⟩ : ∃ KF : Int → zH → Option ρ, KF = (fun v3 h4 => zob h4 50 ((0 : Nat) : Int) fun p5 =>
    zix (zhL h4 50 p5) (wr ((a : Int) + 1)) fun j6 =>
    zob h4 12 ((0 : Nat) : Int) fun _ =>
    zmch h4 ((0 : Nat) : Int) (M_setOrder ((zhD h4 50 p5 j6) % 65536) h4  fun v7 h8 =>
    zob h8 12 ((0 : Nat) : Int) fun _ =>
    zmch h8 ((0 : Nat) : Int) (M_thrown h8  fun v9 h10 =>
    if v9 = v3 then (if v3 = 0 then (zob h10 51 ((0 : Nat) : Int) fun p11 =>
    zix (zhL h10 51 p11) 0 fun j12 =>
    if (zlcmp (zhD h10 51 p11 j12) v7) = 0 then Lw_law_1130 kr r28 ((0 : Nat) : Int) ((0 : Nat) : Int) ((0 : Nat) : Int) ((0 : Nat) : Int) ((0 : Nat) : Int) (a : Int) h10
    else kr 0 h10)
    else Lw_law_1130 kr r28 ((0 : Nat) : Int) ((0 : Nat) : Int) ((0 : Nat) : Int) ((0 : Nat) : Int) ((0 : Nat) : Int) (a : Int) h10)
    else kr 0 h10))) := ⟨_, rfl⟩
  have core := law_core (cod := fun (e : Nat) (m : Int) => (e = 1 ∧ m = 1)) (X := fun kt kr => X_setOrder 0 ((S (a + 1)) % 65536) h kt kr) (Mo := fun g kr => M_setOrder ((S (a + 1)) % 65536) g kr) (kt := (fun n h6 => if n = 1 then KF 1 h6 else none)) (K1 := KF) (R := fun hh => Lw_law_1130 kr r28 ((0 : Nat) : Int) ((0 : Nat) : Int) ((0 : Nat) : Int) ((0 : Nat) : Int) ((0 : Nat) : Int) (a : Int) hh) (bad := fun hh => kr 0 hh) v (fun A B bc tc gc q cl => op_setOrder q cl) (fun g A m kr h0 => by
    show M_setOrder ((S (a + 1)) % 65536) (mh g (au A 12 0 m)) kr = M_setOrder ((S (a + 1)) % 65536) (mh g A) kr
    unfold M_setOrder
    rw [mh_thr0 h0]) (fun e m hc => by
    rcases hc with ⟨rfl, rfl⟩
    · exact ⟨by decide, fun hh => rfl⟩) (fun v0 hX B1 qX sX lX => by
    rw [hKF]
    show (zob hX 50 ((0 : Nat) : Int) fun p5 =>
    zix (zhL hX 50 p5) (wr ((a : Int) + 1)) fun j6 =>
    zob hX 12 ((0 : Nat) : Int) fun _ =>
    zmch hX ((0 : Nat) : Int) (M_setOrder ((zhD hX 50 p5 j6) % 65536) hX  fun v7 h8 =>
    zob h8 12 ((0 : Nat) : Int) fun _ =>
    zmch h8 ((0 : Nat) : Int) (M_thrown h8  fun v9 h10 =>
    if v9 = v0 then (if v0 = 0 then (zob h10 51 ((0 : Nat) : Int) fun p11 =>
    zix (zhL h10 51 p11) 0 fun j12 =>
    if (zlcmp (zhD h10 51 p11 j12) v7) = 0 then Lw_law_1130 kr r28 ((0 : Nat) : Int) ((0 : Nat) : Int) ((0 : Nat) : Int) ((0 : Nat) : Int) ((0 : Nat) : Int) (a : Int) h10
    else kr 0 h10)
    else Lw_law_1130 kr r28 ((0 : Nat) : Int) ((0 : Nat) : Int) ((0 : Nat) : Int) ((0 : Nat) : Int) ((0 : Nat) : Int) (a : Int) h10)
    else kr 0 h10))) = _
    refine Eq.trans (z50 qX lX (i := 1) (by omega) hl) ?_
    refine Eq.trans (z12 qX) ?_
    rw [qX.1 50 (a + 1) rfl, sX])
  obtain ⟨h1, K1, L1, e, v1⟩ := core
  refine ⟨h1, K1, L1, ?_, v1⟩
  rw [hKF] at e
  unfold Lw_law_1075
  refine Eq.trans (z50 q.rh hlen (i := 1) (by omega) hl) ?_
  unfold Lw_setOrder
  refine Eq.trans (zob_n (show 0 < zhN h 0 by rw [q.rs.N0]; decide)) ?_
  rw [q.rh.1 50 (a + 1) rfl, hS]
  exact e
theorem law_step (v : LV S len h K L n N M) (ha : a + 5 < len) (hl : len ≤ 3072) (bn : n ≤ 9980000) {kr : Int → zH → Option zRes} {r28 : Int → Int → Int → Int → Int → Int → zH → Option zRes} : ∃ (h1 : zH) (K1 L1 : Nat), Lw_law_963 kr r28 ((0 : Nat) : Int) ((0 : Nat) : Int) ((0 : Nat) : Int) ((0 : Nat) : Int) ((0 : Nat) : Int) (a : Int) h = r28 ((0 : Nat) : Int) ((0 : Nat) : Int) ((0 : Nat) : Int) ((0 : Nat) : Int) ((0 : Nat) : Int) (wr ((a : Int) + 6)) h1 ∧ LV S len h1 K1 L1 (n + 18500) (N + 1000) (M + 13000) := by
  obtain ⟨A0, B0, bc0, tc0, gc0, m0, q, cl, hB, hS, hlen⟩ := id v
  obtain ⟨KF, hKF⟩ : ∃ KF : Int → zH → Option zRes, KF = (fun v3 h4 => zob h4 50 ((0 : Nat) : Int) fun p5 =>
    zix (zhL h4 50 p5) (wr ((a : Int) + 1)) fun j6 =>
    zob h4 12 ((0 : Nat) : Int) fun _ =>
    zmch h4 ((0 : Nat) : Int) (M_step (zhD h4 50 p5 j6) h4  fun v7 h8 =>
    zob h8 12 ((0 : Nat) : Int) fun _ =>
    zmch h8 ((0 : Nat) : Int) (M_thrown h8  fun v9 h10 =>
    if v9 = v3 then (if v3 = 0 then (zob h10 51 ((0 : Nat) : Int) fun p11 =>
    zix (zhL h10 51 p11) 0 fun j12 =>
    if (zlcmp (zhD h10 51 p11 j12) v7) = 0 then Lw_law_1016 kr r28 ((0 : Nat) : Int) ((0 : Nat) : Int) ((0 : Nat) : Int) ((0 : Nat) : Int) ((0 : Nat) : Int) (a : Int) h10
    else kr 0 h10)
    else Lw_law_1016 kr r28 ((0 : Nat) : Int) ((0 : Nat) : Int) ((0 : Nat) : Int) ((0 : Nat) : Int) ((0 : Nat) : Int) (a : Int) h10)
    else kr 0 h10))) := ⟨_, rfl⟩
  have core := law_core (cod := fun (e : Nat) (m : Int) => (e = 1 ∧ m = 1)) (X := fun kt kr => X_step 0 (S (a + 1)) h kt kr) (Mo := fun g kr => M_step (S (a + 1)) g kr) (kt := (fun n h6 => if n = 1 then KF 1 h6 else none)) (K1 := KF) (R := fun hh => Lw_law_1016 kr r28 ((0 : Nat) : Int) ((0 : Nat) : Int) ((0 : Nat) : Int) ((0 : Nat) : Int) ((0 : Nat) : Int) (a : Int) hh) (bad := fun hh => kr 0 hh) v (fun A B bc tc gc q cl => op_step q cl bn) (fun g A m kr h0 => by
    show M_step (S (a + 1)) (mh g (au A 12 0 m)) kr = M_step (S (a + 1)) (mh g A) kr
    unfold M_step
    rw [mh_thr0 h0]) (fun e m hc => by
    rcases hc with ⟨rfl, rfl⟩
    · exact ⟨by decide, fun hh => rfl⟩) (fun v0 hX B1 qX sX lX => by
    rw [hKF]
    show (zob hX 50 ((0 : Nat) : Int) fun p5 =>
    zix (zhL hX 50 p5) (wr ((a : Int) + 1)) fun j6 =>
    zob hX 12 ((0 : Nat) : Int) fun _ =>
    zmch hX ((0 : Nat) : Int) (M_step (zhD hX 50 p5 j6) hX  fun v7 h8 =>
    zob h8 12 ((0 : Nat) : Int) fun _ =>
    zmch h8 ((0 : Nat) : Int) (M_thrown h8  fun v9 h10 =>
    if v9 = v0 then (if v0 = 0 then (zob h10 51 ((0 : Nat) : Int) fun p11 =>
    zix (zhL h10 51 p11) 0 fun j12 =>
    if (zlcmp (zhD h10 51 p11 j12) v7) = 0 then Lw_law_1016 kr r28 ((0 : Nat) : Int) ((0 : Nat) : Int) ((0 : Nat) : Int) ((0 : Nat) : Int) ((0 : Nat) : Int) (a : Int) h10
    else kr 0 h10)
    else Lw_law_1016 kr r28 ((0 : Nat) : Int) ((0 : Nat) : Int) ((0 : Nat) : Int) ((0 : Nat) : Int) ((0 : Nat) : Int) (a : Int) h10)
    else kr 0 h10))) = _
    refine Eq.trans (z50 qX lX (i := 1) (by omega) hl) ?_
    refine Eq.trans (z12 qX) ?_
    rw [qX.1 50 (a + 1) rfl, sX])
  obtain ⟨h1, K1, L1, e, v1⟩ := core
  refine ⟨h1, K1, L1, ?_, v1⟩
  rw [hKF] at e
  unfold Lw_law_963
  refine Eq.trans (z50 q.rh hlen (i := 1) (by omega) hl) ?_
  unfold Lw_step
  refine Eq.trans (zob_n (show 0 < zhN h 0 by rw [q.rs.N0]; decide)) ?_
  rw [q.rh.1 50 (a + 1) rfl, hS]
  exact e
theorem law_run (v : LV S len h K L n N M) (ha : a + 5 < len) (hl : len ≤ 3072) (bn : n ≤ 9980000) {kr : Int → zH → Option zRes} {r28 : Int → Int → Int → Int → Int → Int → zH → Option zRes} : ∃ (h1 : zH) (K1 L1 : Nat), Lw_law_1019 kr r28 ((0 : Nat) : Int) ((0 : Nat) : Int) ((0 : Nat) : Int) ((0 : Nat) : Int) ((0 : Nat) : Int) (a : Int) h = r28 ((0 : Nat) : Int) ((0 : Nat) : Int) ((0 : Nat) : Int) ((0 : Nat) : Int) ((0 : Nat) : Int) (wr ((a : Int) + 6)) h1 ∧ LV S len h1 K1 L1 (n + 18500) (N + 1000) (M + 13000) := by
  obtain ⟨A0, B0, bc0, tc0, gc0, m0, q, cl, hB, hS, hlen⟩ := id v
  obtain ⟨KF, hKF⟩ : ∃ KF : Int → zH → Option zRes, KF = (fun v3 h4 => zob h4 50 ((0 : Nat) : Int) fun p5 =>
    zix (zhL h4 50 p5) (wr ((a : Int) + 1)) fun j6 =>
    zob h4 12 ((0 : Nat) : Int) fun _ =>
    zmch h4 ((0 : Nat) : Int) (M_run (zhD h4 50 p5 j6) h4  fun v7 h8 =>
    zob h8 12 ((0 : Nat) : Int) fun _ =>
    zmch h8 ((0 : Nat) : Int) (M_thrown h8  fun v9 h10 =>
    if v9 = v3 then (if v3 = 0 then (zob h10 51 ((0 : Nat) : Int) fun p11 =>
    zix (zhL h10 51 p11) 0 fun j12 =>
    if (zlcmp (zhD h10 51 p11 j12) v7) = 0 then Lw_law_1072 kr r28 ((0 : Nat) : Int) ((0 : Nat) : Int) ((0 : Nat) : Int) ((0 : Nat) : Int) ((0 : Nat) : Int) (a : Int) h10
    else kr 0 h10)
    else Lw_law_1072 kr r28 ((0 : Nat) : Int) ((0 : Nat) : Int) ((0 : Nat) : Int) ((0 : Nat) : Int) ((0 : Nat) : Int) (a : Int) h10)
    else kr 0 h10))) := ⟨_, rfl⟩
  have core := law_core (cod := fun (e : Nat) (m : Int) => (e = 1 ∧ m = 1)) (X := fun kt kr => X_run 0 (S (a + 1)) h kt kr) (Mo := fun g kr => M_run (S (a + 1)) g kr) (kt := (fun n h6 => if n = 1 then KF 1 h6 else none)) (K1 := KF) (R := fun hh => Lw_law_1072 kr r28 ((0 : Nat) : Int) ((0 : Nat) : Int) ((0 : Nat) : Int) ((0 : Nat) : Int) ((0 : Nat) : Int) (a : Int) hh) (bad := fun hh => kr 0 hh) v (fun A B bc tc gc q cl => op_run q cl bn) (fun g A m kr h0 => by
    show M_run (S (a + 1)) (mh g (au A 12 0 m)) kr = M_run (S (a + 1)) (mh g A) kr
    unfold M_run
    rw [mh_thr0 h0]) (fun e m hc => by
    rcases hc with ⟨rfl, rfl⟩
    · exact ⟨by decide, fun hh => rfl⟩) (fun v0 hX B1 qX sX lX => by
    rw [hKF]
    show (zob hX 50 ((0 : Nat) : Int) fun p5 =>
    zix (zhL hX 50 p5) (wr ((a : Int) + 1)) fun j6 =>
    zob hX 12 ((0 : Nat) : Int) fun _ =>
    zmch hX ((0 : Nat) : Int) (M_run (zhD hX 50 p5 j6) hX  fun v7 h8 =>
    zob h8 12 ((0 : Nat) : Int) fun _ =>
    zmch h8 ((0 : Nat) : Int) (M_thrown h8  fun v9 h10 =>
    if v9 = v0 then (if v0 = 0 then (zob h10 51 ((0 : Nat) : Int) fun p11 =>
    zix (zhL h10 51 p11) 0 fun j12 =>
    if (zlcmp (zhD h10 51 p11 j12) v7) = 0 then Lw_law_1072 kr r28 ((0 : Nat) : Int) ((0 : Nat) : Int) ((0 : Nat) : Int) ((0 : Nat) : Int) ((0 : Nat) : Int) (a : Int) h10
    else kr 0 h10)
    else Lw_law_1072 kr r28 ((0 : Nat) : Int) ((0 : Nat) : Int) ((0 : Nat) : Int) ((0 : Nat) : Int) ((0 : Nat) : Int) (a : Int) h10)
    else kr 0 h10))) = _
    refine Eq.trans (z50 qX lX (i := 1) (by omega) hl) ?_
    refine Eq.trans (z12 qX) ?_
    rw [qX.1 50 (a + 1) rfl, sX])
  obtain ⟨h1, K1, L1, e, v1⟩ := core
  refine ⟨h1, K1, L1, ?_, v1⟩
  rw [hKF] at e
  unfold Lw_law_1019
  refine Eq.trans (z50 q.rh hlen (i := 1) (by omega) hl) ?_
  unfold Lw_run
  refine Eq.trans (zob_n (show 0 < zhN h 0 by rw [q.rs.N0]; decide)) ?_
  rw [q.rh.1 50 (a + 1) rfl, hS]
  exact e
/-- behind a plain question -/
theorem lv_plain {w : Int} {X : (Int → zH → Option ρ) → Option ρ} {Mo : zH → (Int → zH → Option ρ) → Option ρ} {R : zH → Option ρ} {Kf : Int → zH → Option ρ} (v : LV S len h K L n N M) (hX : ∀ A B bc tc gc, RR A h K L bc tc gc n B N M → ∃ w, (∀ kr, X kr = kr w h) ∧ (∀ g kr, Mo (mh g A) kr = kr w (mh g A)))
    (hMo : ∀ (g : zH) (A : zA) (m : Int) kr, A 12 0 = 0 → Mo (mh g (au A 12 0 m)) kr = Mo (mh g A) kr)
    (hK : ∀ w, ∃ Q : Int → zH → Option ρ, (∀ hh, Kf w hh = zob hh 12 ((0 : Nat) : Int) fun _ => zmch hh ((0 : Nat) : Int) (Mo hh Q)) ∧ ∀ hh, Q w hh = R hh) : ∃ h1, X Kf = R h1 ∧ LV S len h1 K L (n + 18500) (N + 1000) (M + 13000) := by
  obtain ⟨A, B, bc, tc, gc, m0, q, cl, hB, hS, hlen⟩ := v
  have h0 := q.rc.2 0 rfl
  obtain ⟨w, hx, hm⟩ := hX A B bc tc gc q
  obtain ⟨Q, k1, k2⟩ := hK w
  have own : mh h (au A 12 0 m0) = h := mh_own (fun c j hc => (q.rh.1 c j (zmk5_of hc)).trans (hB c j hc))
  have hz : ∀ k ∈ zmfs, B 12 k = 0 := fun k hk => by
    obtain ⟨y1, y2⟩ := zmfs_pt hk
    rw [hB 12 k rfl, au12 y2]
    exact q.rc.2 k y1
  refine ⟨mh h A, ?_, A, zBB B A, bc, tc, gc, 0, (q.mh (A' := A)).mono (by omega) (by omega) (by omega), cl, fun c j hc => (if_pos hc).trans (au_zz h0 c j).symm, fun j => (if_neg (by decide)).trans (hS j), (if_neg (by decide)).trans hlen⟩
  rw [hx, k1, z12 q.rh, zmch1 q.rh hz]
  conv => lhs; rw [← own]
  rw [hMo _ A m0 _ h0, hm, k2]
theorem law_launches (v : LV S len h K L n N M) : ∃ (h1 : zH) (K1 L1 : Nat), Lw_law_782 kr r28 ((0 : Nat) : Int) ((0 : Nat) : Int) ((0 : Nat) : Int) ((0 : Nat) : Int) ((0 : Nat) : Int) (a : Int) h = r28 ((0 : Nat) : Int) ((0 : Nat) : Int) ((0 : Nat) : Int) ((0 : Nat) : Int) ((0 : Nat) : Int) (wr ((a : Int) + 6)) h1 ∧ LV S len h1 K1 L1 (n + 18500) (N + 1000) (M + 13000) := by
  obtain ⟨A0, B0, bc0, tc0, gc0, m0, q0, -⟩ := id v
  obtain ⟨h1, e, v1⟩ := lv_plain (w := 0) (X := fun kr => X_launches 0 h kr) (Mo := fun g kr => M_launches g kr) (R := fun hh => r28 ((0 : Nat) : Int) ((0 : Nat) : Int) ((0 : Nat) : Int) ((0 : Nat) : Int) ((0 : Nat) : Int) (wr ((a : Int) + 6)) hh) (Kf := fun v1 h2 => zob h2 12 ((0 : Nat) : Int) fun _ => zmch h2 ((0 : Nat) : Int) (M_launches h2 fun v3 h4 => if v1 = v3 then r28 ((0 : Nat) : Int) ((0 : Nat) : Int) ((0 : Nat) : Int) ((0 : Nat) : Int) ((0 : Nat) : Int) (wr ((a : Int) + 6)) h4 else kr 0 h4)) v (fun A B bc tc gc q => ⟨_, fun kr => x_launches q.rs q.rl, fun g kr => by rw [show (M_launches (mh g A) kr) = _ from m_launches, q.a0]⟩) (fun g A m kr h0 => by
    show M_launches (mh g (au A 12 0 m)) kr = M_launches (mh g A) kr
    unfold M_launches
    rw [mh_thr0 h0]) (fun w => ⟨_, fun hh => rfl, fun hh => if_pos rfl⟩)
  refine ⟨h1, K, L, ?_, v1⟩
  unfold Lw_law_782
  refine Eq.trans (zob_n (show 0 < zhN h 0 by rw [q0.rs.N0]; decide)) ?_
  exact e
theorem law_cycle (v : LV S len h K L n N M) : ∃ (h1 : zH) (K1 L1 : Nat), Lw_law_1133 kr r28 ((0 : Nat) : Int) ((0 : Nat) : Int) ((0 : Nat) : Int) ((0 : Nat) : Int) ((0 : Nat) : Int) (a : Int) h = r28 ((0 : Nat) : Int) ((0 : Nat) : Int) ((0 : Nat) : Int) ((0 : Nat) : Int) ((0 : Nat) : Int) (wr ((a : Int) + 6)) h1 ∧ LV S len h1 K1 L1 (n + 18500) (N + 1000) (M + 13000) := by
  obtain ⟨A0, B0, bc0, tc0, gc0, m0, q0, -⟩ := id v
  obtain ⟨h1, e, v1⟩ := lv_plain (w := 0) (X := fun kr => X_cycle 0 h kr) (Mo := fun g kr => M_cycle g kr) (R := fun hh => r28 ((0 : Nat) : Int) ((0 : Nat) : Int) ((0 : Nat) : Int) ((0 : Nat) : Int) ((0 : Nat) : Int) (wr ((a : Int) + 6)) hh) (Kf := fun v1 h2 => zob h2 12 ((0 : Nat) : Int) fun _ => zmch h2 ((0 : Nat) : Int) (M_cycle h2 fun v3 h4 => if v1 = v3 then r28 ((0 : Nat) : Int) ((0 : Nat) : Int) ((0 : Nat) : Int) ((0 : Nat) : Int) ((0 : Nat) : Int) (wr ((a : Int) + 6)) h4 else kr 0 h4)) v (fun A B bc tc gc q => ⟨_, fun kr => (x_cycle q.rs).trans (by rw [q.rm.2.1]), fun g kr => by rw [show (M_cycle (mh g A) kr) = _ from m_cycle, q.a0]⟩) (fun g A m kr h0 => by
    show M_cycle (mh g (au A 12 0 m)) kr = M_cycle (mh g A) kr
    unfold M_cycle
    rw [mh_thr0 h0]) (fun w => ⟨_, fun hh => rfl, fun hh => if_pos rfl⟩)
  refine ⟨h1, K, L, ?_, v1⟩
  unfold Lw_law_1133
  refine Eq.trans (zob_n (show 0 < zhN h 0 by rw [q0.rs.N0]; decide)) ?_
  exact e
theorem law_lanes (v : LV S len h K L n N M) : ∃ (h1 : zH) (K1 L1 : Nat), Lw_law_2145 kr r28 ((0 : Nat) : Int) ((0 : Nat) : Int) ((0 : Nat) : Int) ((0 : Nat) : Int) ((0 : Nat) : Int) (a : Int) h = r28 ((0 : Nat) : Int) ((0 : Nat) : Int) ((0 : Nat) : Int) ((0 : Nat) : Int) ((0 : Nat) : Int) (wr ((a : Int) + 6)) h1 ∧ LV S len h1 K1 L1 (n + 18500) (N + 1000) (M + 13000) := by
  obtain ⟨A0, B0, bc0, tc0, gc0, m0, q0, -⟩ := id v
  obtain ⟨h1, e, v1⟩ := lv_plain (w := 0) (X := fun kr => X_lanes 0 h kr) (Mo := fun g kr => M_lanes g kr) (R := fun hh => r28 ((0 : Nat) : Int) ((0 : Nat) : Int) ((0 : Nat) : Int) ((0 : Nat) : Int) ((0 : Nat) : Int) (wr ((a : Int) + 6)) hh) (Kf := fun v1 h2 => zob h2 12 ((0 : Nat) : Int) fun _ => zmch h2 ((0 : Nat) : Int) (M_lanes h2 fun v3 h4 => if (zlcmp v1 v3) = 0 then r28 ((0 : Nat) : Int) ((0 : Nat) : Int) ((0 : Nat) : Int) ((0 : Nat) : Int) ((0 : Nat) : Int) (wr ((a : Int) + 6)) h4 else kr 0 h4)) v (fun A B bc tc gc q => ⟨_, fun kr => (x_lanes q.rs).trans (by rw [q.rm.2.2.2.2.2.1]), fun g kr => by rw [show (M_lanes (mh g A) kr) = _ from m_lanes, q.a0]⟩) (fun g A m kr h0 => by
    show M_lanes (mh g (au A 12 0 m)) kr = M_lanes (mh g A) kr
    unfold M_lanes
    rw [mh_thr0 h0]) (fun w => ⟨_, fun hh => rfl, fun hh => if_pos zl_eq⟩)
  refine ⟨h1, K, L, ?_, v1⟩
  unfold Lw_law_2145
  refine Eq.trans (zob_n (show 0 < zhN h 0 by rw [q0.rs.N0]; decide)) ?_
  exact e
theorem law_misses (v : LV S len h K L n N M) : ∃ (h1 : zH) (K1 L1 : Nat), Lw_law_2159 kr r28 ((0 : Nat) : Int) ((0 : Nat) : Int) ((0 : Nat) : Int) ((0 : Nat) : Int) ((0 : Nat) : Int) (a : Int) h = r28 ((0 : Nat) : Int) ((0 : Nat) : Int) ((0 : Nat) : Int) ((0 : Nat) : Int) ((0 : Nat) : Int) (wr ((a : Int) + 6)) h1 ∧ LV S len h1 K1 L1 (n + 18500) (N + 1000) (M + 13000) := by
  obtain ⟨A0, B0, bc0, tc0, gc0, m0, q0, -⟩ := id v
  obtain ⟨h1, e, v1⟩ := lv_plain (w := 0) (X := fun kr => X_misses 0 h kr) (Mo := fun g kr => M_misses g kr) (R := fun hh => r28 ((0 : Nat) : Int) ((0 : Nat) : Int) ((0 : Nat) : Int) ((0 : Nat) : Int) ((0 : Nat) : Int) (wr ((a : Int) + 6)) hh) (Kf := fun v1 h2 => zob h2 12 ((0 : Nat) : Int) fun _ => zmch h2 ((0 : Nat) : Int) (M_misses h2 fun v3 h4 => if v1 = v3 then r28 ((0 : Nat) : Int) ((0 : Nat) : Int) ((0 : Nat) : Int) ((0 : Nat) : Int) ((0 : Nat) : Int) (wr ((a : Int) + 6)) h4 else kr 0 h4)) v (fun A B bc tc gc q => ⟨_, fun kr => (x_misses q.rs).trans (by rw [q.rm.2.2.2.2.2.2.2.2.1]), fun g kr => by rw [show (M_misses (mh g A) kr) = _ from m_misses, q.a0]⟩) (fun g A m kr h0 => by
    show M_misses (mh g (au A 12 0 m)) kr = M_misses (mh g A) kr
    unfold M_misses
    rw [mh_thr0 h0]) (fun w => ⟨_, fun hh => rfl, fun hh => if_pos rfl⟩)
  refine ⟨h1, K, L, ?_, v1⟩
  unfold Lw_law_2159
  refine Eq.trans (zob_n (show 0 < zhN h 0 by rw [q0.rs.N0]; decide)) ?_
  exact e
theorem law_lost (v : LV S len h K L n N M) : ∃ (h1 : zH) (K1 L1 : Nat), Lw_law_2172 kr r28 ((0 : Nat) : Int) ((0 : Nat) : Int) ((0 : Nat) : Int) ((0 : Nat) : Int) ((0 : Nat) : Int) (a : Int) h = r28 ((0 : Nat) : Int) ((0 : Nat) : Int) ((0 : Nat) : Int) ((0 : Nat) : Int) ((0 : Nat) : Int) (wr ((a : Int) + 6)) h1 ∧ LV S len h1 K1 L1 (n + 18500) (N + 1000) (M + 13000) := by
  obtain ⟨A0, B0, bc0, tc0, gc0, m0, q0, -⟩ := id v
  obtain ⟨h1, e, v1⟩ := lv_plain (w := 0) (X := fun kr => X_lost 0 h kr) (Mo := fun g kr => M_lost g kr) (R := fun hh => r28 ((0 : Nat) : Int) ((0 : Nat) : Int) ((0 : Nat) : Int) ((0 : Nat) : Int) ((0 : Nat) : Int) (wr ((a : Int) + 6)) hh) (Kf := fun v1 h2 => zob h2 12 ((0 : Nat) : Int) fun _ => zmch h2 ((0 : Nat) : Int) (M_lost h2 fun v3 h4 => if v1 = v3 then r28 ((0 : Nat) : Int) ((0 : Nat) : Int) ((0 : Nat) : Int) ((0 : Nat) : Int) ((0 : Nat) : Int) (wr ((a : Int) + 6)) h4 else kr 0 h4)) v (fun A B bc tc gc q => ⟨_, fun kr => (x_lost q.rs).trans (by rw [q.rm.2.2.2.2.2.2.2.2.2.1]), fun g kr => by rw [show (M_lost (mh g A) kr) = _ from m_lost, q.a0]⟩) (fun g A m kr h0 => by
    show M_lost (mh g (au A 12 0 m)) kr = M_lost (mh g A) kr
    unfold M_lost
    rw [mh_thr0 h0]) (fun w => ⟨_, fun hh => rfl, fun hh => if_pos rfl⟩)
  refine ⟨h1, K, L, ?_, v1⟩
  unfold Lw_law_2172
  refine Eq.trans (zob_n (show 0 < zhN h 0 by rw [q0.rs.N0]; decide)) ?_
  exact e
theorem law_barriers (v : LV S len h K L n N M) : ∃ (h1 : zH) (K1 L1 : Nat), Lw_law_2185 kr r28 ((0 : Nat) : Int) ((0 : Nat) : Int) ((0 : Nat) : Int) ((0 : Nat) : Int) ((0 : Nat) : Int) (a : Int) h = r28 ((0 : Nat) : Int) ((0 : Nat) : Int) ((0 : Nat) : Int) ((0 : Nat) : Int) ((0 : Nat) : Int) (wr ((a : Int) + 6)) h1 ∧ LV S len h1 K1 L1 (n + 18500) (N + 1000) (M + 13000) := by
  obtain ⟨A0, B0, bc0, tc0, gc0, m0, q0, -⟩ := id v
  obtain ⟨h1, e, v1⟩ := lv_plain (w := 0) (X := fun kr => X_barriers 0 h kr) (Mo := fun g kr => M_barriers g kr) (R := fun hh => r28 ((0 : Nat) : Int) ((0 : Nat) : Int) ((0 : Nat) : Int) ((0 : Nat) : Int) ((0 : Nat) : Int) (wr ((a : Int) + 6)) hh) (Kf := fun v1 h2 => zob h2 12 ((0 : Nat) : Int) fun _ => zmch h2 ((0 : Nat) : Int) (M_barriers h2 fun v3 h4 => if v1 = v3 then r28 ((0 : Nat) : Int) ((0 : Nat) : Int) ((0 : Nat) : Int) ((0 : Nat) : Int) ((0 : Nat) : Int) (wr ((a : Int) + 6)) h4 else kr 0 h4)) v (fun A B bc tc gc q => ⟨_, fun kr => (x_barriers q.rs).trans (by rw [q.rm.2.2.2.2.2.2.2.2.2.2.1]), fun g kr => by rw [show (M_barriers (mh g A) kr) = _ from m_barriers, q.a0]⟩) (fun g A m kr h0 => by
    show M_barriers (mh g (au A 12 0 m)) kr = M_barriers (mh g A) kr
    unfold M_barriers
    rw [mh_thr0 h0]) (fun w => ⟨_, fun hh => rfl, fun hh => if_pos rfl⟩)
  refine ⟨h1, K, L, ?_, v1⟩
  unfold Lw_law_2185
  refine Eq.trans (zob_n (show 0 < zhN h 0 by rw [q0.rs.N0]; decide)) ?_
  exact e
theorem law_refused (v : LV S len h K L n N M) : ∃ (h1 : zH) (K1 L1 : Nat), Lw_law_2198 kr r28 ((0 : Nat) : Int) ((0 : Nat) : Int) ((0 : Nat) : Int) ((0 : Nat) : Int) ((0 : Nat) : Int) (a : Int) h = r28 ((0 : Nat) : Int) ((0 : Nat) : Int) ((0 : Nat) : Int) ((0 : Nat) : Int) ((0 : Nat) : Int) (wr ((a : Int) + 6)) h1 ∧ LV S len h1 K1 L1 (n + 18500) (N + 1000) (M + 13000) := by
  obtain ⟨A0, B0, bc0, tc0, gc0, m0, q0, -⟩ := id v
  obtain ⟨h1, e, v1⟩ := lv_plain (w := 0) (X := fun kr => X_refused 0 h kr) (Mo := fun g kr => M_refused g kr) (R := fun hh => r28 ((0 : Nat) : Int) ((0 : Nat) : Int) ((0 : Nat) : Int) ((0 : Nat) : Int) ((0 : Nat) : Int) (wr ((a : Int) + 6)) hh) (Kf := fun v1 h2 => zob h2 12 ((0 : Nat) : Int) fun _ => zmch h2 ((0 : Nat) : Int) (M_refused h2 fun v3 h4 => if v1 = v3 then r28 ((0 : Nat) : Int) ((0 : Nat) : Int) ((0 : Nat) : Int) ((0 : Nat) : Int) ((0 : Nat) : Int) (wr ((a : Int) + 6)) h4 else kr 0 h4)) v (fun A B bc tc gc q => ⟨_, fun kr => (x_refused q.rs).trans (by rw [q.rm.2.2.2.2.2.2.2.2.2.2.2]), fun g kr => by rw [show (M_refused (mh g A) kr) = _ from m_refused, q.a0]⟩) (fun g A m kr h0 => by
    show M_refused (mh g (au A 12 0 m)) kr = M_refused (mh g A) kr
    unfold M_refused
    rw [mh_thr0 h0]) (fun w => ⟨_, fun hh => rfl, fun hh => if_pos rfl⟩)
  refine ⟨h1, K, L, ?_, v1⟩
  unfold Lw_law_2198
  refine Eq.trans (zob_n (show 0 < zhN h 0 by rw [q0.rs.N0]; decide)) ?_
  exact e
theorem law_isSound (v : LV S len h K L n N M) : ∃ (h1 : zH) (K1 L1 : Nat), Lw_law_2342 kr r28 ((0 : Nat) : Int) ((0 : Nat) : Int) ((0 : Nat) : Int) ((0 : Nat) : Int) ((0 : Nat) : Int) (a : Int) h = r28 ((0 : Nat) : Int) ((0 : Nat) : Int) ((0 : Nat) : Int) ((0 : Nat) : Int) ((0 : Nat) : Int) (wr ((a : Int) + 6)) h1 ∧ LV S len h1 K1 L1 (n + 18500) (N + 1000) (M + 13000) := by
  obtain ⟨A0, B0, bc0, tc0, gc0, m0, q0, -⟩ := id v
  obtain ⟨h1, e, v1⟩ := lv_plain (w := 0) (X := fun kr => X_isSound 0 h kr) (Mo := fun g kr => M_isSound g kr) (R := fun hh => r28 ((0 : Nat) : Int) ((0 : Nat) : Int) ((0 : Nat) : Int) ((0 : Nat) : Int) ((0 : Nat) : Int) (wr ((a : Int) + 6)) hh) (Kf := fun v1 h2 => zob h2 12 ((0 : Nat) : Int) fun _ => zmch h2 ((0 : Nat) : Int) (M_isSound h2 fun v3 h4 => if v1 = v3 then r28 ((0 : Nat) : Int) ((0 : Nat) : Int) ((0 : Nat) : Int) ((0 : Nat) : Int) ((0 : Nat) : Int) (wr ((a : Int) + 6)) h4 else kr 0 h4)) v (fun A B bc tc gc q => ⟨_, fun kr => x_isSound q, fun g kr => by rw [show (M_isSound (mh g A) kr) = _ from m_isSound, q.a0]⟩) (fun g A m kr h0 => by
    show M_isSound (mh g (au A 12 0 m)) kr = M_isSound (mh g A) kr
    unfold M_isSound
    rw [mh_thr0 h0]) (fun w => ⟨_, fun hh => rfl, fun hh => if_pos rfl⟩)
  refine ⟨h1, K, L, ?_, v1⟩
  unfold Lw_law_2342
  refine Eq.trans (zob_n (show 0 < zhN h 0 by rw [q0.rs.N0]; decide)) ?_
  exact e
end
