/-! SERIAL, ISRACING, THE FIGURES -/
theorem zth_inj {v v' : Nat} {h h' : zH} (e : zth v h = zth v' h') : v' = v ∧ h' = h := by
  unfold zth at e
  injection e with e
  injection e with e
  injection e with e1 e2
  exact ⟨e1.symm, e2.symm⟩
theorem zin_zth {v : Int} {v' : Nat} {h h' : zH} (e : zin v h = zth v' h') : False := by
  unfold zin zth at e
  injection e with e
  cases e
section
variable {ρ : Type} {h : zH} {A B : zA} {K L n len a : Nat} {bc tc gc : Nat → Nat} {N M : Int} {S : Nat → Int}
variable {kt : Nat → zH → Option ρ} {kt9 : Nat → zH → Option zRes} {kr : Int → zH → Option ρ} {r28 : Int → Int → Int → Int → Int → Int → zH → Option ρ} {kr9 : Int → zH → Option zRes} {r289 : Int → Int → Int → Int → Int → Int → zH → Option zRes}
variable {Mo : zH → (Int → zH → Option ρ) → Option ρ} {K1 : Int → zH → Option ρ} {R bad : zH → Option ρ} {Chk : Int → zH → Option ρ}
theorem op_serial (q : RR A h K L bc tc gc n B N M) (cl : CW A L) {k nb T fl ce : Int} (hfl : fl = 0 ∨ fl = 1) : OP (ρ := zRes) A h B n N M (fun kt kr => X_serial 0 k nb T fl ce h kt kr) (fun g kr => M_serial k nb T fl ce g kr) (fun (e : Nat) (m : Int) => (e = 3 ∧ m = 1) ∨ (e = 1 ∧ m = 2) ∨ (e = 4 ∧ m = 3) ∨ (e = 2 ∧ m = 4)) kt9 := by
  rcases serial_both (ρ := zRes) (k := k) (nb := nb) (T := T) (ce := ce) q hfl h with ⟨h1, A1, v1, hx1, -⟩ | ⟨e1, m1, h1, A1, hc1, hx1, -⟩
  · rcases serial_both (ρ := zRes) (k := k) (nb := nb) (T := T) (ce := ce) q hfl (zset h1 51 0 0 v1) with ⟨h2, A2, v2, hx2, hm2, q2, fr2⟩ | ⟨e2, m2, h2, A2, hc2, hx2, -⟩
    · obtain ⟨rfl, rfl⟩ := zin_inj ((hx1 zth zin).symm.trans (hx2 zth zin))
      refine Or.inl ⟨h2, A2, K, L, bc, tc, gc, v2, fun kr => hx2 _ kr, fun g hg _ kr => ?_, q2.mono (by omega) (by omega) (by omega), cl.eq (fun c z1 z2 => fr2 c (by omega)) (fun c z1 z2 => fr2 c (by omega)) (fun k9 => by rw [fr2 63 (by omega)]; exact Int.le_refl _)⟩
      rw [hg]
      exact hm2 kr
    · exact (zin_zth ((hx1 zth zin).symm.trans (hx2 zth zin))).elim
  · rcases serial_both (ρ := zRes) (k := k) (nb := nb) (T := T) (ce := ce) q hfl (zthrown h1) with ⟨h2, A2, v2, hx2, -⟩ | ⟨e2, m2, h2, A2, hc2, hx2, hm2, q2, fr2⟩
    · exact (zin_zth ((hx2 zth zin).symm.trans (hx1 zth zin))).elim
    · obtain ⟨z1, z2⟩ := zth_inj ((hx1 zth zin).symm.trans (hx2 zth zin))
      refine Or.inr ⟨e2, m2, 0, zthrown h2, A2, K, L, bc, tc, gc, hc2, fun kr => hx2 _ kr, fun g hg _ kr => ?_, q2.thr.mono (by omega) (by omega) (by omega), cl.eq (fun c z1 z2 => fr2 c (by omega)) (fun c z1 z2 => fr2 c (by omega)) (fun k9 => by rw [fr2 63 (by omega)]; exact Int.le_refl _)⟩
      rw [hg, z2]
      exact hm2 kr
/-- behind the class's call, any look at what came out -/
theorem lv_end2 {h' : zH} {A A' B : zA} {K' L' n' : Nat} {N' M' : Int} {m0 m1 v0 w : Int} (q : RR A' h' K' L' bc tc gc n' B N' M') (cl : CW A' L') (hp : ∀ j, zpt j = true → A 12 j = 0) (hB : ∀ c j, zmk c = true → B c j = au A 12 0 m0 c j) (hS : ∀ j, B 50 j = S j) (hlen : B 53 0 = (len : Int))
    (hMo : ∀ kr, Mo h' kr = Mo (mh h' A) kr) (hM : ∀ kr, Mo (mh h' A) kr = kr w (mh h' (au A' 12 0 m1)))
    (hv : v0 = m1) (hw : m1 = 0 → Chk w (mh h' (au A' 12 0 m1)) = R (mh h' (au A' 12 0 m1)))
    (hK : K1 v0 h' = zmch h' ((0 : Nat) : Int) (Mo h' fun v11 h12 => zob h12 12 ((0 : Nat) : Int) fun _ => zmch h12 ((0 : Nat) : Int) (M_thrown h12 fun v13 h14 => if v13 = v0 then (if v0 = 0 then Chk v11 h14 else R h14) else bad h14))) :
    ∃ h1, K1 v0 h' = R h1 ∧ LV S len h1 K' L' n' N' M' := by
  have q2 := q.mh (A' := au A' 12 0 m1)
  have hz : ∀ k ∈ zmfs, B 12 k = 0 := fun k hk => by
    obtain ⟨k1, k2⟩ := zmfs_pt hk
    rw [hB 12 k rfl, au12 k2]
    exact hp k k1
  have hz2 : ∀ k ∈ zmfs, zBB B (au A' 12 0 m1) 12 k = 0 := fun k hk => by
    obtain ⟨k1, k2⟩ := zmfs_pt hk
    refine (if_pos (show zmk 12 = true from rfl)).trans ?_
    rw [au12 k2]
    exact q.rc.2 k k1
  refine ⟨mh h' (au A' 12 0 m1), ?_, A', zBB B (au A' 12 0 m1), bc, tc, gc, m1, q2, cl, fun c j hc => if_pos hc, fun j => (if_neg (by decide)).trans (hS j), (if_neg (by decide)).trans hlen⟩
  rw [hK, zmch1 q.rh hz, hMo, hM, z12 q2.rh, zmch1 q2.rh hz2]
  unfold M_thrown
  rw [mh_D (show zmk 12 = true from rfl), au_same, hv]
  refine Eq.trans (if_pos rfl) ?_
  by_cases h1 : m1 = 0
  · exact Eq.trans (if_pos h1) (hw h1)
  · exact if_neg h1
/-- a question whose answer goes out at its own place -/
theorem law_q {c0 : Nat} {w wm : Int} {e : Nat} {m : Int} {p : Prop} [Decidable p] {X : (Nat → zH → Option ρ) → (Int → zH → Option ρ) → Option ρ} {out : Int → Int} {cont : Int → zH → Option ρ} (hc0 : c0 = 51 ∨ c0 = 52) (q : RR A h K L bc tc gc n B N M) (cl : CW A L) {m0 : Int} (hB : ∀ c j, zmk c = true → B c j = au A 12 0 m0 c j) (hS : ∀ j, B 50 j = S j) (hlen : B 53 0 = (len : Int))
    (hx : X kt cont = if p then cont w h else kt e (zthrown h)) (hm : ∀ g kr, Mo (mh g A) kr = if p then kr w (mh g A) else kr wm (mh g (au A 12 0 m))) (hm0 : m ≠ 0)
    (hMo : ∀ (g : zH) (A : zA) (m : Int) kr, A 12 0 = 0 → Mo (mh g (au A 12 0 m)) kr = Mo (mh g A) kr)
    (hc : p → cont w h = K1 0 (zset h c0 0 0 (out w))) (hkt : ∀ hh, kt e hh = K1 m hh)
    (hChk : p → ∀ hh B2, RH hh B2 → zhD hh c0 0 0 = out w → Chk w hh = R hh)
    (hK : ∀ v0 hX B0, RH hX B0 → (∀ j, B0 50 j = S j) → B0 53 0 = (len : Int) → K1 v0 hX = zmch hX ((0 : Nat) : Int) (Mo hX fun v11 h12 => zob h12 12 ((0 : Nat) : Int) fun _ => zmch h12 ((0 : Nat) : Int) (M_thrown h12 fun v13 h14 => if v13 = v0 then (if v0 = 0 then Chk v11 h14 else R h14) else bad h14))) :
    ∃ h1, X kt cont = R h1 ∧ LV S len h1 K L (n + 18500) (N + 1000) (M + 13000) := by
  have h0 := q.rc.2 0 rfl
  by_cases hp : p
  · have q2 := q.out (c := c0) (v := out w) hc0
    have hB2 : ∀ c j, zmk c = true → au B c0 0 (out w) c j = au A 12 0 m0 c j := fun c j hc => by
      rw [au_ne (show c ≠ c0 from fun z => by rcases hc0 with y | y <;> (rw [z, y] at hc; cases hc))]
      exact hB c j hc
    have hS2 : ∀ j, au B c0 0 (out w) 50 j = S j := fun j => by rw [au_ne (by omega)]; exact hS j
    have hl2 : au B c0 0 (out w) 53 0 = (len : Int) := by rw [au_ne (by omega)]; exact hlen
    have own : mh (zset h c0 0 0 (out w)) (au A 12 0 m0) = zset h c0 0 0 (out w) := mh_own (fun c j hc => (q2.rh.1 c j (zmk5_of hc)).trans (hB2 c j hc))
    obtain ⟨h1, e1, v1⟩ := lv_end2 (R := R) (bad := bad) (Chk := Chk) (Mo := Mo) (K1 := K1) (v0 := 0) (m1 := 0) (w := w) (A := A) (m0 := m0) (q2.mono (n2 := n + 18500) (N2 := N + 1000) (M2 := M + 13000) (by omega) (by omega) (by omega)) cl q.rc.2 hB2 hS2 hl2 (fun kr => by
      conv => lhs; rw [← own]
      exact hMo _ A m0 kr h0) (fun kr => by
      rw [hm, if_pos hp, show au A 12 0 0 = A from funext fun c => funext fun j => au_zz h0 c j]) rfl (fun _ => hChk hp _ _ (q2.mh (A' := au A 12 0 0)).rh (by rw [mh_cl (by rcases hc0 with y | y <;> (rw [y]; rfl)), zD_set, if_pos ⟨rfl, rfl, rfl⟩])) (hK 0 _ _ q2.rh hS2 hl2)
    refine ⟨h1, ?_, v1⟩
    rw [hx, if_pos hp, hc hp]
    exact e1
  · have q2 := q.thr
    have own : mh (zthrown h) (au A 12 0 m0) = zthrown h := mh_own (fun c j hc => (q2.rh.1 c j (zmk5_of hc)).trans (hB c j hc))
    obtain ⟨h1, e1, v1⟩ := lv_end2 (R := R) (bad := bad) (Chk := Chk) (Mo := Mo) (K1 := K1) (v0 := m) (m1 := m) (w := wm) (A := A) (m0 := m0) (q2.mono (n2 := n + 18500) (N2 := N + 1000) (M2 := M + 13000) (by omega) (by omega) (by omega)) cl q.rc.2 hB hS hlen (fun kr => by
      conv => lhs; rw [← own]
      exact hMo _ A m0 kr h0) (fun kr => by rw [hm, if_neg hp]) rfl (fun z => absurd z hm0) (hK m _ _ q2.rh hS hlen)
    refine ⟨h1, ?_, v1⟩
    rw [hx, if_neg hp, hkt]
    exact e1
theorem law_serial (v : LV S len h K L n N M) (ha : a + 5 < len) (hl : len ≤ 3072) : ∃ (h1 : zH) (K1 L1 : Nat), Lw_law_2025 kr9 r289 ((0 : Nat) : Int) ((0 : Nat) : Int) ((0 : Nat) : Int) ((0 : Nat) : Int) ((0 : Nat) : Int) (a : Int) h = r289 ((0 : Nat) : Int) ((0 : Nat) : Int) ((0 : Nat) : Int) ((0 : Nat) : Int) ((0 : Nat) : Int) (wr ((a : Int) + 6)) h1 ∧ LV S len h1 K1 L1 (n + 18500) (N + 1000) (M + 13000) := by
  obtain ⟨A0, B0, bc0, tc0, gc0, m0, q, cl, hB, hS, hlen⟩ := id v
  obtain ⟨KF, hKF⟩ : ∃ KF : Int → zH → Option zRes, KF = (fun v3 h4 => zob h4 50 ((0 : Nat) : Int) fun p5 =>
    zix (zhL h4 50 p5) (wr ((a : Int) + 1)) fun j6 =>
    zob h4 50 ((0 : Nat) : Int) fun p7 =>
    zix (zhL h4 50 p7) (wr ((a : Int) + 2)) fun j8 =>
    zob h4 50 ((0 : Nat) : Int) fun p9 =>
    zix (zhL h4 50 p9) (wr ((a : Int) + 3)) fun j10 =>
    zob h4 50 ((0 : Nat) : Int) fun p11 =>
    zix (zhL h4 50 p11) (wr ((a : Int) + 4)) fun j12 =>
    if (zhD h4 50 p11 j12) = 0 then Lw_law_2103 kr9 r289 ((0 : Nat) : Int) ((0 : Nat) : Int) ((0 : Nat) : Int) ((0 : Nat) : Int) ((0 : Nat) : Int) (a : Int) v3 0 (zhD h4 50 p9 j10) (zhD h4 50 p7 j8) (zhD h4 50 p5 j6) ((0 : Nat) : Int) h4
    else Lw_law_2103 kr9 r289 ((0 : Nat) : Int) ((0 : Nat) : Int) ((0 : Nat) : Int) ((0 : Nat) : Int) ((0 : Nat) : Int) (a : Int) v3 1 (zhD h4 50 p9 j10) (zhD h4 50 p7 j8) (zhD h4 50 p5 j6) ((0 : Nat) : Int) h4) := ⟨_, rfl⟩
  obtain ⟨fl, hfl, h01⟩ : ∃ fl : Int, (fl = if S (a + 4) = 0 then 0 else 1) ∧ (fl = 0 ∨ fl = 1) := by
    by_cases z : S (a + 4) = 0
    · exact ⟨0, (if_pos z).symm, Or.inl rfl⟩
    · exact ⟨1, (if_neg z).symm, Or.inr rfl⟩
  have core := law_core (ρ := zRes) (cod := fun (e : Nat) (m : Int) => (e = 3 ∧ m = 1) ∨ (e = 1 ∧ m = 2) ∨ (e = 4 ∧ m = 3) ∨ (e = 2 ∧ m = 4)) (X := fun kt kr => X_serial 0 (S (a + 1)) (S (a + 2)) (S (a + 3)) fl (S (a + 5)) h kt kr) (Mo := fun g kr => M_serial (S (a + 1)) (S (a + 2)) (S (a + 3)) fl (S (a + 5)) g kr) (kt := (fun n h6 => if n = 3 then KF 1 h6 else if n = 1 then KF 2 h6 else if n = 4 then KF 3 h6 else if n = 2 then KF 4 h6 else none)) (K1 := KF) (R := fun hh => Lw_law_2142 kr9 r289 ((0 : Nat) : Int) ((0 : Nat) : Int) ((0 : Nat) : Int) ((0 : Nat) : Int) ((0 : Nat) : Int) (a : Int) hh) (bad := fun hh => kr9 0 hh) v (fun A B bc tc gc q cl => op_serial q cl h01) (fun g A m kr h0 => by
    show M_serial _ _ _ _ _ (mh g (au A 12 0 m)) kr = M_serial _ _ _ _ _ (mh g A) kr
    unfold M_serial
    rw [mh_thr0 h0]) (fun e m hc => by
    rcases hc with ⟨rfl, rfl⟩ | ⟨rfl, rfl⟩ | ⟨rfl, rfl⟩ | ⟨rfl, rfl⟩
    · exact ⟨by decide, fun hh => rfl⟩
    · exact ⟨by decide, fun hh => rfl⟩
    · exact ⟨by decide, fun hh => rfl⟩
    · exact ⟨by decide, fun hh => rfl⟩) (fun v0 hX B1 qX sX lX => by
    rw [hKF]
    show (zob hX 50 ((0 : Nat) : Int) fun p5 =>
    zix (zhL hX 50 p5) (wr ((a : Int) + 1)) fun j6 =>
    zob hX 50 ((0 : Nat) : Int) fun p7 =>
    zix (zhL hX 50 p7) (wr ((a : Int) + 2)) fun j8 =>
    zob hX 50 ((0 : Nat) : Int) fun p9 =>
    zix (zhL hX 50 p9) (wr ((a : Int) + 3)) fun j10 =>
    zob hX 50 ((0 : Nat) : Int) fun p11 =>
    zix (zhL hX 50 p11) (wr ((a : Int) + 4)) fun j12 =>
    if (zhD hX 50 p11 j12) = 0 then Lw_law_2103 kr9 r289 ((0 : Nat) : Int) ((0 : Nat) : Int) ((0 : Nat) : Int) ((0 : Nat) : Int) ((0 : Nat) : Int) (a : Int) v0 0 (zhD hX 50 p9 j10) (zhD hX 50 p7 j8) (zhD hX 50 p5 j6) ((0 : Nat) : Int) hX
    else Lw_law_2103 kr9 r289 ((0 : Nat) : Int) ((0 : Nat) : Int) ((0 : Nat) : Int) ((0 : Nat) : Int) ((0 : Nat) : Int) (a : Int) v0 1 (zhD hX 50 p9 j10) (zhD hX 50 p7 j8) (zhD hX 50 p5 j6) ((0 : Nat) : Int) hX) = _
    refine Eq.trans (z50 qX lX (i := 1) (by omega) hl) ?_
    refine Eq.trans (z50 qX lX (i := 2) (by omega) hl) ?_
    refine Eq.trans (z50 qX lX (i := 3) (by omega) hl) ?_
    refine Eq.trans (z50 qX lX (i := 4) (by omega) hl) ?_
    rw [qX.1 50 (a + 1) rfl, sX, qX.1 50 (a + 2) rfl, sX, qX.1 50 (a + 3) rfl, sX, qX.1 50 (a + 4) rfl, sX]
    by_cases z : S (a + 4) = 0
    · rw [if_pos z] at hfl
      rw [if_pos z, hfl]
      unfold Lw_law_2103
      refine Eq.trans (z50 qX lX (i := 5) (by omega) hl) ?_
      refine Eq.trans (z12 qX) ?_
      rw [qX.1 50 (a + 5) rfl, sX]
    · rw [if_neg z] at hfl
      rw [if_neg z, hfl]
      unfold Lw_law_2103
      refine Eq.trans (z50 qX lX (i := 5) (by omega) hl) ?_
      refine Eq.trans (z12 qX) ?_
      rw [qX.1 50 (a + 5) rfl, sX])
  obtain ⟨h1, K1, L1, e, v1⟩ := core
  refine ⟨h1, K1, L1, ?_, v1⟩
  rw [hKF] at e
  unfold Lw_law_2025
  refine Eq.trans (z50 q.rh hlen (i := 1) (by omega) hl) ?_
  refine Eq.trans (z50 q.rh hlen (i := 2) (by omega) hl) ?_
  refine Eq.trans (z50 q.rh hlen (i := 3) (by omega) hl) ?_
  refine Eq.trans (z50 q.rh hlen (i := 4) (by omega) hl) ?_
  rw [q.rh.1 50 (a + 1) rfl, hS, q.rh.1 50 (a + 2) rfl, hS, q.rh.1 50 (a + 3) rfl, hS, q.rh.1 50 (a + 4) rfl, hS]
  by_cases z : S (a + 4) = 0
  · rw [if_pos z] at hfl
    rw [if_pos z]
    unfold Lw_law_2058
    refine Eq.trans (z50 q.rh hlen (i := 5) (by omega) hl) ?_
    unfold Lw_serial
    refine Eq.trans (zob_n (show 0 < zhN h 0 by rw [q.rs.N0]; decide)) ?_
    rw [q.rh.1 50 (a + 5) rfl, hS]
    rw [hfl] at e
    exact e
  · rw [if_neg z] at hfl
    rw [if_neg z]
    unfold Lw_law_2058
    refine Eq.trans (z50 q.rh hlen (i := 5) (by omega) hl) ?_
    unfold Lw_serial
    refine Eq.trans (zob_n (show 0 < zhN h 0 by rw [q.rs.N0]; decide)) ?_
    rw [q.rh.1 50 (a + 5) rfl, hS]
    rw [hfl] at e
    exact e
theorem law_isRacing (v : LV S len h K L n N M) (ha : a + 5 < len) (hl : len ≤ 3072) : ∃ (h1 : zH) (K1 L1 : Nat), Lw_law_1894 kr r28 ((0 : Nat) : Int) ((0 : Nat) : Int) ((0 : Nat) : Int) ((0 : Nat) : Int) ((0 : Nat) : Int) (a : Int) h = r28 ((0 : Nat) : Int) ((0 : Nat) : Int) ((0 : Nat) : Int) ((0 : Nat) : Int) ((0 : Nat) : Int) (wr ((a : Int) + 6)) h1 ∧ LV S len h1 K1 L1 (n + 18500) (N + 1000) (M + 13000) := by
  obtain ⟨A0, B0, bc0, tc0, gc0, m0, q, cl, hB, hS, hlen⟩ := v
  obtain ⟨KF, hKF⟩ : ∃ KF : Int → zH → Option ρ, KF = (fun v5 h6 => zob h6 50 ((0 : Nat) : Int) fun p7 =>
    zix (zhL h6 50 p7) (wr ((a : Int) + 1)) fun j8 =>
    zob h6 50 ((0 : Nat) : Int) fun p9 =>
    zix (zhL h6 50 p9) (wr ((a : Int) + 2)) fun j10 =>
    zob h6 12 ((0 : Nat) : Int) fun _ =>
    zmch h6 ((0 : Nat) : Int) (M_isRacing (zhD h6 50 p7 j8) (zhD h6 50 p9 j10) h6  fun v11 h12 =>
    zob h12 12 ((0 : Nat) : Int) fun _ =>
    zmch h12 ((0 : Nat) : Int) (M_thrown h12  fun v13 h14 =>
    if v13 = v5 then (if v5 = 0 then (zob h14 51 ((0 : Nat) : Int) fun p15 =>
    zix (zhL h14 51 p15) 0 fun j16 =>
    if v11 = 0 then Lw_law_1960 kr r28 ((0 : Nat) : Int) ((0 : Nat) : Int) ((0 : Nat) : Int) ((0 : Nat) : Int) ((0 : Nat) : Int) (a : Int) 0 (zhD h14 51 p15 j16) h14
    else Lw_law_1960 kr r28 ((0 : Nat) : Int) ((0 : Nat) : Int) ((0 : Nat) : Int) ((0 : Nat) : Int) ((0 : Nat) : Int) (a : Int) 1 (zhD h14 51 p15 j16) h14)
    else Lw_law_1966 kr r28 ((0 : Nat) : Int) ((0 : Nat) : Int) ((0 : Nat) : Int) ((0 : Nat) : Int) ((0 : Nat) : Int) (a : Int) h14)
    else kr 0 h14))) := ⟨_, rfl⟩
  have h01 : zwi (S (a + 1)) 0 ((L : Int) - 1) = true ∧ zwi (S (a + 2)) 0 63 = true → A0 105 (64 * (S (a + 1)).toNat + (S (a + 2)).toNat) = 0 ∨ A0 105 (64 * (S (a + 1)).toNat + (S (a + 2)).toNat) = 1 := fun hp => by
    obtain ⟨y1, y2⟩ := zwi_t hp.1
    obtain ⟨y3, y4⟩ := zwi_t hp.2
    have hL := q.rl.2.1
    exact q.ta.2.2.2.2.1 _ _ (by omega) (by omega)
  have core := law_q (c0 := 51) (out := fun w => w) (p := zwi (S (a + 1)) 0 ((L : Int) - 1) = true ∧ zwi (S (a + 2)) 0 63 = true) (X := fun kt kr => X_isRacing 0 (S (a + 1)) (S (a + 2)) h kt kr) (Mo := fun g kr => M_isRacing (S (a + 1)) (S (a + 2)) g kr) (kt := fun n h3 => if n = 3 then KF 1 h3 else none) (cont := fun v1 h2 => if v1 = 0 then Lw_isRacing_16 KF 0 0 ((0 : Nat) : Int) h2 else Lw_isRacing_16 KF 1 0 ((0 : Nat) : Int) h2) (K1 := KF) (R := fun hh => Lw_law_1966 kr r28 ((0 : Nat) : Int) ((0 : Nat) : Int) ((0 : Nat) : Int) ((0 : Nat) : Int) ((0 : Nat) : Int) (a : Int) hh) (bad := fun hh => kr 0 hh) (Chk := (fun v11 h14 => zob h14 51 ((0 : Nat) : Int) fun p15 => zix (zhL h14 51 p15) 0 fun j16 => if v11 = 0 then Lw_law_1960 kr r28 ((0 : Nat) : Int) ((0 : Nat) : Int) ((0 : Nat) : Int) ((0 : Nat) : Int) ((0 : Nat) : Int) (a : Int) 0 (zhD h14 51 p15 j16) h14 else Lw_law_1960 kr r28 ((0 : Nat) : Int) ((0 : Nat) : Int) ((0 : Nat) : Int) ((0 : Nat) : Int) ((0 : Nat) : Int) (a : Int) 1 (zhD h14 51 p15 j16) h14)) (Or.inl rfl) q cl hB hS hlen (x_isRacing q) (fun g kr => m_isRacing q) (by decide) (fun g A m kr h0 => by
    show M_isRacing _ _ (mh g (au A 12 0 m)) kr = M_isRacing _ _ (mh g A) kr
    unfold M_isRacing
    rw [mh_thr0 h0]) (fun hp => by
    rcases h01 hp with z | z
    · rw [z]
      refine (if_pos rfl).trans ?_
      unfold Lw_isRacing_16
      rw [z51 q.rh (Or.inl rfl), zlet_d]
    · rw [z]
      refine (if_neg (by decide)).trans ?_
      unfold Lw_isRacing_16
      rw [z51 q.rh (Or.inl rfl), zlet_d]) (fun hh => rfl) (fun hp hh B2 q2 hz => by
    show (zob hh 51 ((0 : Nat) : Int) _) = _
    rw [z51 q2 (Or.inl rfl), hz]
    rcases h01 hp with z | z
    · rw [z]
      refine (if_pos rfl).trans ?_
      exact if_pos zl_eq
    · rw [z]
      refine (if_neg (by decide)).trans ?_
      exact if_pos zl_eq) (fun v0 hX B1 qX sX lX => by
    rw [hKF]
    show (zob hX 50 ((0 : Nat) : Int) fun p7 =>
    zix (zhL hX 50 p7) (wr ((a : Int) + 1)) fun j8 =>
    zob hX 50 ((0 : Nat) : Int) fun p9 =>
    zix (zhL hX 50 p9) (wr ((a : Int) + 2)) fun j10 =>
    zob hX 12 ((0 : Nat) : Int) fun _ =>
    zmch hX ((0 : Nat) : Int) (M_isRacing (zhD hX 50 p7 j8) (zhD hX 50 p9 j10) hX  fun v11 h12 =>
    zob h12 12 ((0 : Nat) : Int) fun _ =>
    zmch h12 ((0 : Nat) : Int) (M_thrown h12  fun v13 h14 =>
    if v13 = v0 then (if v0 = 0 then (zob h14 51 ((0 : Nat) : Int) fun p15 =>
    zix (zhL h14 51 p15) 0 fun j16 =>
    if v11 = 0 then Lw_law_1960 kr r28 ((0 : Nat) : Int) ((0 : Nat) : Int) ((0 : Nat) : Int) ((0 : Nat) : Int) ((0 : Nat) : Int) (a : Int) 0 (zhD h14 51 p15 j16) h14
    else Lw_law_1960 kr r28 ((0 : Nat) : Int) ((0 : Nat) : Int) ((0 : Nat) : Int) ((0 : Nat) : Int) ((0 : Nat) : Int) (a : Int) 1 (zhD h14 51 p15 j16) h14)
    else Lw_law_1966 kr r28 ((0 : Nat) : Int) ((0 : Nat) : Int) ((0 : Nat) : Int) ((0 : Nat) : Int) ((0 : Nat) : Int) (a : Int) h14)
    else kr 0 h14))) = _
    refine Eq.trans (z50 qX lX (i := 1) (by omega) hl) ?_
    refine Eq.trans (z50 qX lX (i := 2) (by omega) hl) ?_
    refine Eq.trans (z12 qX) ?_
    rw [qX.1 50 (a + 1) rfl, sX, qX.1 50 (a + 2) rfl, sX])
  obtain ⟨h1, e, v1⟩ := core
  refine ⟨h1, K, L, ?_, v1⟩
  rw [hKF] at e
  unfold Lw_law_1894
  refine Eq.trans (z50 q.rh hlen (i := 1) (by omega) hl) ?_
  refine Eq.trans (z50 q.rh hlen (i := 2) (by omega) hl) ?_
  unfold Lw_isRacing
  refine Eq.trans (zob_n (show 0 < zhN h 0 by rw [q.rs.N0]; decide)) ?_
  rw [q.rh.1 50 (a + 1) rfl, hS, q.rh.1 50 (a + 2) rfl, hS]
  exact e
end
