/-! CODE -/
theorem RLa_ok {c j : Nat} (h : RLa c j = true) : c ≠ 63 ∧ c ≠ 65 ∧ c ≠ 66 ∧ c ≠ 67 ∧ c ≠ 68 := by
  unfold RLa at h
  split at h
  all_goals first | exact ⟨by decide, by decide, by decide, by decide, by decide⟩ | cases h
theorem RLd_ok {c j : Nat} (h : RLd c j = true) : c ≠ 7 ∧ c ≠ 8 ∧ c ≠ 33 ∧ c ≠ 20 ∧ (c ≠ 1 ∨ j ≠ 2) := by
  unfold RLd at h
  split at h
  all_goals first | exact ⟨by decide, by decide, by decide, by decide, Or.inl (by decide)⟩ | exact ⟨by decide, by decide, by decide, by decide, Or.inr (fun z => by subst z; cases h)⟩ | cases h
section
variable {ρ : Type} {h h' : zH} {A A' B : zA} {K L n len a : Nat} {bc tc gc : Nat → Nat} {N M : Int} {S : Nat → Int} {kt : Nat → zH → Option ρ} {kr : Int → zH → Option ρ} {r28 : Int → Int → Int → Int → Int → Int → zH → Option ρ}
theorem RL.cn (q : RL A h K L) (hA : ∀ c j, RLa c j = true → A' c j = A c j) (hD : ∀ c p j, RLd c j = true → zhD h' c p j = zhD h c p j) (hN : zhN h' 9 = zhN h 9) : RL A' h' K L := by
  have q2 : RL A' (zhN h, zhL h, zhD h', zhC h, zhS h) K L := q.fr hA hD rfl
  obtain ⟨q1, q3, q4, q5⟩ := q2
  exact ⟨q1, q3, hN.trans q4, q5⟩
theorem kw_id : KW A A := ⟨fun c _ _ _ _ _ _ _ _ => rfl, fun b _ _ => ⟨rfl, rfl, Int.le_refl _⟩⟩
theorem rr_hI (q : RR A h K L bc tc gc n B N M) {c x y d : Int} : RR A (hI h c x y d) K L bc tc gc n B (N + 10) (M + 100) := by
  have hD : ∀ c', c' ≠ 8 → zhD (hI h c x y d) c' = zhD h c' := fun c' z => hI_D z
  refine rr_k q kw_id (fun _ _ => rfl) q.rs.hI q.rd.hI (q.rk.frame ⟨rfl, rfl, rfl, rfl, rfl, rfl, rfl, rfl, rfl⟩ (hI_Nn (by decide)) (by rw [hI_N8]; exact Nat.le_succ _) (by rw [hI_D (by decide)]) (hI_D (by decide)) (fun r hr => hI_Dp (by omega)) (hI_D (by decide)) (hI_D (by decide))) (q.rl.cn (fun _ _ _ => rfl) (fun c p j z => by rw [hD c (RLd_ok z).2.1]) (hI_Nn (by decide))) (fun c p j z1 z2 z3 z4 z5 => by rw [hD c z2]) (fun c z1 z2 z3 => hI_Nn z2) (fun c p z1 z2 z3 => by rw [hI_L z2]) (fun j => (q.iv j).2.1) ?_ ?_
  · show zhC h + 1 ≤ zhC h + 10
    omega
  · show zhS h + znf zPP 8 ≤ zhS h + 100
    have : znf zPP 8 ≤ 100 := by decide +kernel
    omega
theorem rr_code (q : RR A h K L bc tc gc n B N M) {c x y d : Int} {k : Nat} (hk : k < K) (hal : zallow (A 61 k) c x y d = true) (h40 : A 63 k < 40) (h64 : A 64 k = 0) (hy : zir y) : RR (au (au (au (au (au A 65 (40 * k + (A 63 k).toNat) c) 66 (40 * k + (A 63 k).toNat) x) 67 (40 * k + (A 63 k).toNat) y) 68 (40 * k + (A 63 k).toNat) d) 63 k (A 63 k + 1)) (zset (zset (hI h c x y d) 33 k (A 63 k).toNat (zhN h 8 : Int)) 7 k 3 (A 63 k + 1)) K L bc tc gc n B (N + 10) (M + 100) := by
  have rk := RK.code q.rk hk hal h40 h64
  rw [q.a0] at rk
  have hD : ∀ c', c' ≠ 7 → c' ≠ 8 → c' ≠ 33 → zhD (zset (zset (hI h c x y d) 33 k (A 63 k).toNat (zhN h 8 : Int)) 7 k 3 (A 63 k + 1)) c' = zhD h c' := fun c' z1 z2 z3 => by rw [zD_ne z1, zD_ne z3, hI_D z2]
  refine rr_k q ⟨fun c z1 z2 z3 z4 z5 z6 z7 z8 => ?_, fun b hb hin => ⟨?_, ?_, ?_⟩⟩ (fun j _ => ?_) ((q.rs.hI.set rfl).set rfl) ((q.rd.hI.set rfl).set rfl) rk (q.rl.cn (fun c j z => ?_) (fun c p j z => by rw [hD c (RLd_ok z).1 (RLd_ok z).2.1 (RLd_ok z).2.2.1]) (by rw [zN_set, zN_set]; exact hI_Nn (by decide))) (fun c p j z1 z2 z3 z4 z5 => by rw [hD c z1 z2 z3]) (fun c z1 z2 z3 => by rw [zN_set, zN_set]; exact hI_Nn z2) (fun c p z1 z2 z3 => by rw [zL_set, zL_set, hI_L z2]) (fun j => ?_) ?_ ?_
  · rw [au_ne z4, au_ne z8, au_ne z7, au_ne z6, au_ne z5]
  · rw [au_ne (by decide), au_ne (by decide), au_ne (by decide), au_ne (by decide), au_ne (by decide)]
  · rw [au_ne (by decide), au_ne (by decide), au_ne (by decide), au_ne (by decide), au_ne (by decide)]
  · rw [au_j]
    split
    · rename_i e
      rw [e]
      omega
    · rw [au_ne (by decide), au_ne (by decide), au_ne (by decide), au_ne (by decide)]
      exact Int.le_refl _
  · rw [au_ne (by decide), au_ne (by decide), au_ne (by decide), au_ne (by decide), au_ne (by decide)]
  · obtain ⟨y1, y2, y3, y4, y5⟩ := RLa_ok z
    rw [au_ne y1, au_ne y5, au_ne y4, au_ne y3, au_ne y2]
  · rw [au_ne (by decide), au_ne (by decide), au_j]
    split
    · exact hy
    · rw [au_ne (by decide), au_ne (by decide)]
      exact (q.iv j).2.1
  · show zhC h + 1 ≤ zhC h + 10
    omega
  · show zhS h + znf zPP 8 ≤ zhS h + 100
    have : znf zPP 8 ≤ 100 := by decide +kernel
    omega
theorem op_code (q : RR A h K L bc tc gc n B N M) (cl : CW A L) {k c x y d : Int} (hc : 0 ≤ c ∧ c < 65536) (hy : zir y) : OP (ρ := ρ) A h B n N M (fun kt kr => X_code 0 k c x y d h kt kr) (fun g kr => M_code k c x y d g kr) (fun (e : Nat) (m : Int) => (e = 3 ∧ m = 1) ∨ (e = 1 ∧ m = 2) ∨ (e = 2 ∧ m = 3)) kt := by
  have xl := fun kr : Int → zH → Option ρ => x_code (kt := kt) (kr := kr) q.rs q.rd q.rk (k := k) (a := x) (b := y) (d := d) hc
  obtain ⟨r1, r2, r3, r4, r5⟩ := q.rk.at
  have ml := fun (g : zH) (kr : Int → zH → Option ρ) => m_code (h := g) (kr := kr) (K := K) (A := A) (k := k) (a := x) (b := y) (d := d) r5 r2 (fun k hk => ⟨(q.rk.2.2.2.2.1 k hk).2.1, (q.rk.2.2.2.2.1 k hk).2.2.1, (q.rk.2.2.2.2.1 k hk).2.2.2.2.2.1, (q.rk.2.2.2.2.1 k hk).2.2.2.2.2.2.1⟩) hc
  by_cases h1 : zwi k 0 (A 12 4 - 1) = true
  · obtain ⟨y1, y2⟩ := zwi_t h1
    obtain ⟨k, rfl⟩ : ∃ k9 : Nat, k = (k9 : Int) := ⟨k.toNat, by omega⟩
    rw [Int.toNat_natCast] at xl ml
    by_cases h2 : zallow (A 61 k) c x y d = true
    · by_cases h3 : A 63 k < 40 ∧ A 64 k = 0
      · exact Or.inl ⟨_, _, K, L, bc, tc, gc, A 63 k, fun kr => (xl kr).trans (by rw [if_pos h1, if_pos h2, if_pos h3]), fun g _ _ kr => (ml g kr).trans (by rw [if_pos h1, if_pos h2, if_pos h3, q.a0]), (rr_code q (by omega) h2 h3.1 h3.2 hy).mono (by omega) (by omega) (by omega), cl.eq (fun c z1 z2 => by rw [au_ne (by omega), au_ne (by omega), au_ne (by omega), au_ne (by omega), au_ne (by omega)]) (fun c z1 z2 => by rw [au_ne (by omega), au_ne (by omega), au_ne (by omega), au_ne (by omega), au_ne (by omega)]) (fun k9 => by
        rw [au_j]
        split
        · rename_i e9
          rw [e9]
          omega
        · rw [au_ne (by decide), au_ne (by decide), au_ne (by decide), au_ne (by decide)]
          exact Int.le_refl _)⟩
      · exact Or.inr ⟨2, 3, 0, _, A, K, L, bc, tc, gc, Or.inr (Or.inr (⟨rfl, rfl⟩)), fun kr => (xl kr).trans (by rw [if_pos h1, if_pos h2, if_neg h3]), fun g _ _ kr => (ml g kr).trans (by rw [if_pos h1, if_pos h2, if_neg h3]), (rr_hI q).thr.mono (by omega) (by omega) (by omega), cl⟩
    · exact Or.inr ⟨1, 2, 0, _, A, K, L, bc, tc, gc, Or.inr (Or.inl ⟨rfl, rfl⟩), fun kr => (xl kr).trans (by rw [if_pos h1, if_neg h2]), fun g _ _ kr => (ml g kr).trans (by rw [if_pos h1, if_neg h2]), (rr_hI q).thr.mono (by omega) (by omega) (by omega), cl⟩
  · exact OP.no q cl (Or.inl ⟨rfl, rfl⟩) (fun kr => (xl kr).trans (by rw [if_neg h1])) (fun g K2 L2 bc2 tc2 gc2 n2 B2 N2 M2 q2 kr => (ml g kr).trans (by rw [if_neg h1]))
theorem law_code (v : LV S len h K L n N M) (ha : a + 5 < len) (hl : len ≤ 3072) (hSi : ∀ j, zir (S j)) : ∃ (h1 : zH) (K1 L1 : Nat), Lw_law_276 kr r28 ((0 : Nat) : Int) ((0 : Nat) : Int) ((0 : Nat) : Int) ((0 : Nat) : Int) ((0 : Nat) : Int) (a : Int) h = r28 ((0 : Nat) : Int) ((0 : Nat) : Int) ((0 : Nat) : Int) ((0 : Nat) : Int) ((0 : Nat) : Int) (wr ((a : Int) + 6)) h1 ∧ LV S len h1 K1 L1 (n + 18500) (N + 1000) (M + 13000) := by
  obtain ⟨A0, B0, bc0, tc0, gc0, m0, q, cl, hB, hS, hlen⟩ := id v
  obtain ⟨KF, hKF⟩ : ∃ KF : Int → zH → Option ρ, KF = (fun v11 h12 => zob h12 50 ((0 : Nat) : Int) fun p13 =>
    zix (zhL h12 50 p13) (wr ((a : Int) + 1)) fun j14 =>
    zob h12 50 ((0 : Nat) : Int) fun p15 =>
    zix (zhL h12 50 p15) (wr ((a : Int) + 2)) fun j16 =>
    zob h12 50 ((0 : Nat) : Int) fun p17 =>
    zix (zhL h12 50 p17) (wr ((a : Int) + 3)) fun j18 =>
    zob h12 50 ((0 : Nat) : Int) fun p19 =>
    zix (zhL h12 50 p19) (wr ((a : Int) + 4)) fun j20 =>
    zob h12 50 ((0 : Nat) : Int) fun p21 =>
    zix (zhL h12 50 p21) (wr ((a : Int) + 5)) fun j22 =>
    zob h12 12 ((0 : Nat) : Int) fun _ =>
    zmch h12 ((0 : Nat) : Int) (M_code (zhD h12 50 p13 j14) ((zhD h12 50 p15 j16) % 65536) (zhD h12 50 p17 j18) (zhD h12 50 p19 j20) (zhD h12 50 p21 j22) h12  fun v23 h24 =>
    zob h24 12 ((0 : Nat) : Int) fun _ =>
    zmch h24 ((0 : Nat) : Int) (M_thrown h24  fun v25 h26 =>
    if v25 = v11 then (if v11 = 0 then (zob h26 51 ((0 : Nat) : Int) fun p27 =>
    zix (zhL h26 51 p27) 0 fun j28 =>
    if (zlcmp (zhD h26 51 p27 j28) v23) = 0 then Lw_law_379 kr r28 ((0 : Nat) : Int) ((0 : Nat) : Int) ((0 : Nat) : Int) ((0 : Nat) : Int) ((0 : Nat) : Int) (a : Int) h26
    else kr 0 h26)
    else Lw_law_379 kr r28 ((0 : Nat) : Int) ((0 : Nat) : Int) ((0 : Nat) : Int) ((0 : Nat) : Int) ((0 : Nat) : Int) (a : Int) h26)
    else kr 0 h26))) := ⟨_, rfl⟩
  have core := law_core (cod := fun (e : Nat) (m : Int) => (e = 3 ∧ m = 1) ∨ (e = 1 ∧ m = 2) ∨ (e = 2 ∧ m = 3)) (X := fun kt kr => X_code 0 (S (a + 1)) ((S (a + 2)) % 65536) (S (a + 3)) (S (a + 4)) (S (a + 5)) h kt kr) (Mo := fun g kr => M_code (S (a + 1)) ((S (a + 2)) % 65536) (S (a + 3)) (S (a + 4)) (S (a + 5)) g kr) (kt := (fun n h6 => if n = 3 then KF 1 h6 else if n = 1 then KF 2 h6 else if n = 2 then KF 3 h6 else none)) (K1 := KF) (R := fun hh => Lw_law_379 kr r28 ((0 : Nat) : Int) ((0 : Nat) : Int) ((0 : Nat) : Int) ((0 : Nat) : Int) ((0 : Nat) : Int) (a : Int) hh) (bad := fun hh => kr 0 hh) v (fun A B bc tc gc q cl => op_code q cl ⟨Int.emod_nonneg _ (by decide), Int.emod_lt_of_pos _ (by decide)⟩ (hSi _)) (fun g A m kr h0 => by
    show M_code (S (a + 1)) ((S (a + 2)) % 65536) (S (a + 3)) (S (a + 4)) (S (a + 5)) (mh g (au A 12 0 m)) kr = M_code (S (a + 1)) ((S (a + 2)) % 65536) (S (a + 3)) (S (a + 4)) (S (a + 5)) (mh g A) kr
    unfold M_code
    rw [mh_thr0 h0]) (fun e m hc => by
    rcases hc with ⟨rfl, rfl⟩ | ⟨rfl, rfl⟩ | ⟨rfl, rfl⟩
    · exact ⟨by decide, fun hh => rfl⟩
    · exact ⟨by decide, fun hh => rfl⟩
    · exact ⟨by decide, fun hh => rfl⟩) (fun v0 hX B1 qX sX lX => by
    rw [hKF]
    show (zob hX 50 ((0 : Nat) : Int) fun p13 =>
    zix (zhL hX 50 p13) (wr ((a : Int) + 1)) fun j14 =>
    zob hX 50 ((0 : Nat) : Int) fun p15 =>
    zix (zhL hX 50 p15) (wr ((a : Int) + 2)) fun j16 =>
    zob hX 50 ((0 : Nat) : Int) fun p17 =>
    zix (zhL hX 50 p17) (wr ((a : Int) + 3)) fun j18 =>
    zob hX 50 ((0 : Nat) : Int) fun p19 =>
    zix (zhL hX 50 p19) (wr ((a : Int) + 4)) fun j20 =>
    zob hX 50 ((0 : Nat) : Int) fun p21 =>
    zix (zhL hX 50 p21) (wr ((a : Int) + 5)) fun j22 =>
    zob hX 12 ((0 : Nat) : Int) fun _ =>
    zmch hX ((0 : Nat) : Int) (M_code (zhD hX 50 p13 j14) ((zhD hX 50 p15 j16) % 65536) (zhD hX 50 p17 j18) (zhD hX 50 p19 j20) (zhD hX 50 p21 j22) hX  fun v23 h24 =>
    zob h24 12 ((0 : Nat) : Int) fun _ =>
    zmch h24 ((0 : Nat) : Int) (M_thrown h24  fun v25 h26 =>
    if v25 = v0 then (if v0 = 0 then (zob h26 51 ((0 : Nat) : Int) fun p27 =>
    zix (zhL h26 51 p27) 0 fun j28 =>
    if (zlcmp (zhD h26 51 p27 j28) v23) = 0 then Lw_law_379 kr r28 ((0 : Nat) : Int) ((0 : Nat) : Int) ((0 : Nat) : Int) ((0 : Nat) : Int) ((0 : Nat) : Int) (a : Int) h26
    else kr 0 h26)
    else Lw_law_379 kr r28 ((0 : Nat) : Int) ((0 : Nat) : Int) ((0 : Nat) : Int) ((0 : Nat) : Int) ((0 : Nat) : Int) (a : Int) h26)
    else kr 0 h26))) = _
    refine Eq.trans (z50 qX lX (i := 1) (by omega) hl) ?_
    refine Eq.trans (z50 qX lX (i := 2) (by omega) hl) ?_
    refine Eq.trans (z50 qX lX (i := 3) (by omega) hl) ?_
    refine Eq.trans (z50 qX lX (i := 4) (by omega) hl) ?_
    refine Eq.trans (z50 qX lX (i := 5) (by omega) hl) ?_
    refine Eq.trans (z12 qX) ?_
    rw [qX.1 50 (a + 1) rfl, sX, qX.1 50 (a + 2) rfl, sX, qX.1 50 (a + 3) rfl, sX, qX.1 50 (a + 4) rfl, sX, qX.1 50 (a + 5) rfl, sX])
  obtain ⟨h1, K1, L1, e, v1⟩ := core
  refine ⟨h1, K1, L1, ?_, v1⟩
  rw [hKF] at e
  unfold Lw_law_276
  refine Eq.trans (z50 q.rh hlen (i := 1) (by omega) hl) ?_
  refine Eq.trans (z50 q.rh hlen (i := 2) (by omega) hl) ?_
  refine Eq.trans (z50 q.rh hlen (i := 3) (by omega) hl) ?_
  refine Eq.trans (z50 q.rh hlen (i := 4) (by omega) hl) ?_
  refine Eq.trans (z50 q.rh hlen (i := 5) (by omega) hl) ?_
  unfold Lw_code
  refine Eq.trans (zob_n (show 0 < zhN h 0 by rw [q.rs.N0]; decide)) ?_
  rw [q.rh.1 50 (a + 1) rfl, hS, q.rh.1 50 (a + 2) rfl, hS, q.rh.1 50 (a + 3) rfl, hS, q.rh.1 50 (a + 4) rfl, hS, q.rh.1 50 (a + 5) rfl, hS]
  exact e
end
