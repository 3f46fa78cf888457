/-! THE LAW'S TWO FIGURES -/
theorem zdcmp_self {u : UInt64} (h : Jvm.FP.Core.dIsNaN u = false) : zdcmp ((u.toNat : Nat) : Int) ((u.toNat : Nat) : Int) = 0 := by
  unfold zdcmp
  rw [zd_n, show FP.dcmp = Jvm.FP.Core.dcmp from rfl, Jvm.FP.Core.dcmp_refl h]
  rfl
theorem f2d_nn {u : UInt32} (h : Jvm.FP.Core.fIsNaN u = false) : Jvm.FP.Core.dIsNaN (FP.f2d u) = false := by
  unfold FP.f2d
  rw [if_neg (by rw [h]; decide)]
  exact Jvm.FP.Core.f2d_out h
section
variable {ρ : Type} {h : zH} {A B : zA} {K L n len a : Nat} {bc tc gc : Nat → Nat} {N M : Int} {S : Nat → Int} {kr : Int → zH → Option ρ} {r28 : Int → Int → Int → Int → Int → Int → zH → Option ρ}
theorem law_usedShare (v : LV S len h K L n N M) (bn : n ≤ 9980000) : ∃ (h1 : zH) (K1 L1 : Nat), Lw_law_2211 kr r28 ((0 : Nat) : Int) ((0 : Nat) : Int) ((0 : Nat) : Int) ((0 : Nat) : Int) ((0 : Nat) : Int) (a : Int) h = r28 ((0 : Nat) : Int) ((0 : Nat) : Int) ((0 : Nat) : Int) ((0 : Nat) : Int) ((0 : Nat) : Int) (wr ((a : Int) + 6)) h1 ∧ LV S len h1 K1 L1 (n + 18500) (N + 1000) (M + 13000) := by
  obtain ⟨A0, B0, bc0, tc0, gc0, m0, q, cl, hB, hS, hlen⟩ := v
  obtain ⟨f1, f2, f3⟩ := q.bd.1 55 (by decide)
  have f3 := f3 rfl
  obtain ⟨KF, hKF⟩ : ∃ KF : Int → zH → Option ρ, KF = (fun v1 h2 => zob h2 12 ((0 : Nat) : Int) fun _ =>
    zmch h2 ((0 : Nat) : Int) (M_usedShare h2  fun v3 h4 =>
    zob h4 12 ((0 : Nat) : Int) fun _ =>
    zmch h4 ((0 : Nat) : Int) (M_thrown h4  fun v5 h6 =>
    if v5 = v1 then (if v1 = 0 then (zob h6 52 ((0 : Nat) : Int) fun p7 =>
    zix (zhL h6 52 p7) 0 fun j8 =>
    zn64 (FP.f2d (zf32 v3)) fun x9 =>
    if (zdcmp (zhD h6 52 p7 j8) x9) = 0 then Lw_law_2274 kr r28 ((0 : Nat) : Int) ((0 : Nat) : Int) ((0 : Nat) : Int) ((0 : Nat) : Int) ((0 : Nat) : Int) (a : Int) h6
    else zob h6 52 ((0 : Nat) : Int) fun p10 =>
    zix (zhL h6 52 p10) 0 fun j11 =>
    zob h6 52 ((0 : Nat) : Int) fun p12 =>
    zix (zhL h6 52 p12) 0 fun j13 =>
    if (zdcmp (zhD h6 52 p10 j11) (zhD h6 52 p12 j13)) = 0 then Lw_law_2272 kr h6
    else if (zfcmp v3 v3) = 0 then Lw_law_2272 kr h6
    else Lw_law_2274 kr r28 ((0 : Nat) : Int) ((0 : Nat) : Int) ((0 : Nat) : Int) ((0 : Nat) : Int) ((0 : Nat) : Int) (a : Int) h6)
    else Lw_law_2274 kr r28 ((0 : Nat) : Int) ((0 : Nat) : Int) ((0 : Nat) : Int) ((0 : Nat) : Int) ((0 : Nat) : Int) (a : Int) h6)
    else kr 0 h6))) := ⟨_, rfl⟩
  have core := law_q (c0 := 52) (out := (fun w => (((FP.f2d (zf32 w)).toNat : Nat) : Int))) (p := ¬ A0 12 55 = 0) (X := fun kt kr => X_usedShare 0 h kt kr) (Mo := fun g kr => M_usedShare g kr) (kt := fun n h7 => if n = 6 then KF 1 h7 else none) (cont := (fun v1 h2 => zn64 (FP.f2d (zf32 v1)) fun x3 =>
      zob h2 52 ((0 : Nat) : Int) fun p4 =>
      zix (zhL h2 52 p4) 0 fun j5 =>
      zlet (zset h2 52 p4 j5 x3) fun h6 =>
      KF 0 h6)) (K1 := KF) (R := fun hh => Lw_law_2274 kr r28 ((0 : Nat) : Int) ((0 : Nat) : Int) ((0 : Nat) : Int) ((0 : Nat) : Int) ((0 : Nat) : Int) (a : Int) hh) (bad := fun hh => kr 0 hh) (Chk := fun v3 h6 => zob h6 52 ((0 : Nat) : Int) fun p7 =>
zix (zhL h6 52 p7) 0 fun j8 =>
zn64 (FP.f2d (zf32 v3)) fun x9 =>
if (zdcmp (zhD h6 52 p7 j8) x9) = 0 then Lw_law_2274 kr r28 ((0 : Nat) : Int) ((0 : Nat) : Int) ((0 : Nat) : Int) ((0 : Nat) : Int) ((0 : Nat) : Int) (a : Int) h6
else zob h6 52 ((0 : Nat) : Int) fun p10 =>
zix (zhL h6 52 p10) 0 fun j11 =>
zob h6 52 ((0 : Nat) : Int) fun p12 =>
zix (zhL h6 52 p12) 0 fun j13 =>
if (zdcmp (zhD h6 52 p10 j11) (zhD h6 52 p12 j13)) = 0 then Lw_law_2272 kr h6
else if (zfcmp v3 v3) = 0 then Lw_law_2272 kr h6
else Lw_law_2274 kr r28 ((0 : Nat) : Int) ((0 : Nat) : Int) ((0 : Nat) : Int) ((0 : Nat) : Int) ((0 : Nat) : Int) (a : Int) h6) (Or.inr rfl) q cl hB hS hlen ((x_usedShare q (by omega)).trans (ite_not _ _ _).symm) (fun g kr => (m_usedShare q (by omega)).trans (ite_not _ _ _).symm) (by decide) (fun g A m kr h0 => by
    show M_usedShare (mh g (au A 12 0 m)) kr = M_usedShare (mh g A) kr
    unfold M_usedShare
    rw [mh_thr0 h0]) (fun hp => by
    show (zn64 _ _) = _
    rw [zf_n, zn64_ok (f2d_nn (zsv_n hp (by omega)))]
    refine Eq.trans (z51 q.rh (Or.inr rfl)) ?_
    rw [zlet_d]) (fun hh => rfl) (fun hp hh B2 q2 hz => by
    refine Eq.trans (z51 q2 (Or.inr rfl)) ?_
    rw [hz]
    rw [zf_n, zn64_ok (f2d_nn (zsv_n hp (by omega)))]
    exact if_pos (zdcmp_self (f2d_nn (zsv_n hp (by omega))))) (fun v0 hX B1 qX sX lX => by
    rw [hKF]
    show (zob hX 12 ((0 : Nat) : Int) fun _ =>
    zmch hX ((0 : Nat) : Int) (M_usedShare hX  fun v3 h4 =>
    zob h4 12 ((0 : Nat) : Int) fun _ =>
    zmch h4 ((0 : Nat) : Int) (M_thrown h4  fun v5 h6 =>
    if v5 = v0 then (if v0 = 0 then (zob h6 52 ((0 : Nat) : Int) fun p7 =>
    zix (zhL h6 52 p7) 0 fun j8 =>
    zn64 (FP.f2d (zf32 v3)) fun x9 =>
    if (zdcmp (zhD h6 52 p7 j8) x9) = 0 then Lw_law_2274 kr r28 ((0 : Nat) : Int) ((0 : Nat) : Int) ((0 : Nat) : Int) ((0 : Nat) : Int) ((0 : Nat) : Int) (a : Int) h6
    else zob h6 52 ((0 : Nat) : Int) fun p10 =>
    zix (zhL h6 52 p10) 0 fun j11 =>
    zob h6 52 ((0 : Nat) : Int) fun p12 =>
    zix (zhL h6 52 p12) 0 fun j13 =>
    if (zdcmp (zhD h6 52 p10 j11) (zhD h6 52 p12 j13)) = 0 then Lw_law_2272 kr h6
    else if (zfcmp v3 v3) = 0 then Lw_law_2272 kr h6
    else Lw_law_2274 kr r28 ((0 : Nat) : Int) ((0 : Nat) : Int) ((0 : Nat) : Int) ((0 : Nat) : Int) ((0 : Nat) : Int) (a : Int) h6)
    else Lw_law_2274 kr r28 ((0 : Nat) : Int) ((0 : Nat) : Int) ((0 : Nat) : Int) ((0 : Nat) : Int) ((0 : Nat) : Int) (a : Int) h6)
    else kr 0 h6))) = _
    exact z12 qX)
  obtain ⟨h1, e, v1⟩ := core
  refine ⟨h1, K, L, ?_, v1⟩
  rw [hKF] at e
  unfold Lw_law_2211 Lw_usedShare
  refine Eq.trans (zob_n (show 0 < zhN h 0 by rw [q.rs.N0]; decide)) ?_
  exact e
theorem law_meanDelay (v : LV S len h K L n N M) (bn : n ≤ 9980000) : ∃ (h1 : zH) (K1 L1 : Nat), Lw_law_2277 kr r28 ((0 : Nat) : Int) ((0 : Nat) : Int) ((0 : Nat) : Int) ((0 : Nat) : Int) ((0 : Nat) : Int) (a : Int) h = r28 ((0 : Nat) : Int) ((0 : Nat) : Int) ((0 : Nat) : Int) ((0 : Nat) : Int) ((0 : Nat) : Int) (wr ((a : Int) + 6)) h1 ∧ LV S len h1 K1 L1 (n + 18500) (N + 1000) (M + 13000) := by
  obtain ⟨A0, B0, bc0, tc0, gc0, m0, q, cl, hB, hS, hlen⟩ := v
  obtain ⟨f1, f2, f3⟩ := q.bd.1 56 (by decide)
  have f3 := f2
  obtain ⟨KF, hKF⟩ : ∃ KF : Int → zH → Option ρ, KF = (fun v1 h2 => zob h2 12 ((0 : Nat) : Int) fun _ =>
    zmch h2 ((0 : Nat) : Int) (M_meanDelay h2  fun v3 h4 =>
    zob h4 12 ((0 : Nat) : Int) fun _ =>
    zmch h4 ((0 : Nat) : Int) (M_thrown h4  fun v5 h6 =>
    if v5 = v1 then (if v1 = 0 then (zob h6 52 ((0 : Nat) : Int) fun p7 =>
    zix (zhL h6 52 p7) 0 fun j8 =>
    if (zdcmp (zhD h6 52 p7 j8) v3) = 0 then Lw_law_2339 kr r28 ((0 : Nat) : Int) ((0 : Nat) : Int) ((0 : Nat) : Int) ((0 : Nat) : Int) ((0 : Nat) : Int) (a : Int) h6
    else zob h6 52 ((0 : Nat) : Int) fun p9 =>
    zix (zhL h6 52 p9) 0 fun j10 =>
    zob h6 52 ((0 : Nat) : Int) fun p11 =>
    zix (zhL h6 52 p11) 0 fun j12 =>
    if (zdcmp (zhD h6 52 p9 j10) (zhD h6 52 p11 j12)) = 0 then Lw_law_2337 kr h6
    else if (zdcmp v3 v3) = 0 then Lw_law_2337 kr h6
    else Lw_law_2339 kr r28 ((0 : Nat) : Int) ((0 : Nat) : Int) ((0 : Nat) : Int) ((0 : Nat) : Int) ((0 : Nat) : Int) (a : Int) h6)
    else Lw_law_2339 kr r28 ((0 : Nat) : Int) ((0 : Nat) : Int) ((0 : Nat) : Int) ((0 : Nat) : Int) ((0 : Nat) : Int) (a : Int) h6)
    else kr 0 h6))) := ⟨_, rfl⟩
  have core := law_q (c0 := 52) (out := (fun w => w)) (p := ¬ A0 12 56 = 0) (X := fun kt kr => X_meanDelay 0 h kt kr) (Mo := fun g kr => M_meanDelay g kr) (kt := fun n h7 => if n = 6 then KF 1 h7 else none) (cont := (fun v1 h2 => zob h2 52 ((0 : Nat) : Int) fun p3 =>
      zix (zhL h2 52 p3) 0 fun j4 =>
      zlet (zset h2 52 p3 j4 v1) fun h5 =>
      KF 0 h5)) (K1 := KF) (R := fun hh => Lw_law_2339 kr r28 ((0 : Nat) : Int) ((0 : Nat) : Int) ((0 : Nat) : Int) ((0 : Nat) : Int) ((0 : Nat) : Int) (a : Int) hh) (bad := fun hh => kr 0 hh) (Chk := fun v3 h6 => zob h6 52 ((0 : Nat) : Int) fun p7 =>
zix (zhL h6 52 p7) 0 fun j8 =>
if (zdcmp (zhD h6 52 p7 j8) v3) = 0 then Lw_law_2339 kr r28 ((0 : Nat) : Int) ((0 : Nat) : Int) ((0 : Nat) : Int) ((0 : Nat) : Int) ((0 : Nat) : Int) (a : Int) h6
else zob h6 52 ((0 : Nat) : Int) fun p9 =>
zix (zhL h6 52 p9) 0 fun j10 =>
zob h6 52 ((0 : Nat) : Int) fun p11 =>
zix (zhL h6 52 p11) 0 fun j12 =>
if (zdcmp (zhD h6 52 p9 j10) (zhD h6 52 p11 j12)) = 0 then Lw_law_2337 kr h6
else if (zdcmp v3 v3) = 0 then Lw_law_2337 kr h6
else Lw_law_2339 kr r28 ((0 : Nat) : Int) ((0 : Nat) : Int) ((0 : Nat) : Int) ((0 : Nat) : Int) ((0 : Nat) : Int) (a : Int) h6) (Or.inr rfl) q cl hB hS hlen ((x_meanDelay q (by omega)).trans (ite_not _ _ _).symm) (fun g kr => (m_meanDelay q (by omega)).trans (ite_not _ _ _).symm) (by decide) (fun g A m kr h0 => by
    show M_meanDelay (mh g (au A 12 0 m)) kr = M_meanDelay (mh g A) kr
    unfold M_meanDelay
    rw [mh_thr0 h0]) (fun hp => by
    refine Eq.trans (z51 q.rh (Or.inr rfl)) ?_
    rw [zlet_d]) (fun hh => rfl) (fun hp hh B2 q2 hz => by
    refine Eq.trans (z51 q2 (Or.inr rfl)) ?_
    rw [hz]
    exact if_pos (zdcmp_self (zdv_n hp (by omega)))) (fun v0 hX B1 qX sX lX => by
    rw [hKF]
    show (zob hX 12 ((0 : Nat) : Int) fun _ =>
    zmch hX ((0 : Nat) : Int) (M_meanDelay hX  fun v3 h4 =>
    zob h4 12 ((0 : Nat) : Int) fun _ =>
    zmch h4 ((0 : Nat) : Int) (M_thrown h4  fun v5 h6 =>
    if v5 = v0 then (if v0 = 0 then (zob h6 52 ((0 : Nat) : Int) fun p7 =>
    zix (zhL h6 52 p7) 0 fun j8 =>
    if (zdcmp (zhD h6 52 p7 j8) v3) = 0 then Lw_law_2339 kr r28 ((0 : Nat) : Int) ((0 : Nat) : Int) ((0 : Nat) : Int) ((0 : Nat) : Int) ((0 : Nat) : Int) (a : Int) h6
    else zob h6 52 ((0 : Nat) : Int) fun p9 =>
    zix (zhL h6 52 p9) 0 fun j10 =>
    zob h6 52 ((0 : Nat) : Int) fun p11 =>
    zix (zhL h6 52 p11) 0 fun j12 =>
    if (zdcmp (zhD h6 52 p9 j10) (zhD h6 52 p11 j12)) = 0 then Lw_law_2337 kr h6
    else if (zdcmp v3 v3) = 0 then Lw_law_2337 kr h6
    else Lw_law_2339 kr r28 ((0 : Nat) : Int) ((0 : Nat) : Int) ((0 : Nat) : Int) ((0 : Nat) : Int) ((0 : Nat) : Int) (a : Int) h6)
    else Lw_law_2339 kr r28 ((0 : Nat) : Int) ((0 : Nat) : Int) ((0 : Nat) : Int) ((0 : Nat) : Int) ((0 : Nat) : Int) (a : Int) h6)
    else kr 0 h6))) = _
    exact z12 qX)
  obtain ⟨h1, e, v1⟩ := core
  refine ⟨h1, K, L, ?_, v1⟩
  rw [hKF] at e
  unfold Lw_law_2277 Lw_meanDelay
  refine Eq.trans (zob_n (show 0 < zhN h 0 by rw [q.rs.N0]; decide)) ?_
  exact e
end
