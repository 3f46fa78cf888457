/-! STEP AND RUN -/
section
variable {ρ : Type} {h g : zH} {A A' B : zA} {kr : Int → zH → Option ρ} {kt : Nat → zH → Option ρ} {K L n : Nat} {bc tc gc : Nat → Nat} {N M : Int}
theorem RR.b55 (q : RR A h K L bc tc gc n B N M) : 0 ≤ A 12 55 ∧ A 12 55 ≤ 64 * (n : Int) ∧ zhD h 4 0 0 = A 12 55 := ⟨(q.bd.1 55 (by omega)).1, (q.bd.1 55 (by omega)).2.1, q.rm.2.2.2.2.1⟩
theorem RR.le9 (q : RR A h K L bc tc gc n B N M) {n2 : Nat} (hn : n ≤ n2) : RR A h K L bc tc gc n2 B N M := by
  obtain ⟨x1, x2, x3, x4, x5, x6, x7, x8, x9, x10, x11, x12, x13, x14, x15, x16, x17, x18, x19, x20, x21, x22, x23⟩ := q
  refine ⟨x1, x2, x3, x4, x5, x6, x7, x8, x9, x10, x11, x12, x13, x14, x15, x16, x17, x18, x19, ⟨fun j hj => ?_, fun b hb => ?_⟩, x21, x22, x23⟩
  · have := x20.1 j hj
    omega
  · have := x20.2 b hb
    omega
theorem step_loop {c0 : Int} {a1 : Nat} (g : zH) (h0 : 0 ≤ c0 ∧ c0 ≤ 639980800) (a9 : a1 ≤ 1000) : ∀ (f1 f2 i n : Nat) (h : zH) (A : zA) (L : Nat) (bc tc gc : Nat → Nat), i ≤ a1 → a1 - i < f1 → a1 - i < f2 → RR A h K L bc tc gc n B N M → CW A L → n + 37 * (a1 - i) ≤ 9999700 → ∃ (h' : zH) (A' : zA) (L' : Nat) (bc' tc' gc' : Nat → Nat) (v : Int), (∀ kr : Int → zH → Option ρ, zit (fun _ _ _ _ _ => none) (X_step_32b kr kt) f1 0 (a1 : Int) c0 (i : Int) h = kr v h') ∧ (∀ kr : Int → zH → Option ρ, zit (fun _ _ _ _ => none) (M_step_34b kr) f2 (a1 : Int) (A 12 55 - c0) (i : Int) (mh g A) = kr v (mh g A')) ∧ RR A' h' K L' bc' tc' gc' (n + 37 * (a1 - i)) B N M ∧ CW A' L' ∧ L ≤ L'
  | 0, _, _, _, _, _, _, _, _, _, _, hf, _, _, _, _ => absurd hf (Nat.not_lt_zero _)
  | _ + 1, 0, _, _, _, _, _, _, _, _, _, _, hf, _, _, _ => absurd hf (Nat.not_lt_zero _)
  | f1 + 1, f2 + 1, i, n, h, A, L, bc, tc, gc, hi, hf1, hf2, q, cl, bn => by
    have rs := q.rs
    obtain ⟨u1, u2, u3⟩ := q.b55
    by_cases h4 : i < a1
    · obtain ⟨h1, A1, L1, bc1, tc1, gc1, y1, y2, q1, cl1, le1, e1⟩ := cyc_both (ρ := ρ) q cl (by omega) g
      obtain ⟨w1, w2, w3⟩ := q1.b55
      obtain ⟨h2, A2, L2, bc2, tc2, gc2, v, z1, z2, q2, cl2, e2⟩ := step_loop g h0 a9 f1 f2 (i + 1) (n + 37) h1 A1 L1 bc1 tc1 gc1 h4 (by omega) (by omega) q1 cl1 (by omega)
      have lt' : (i : Int) < (a1 : Int) := by omega
      have i9 : i < 100000 := by omega
      have b1 : -2147483648 ≤ A1 12 55 - A 12 55 ∧ A1 12 55 - A 12 55 < 2147483648 := by omega
      have b2 : -2147483648 ≤ A 12 55 - c0 + (A1 12 55 - A 12 55) ∧ A 12 55 - c0 + (A1 12 55 - A 12 55) < 2147483648 := by omega
      have b3 : A 12 55 - c0 + (A1 12 55 - A 12 55) = A1 12 55 - c0 := by omega
      refine ⟨h2, A2, L2, bc2, tc2, gc2, v, fun kr => ?_, fun kr => ?_, q2.le9 (by omega), cl2, by omega⟩
      · rw [zit_s, ← z1 kr]
        generalize zit (fun _ _ _ _ _ => none) (X_step_32b kr kt) f1 = r2
        unfold X_step_32b
        rw [if_pos lt', zob_0 rs.N0, rs.D0_0_1, zob_0 rs.N2, y1, wr_s i9]
      · rw [zit_s, ← z2 kr]
        generalize zit (fun _ _ _ _ => none) (M_step_34b kr) f2 = r2
        unfold M_step_34b
        rw [if_pos lt', y2, wr_id b1.1 b1.2, wr_id b2.1 b2.2, b3, wr_s i9]
    · have : i = a1 := by omega
      subst this
      have b1 : -9223372036854775808 ≤ A 12 55 - c0 ∧ A 12 55 - c0 < 9223372036854775808 := by omega
      have b2 : -2147483648 ≤ A 12 55 - c0 ∧ A 12 55 - c0 < 2147483648 := by omega
      refine ⟨h, A, L, bc, tc, gc, A 12 55 - c0, fun kr => ?_, fun kr => ?_, q.le9 (by omega), cl, Nat.le_refl _⟩
      · rw [zit_s]
        unfold X_step_32b
        rw [if_neg (Int.lt_irrefl _), zob_0 rs.N0, rs.D0_0_1, zob_0 rs.N2, rs.D2_0_3, zob_0 rs.N4, u3, wrl_id b1.1 b1.2, wr_id b2.1 b2.2]
      · rw [zit_s]
        unfold M_step_34b
        rw [if_neg (Int.lt_irrefl _)]
theorem step_both (q : RR A h K L bc tc gc n B N M) (cl : CW A L) {a : Int} (bn : n ≤ 9990000) (g : zH) : ∃ (h' : zH) (A' : zA) (L' : Nat) (bc' tc' gc' : Nat → Nat) (v : Int), (∀ kr : Int → zH → Option ρ, X_step 0 a h kt kr = if zwi a 1 100 = true then kr v h' else kt 1 (zthrown h)) ∧ (∀ kr : Int → zH → Option ρ, M_step a (mh g A) kr = if zwi a 1 100 = true then kr v (mh g A') else kr 0 (mh g (au A 12 0 1))) ∧ RR A' h' K L' bc' tc' gc' (n + 3700) B N M ∧ CW A' L' ∧ L ≤ L' := by
  have rs := q.rs
  have a0A := q.a0
  unfold a0 at a0A
  have t0 := q.rc.2 0 rfl
  obtain ⟨u1, u2, u3⟩ := q.b55
  cases hz : zwi a 1 100 with
  | false =>
    refine ⟨h, A, L, bc, tc, gc, 0, fun kr => ?_, fun kr => ?_, q.le9 (by omega), cl, Nat.le_refl _⟩
    · unfold X_step
      rw [x_isWithin, hz, tb_f, if_pos rfl, zlet_d, if_neg (by decide)]
    · unfold M_step M_step_21
      rw [zlet_d, mS12, a0A, m_in, hz, tb_f, if_pos rfl, m_fails1 t0 (by decide), if_neg (by decide), if_neg (by decide)]
  | true =>
    obtain ⟨h1, h2⟩ := zwi_t hz
    obtain ⟨a1, rfl⟩ : ∃ a1 : Nat, a = (a1 : Int) := ⟨a.toNat, by omega⟩
    have h0 : 0 ≤ A 12 55 ∧ A 12 55 ≤ 639980800 := by omega
    obtain ⟨h', A', L', bc', tc', gc', v, z1, z2, q2, cl2, le2⟩ := step_loop (ρ := ρ) (kt := kt) (c0 := A 12 55) (a1 := a1) g h0 (by omega) zN zN 0 n h A L bc tc gc (Nat.zero_le _) (by show a1 - 0 < 5000; omega) (by show a1 - 0 < 5000; omega) q cl (by omega)
    refine ⟨h', A', L', bc', tc', gc', v, fun kr => ?_, fun kr => ?_, q2.le9 (by omega), cl2, le2⟩
    · unfold X_step
      rw [x_isWithin, hz, tb_t, if_neg (by decide), zob_0 rs.N0, rs.D0_0_1, zob_0 rs.N2, rs.D2_0_3, zob_0 rs.N4, u3, if_pos rfl]
      exact z1 kr
    · unfold M_step M_step_21
      rw [zlet_d, mS12, a0A, m_in, hz, tb_t, if_neg (by decide), m_fails0 t0 (by decide), if_pos rfl, if_pos rfl, ← z2 kr, Int.sub_self]
      rfl
theorem run_loop {a1 : Nat} (g : zH) (a9 : a1 ≤ 1000) : ∀ (f1 f2 i n : Nat) (h : zH) (A : zA) (L : Nat) (bc tc gc : Nat → Nat), i ≤ a1 → a1 - i < f1 → a1 - i < f2 → RR A h K L bc tc gc n B N M → CW A L → n + 37 * (a1 - i) ≤ 9999700 → ∃ (h' : zH) (A' : zA) (L' : Nat) (bc' tc' gc' : Nat → Nat) (v : Int), (∀ kr : Int → zH → Option ρ, zit (fun _ _ _ _ => none) (X_run_21b kr kt) f1 0 (a1 : Int) (i : Int) h = kr v h') ∧ (∀ kr : Int → zH → Option ρ, zit (fun _ _ _ => none) (M_run_33b kr) f2 (a1 : Int) (i : Int) (mh g A) = kr v (mh g A')) ∧ RR A' h' K L' bc' tc' gc' (n + 37 * (a1 - i)) B N M ∧ CW A' L' ∧ L ≤ L'
  | 0, _, _, _, _, _, _, _, _, _, _, hf, _, _, _, _ => absurd hf (Nat.not_lt_zero _)
  | _ + 1, 0, _, _, _, _, _, _, _, _, _, _, hf, _, _, _ => absurd hf (Nat.not_lt_zero _)
  | f1 + 1, f2 + 1, i, n, h, A, L, bc, tc, gc, hi, hf1, hf2, q, cl, bn => by
    have rs := q.rs
    have xo := fun kr : Int → zH → Option ρ => x_isAllOver (kr := kr) rs q.rl
    have mo := fun kr : Int → zH → Option ρ => m_areOver (kr := kr) (g := g) q.rl
    have stop : ((i : Int) < (a1 : Int) → zaov (A 69) 0 L = true) → ∃ (h' : zH) (A' : zA) (L' : Nat) (bc' tc' gc' : Nat → Nat) (v : Int), (∀ kr : Int → zH → Option ρ, zit (fun _ _ _ _ => none) (X_run_21b kr kt) (f1 + 1) 0 (a1 : Int) (i : Int) h = kr v h') ∧ (∀ kr : Int → zH → Option ρ, zit (fun _ _ _ => none) (M_run_33b kr) (f2 + 1) (a1 : Int) (i : Int) (mh g A) = kr v (mh g A')) ∧ RR A' h' K L' bc' tc' gc' (n + 37 * (a1 - i)) B N M ∧ CW A' L' ∧ L ≤ L' := fun hs => by
      refine ⟨h, A, L, bc, tc, gc, (i : Int), fun kr => ?_, fun kr => ?_, q.le9 (by omega), cl, Nat.le_refl _⟩
      · rw [zit_s]
        generalize zit (fun _ _ _ _ => none) (X_run_21b kr kt) f1 = r2
        unfold X_run_21b X_run_49
        by_cases h4 : (i : Int) < (a1 : Int)
        · rw [if_pos h4, zob_0 rs.N0, rs.D0_0_0, zob_0 rs.N1, xo, hs h4, tb_t, if_neg (by decide)]
        · rw [if_neg h4]
      · rw [zit_s]
        generalize zit (fun _ _ _ => none) (M_run_33b kr) f2 = r2
        unfold M_run_33b M_run_56
        by_cases h4 : (i : Int) < (a1 : Int)
        · rw [if_pos h4, mo, hs h4, tb_t, if_neg (by decide)]
        · rw [if_neg h4]
    by_cases h4 : i < a1
    · cases ho : zaov (A 69) 0 L with
      | true => exact stop (fun _ => ho)
      | false =>
        obtain ⟨h1, A1, L1, bc1, tc1, gc1, y1, y2, q1, cl1, le1, e1⟩ := cyc_both (ρ := ρ) q cl (by omega) g
        obtain ⟨h2, A2, L2, bc2, tc2, gc2, v, z1, z2, q2, cl2, e2⟩ := run_loop g a9 f1 f2 (i + 1) (n + 37) h1 A1 L1 bc1 tc1 gc1 h4 (by omega) (by omega) q1 cl1 (by omega)
        have lt' : (i : Int) < (a1 : Int) := by omega
        have i9 : i < 100000 := by omega
        refine ⟨h2, A2, L2, bc2, tc2, gc2, v, fun kr => ?_, fun kr => ?_, q2.le9 (by omega), cl2, by omega⟩
        · rw [zit_s, ← z1 kr]
          generalize zit (fun _ _ _ _ => none) (X_run_21b kr kt) f1 = r2
          unfold X_run_21b
          rw [if_pos lt', zob_0 rs.N0, rs.D0_0_0, zob_0 rs.N1, xo, ho, tb_f, if_pos rfl, zob_0 rs.N0, rs.D0_0_1, zob_0 rs.N2, y1, wr_s i9]
        · rw [zit_s, ← z2 kr]
          generalize zit (fun _ _ _ => none) (M_run_33b kr) f2 = r2
          unfold M_run_33b
          rw [if_pos lt', mo, ho, tb_f, if_pos rfl, y2, wr_s i9]
    · exact stop (fun h5 => absurd h5 (by omega))
theorem run_both (q : RR A h K L bc tc gc n B N M) (cl : CW A L) {a : Int} (bn : n ≤ 9980000) (g : zH) : ∃ (h' : zH) (A' : zA) (L' : Nat) (bc' tc' gc' : Nat → Nat) (v : Int), (∀ kr : Int → zH → Option ρ, X_run 0 a h kt kr = if zwi a 1 500 = true then kr v h' else kt 1 (zthrown h)) ∧ (∀ kr : Int → zH → Option ρ, M_run a (mh g A) kr = if zwi a 1 500 = true then kr v (mh g A') else kr 0 (mh g (au A 12 0 1))) ∧ RR A' h' K L' bc' tc' gc' (n + 18500) B N M ∧ CW A' L' ∧ L ≤ L' := by
  have rs := q.rs
  have a0A := q.a0
  unfold a0 at a0A
  have t0 := q.rc.2 0 rfl
  cases hz : zwi a 1 500 with
  | false =>
    refine ⟨h, A, L, bc, tc, gc, 0, fun kr => ?_, fun kr => ?_, q.le9 (by omega), cl, Nat.le_refl _⟩
    · unfold X_run
      rw [x_isWithin, hz, tb_f, if_pos rfl, zlet_d, if_neg (by decide)]
    · unfold M_run M_run_22
      rw [zlet_d, mS12, a0A, m_in, hz, tb_f, if_pos rfl, m_fails1 t0 (by decide), if_neg (by decide), if_neg (by decide)]
  | true =>
    obtain ⟨h1, h2⟩ := zwi_t hz
    obtain ⟨a1, rfl⟩ : ∃ a1 : Nat, a = (a1 : Int) := ⟨a.toNat, by omega⟩
    obtain ⟨h', A', L', bc', tc', gc', v, z1, z2, q2, cl2, le2⟩ := run_loop (ρ := ρ) (kt := kt) (a1 := a1) g (by omega) zN zN 0 n h A L bc tc gc (Nat.zero_le _) (by show a1 - 0 < 5000; omega) (by show a1 - 0 < 5000; omega) q cl (by omega)
    refine ⟨h', A', L', bc', tc', gc', v, fun kr => ?_, fun kr => ?_, q2.le9 (by omega), cl2, le2⟩
    · unfold X_run
      rw [x_isWithin, hz, tb_t, if_neg (by decide), if_pos rfl]
      exact z1 kr
    · unfold M_run M_run_22
      rw [zlet_d, mS12, a0A, m_in, hz, tb_t, if_neg (by decide), m_fails0 t0 (by decide), if_pos rfl, if_pos rfl]
      exact z2 kr
end
