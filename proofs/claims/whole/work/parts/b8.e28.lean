/-! THE WHOLE RELATION -/
def RR (A : zA) (h : zH) (K L : Nat) (bc tc gc : Nat → Nat) (n : Nat) (B : zA) (N M : Int) : Prop := RS h ∧ RD h ∧ RK A h K ∧ RL A h K L ∧ RM A h ∧ RC A L ∧ BI A L ∧ BH A h bc ∧ TH A h bc tc ∧ TD A h tc ∧ GH A h bc tc gc ∧ SH A h bc ∧ US A h gc ∧ UG A h gc ∧ UL A h ∧ SU A ∧ TA A L ∧ TB A h bc ∧ TL A h L ∧ BD A n ∧ RH h B ∧ IV A ∧ RN A h L N M
section
variable {ρ : Type} {h : zH} {A B : zA} {kr : Int → zH → Option ρ} {kt : Nat → zH → Option ρ} {K L n : Nat} {bc tc gc : Nat → Nat} {N M : Int}
theorem RR.rs (q : RR A h K L bc tc gc n B N M) : RS h := q.1
theorem RR.rd (q : RR A h K L bc tc gc n B N M) : RD h := q.2.1
theorem RR.rk (q : RR A h K L bc tc gc n B N M) : RK A h K := q.2.2.1
theorem RR.rl (q : RR A h K L bc tc gc n B N M) : RL A h K L := q.2.2.2.1
theorem RR.rm (q : RR A h K L bc tc gc n B N M) : RM A h := q.2.2.2.2.1
theorem RR.rc (q : RR A h K L bc tc gc n B N M) : RC A L := q.2.2.2.2.2.1
theorem RR.bi (q : RR A h K L bc tc gc n B N M) : BI A L := q.2.2.2.2.2.2.1
theorem RR.bh (q : RR A h K L bc tc gc n B N M) : BH A h bc := q.2.2.2.2.2.2.2.1
theorem RR.th (q : RR A h K L bc tc gc n B N M) : TH A h bc tc := q.2.2.2.2.2.2.2.2.1
theorem RR.td (q : RR A h K L bc tc gc n B N M) : TD A h tc := q.2.2.2.2.2.2.2.2.2.1
theorem RR.gh (q : RR A h K L bc tc gc n B N M) : GH A h bc tc gc := q.2.2.2.2.2.2.2.2.2.2.1
theorem RR.sh (q : RR A h K L bc tc gc n B N M) : SH A h bc := q.2.2.2.2.2.2.2.2.2.2.2.1
theorem RR.us (q : RR A h K L bc tc gc n B N M) : US A h gc := q.2.2.2.2.2.2.2.2.2.2.2.2.1
theorem RR.ug (q : RR A h K L bc tc gc n B N M) : UG A h gc := q.2.2.2.2.2.2.2.2.2.2.2.2.2.1
theorem RR.ul (q : RR A h K L bc tc gc n B N M) : UL A h := q.2.2.2.2.2.2.2.2.2.2.2.2.2.2.1
theorem RR.su (q : RR A h K L bc tc gc n B N M) : SU A := q.2.2.2.2.2.2.2.2.2.2.2.2.2.2.2.1
theorem RR.ta (q : RR A h K L bc tc gc n B N M) : TA A L := q.2.2.2.2.2.2.2.2.2.2.2.2.2.2.2.2.1
theorem RR.tb (q : RR A h K L bc tc gc n B N M) : TB A h bc := q.2.2.2.2.2.2.2.2.2.2.2.2.2.2.2.2.2.1
theorem RR.tl (q : RR A h K L bc tc gc n B N M) : TL A h L := q.2.2.2.2.2.2.2.2.2.2.2.2.2.2.2.2.2.2.1
theorem RR.bd (q : RR A h K L bc tc gc n B N M) : BD A n := q.2.2.2.2.2.2.2.2.2.2.2.2.2.2.2.2.2.2.2.1
theorem RR.rh (q : RR A h K L bc tc gc n B N M) : RH h B := q.2.2.2.2.2.2.2.2.2.2.2.2.2.2.2.2.2.2.2.2.1
theorem RR.iv (q : RR A h K L bc tc gc n B N M) : IV A := q.2.2.2.2.2.2.2.2.2.2.2.2.2.2.2.2.2.2.2.2.2.1
theorem RR.rn (q : RR A h K L bc tc gc n B N M) : RN A h L N M := q.2.2.2.2.2.2.2.2.2.2.2.2.2.2.2.2.2.2.2.2.2.2
theorem rn_thr (q : RN A h L N M) : RN A (zthrown h) L (N + 1) (M + 6) := by
  have e1 : zhC (zthrown h) = zhC h + 1 := rfl
  have e2 : zhS (zthrown h) = zhS h + 6 := rfl
  obtain ⟨q1, q2⟩ := q
  refine ⟨?_, ?_⟩
  · rw [e1]
    omega
  · rw [e2]
    omega
theorem RR.thr (q : RR A h K L bc tc gc n B N M) : RR A (zthrown h) K L bc tc gc n B (N + 1) (M + 6) := ⟨q.rs, q.rd, q.rk, q.rl, q.rm, q.rc, q.bi, q.bh, q.th, q.td, q.gh, q.sh, q.us, q.ug, q.ul, q.su, q.ta, q.tb, q.tl, q.bd, q.rh, q.iv, rn_thr q.rn⟩
theorem RR.a0 (q : RR A h K L bc tc gc n B N M) : a0 A = A := by
  have z := au_id (A := A) (c := 12) (j := 0)
  rw [q.rc.2 0 rfl] at z
  exact z
/-- a block in a unit, its launch and kernel -/
theorem RR.blk (q : RR A h K L bc tc gc n B N M) {b : Nat} (hb : b < 72) (hin : A 87 b = 1) : ∃ k : Nat, k < K ∧ A 70 (b / 6) = (k : Int) ∧ b / 6 < L ∧ (1 ≤ A 73 (b / 6) ∧ A 73 (b / 6) ≤ 16) ∧ (1 ≤ A 61 k ∧ A 61 k ≤ 8 ∧ 0 ≤ A 62 k ∧ A 62 k ≤ 16 ∧ 0 ≤ A 63 k ∧ A 63 k ≤ 40) ∧
    (k < zhN h 7 ∧ b / 6 < zhN h 9 ∧ k < 4 ∧ b / 6 < 12) ∧ (zhD h 9 (b / 6) 0 = ((b / 6 : Nat) : Int) ∧ zhD h 9 (b / 6) 5 = (k : Int) ∧ zhD h 7 k 0 = A 61 k ∧ zhD h 7 k 1 = A 62 k ∧ zhD h 7 k 3 = A 63 k) := by
  obtain ⟨i1, i2, i3, i4, i5, i6⟩ := q.bi.2.1 b hb hin
  obtain ⟨b1, b2, b3, b4, b5, b6, b7, b8, b9, b10, b11, b12, -⟩ := q.rl.l i1
  obtain ⟨c1, c2, c3, c4, -⟩ := b12 i2
  obtain ⟨k, hk⟩ : ∃ k : Nat, A 70 (b / 6) = (k : Int) := ⟨(A 70 (b / 6)).toNat, by omega⟩
  have hkK : k < K := by omega
  obtain ⟨d0, d1, d2, d3, d4, d5, d6, d7, e1, e2, e3, e4, -⟩ := q.rk.2.2.2.2.1 k hkK
  obtain ⟨a1, a2, a3, a4⟩ := q.rl.at
  have hK := q.rk.2.1
  have hN := q.rk.2.2.1
  exact ⟨k, hkK, hk, i1, ⟨c3, c4⟩, ⟨d1, d2, d3, d4, d5, d6⟩, ⟨by omega, by omega, by omega, by omega⟩, ⟨b2, by rw [b7.1, hk], e1, e2, e3⟩⟩
/-- a group of a block in a unit -/
theorem RR.grp (q : RR A h K L bc tc gc n B N M) {b j : Nat} (hb : b < 72) (hin : A 87 b = 1) (hj : ((4 * j : Nat) : Int) < A 73 (b / 6)) : GW h (gc (4 * b + j)) ∧ (∀ k : Nat, k < 4 → gpl h (gc (4 * b + j)) k = mpl A b j k) ∧ (∀ k : Nat, k < 4 → gen h (gc (4 * b + j)) k = men A b j k) ∧ MP A b j := by
  obtain ⟨k, hkK, hk, hbL, ⟨ht0, ht1⟩, ⟨r0, r1, r2, r3, r4, r5⟩, -⟩ := q.blk hb hin
  obtain ⟨g1, g2, g3, g4, g5⟩ := q.gh.1 b hb hin j hj
  refine ⟨⟨g1, fun i hi => ?_⟩, fun i hi => ?_, fun i hi => ?_, fun i hi hlt h89 => ?_⟩
  · rw [g5 i hi]
    by_cases hz : ((4 * j + i : Nat) : Int) < A 73 (b / 6)
    · rw [if_pos hz]
      exact Or.inr ⟨_, rfl, (q.th.1 b hb hin _ hz).2.1⟩
    · rw [if_neg hz]
      exact Or.inl rfl
  · unfold gpl mpl
    rw [g5 i hi]
    by_cases hz : ((4 * j + i : Nat) : Int) < A 73 (b / 6)
    · obtain ⟨t1, t2, t3, -⟩ := q.td b hb hin _ hz
      rw [if_pos hz, if_pos (show _ ∧ _ from ⟨hz, hi⟩), if_neg (show ¬ (tc (16 * b + (4 * j + i)) : Int) < 0 by omega), Int.toNat_natCast, t2]
      by_cases hr : A 89 (16 * b + (4 * j + i)) = 114
      · rw [if_pos hr, if_pos hr, (t3 (by omega)).1]
      · rw [if_neg hr, if_neg hr]
    · rw [if_neg hz, if_neg (show ¬ (_ ∧ _) from fun z => hz z.1), if_pos (by decide)]
  · unfold gen men
    rw [g5 i hi]
    by_cases hz : ((4 * j + i : Nat) : Int) < A 73 (b / 6)
    · obtain ⟨t1, t2, t3, -⟩ := q.td b hb hin _ hz
      rw [if_pos hz, decide_eq_false (show ¬ (tc (16 * b + (4 * j + i)) : Int) < 0 by omega), decide_eq_true (show _ ∧ _ from ⟨hz, hi⟩), Int.toNat_natCast, t2]
      rfl
    · rw [if_neg hz, decide_eq_true (show (-1 : Int) < 0 by decide), decide_eq_false (show ¬ (((4 * j + i : Nat) : Int) < A 73 (b / 6) ∧ i < 4) from fun z => hz z.1)]
      rfl
  · obtain ⟨t1, t2, t3, -⟩ := q.td b hb hin _ hlt
    obtain ⟨t4, t5, t6⟩ := t3 (by omega)
    rw [hk, Int.toNat_natCast] at t6
    omega
/-- a slot of a unit -/
theorem RR.slot (q : RR A h K L bc tc gc n B N M) {u i : Nat} (hu : u < 2) (hi : (i : Int) < A 93 u) : ∃ b j : Nat, A 94 (4 * u + i) = (b : Int) ∧ A 95 (4 * u + i) = (j : Int) ∧ b < 72 ∧ A 87 b = 1 ∧ A 88 b = (u : Int) ∧ ((4 * j : Nat) : Int) < A 73 (b / 6) ∧ zhD h 26 u i = (gc (4 * b + j) : Int) ∧ MG A (4 * u + i) b j := by
  obtain ⟨⟨m0, m4, m2⟩, s, -⟩ := q.us u hu
  obtain ⟨b, j, s1, s2, s3, s4, s5, s6, s7⟩ := s i hi
  obtain ⟨k, hkK, hk, hbL, ⟨ht0, ht1⟩, -⟩ := q.blk s2 s5
  exact ⟨b, j, s1, s3, s2, s5, s6, s4, s7, by omega, s2, by omega, s1, s3, by omega, ht1⟩
theorem RR.un (q : RR A h K L bc tc gc n B N M) {u : Nat} (hu : u < 2) : 0 ≤ A 93 u ∧ A 93 u ≤ 4 ∧ zhD h 3 u 2 = A 93 u := (q.us u hu).1
/-! a unit, a group by their numbers -/
theorem x_unitAt (q : RS h) {u : Int} : X_unitAt 0 u h kt kr = if zwi u 0 1 = true then kr u h else kt 3 (zthrown h) := by
  unfold X_unitAt
  rw [x_isWithin]
  cases hz : zwi u 0 1 with
  | false => simp [tb_f, zlet_d]
  | true =>
    obtain ⟨h1, h2⟩ := zwi_t hz
    rcases (show u = 0 ∨ u = 1 by omega) with rfl | rfl
    · simp [tb_t, zob_0 q.N0, q.D0_0_1, zob_0 q.N2, q.D2_0_2, zob_0 q.N23, q.L23_0, show ∀ kk : Nat → Option ρ, zix 2 0 kk = kk 0 from fun kk => zix_n (i := 0) (by decide), q.D23_0_0]
    · simp [tb_t, zob_0 q.N0, q.D0_0_1, zob_0 q.N2, q.D2_0_2, zob_0 q.N23, q.L23_0, show ∀ kk : Nat → Option ρ, zix 2 1 kk = kk 1 from fun kk => zix_n (i := 1) (by decide), q.D23_0_1]
theorem RS.u0 (q : RS h) {u : Nat} (hu : u < 2) : u < zhN h 3 ∧ zhD h 3 u 0 = (u : Int) ∧ zhD h 3 u 1 = (u : Int) ∧ u < zhN h 26 ∧ zhL h 26 u = 4 ∧ u < zhN h 27 ∧ zhL h 27 u = 2 := by
  rcases (show u = 0 ∨ u = 1 by omega) with rfl | rfl
  · exact ⟨by rw [q.N3]; decide, q.D3_0_0, q.D3_0_1, by rw [q.N26]; decide, q.L26_0, by rw [q.N27]; decide, q.L27_0⟩
  · exact ⟨by rw [q.N3]; decide, q.D3_1_0, q.D3_1_1, by rw [q.N26]; decide, q.L26_1, by rw [q.N27]; decide, q.L27_1⟩
theorem x_groupOf (q : RR A h K L bc tc gc n B N M) {u : Nat} {i : Int} (hu : u < 2) : Un_groupOf (u : Int) i h kr = kr (if zwi i 0 (A 93 u - 1) = true then zhD h 26 u i.toNat else -1) h := by
  obtain ⟨m0, m4, m2⟩ := q.un hu
  obtain ⟨u1, u2, u3, u4, u5, -⟩ := q.rs.u0 hu
  unfold Un_groupOf Un_groupOf_24
  rw [zob_n u1, m2, wr_id (by omega) (by omega), x_isWithin]
  cases hz : zwi i 0 (A 93 u - 1) with
  | false => simp [tb_f]
  | true =>
    obtain ⟨h1, h2⟩ := zwi_t hz
    have z1 : ∀ kk : Nat → Option ρ, zix 4 i kk = kk i.toNat := fun kk => zix_i (by omega) (by omega)
    simp [tb_t, zob_n u1, u2, zob_n u4, u5, z1]
theorem x_groupAt (q : RR A h K L bc tc gc n B N M) {u i : Int} : X_groupAt 0 u i h kt kr = if (zwi u 0 1 && zwi i 0 (A 93 u.toNat - 1)) = true then kr (zhD h 26 u.toNat i.toNat) h else kt 3 (zthrown h) := by
  unfold X_groupAt
  rw [zob_0 q.rs.N0, x_unitAt q.rs]
  cases hz : zwi u 0 1 with
  | false => rfl
  | true =>
    obtain ⟨h1, h2⟩ := zwi_t hz
    obtain ⟨v, rfl⟩ : ∃ v : Nat, u = (v : Int) := ⟨u.toNat, by omega⟩
    have hv : v < 2 := by omega
    rw [if_pos rfl, zob_n (q.rs.u0 hv).1, x_groupOf q hv, Bool.true_and, Int.toNat_natCast]
    cases hy : zwi i 0 (A 93 v - 1) with
    | false =>
      simp [zlet_d]
    | true =>
      obtain ⟨h3, h4⟩ := zwi_t hy
      obtain ⟨b, j, s1, s2, s3, s4, s5, s6, s7, s8⟩ := q.slot (i := i.toNat) hv (by omega)
      rw [if_pos rfl, if_pos rfl, s7, if_neg (by omega)]
theorem m_noGroup {u i : Int} (hm : ∀ v : Nat, v < 2 → 0 ≤ A 93 v ∧ A 93 v ≤ 4) : M_noGroup u i (mh h A) kr = kr (tb !(zwi u 0 1 && zwi i 0 (A 93 u.toNat - 1))) (mh h A) := by
  unfold M_noGroup M_noGroup_23 M_noGroup_28
  rw [m_noUnit]
  cases hz : zwi u 0 1 with
  | false =>
    rw [Bool.not_false, tb_t, if_neg (by decide), znar_1]
    rfl
  | true =>
    obtain ⟨h1, h2⟩ := zwi_t hz
    obtain ⟨v, rfl⟩ : ∃ v : Nat, u = (v : Int) := ⟨u.toNat, by omega⟩
    have hv : v < 2 := by omega
    have hm1 := hm v hv
    rw [Bool.not_true, tb_f, if_pos rfl, zix_n hv, mD93, wr_id (by omega) (by omega), m_in, Bool.true_and, Int.toNat_natCast]
    cases hy : zwi i 0 (A 93 v - 1) with
    | false => rw [tb_f, if_pos rfl, znar_1, Bool.not_false, tb_t]
    | true => rw [tb_t, if_neg (by decide), znar_0, Bool.not_true, tb_f]
end
