/-! THE SERIAL RUN: rounds of a block -/
def tjo (fl : Int) (T j : Nat) : Nat := if fl = 0 then j else T - 1 - j
theorem tjo_lt {fl : Int} {T j : Nat} (h : j < T) : tjo fl T j < T := by
  unfold tjo
  split <;> omega
theorem tjo_inj {fl : Int} {T i j : Nat} (hi : i < T) (hj : j < T) (h : tjo fl T i = tjo fl T j) : i = j := by
  unfold tjo at h
  split at h <;> omega
theorem tjo_all {fl : Int} {T t : Nat} (h : t < T) : ∃ j, j < T ∧ tjo fl T j = t := by
  unfold tjo
  by_cases hz : fl = 0
  · exact ⟨t, h, if_pos hz⟩
  · exact ⟨T - 1 - t, by omega, by rw [if_neg hz]; omega⟩
/-- behind the last thread of a round -/
def reEnd {ρ : Type} (kr : Int → zH → Option ρ) (r51 : Int → Int → zH → Option ρ) (a2 : Int) (h : zH) : Option ρ := zob h 5 0 fun p2 => zob h 5 0 fun p3 => Th_lowestOfWaiting_30 (zhD h 5 p2 2) (zhD h 5 p3 5) h fun v4 h5 => if v4 < 0 then kr 1 h5 else zob h5 5 0 fun p6 => zob h5 5 0 fun p7 => zob h5 6 v4 fun p8 => zob h5 5 0 fun p9 => zob h5 7 (zhD h5 5 p9 4) fun p10 => Th_release_30 (zhD h5 5 p6 2) (zhD h5 5 p7 5) (zhD h5 6 p8 3) (zhD h5 7 p10 3) h5 fun v11 h12 => if v11 = 0 then kr 0 h12 else r51 0 (wr (a2 + 1)) h12
section
variable {ρ : Type} {h h0 g : zH} {A A0 B : zA} {kr : Int → zH → Option ρ} {K L n k T t p r rn : Nat} {M bn v c a b d w fl : Int}
theorem sq_nos {s : Nat → Int} (x : SQ (ard A 114 s) h k T bn) (hs : ∀ t, t < T → s t = A 114 t) : SQ A h k T bn := by
  obtain ⟨x1, x2, x3, x4⟩ := x
  rw [ard_ne (by decide)] at x2 x3
  refine ⟨x1, x2, x3, fun t ht => ?_⟩
  have z := x4 t ht
  rw [ard_same, ard_ne (show 113 ≠ 114 by decide), ard_ne (show 63 ≠ 114 by decide), ard_ne (show 115 ≠ 114 by decide), ard_ne (show 112 ≠ 114 by decide), hs t ht] at z
  exact z
theorem rd_loop (q : RS h0) (qd : RD h0) (rk : RK A0 h0 K) (hk : k < K) (nl : NL A0 k) (t16 : T ≤ 16) (f6 : zhD h0 5 0 6 = fl) (rn200 : rn ≤ 200) (g : zH) : ∀ (f1 f2 j : Nat) (h : zH) (A : zA) (s : Nat → Int), j ≤ T → T - j < f1 → T - j < f2 → SF A0 A h0 h → SQ (ard A 114 s) h k T bn → (∀ i, j ≤ i → i < T → s (tjo fl T i) = lgs A k (tjo fl T i) ∧ A 114 (tjo fl T i) ≠ 119 ∧ (A 114 (tjo fl T i) = 114 → (rn : Int) ≤ A 115 (tjo fl T i)) ∧ (A 114 (tjo fl T i) = 114 ∨ A 114 (tjo fl T i) = 101)) → (∀ i, i < j → s (tjo fl T i) = A 114 (tjo fl T i) ∧ A 114 (tjo fl T i) ≠ 114 ∧ (A 114 (tjo fl T i) = 119 → (rn : Int) + 1 ≤ A 115 (tjo fl T i))) → ∃ (h' : zH) (A' : zA) (ok : Bool), (∀ (kr : Int → zH → Option ρ) (r51 : Int → Int → zH → Option ρ), zit (fun _ _ _ _ => none) (Re_runBlock_60b kr r51) f1 0 (rn : Int) (j : Int) h = if ok = true then reEnd kr r51 (rn : Int) h' else kr 0 h') ∧ (∀ (kr : Int → zH → Option ρ) (r83 : Int → Int → Int → Int → Int → zH → Option ρ), zit (fun _ _ _ _ _ _ => none) (M_runBlock_93b kr r83) f2 (k : Int) bn (T : Int) fl (j : Int) (mh g A) = if ok = true then M_runBarrier (T : Int) (mh g A') (fun v1 h2 => r83 (k : Int) bn (T : Int) fl v1 h2) else kr 0 (mh g A')) ∧ SF A0 A' h0 h' ∧ (ok = true → SQ A' h' k T bn ∧ ∀ t, t < T → A' 114 t ≠ 114 ∧ (A' 114 t = 119 → (rn : Int) + 1 ≤ A' 115 t))
  | 0, _, _, _, _, _, _, hf, _, _, _, _, _ => absurd hf (Nat.not_lt_zero _)
  | _ + 1, 0, _, _, _, _, _, _, hf, _, _, _, _ => absurd hf (Nat.not_lt_zero _)
  | f1 + 1, f2 + 1, j, h, A, s, hj, hf1, hf2, x, sq, pend, done => by
    have rs := x.rs q
    have rd := x.rd qd
    have d55 := sq.1.2
    by_cases hjT : j < T
    · have ht := tjo_lt (fl := fl) hjT
      obtain ⟨p1, p2, p3, p5⟩ := pend j (Nat.le_refl _) hjT
      have sqt := (sq.2.2.2 _ ht).2.2.2.1
      rw [ard_ne (by decide)] at sqt
      obtain ⟨-, c0, c2⟩ := sqt
      obtain ⟨h1, A1, ok1, y1, y2, y3, y4⟩ := rt_loop (ρ := ρ) q qd rk hk nl ht t16 g zN zN 0 h A s x sq p1 (by omega) c0 c2 (by show 201 - _ < 5000; omega) (by show 202 - _ < 5000; omega)
      have lt : (j : Int) < (T : Int) := by omega
      have j9 : j < 100000 := by omega
      have l16 : tjo fl T j < 16 := by omega
      have e6 : zhD h 5 0 6 = fl := by rw [x.2.2.2.2.2 5 0 6 rfl]; exact f6
      have CP : ∀ (kr : Int → zH → Option ρ) (r51 : Int → Int → zH → Option ρ) (r60 : Int → Int → Int → zH → Option ρ), Re_runBlock_60b kr r51 r60 0 (rn : Int) (j : Int) h = if ok1 = true then r60 0 (rn : Int) ((j + 1 : Nat) : Int) h1 else kr 0 h1 := fun kr r51 r60 => by
        have rt : Re_runThread 0 ((tjo fl T j : Nat) : Int) h (fun v3 h4 => if v3 = 0 then kr 0 h4 else r60 0 (rn : Int) (wr ((j : Int) + 1)) h4) = if ok1 = true then r60 0 (rn : Int) ((j + 1 : Nat) : Int) h1 else kr 0 h1 := by
          refine Eq.trans (y1 _) ?_
          cases ok1 with
          | false => rfl
          | true =>
            rw [tb_t, if_neg (by decide), wr_s j9]
            rfl
        unfold Re_runBlock_60b Re_runBlock_92
        rw [zob_0 rs.N5, d55, if_pos lt, zob_0 rs.N5, zob_0 rs.N5, e6, rs.D5_0_2]
        by_cases hz : fl = 0
        · have e : tjo fl T j = j := if_pos hz
          rw [e] at rt l16
          rw [if_pos hz, zob_0 rs.N30, rs.L30_0, zix_n l16, rs.T _ l16, zob_0 rs.N5]
          exact rt
        · have e : tjo fl T j = T - 1 - j := if_neg hz
          rw [e] at rt l16
          have ww : wr (wr ((T : Int) - 1) - (j : Int)) = ((T - 1 - j : Nat) : Int) := by
            rw [wr_id (x := (T : Int) - 1) (by omega) (by omega), wr_id (by omega) (by omega)]
            omega
          rw [if_neg hz, zob_0 rs.N5, d55, ww, zob_0 rs.N30, rs.L30_0, zix_n l16, rs.T _ l16, zob_0 rs.N5]
          exact rt
      have MP : ∀ (kr : Int → zH → Option ρ) (r83 r93 : Int → Int → Int → Int → Int → zH → Option ρ), M_runBlock_93b kr r83 r93 (k : Int) bn (T : Int) fl (j : Int) (mh g A) = if ok1 = true then r93 (k : Int) bn (T : Int) fl ((j + 1 : Nat) : Int) (mh g A1) else kr 0 (mh g A1) := fun kr r83 r93 => by
        have rt : M_runThread (k : Int) bn ((tjo fl T j : Nat) : Int) (mh g A) (fun v1 h2 => if v1 = 0 then kr 0 h2 else r93 (k : Int) bn (T : Int) fl (wr ((j : Int) + 1)) h2) = if ok1 = true then r93 (k : Int) bn (T : Int) fl ((j + 1 : Nat) : Int) (mh g A1) else kr 0 (mh g A1) := by
          refine Eq.trans (y2 _) ?_
          cases ok1 with
          | false => rfl
          | true =>
            rw [tb_t, if_neg (by decide), wr_s j9]
            rfl
        unfold M_runBlock_93b M_runBlock_115
        rw [if_pos lt]
        by_cases hz : fl = 0
        · have e : tjo fl T j = j := if_pos hz
          rw [e] at rt
          rw [if_pos hz]
          exact rt
        · have e : tjo fl T j = T - 1 - j := if_neg hz
          rw [e] at rt
          have ww : wr (wr ((T : Int) - 1) - (j : Int)) = ((T - 1 - j : Nat) : Int) := by
            rw [wr_id (x := (T : Int) - 1) (by omega) (by omega), wr_id (by omega) (by omega)]
            omega
          rw [if_neg hz, ww]
          exact rt
      cases ok1 with
      | false =>
        refine ⟨h1, A1, false, fun kr r51 => ?_, fun kr r83 => ?_, y3, fun z => by cases z⟩
        · rw [zit_s, CP, if_neg Bool.false_ne_true, if_neg Bool.false_ne_true]
        · rw [zit_s, MP, if_neg Bool.false_ne_true, if_neg Bool.false_ne_true]
      | true =>
        obtain ⟨u1, u2, u3, u4, u5, u6⟩ := y4 rfl
        have e63 : A1 63 = A 63 := by rw [y3.1 63 (by decide), x.1 63 (by decide)]
        obtain ⟨h2, A2, ok, v1, v2, v3, v4⟩ := rd_loop q qd rk hk nl t16 f6 rn200 g f1 f2 (j + 1) h1 A1 (zup s (tjo fl T j) (A1 114 (tjo fl T j))) hjT (by omega) (by omega) y3 u1 (fun i h1 h2 => by
          have hn : tjo fl T i ≠ tjo fl T j := fun z => by
            have := tjo_inj h2 hjT z
            omega
          obtain ⟨w1, w2, w3⟩ := u3 _ hn
          obtain ⟨z1, z2, z3, z4⟩ := pend i (by omega) h2
          unfold lgs at z1 ⊢
          rw [zup_ne hn, w1, w2, w3, e63]
          exact ⟨z1, z2, z3, z4⟩) (fun i h1 => by
          by_cases hij : i = j
          · rw [hij, zup_same]
            refine ⟨rfl, u2, fun hz => ?_⟩
            rcases p5 with h114 | h101
            · rcases u4 hz with m1 | m1
              · exact absurd m1 p2
              · have := p3 h114
                omega
            · rw [u6 h101] at hz
              cases hz
          · have hn : tjo fl T i ≠ tjo fl T j := fun z => hij (tjo_inj (by omega) hjT z)
            obtain ⟨w1, w2, w3⟩ := u3 _ hn
            rw [zup_ne hn, w1, w2]
            exact done i (by omega))
        refine ⟨h2, A2, ok, fun kr r51 => ?_, fun kr r83 => ?_, v3, v4⟩
        · rw [zit_s, CP, if_pos rfl, v1]
        · rw [zit_s, MP, if_pos rfl, v2]
    · have : j = T := by omega
      subst this
      refine ⟨h, A, true, fun kr r51 => ?_, fun kr r83 => ?_, x, fun _ => ⟨sq_nos sq (fun t ht => ?_), fun t ht => ?_⟩⟩
      · rw [zit_s, if_pos rfl]
        generalize zit (fun _ _ _ _ => none) (Re_runBlock_60b kr r51) f1 = r9
        unfold Re_runBlock_60b reEnd
        rw [zob_0 rs.N5, d55, if_neg (Int.lt_irrefl _)]
      · rw [zit_s, if_pos rfl]
        unfold M_runBlock_93b
        rw [if_neg (Int.lt_irrefl _)]
      · obtain ⟨i, i1, i2⟩ := tjo_all (fl := fl) ht
        rw [← i2]
        exact (done i i1).1
      · obtain ⟨i, i1, i2⟩ := tjo_all (fl := fl) ht
        rw [← i2]
        exact (done i i1).2
theorem m_rb68_none (t16 : T ≤ 16) (hw : ∀ t, t < T → A 114 t ≠ 119) : ∀ (f i : Nat), i ≤ T → T - i < f → zit (fun _ _ _ _ _ => none) (M_runBarrier_68b kr) f (T : Int) (-1) 1 (i : Int) (mh g A) = kr 101 (mh g A)
  | 0, _, _, hf => absurd hf (Nat.not_lt_zero _)
  | f + 1, i, hi, hf => by
    rw [zit_s]
    by_cases ht : i < T
    · have ih := m_rb68_none t16 hw f (i + 1) ht (by omega)
      have lt : (i : Int) < (T : Int) := by omega
      have l16 : i < 16 := by omega
      have i9 : i < 100000 := by omega
      generalize zit (fun _ _ _ _ _ => none) (M_runBarrier_68b kr) f = r2 at ih ⊢
      unfold M_runBarrier_68b M_runBarrier_110
      rw [if_pos lt, if_neg (by decide), zix_n l16, mD114, if_neg (hw i ht), wr_s i9]
      exact ih
    · have : i = T := by omega
      subst this
      unfold M_runBarrier_68b M_runBarrier_116 M_runBarrier_137
      rw [if_neg (Int.lt_irrefl _), if_pos rfl, znar_c (by decide)]
/-- all rounds -/
theorem rb_loop (q : RS h0) (qd : RD h0) (rk : RK A0 h0 K) (hk : k < K) (nl : NL A0 k) (t1 : 1 ≤ T) (t16 : T ≤ 16) (f6 : zhD h0 5 0 6 = fl) (g : zH) : ∀ (f1 f2 rn : Nat) (h : zH) (A : zA) (s : Nat → Int), rn ≤ 200 → 201 - rn < f1 → 202 - rn < f2 → SF A0 A h0 h → SQ (ard A 114 s) h k T bn → (∀ t, t < T → s t = lgs A k t ∧ (A 114 t = 114 ∨ A 114 t = 101) ∧ (A 114 t = 114 → (rn : Int) ≤ A 115 t)) → ∃ (h' : zH) (A' : zA) (ok : Bool), (∀ kr : Int → zH → Option ρ, zit (fun _ _ _ => none) (Re_runBlock_51b kr) f1 0 (rn : Int) h = kr (tb ok) h') ∧ (∀ kr : Int → zH → Option ρ, zit (fun _ _ _ _ _ _ => none) (M_runBlock_83b kr) f2 (k : Int) bn (T : Int) fl 112 (mh g A) = kr (tb ok) (mh g A')) ∧ SF A0 A' h0 h' ∧ (ok = true → ∀ j, j < 64 → zhD h' 28 0 j = A' 110 j)
  | 0, _, _, _, _, _, _, hf, _, _, _, _ => absurd hf (Nat.not_lt_zero _)
  | _ + 1, 0, _, _, _, _, _, _, hf, _, _, _ => absurd hf (Nat.not_lt_zero _)
  | _ + 1, 1, _, _, _, _, _, _, hf, _, _, _ => absurd hf (by omega)
  | f1 + 1, f2 + 2, rn, h, A, s, r200, hf1, hf2, x, sq, st => by
    obtain ⟨h1, A1, ok1, y1, y2, y3, y4⟩ := rd_loop (ρ := ρ) (fl := fl) q qd rk hk nl t16 f6 r200 g zN zN 0 h A s (Nat.zero_le _) (by show T - 0 < 5000; omega) (by show T - 0 < 5000; omega) x sq (fun i _ hi => by
      obtain ⟨z1, z2, z3⟩ := st _ (tjo_lt (fl := fl) hi)
      exact ⟨z1, by omega, z3, z2⟩) (fun i hi => absurd hi (Nat.not_lt_zero _))
    have r2n : ¬ (200 : Int) < (rn : Int) := by omega
    have C1 : ∀ (kr : Int → zH → Option ρ) (r51 : Int → Int → zH → Option ρ), Re_runBlock_51b kr r51 0 (rn : Int) h = if ok1 = true then reEnd kr r51 (rn : Int) h1 else kr 0 h1 := fun kr r51 => by
      unfold Re_runBlock_51b
      rw [if_neg r2n]
      exact y1 kr r51
    have M1 : ∀ (kr : Int → zH → Option ρ) (r83 : Int → Int → Int → Int → Int → zH → Option ρ), M_runBlock_83b kr r83 (k : Int) bn (T : Int) fl 112 (mh g A) = if ok1 = true then M_runBarrier (T : Int) (mh g A1) (fun v1 h2 => r83 (k : Int) bn (T : Int) fl v1 h2) else kr 0 (mh g A1) := fun kr r83 => by
      unfold M_runBlock_83b
      rw [if_pos rfl]
      exact y2 kr r83
    cases ok1 with
    | false =>
      refine ⟨h1, A1, false, fun kr => ?_, fun kr => ?_, y3, fun z => by cases z⟩
      · rw [zit_s, C1]
        rfl
      · rw [zit_s, M1]
        rfl
    | true =>
      obtain ⟨sq1, w1⟩ := y4 rfl
      have rs1 := y3.rs q
      have rd1 := y3.rd qd
      have rk1 := y3.rk rk
      obtain ⟨d54, d55⟩ := sq1.1
      have k7 : k < zhN h1 7 := by rw [rk1.2.2.1]; exact hk
      have k4 : k < 4 := by have := rk.2.1; omega
      have d73 : zhD h1 7 k 3 = A0 63 k := by
        rw [(rk1.2.2.2.2.1 k hk).2.2.2.2.2.2.2.2.2.2.1, y3.1 63 (by decide)]
      have C2 : ∀ (kr : Int → zH → Option ρ) (r51 : Int → Int → zH → Option ρ), reEnd kr r51 (rn : Int) h1 = if zw1 A1 0 T < 0 then kr 1 h1 else zob h1 5 0 fun p6 => zob h1 5 0 fun p7 => zob h1 6 (zw1 A1 0 T) fun p8 => zob h1 5 0 fun p9 => zob h1 7 (zhD h1 5 p9 4) fun p10 => Th_release_30 (zhD h1 5 p6 2) (zhD h1 5 p7 5) (zhD h1 6 p8 3) (zhD h1 7 p10 3) h1 fun v11 h12 => if v11 = 0 then kr 0 h12 else r51 0 (wr ((rn : Int) + 1)) h12 := fun kr r51 => by
        have lw := x_lw30 (kr := fun v4 h5 => if v4 < 0 then kr 1 h5 else zob h5 5 0 fun p6 => zob h5 5 0 fun p7 => zob h5 6 v4 fun p8 => zob h5 5 0 fun p9 => zob h5 7 (zhD h5 5 p9 4) fun p10 => Th_release_30 (zhD h5 5 p6 2) (zhD h5 5 p7 5) (zhD h5 6 p8 3) (zhD h5 7 p10 3) h5 fun v11 h12 => if v11 = 0 then kr 0 h12 else r51 0 (wr ((rn : Int) + 1)) h12) sq1 rs1 rd1 t16 zN 0 T (by omega) (by show T < 5000; omega)
        unfold reEnd
        rw [zob_0 rs1.N5, zob_0 rs1.N5, rs1.D5_0_2, d55]
        exact lw
      have M2 : ∀ kr : Int → zH → Option ρ, M_runBarrier (T : Int) (mh g A1) kr = M_runBarrier_68 kr (T : Int) (zbp A1 T) (tb (zbsm A1 T)) 0 (mh g A1) := fun kr => m_rb7 (A := A1) (g := g) t16 zN 0 (Nat.zero_le _) (by show T - 0 < 5000; omega)
      have pz : ∀ t, t < T → A1 114 t = 119 → 0 ≤ A1 113 t ∧ A1 113 t < A1 63 k ∧ zhD h1 6 t 3 = A1 113 t := fun t ht hw => by
        have z := (sq1.2.2.2 t ht).2.2.1 (by rw [hw]; decide)
        exact ⟨z.2.1, z.2.2, z.1⟩
      have bs := zb_spec (A := A1) T (fun t ht hw => (pz t ht hw).1)
      rcases zw1_r (A := A1) T 0 with ⟨l1, l2⟩ | ⟨lo, l1, l2, l3, l4⟩
      · -- all have ended
        have nw : ∀ t, t < T → A1 114 t ≠ 119 := fun t ht => l2 t (Nat.zero_le _) (by omega)
        rcases bs with ⟨b1, b2, b3⟩ | ⟨b1, ⟨t9, b2, b3⟩, -⟩
        · refine ⟨h1, A1, true, fun kr => ?_, fun kr => ?_, y3, fun _ => sq1.2.1⟩
          · rw [zit_s, C1, if_pos rfl, C2, l1, if_pos (by decide)]
            rfl
          · rw [zit_s, M1, if_pos rfl, M2, b1, b3, tb_t]
            have z := m_rb68_none (kr := fun v1 h2 => zit (fun _ _ _ _ _ _ => none) (M_runBlock_83b kr) (f2 + 1) (k : Int) bn (T : Int) fl v1 h2) (g := g) t16 nw zN 0 (Nat.zero_le _) (by show T - 0 < 5000; omega)
            refine Eq.trans z ?_
            rw [zit_s]
            unfold M_runBlock_83b M_runBlock_158
            rw [if_neg (by decide), if_pos rfl]
            exact znar_1
        · exact absurd b3 (nw t9 b2)
      · have loT : lo < T := by omega
        obtain ⟨q1, q2, q3⟩ := pz lo loT l4
        have th := (sq_th rd1 loT t16).1
        have nlo : ¬ (lo : Int) < 0 := by omega
        have p40 : A1 113 lo < 40 := by
          have := (rk1.2.2.2.2.1 k hk).2.2.2.2.2.2.1
          omega
        have C3 : ∀ (kr : Int → zH → Option ρ) (r51 : Int → Int → zH → Option ρ), reEnd kr r51 (rn : Int) h1 = Th_release_30 0 (T : Int) (A1 113 lo) (A0 63 k) h1 fun v11 h12 => if v11 = 0 then kr 0 h12 else r51 0 (wr ((rn : Int) + 1)) h12 := fun kr r51 => by
          rw [C2, l1, if_neg nlo, zob_0 rs1.N5, zob_0 rs1.N5, zob_n th, zob_0 rs1.N5, d54, zob_n k7, q3, d73, rs1.D5_0_2, d55]
        rcases bs with ⟨-, b2, -⟩ | ⟨b1, b2, b3, b4⟩
        · exact absurd l4 (b2 lo loT)
        · cases hb : zbsm A1 T with
          | false =>
            obtain ⟨t9, t8, z1, z2, z3, z4, z5⟩ := b4 hb
            have bad : ∃ t, 0 ≤ t ∧ t < T ∧ A1 114 t = 119 ∧ A1 113 t ≠ A1 113 lo := by
              by_cases e : A1 113 t9 = A1 113 lo
              · exact ⟨t8, Nat.zero_le _, z2, z4, fun z => z5 (e.trans z.symm)⟩
              · exact ⟨t9, Nat.zero_le _, z1, z3, e⟩
            refine ⟨h1, A1, false, fun kr => ?_, fun kr => ?_, y3, fun z => by cases z⟩
            · rw [zit_s, C1, if_pos rfl, C3]
              have z := x_ck_bad (kr := fun v11 h12 => if v11 = 0 then kr 0 h12 else zit (fun _ _ _ => none) (Re_runBlock_51b kr) f1 0 (wr ((rn : Int) + 1)) h12) (pl := A1 113 lo) (len := A0 63 k) sq1 rs1 rd1 t16 zN 0 (Nat.zero_le _) (by show T - 0 < 5000; omega) bad
              refine Eq.trans z ?_
              rw [if_pos rfl]
              rfl
            · rw [zit_s, M1, if_pos rfl, M2, hb, tb_f]
              have e68 : ∀ kr2 : Int → zH → Option ρ, M_runBarrier_68 kr2 (T : Int) (zbp A1 T) 0 0 (mh g A1) = kr2 102 (mh g A1) := fun kr2 => by
                show M_runBarrier_68b kr2 (zit (fun _ _ _ _ _ => none) (M_runBarrier_68b kr2) 4999) (T : Int) (zbp A1 T) 0 0 (mh g A1) = _
                generalize zit (fun _ _ _ _ _ => none) (M_runBarrier_68b kr2) 4999 = r9
                unfold M_runBarrier_68b M_runBarrier_116 M_runBarrier_137
                rw [if_pos (by omega), if_pos rfl, if_neg (by omega), if_pos rfl, znar_c (by decide)]
              rw [e68, zit_s]
              unfold M_runBlock_83b M_runBlock_158
              rw [if_neg (by decide), if_neg (by decide)]
              exact znar_0
          | true =>
            have same := b3 hb
            have lov := same lo loT l4
            obtain ⟨h2, A2, s2, v1, v2, v3, v4, v5, v6⟩ := rl_both (ρ := ρ) (k := k) (bn := bn) (pl := A1 113 lo) (a2 := zbp A1 T) q qd t16 ⟨q1, p40⟩ (by omega) g zN zN 0 h1 A1 (A1 114) (Nat.zero_le _) (by show T - 0 < 5000; omega) (by show T - 0 < 5000; omega) y3 (by rw [ard_id]; exact sq1) (fun t _ ht => ⟨rfl, (w1 t ht).1, fun hw => by rw [same t ht hw, lov]⟩) (fun t ht => absurd ht (Nat.not_lt_zero _))
            have hc : (rn : Int) + 1 ≤ A1 115 lo := (w1 lo loT).2 l4
            have c200 := (sq1.2.2.2 lo loT).2.2.2.1.2.2
            have rn9 : rn < 100000 := by omega
            obtain ⟨h3, A3, ok, u1, u2, u3, u4⟩ := rb_loop q qd rk hk nl t1 t16 f6 g f1 (f2 + 1) (rn + 1) h2 A2 s2 (by omega) (by omega) (by omega) v3 v4 (fun t ht => by
              obtain ⟨m1, m2, m3⟩ := v5 t ht
              refine ⟨m1, m2, fun hz => ?_⟩
              rw [v6]
              have st1 := (sq1.2.2.2 t ht).2.1.2
              have n114 := (w1 t ht).1
              have n101 : A1 114 t ≠ 101 := fun z => by rw [m3 z] at hz; cases hz
              have := (w1 t ht).2 (by omega)
              omega)
            refine ⟨h3, A3, ok, fun kr => ?_, fun kr => ?_, u3, u4⟩
            · rw [zit_s, C1, if_pos rfl, C3]
              have z := x_ck_ok (kr := fun v11 h12 => if v11 = 0 then kr 0 h12 else zit (fun _ _ _ => none) (Re_runBlock_51b kr) f1 0 (wr ((rn : Int) + 1)) h12) (pl := A1 113 lo) (len := A0 63 k) sq1 rs1 rd1 t16 zN 0 (Nat.zero_le _) (by show T - 0 < 5000; omega) (fun t _ ht hw => by rw [same t ht hw, lov])
              refine Eq.trans z ?_
              refine Eq.trans (v1 _) ?_
              rw [if_neg (by decide), wr_s rn9]
              exact u1 kr
            · rw [zit_s, M1, if_pos rfl, M2, hb, tb_t]
              refine Eq.trans (v2 _) ?_
              exact u2 kr
end
