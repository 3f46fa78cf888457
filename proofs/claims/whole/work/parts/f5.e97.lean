/-! RACES, SHARES, DELAYS, SOUNDNESS: both sides -/
section
variable {ρ : Type} {h h0 g : zH} {A A0 B : zA} {kr : Int → zH → Option ρ} {kt : Nat → zH → Option ρ} {K L n : Nat} {bc tc gc : Nat → Nat} {N M : Int}
theorem x_isRacing (q : RR A h K L bc tc gc n B N M) {l c : Int} : X_isRacing 0 l c h kt kr = if zwi l 0 ((L : Int) - 1) = true ∧ zwi c 0 63 = true then kr (A 105 (64 * l.toNat + c.toNat)) h else kt 3 (zthrown h) := by
  have rs := q.rs
  obtain ⟨a1, a2, a3, a4⟩ := q.rl.at
  unfold X_isRacing
  rw [zob_0 rs.N0, x_launchAt rs q.rl, a1]
  cases hz : zwi l 0 ((L : Int) - 1) with
  | false => rw [if_neg (by decide), if_neg (fun z => absurd z.1 (by decide))]
  | true =>
    obtain ⟨h1, h2⟩ := zwi_t hz
    obtain ⟨l, rfl⟩ : ∃ l9 : Nat, l = (l9 : Int) := ⟨l.toNat, by omega⟩
    rw [if_pos rfl, x_isCell]
    cases hy : zwi c 0 63 with
    | false => rw [tb_f, if_pos rfl, zlet_d, if_neg (fun z => absurd z.2 (by decide))]
    | true =>
      obtain ⟨h3, h4⟩ := zwi_t hy
      obtain ⟨c, rfl⟩ : ∃ c9 : Nat, c = (c9 : Int) := ⟨c.toNat, by omega⟩
      have hl : l < L := by omega
      have c64 : c < 64 := by omega
      obtain ⟨d34, d35, d⟩ := q.rd.2.1
      obtain ⟨-, d17, -, l35⟩ := d l (by omega)
      have n9 : l < zhN h 9 := by omega
      have n35 : l < zhN h 35 := by omega
      have tl := (q.tl l hl).1 c c64
      have ta := q.ta.2.2.2.2.1 l c (by omega) c64
      rw [tb_t, if_neg (by decide), zob_n n9, d17, zob_n n35, l35, zix_n c64, tl.1, znar_b ta, if_pos ⟨rfl, rfl⟩, Int.toNat_natCast, Int.toNat_natCast]
theorem m_isRacing (q : RR A h K L bc tc gc n B N M) {l c : Int} : M_isRacing l c (mh g A) kr = if zwi l 0 ((L : Int) - 1) = true ∧ zwi c 0 63 = true then kr (A 105 (64 * l.toNat + c.toNat)) (mh g A) else kr 0 (mh g (au A 12 0 1)) := by
  have a0A := q.a0
  unfold a0 at a0A
  have t0 := q.rc.2 0 rfl
  obtain ⟨a1, a2, a3, a4⟩ := q.rl.at
  have n1 : ¬ (1 : Int) = 0 := by decide
  have ml := fun kr : Int → zH → Option ρ => m_noLaunch (kr := kr) (h := g) (A := A) (a := l) (by rw [a1]; omega)
  rw [a1] at ml
  have M21 : M_isRacing_21 kr l c (mh g A) = kr 0 (mh g (au A 12 0 1)) := by
    unfold M_isRacing_21 M_isRacing_26 M_isRacing_51 M_isRacing_52
    rw [m_fails1 t0 (by decide), if_neg n1, znar_0]
  unfold M_isRacing
  rw [zlet_d, mS12, a0A, ml]
  cases hz : zwi l 0 ((L : Int) - 1) with
  | false => rw [Bool.not_false, tb_t, if_neg n1, M21, if_neg (fun z => absurd z.1 (by decide))]
  | true =>
    obtain ⟨h1, h2⟩ := zwi_t hz
    obtain ⟨l, rfl⟩ : ∃ l9 : Nat, l = (l9 : Int) := ⟨l.toNat, by omega⟩
    rw [Bool.not_true, tb_f, if_pos rfl, m_noCell]
    cases hy : zwi c 0 63 with
    | false => rw [Bool.not_false, tb_t, if_neg n1, M21, if_neg (fun z => absurd z.2 (by decide))]
    | true =>
      obtain ⟨h3, h4⟩ := zwi_t hy
      obtain ⟨c, rfl⟩ : ∃ c9 : Nat, c = (c9 : Int) := ⟨c.toNat, by omega⟩
      have c64 : c < 64 := by omega
      have x768 : 64 * l + c < 768 := by omega
      have x9 : 64 * l + c < 100000 := by omega
      have w64 : wr (64 * (l : Int)) = ((64 * l : Nat) : Int) := by
        rw [wr_id (by omega) (by omega)]
        omega
      have ta := q.ta.2.2.2.2.1 l c (by omega) c64
      unfold M_isRacing_26 M_isRacing_51 M_isRacing_52
      rw [Bool.not_true, tb_f, if_pos rfl, m_fails0 t0 (by decide), if_pos rfl, w64, wr_nn x9, zix_n x768, mD105, Int.toNat_natCast, Int.toNat_natCast]
      refine Eq.trans ?_ (if_pos (show true = true ∧ true = true from ⟨rfl, rfl⟩)).symm
      rcases ta with z | z
      · rw [if_pos z, znar_0, z]
      · rw [z, if_neg n1, znar_1]
theorem x_races (q : RR A h K L bc tc gc n B N M) {l : Int} : X_races 0 l h kt kr = if zwi l 0 ((L : Int) - 1) = true then kr (zsum (A 105) (64 * l.toNat) 64 + zsum (A 108) (96 * l.toNat) 96) h else kt 3 (zthrown h) := by
  have rs := q.rs
  obtain ⟨a1, a2, a3, a4⟩ := q.rl.at
  unfold X_races
  rw [zob_0 rs.N0, x_launchAt rs q.rl, a1]
  cases hz : zwi l 0 ((L : Int) - 1) with
  | false => rw [if_neg (by decide), if_neg (by decide)]
  | true =>
    obtain ⟨h1, h2⟩ := zwi_t hz
    obtain ⟨l, rfl⟩ : ∃ l9 : Nat, l = (l9 : Int) := ⟨l.toNat, by omega⟩
    have hl : l < L := by omega
    have n9 : l < zhN h 9 := by omega
    rw [if_pos rfl, zob_n n9, (q.tl l hl).2, if_pos rfl, Int.toNat_natCast]
theorem zsum_01 {f : Nat → Int} {b : Nat} : ∀ n : Nat, (∀ i, i < n → f (b + i) = 0 ∨ f (b + i) = 1) → 0 ≤ zsum f b n ∧ zsum f b n ≤ n
  | 0, _ => ⟨Int.le_refl _, Int.le_refl _⟩
  | n + 1, h => by
    have ih := zsum_01 n (fun i hi => h i (by omega))
    have := h n (by omega)
    unfold zsum
    omega
theorem m_r63 {l : Nat} {s0 : Int} (hl : l < 12) (h0 : 0 ≤ s0 ∧ s0 ≤ 1000) (hb : ∀ i, i < 96 → A 108 (96 * l + i) = 0 ∨ A 108 (96 * l + i) = 1) : ∀ f i : Nat, i ≤ 96 → 96 - i < f → zit (fun _ _ _ _ => none) (M_races_63b kr) f (l : Int) (s0 + zsum (A 108) (96 * l) i) ((96 * l + i : Nat) : Int) (mh g A) = kr (s0 + zsum (A 108) (96 * l) 96) (mh g A)
  | 0, _, _, hf => absurd hf (Nat.not_lt_zero _)
  | f + 1, i, hi, hf => by
    rw [zit_s]
    have e96 : wr (wr (96 * (l : Int)) + 96) = ((96 * l + 96 : Nat) : Int) := by
      rw [wr_id (x := 96 * (l : Int)) (by omega) (by omega), wr_id (by omega) (by omega)]
      omega
    by_cases h4 : i < 96
    · have ih := m_r63 hl h0 hb f (i + 1) h4 (by clear e96; omega)
      have lt : ((96 * l + i : Nat) : Int) < ((96 * l + 96 : Nat) : Int) := by clear e96; omega
      have x : 96 * l + i < 1152 := by clear e96; omega
      have i9 : 96 * l + i < 100000 := by clear e96; omega
      have sb := zsum_01 (f := A 108) (b := 96 * l) i (fun j hj => hb j (by clear e96; omega))
      have e1 : zsum (A 108) (96 * l) (i + 1) = zsum (A 108) (96 * l) i + A 108 (96 * l + i) := rfl
      have b1 : -2147483648 ≤ s0 + zsum (A 108) (96 * l) i + 1 ∧ s0 + zsum (A 108) (96 * l) i + 1 < 2147483648 := by clear e96; omega
      have b0 : -2147483648 ≤ s0 + zsum (A 108) (96 * l) i + 0 ∧ s0 + zsum (A 108) (96 * l) i + 0 < 2147483648 := by clear e96; omega
      rw [e1] at ih
      generalize zit (fun _ _ _ _ => none) (M_races_63b kr) f = r2 at ih ⊢
      unfold M_races_63b M_races_89
      rw [e96, if_pos lt, zix_n x, mD108, wr_s i9]
      rcases hb i h4 with z | z
      · rw [z, ← Int.add_assoc] at ih
        rw [if_pos z, wr_id b0.1 b0.2]
        exact ih
      · rw [z, ← Int.add_assoc] at ih
        rw [z, if_neg (by decide), wr_id b1.1 b1.2]
        exact ih
    · have : i = 96 := by clear e96; omega
      subst this
      unfold M_races_63b
      rw [e96, if_neg (Int.lt_irrefl _)]
theorem m_r24 {l : Nat} (hl : l < 12) (hb : ∀ i, i < 64 → A 105 (64 * l + i) = 0 ∨ A 105 (64 * l + i) = 1) : ∀ f i : Nat, i ≤ 64 → 64 - i < f → zit (fun _ _ _ _ => none) (M_races_24b kr) f (l : Int) (zsum (A 105) (64 * l) i) (i : Int) (mh g A) = M_races_63 kr (l : Int) (zsum (A 105) (64 * l) 64) (wr (96 * (l : Int))) (mh g A)
  | 0, _, _, hf => absurd hf (Nat.not_lt_zero _)
  | f + 1, i, hi, hf => by
    rw [zit_s]
    by_cases h4 : i < 64
    · have ih := m_r24 hl hb f (i + 1) h4 (by omega)
      have lt : (i : Int) < 64 := by omega
      have x : 64 * l + i < 768 := by omega
      have x9 : 64 * l + i < 100000 := by omega
      have i9 : i < 100000 := by omega
      have sb := zsum_01 (f := A 105) (b := 64 * l) i (fun j hj => hb j (by omega))
      have e1 : zsum (A 105) (64 * l) (i + 1) = zsum (A 105) (64 * l) i + A 105 (64 * l + i) := rfl
      have b1 : -2147483648 ≤ zsum (A 105) (64 * l) i + 1 ∧ zsum (A 105) (64 * l) i + 1 < 2147483648 := by omega
      have b0 : -2147483648 ≤ zsum (A 105) (64 * l) i + 0 ∧ zsum (A 105) (64 * l) i + 0 < 2147483648 := by omega
      have w64 : wr (64 * (l : Int)) = ((64 * l : Nat) : Int) := by
        rw [wr_id (by omega) (by omega)]
        omega
      rw [e1] at ih
      generalize zit (fun _ _ _ _ => none) (M_races_24b kr) f = r2 at ih ⊢
      unfold M_races_24b M_races_50
      rw [if_pos lt, w64, wr_nn x9, zix_n x, mD105, wr_s i9]
      rcases hb i h4 with z | z
      · rw [z] at ih
        rw [if_pos z, wr_id b0.1 b0.2]
        exact ih
      · rw [z] at ih
        rw [z, if_neg (by decide), wr_id b1.1 b1.2]
        exact ih
    · have : i = 64 := by omega
      subst this
      unfold M_races_24b
      rw [if_neg (by decide)]
theorem m_races (q : RR A h K L bc tc gc n B N M) {l : Int} : M_races l (mh g A) kr = if zwi l 0 ((L : Int) - 1) = true then kr (zsum (A 105) (64 * l.toNat) 64 + zsum (A 108) (96 * l.toNat) 96) (mh g A) else kr 0 (mh g (au A 12 0 1)) := by
  have a0A := q.a0
  unfold a0 at a0A
  have t0 := q.rc.2 0 rfl
  obtain ⟨a1, a2, a3, a4⟩ := q.rl.at
  have n1 : ¬ (1 : Int) = 0 := by decide
  have ml := fun kr : Int → zH → Option ρ => m_noLaunch (kr := kr) (h := g) (A := A) (a := l) (by rw [a1]; omega)
  rw [a1] at ml
  unfold M_races
  rw [zlet_d, mS12, a0A, ml]
  cases hz : zwi l 0 ((L : Int) - 1) with
  | false => rw [Bool.not_false, tb_t, m_fails1 t0 (by decide), if_neg n1, if_neg (by decide)]
  | true =>
    obtain ⟨h1, h2⟩ := zwi_t hz
    obtain ⟨l, rfl⟩ : ∃ l9 : Nat, l = (l9 : Int) := ⟨l.toNat, by omega⟩
    have l12 : l < 12 := by omega
    have b5 : ∀ i, i < 64 → A 105 (64 * l + i) = 0 ∨ A 105 (64 * l + i) = 1 := fun i hi => q.ta.2.2.2.2.1 l i l12 hi
    have b8 : ∀ i, i < 96 → A 108 (96 * l + i) = 0 ∨ A 108 (96 * l + i) = 1 := fun i hi => by
      have := q.ta.2.2.2.1 (6 * l + i / 16) (i % 16) (by omega) (by omega)
      rw [show 16 * (6 * l + i / 16) + i % 16 = 96 * l + i by omega] at this
      exact this
    have sb := zsum_01 (f := A 105) (b := 64 * l) 64 b5
    have w96 : wr (96 * (l : Int)) = ((96 * l : Nat) : Int) := by
      rw [wr_id (by omega) (by omega)]
      omega
    rw [Bool.not_true, tb_f, m_fails0 t0 (by decide), if_pos rfl, if_pos rfl, Int.toNat_natCast]
    refine Eq.trans (m_r24 (kr := kr) (g := g) l12 b5 zN 0 (Nat.zero_le _) (by decide)) ?_
    rw [w96]
    have z := m_r63 (kr := kr) (g := g) (s0 := zsum (A 105) (64 * l) 64) l12 ⟨sb.1, Int.le_trans sb.2 (by decide)⟩ b8 zN 0 (Nat.zero_le _) (by decide)
    have e0 : zsum (A 105) (64 * l) 64 + zsum (A 108) (96 * l) 0 = zsum (A 105) (64 * l) 64 := Int.add_zero _
    rw [e0] at z
    exact z
/-! shares -/
theorem zf_n (u : UInt32) : zf32 ((u.toNat : Nat) : Int) = u := by
  unfold zf32
  rw [Int.toNat_natCast]
  exact UInt32.ofNat_toNat
theorem zd_n (u : UInt64) : zf64 ((u.toNat : Nat) : Int) = u := by
  unfold zf64
  rw [Int.toNat_natCast]
  exact UInt64.ofNat_toNat
theorem i32_n {x : Int} (h0 : -2147483648 ≤ x) (h1 : x < 2147483648) : (Int32.ofInt x).toInt = x := Int32.toInt_ofInt_of_le h0 h1
theorem i64_n {x : Int} (h0 : -9223372036854775808 ≤ x) (h1 : x < 9223372036854775808) : (Int64.ofInt x).toInt = x := Int64.toInt_ofInt_of_le h0 h1
theorem zi2f_l {x : Int} (h0 : -2147483648 ≤ x) (h1 : x < 2147483648) : zi2f x = zl2f x := by
  unfold zi2f zl2f
  rw [show (FP.i2f (Int32.ofInt x)).toNat = (FP.l2f (Int64.ofInt x)).toNat from by
    rw [show FP.i2f = Jvm.FP.Core.i2f from rfl, show FP.l2f = Jvm.FP.Core.l2f from rfl, Jvm.FP.Core.toNat_i2f, Jvm.FP.Core.toNat_l2f, i32_n h0 h1, i64_n (by omega) (by omega)]]
theorem zi2d_l {x : Int} (h0 : -2147483648 ≤ x) (h1 : x < 2147483648) : zi2d x = zl2d x := by
  unfold zi2d zl2d
  rw [show (FP.i2d (Int32.ofInt x)).toNat = (FP.l2d (Int64.ofInt x)).toNat from by
    rw [show FP.i2d = Jvm.FP.Core.i2d from rfl, show FP.l2d = Jvm.FP.Core.l2d from rfl, Jvm.FP.Core.toNat_i2d, Jvm.FP.Core.toNat_l2d, i32_n h0 h1, i64_n (by omega) (by omega)]]
theorem zn32_ok {r : UInt32} {k : Int → Option ρ} (h : Jvm.FP.Core.fIsNaN r = false) : zn32 r k = k ((r.toNat : Nat) : Int) := by
  unfold zn32
  refine if_pos ?_
  rw [UInt32.le_iff_toNat_le, Jvm.FP.Core.mask_toNat32]
  have : ¬ 2139095040 < r.toNat % 2 ^ 31 := fun z => by
    rw [(Jvm.FP.Core.isNaN_bits32 r).mpr z] at h
    cases h
  exact Nat.le_of_not_lt this
theorem zn64_ok {r : UInt64} {k : Int → Option ρ} (h : Jvm.FP.Core.dIsNaN r = false) : zn64 r k = k ((r.toNat : Nat) : Int) := by
  unfold zn64
  refine if_pos ?_
  rw [UInt64.le_iff_toNat_le, Jvm.FP.Core.mask_toNat]
  have : ¬ 9218868437227405312 < r.toNat % 2 ^ 63 := fun z => by
    rw [(Jvm.FP.Core.isNaN_bits r).mpr z] at h
    cases h
  exact Nat.le_of_not_lt this
def zsv (A : zA) : UInt32 := FP.fdiv (FP.l2f (Int64.ofInt (A 12 54))) (FP.l2f (Int64.ofInt (4 * A 12 55)))
def zdv (A : zA) : UInt64 := FP.ddiv (FP.l2d (Int64.ofInt (A 12 57))) (FP.l2d (Int64.ofInt (A 12 56)))
theorem zsv_n (h0 : A 12 55 ≠ 0) (h1 : 0 ≤ A 12 55 ∧ A 12 55 ≤ 10000000) : Jvm.FP.Core.fIsNaN (zsv A) = false := by
  have hz : (Int64.ofInt (4 * A 12 55)).toInt = 4 * A 12 55 := i64_n (by omega) (by omega)
  have nz : Int64.ofInt (4 * A 12 55) ≠ 0 := fun z => by
    rw [z] at hz
    have : (0 : Int64).toInt = 0 := rfl
    omega
  exact Jvm.FP.Core.fdiv_out (Jvm.FP.Core.FFin.notNaN (Jvm.FP.Core.l2f_fin _)) (Jvm.FP.Core.l2f_fin _) (fun z => Jvm.FP.Core.l2f_ne_zero nz ((Jvm.FP.Core.zero_bits232 _).mp z))
theorem zdv_n (h0 : A 12 56 ≠ 0) (h1 : 0 ≤ A 12 56 ∧ A 12 56 ≤ 1000000000) : Jvm.FP.Core.dIsNaN (zdv A) = false := by
  have hz : (Int64.ofInt (A 12 56)).toInt = A 12 56 := i64_n (by omega) (by omega)
  have nz : Int64.ofInt (A 12 56) ≠ 0 := fun z => by
    rw [z] at hz
    have : (0 : Int64).toInt = 0 := rfl
    omega
  exact Jvm.FP.Core.ddiv_out (Jvm.FP.Core.DFin.notNaN (Jvm.FP.Core.l2d_fin _)) (Jvm.FP.Core.l2d_fin _) (fun z => Jvm.FP.Core.l2d_ne_zero nz ((Jvm.FP.Core.zero_bits2 _).mp z))
theorem zlcmp_0 {x : Int} : zlcmp x 0 = 0 ↔ x = 0 := by
  unfold zlcmp
  by_cases h : x < 0
  · rw [if_pos h]
    omega
  · rw [if_neg h]
    by_cases h2 : x = 0
    · rw [if_pos h2]
      omega
    · rw [if_neg h2]
      omega
theorem x_usedShare (q : RR A h K L bc tc gc n B N M) (bn : n ≤ 10000000) : X_usedShare 0 h kt kr = if A 12 55 = 0 then kt 6 (zthrown h) else kr (((zsv A).toNat : Nat) : Int) h := by
  have rs := q.rs
  obtain ⟨u1, u2, u3⟩ := q.b55
  have b := (q.bd.1 55 (by omega)).2.2 rfl
  have e54 := q.rm.2.2.2.2.2.1
  have w : wrl (4 * A 12 55) = 4 * A 12 55 := wrl_id (by omega) (by omega)
  unfold X_usedShare
  rw [zob_0 rs.N0, rs.D0_0_1, zob_0 rs.N2, rs.D2_0_3, zob_0 rs.N4, u3, w]
  by_cases hz : A 12 55 = 0
  · rw [if_pos (zlcmp_0.mpr (by rw [hz]; rfl)), if_pos hz, zlet_d]
  · rw [if_neg (fun z => hz (by have := zlcmp_0.mp z; clear w; omega)), if_neg hz, zob_0 rs.N0, rs.D0_0_1, zob_0 rs.N2, rs.D2_0_3, zob_0 rs.N4, e54]
    unfold zl2f
    rw [zf_n, zf_n]
    exact zn32_ok (zsv_n hz ⟨u1, by clear w; omega⟩)
theorem m_usedShare (q : RR A h K L bc tc gc n B N M) (bn : n ≤ 10000000) : M_usedShare (mh g A) kr = if A 12 55 = 0 then kr 0 (mh g (au A 12 0 1)) else kr (((zsv A).toNat : Nat) : Int) (mh g A) := by
  have a0A := q.a0
  unfold a0 at a0A
  have t0 := q.rc.2 0 rfl
  obtain ⟨u1, u2, u3⟩ := q.b55
  have b := (q.bd.1 55 (by omega)).2.2 rfl
  have n1 : ¬ (1 : Int) = 0 := by decide
  have l0 : -2147483648 ≤ 4 * A 12 55 := by omega
  have l1 : 4 * A 12 55 < 2147483648 := by omega
  unfold M_usedShare M_usedShare_18 M_usedShare_42
  rw [zlet_d, mS12, a0A, mD12]
  by_cases hz : A 12 55 = 0
  · rw [if_pos hz, if_pos hz, m_fails1 t0 (by decide), if_neg n1]
  · rw [if_neg hz, if_neg hz, m_fails0 t0 (by decide), if_pos rfl, mD12, mD12, wr_id l0 l1, zi2f_l l0 l1]
    unfold zl2f
    rw [zf_n, zf_n]
    exact zn32_ok (zsv_n hz ⟨u1, by omega⟩)
theorem x_meanDelay (q : RR A h K L bc tc gc n B N M) (bn : n ≤ 10000000) : X_meanDelay 0 h kt kr = if A 12 56 = 0 then kt 6 (zthrown h) else kr (((zdv A).toNat : Nat) : Int) h := by
  have rs := q.rs
  have b := q.bd.1 56 (by omega)
  have e57 := q.rm.2.2.2.2.2.2.1
  have e56 := q.rm.2.2.2.2.2.2.2.1
  unfold X_meanDelay
  rw [zob_0 rs.N0, rs.D0_0_1, zob_0 rs.N2, rs.D2_0_3, zob_0 rs.N4, e56]
  by_cases hz : A 12 56 = 0
  · rw [if_pos (zlcmp_0.mpr hz), if_pos hz, zlet_d]
  · rw [if_neg (fun z => hz (zlcmp_0.mp z)), if_neg hz, zob_0 rs.N0, rs.D0_0_1, zob_0 rs.N2, rs.D2_0_3, zob_0 rs.N4, e57]
    unfold zl2d
    rw [zd_n, zd_n]
    exact zn64_ok (zdv_n hz ⟨b.1, by omega⟩)
theorem m_meanDelay (q : RR A h K L bc tc gc n B N M) (bn : n ≤ 10000000) : M_meanDelay (mh g A) kr = if A 12 56 = 0 then kr 0 (mh g (au A 12 0 1)) else kr (((zdv A).toNat : Nat) : Int) (mh g A) := by
  have a0A := q.a0
  unfold a0 at a0A
  have t0 := q.rc.2 0 rfl
  have b := q.bd.1 56 (by omega)
  have b7 := q.bd.1 57 (by omega)
  have n1 : ¬ (1 : Int) = 0 := by decide
  unfold M_meanDelay M_meanDelay_18 M_meanDelay_40
  rw [zlet_d, mS12, a0A, mD12]
  by_cases hz : A 12 56 = 0
  · rw [if_pos hz, if_pos hz, m_fails1 t0 (by decide), if_neg n1]
  · rw [if_neg hz, if_neg hz, m_fails0 t0 (by decide), if_pos rfl, mD12, mD12, zi2d_l (by omega) (by omega), zi2d_l (by omega) (by omega)]
    unfold zl2d
    rw [zd_n, zd_n]
    exact zn64_ok (zdv_n hz ⟨b.1, by omega⟩)
/-! soundness -/
theorem x_io_loop (q : RR A h K L bc tc gc n B N M) {u m : Nat} (hu : u < 2) (h93 : A 93 u = (m : Int)) : ∀ f i : Nat, i ≤ m → m - i < f → zit (fun _ _ _ => none) (Un_isInOrder_2b kr) f (u : Int) (i : Int) h = kr 1 h
  | 0, _, _, hf => absurd hf (Nat.not_lt_zero _)
  | f + 1, i, hi, hf => by
    rw [zit_s]
    obtain ⟨u1, u2, u3, u4, u5, -⟩ := q.rs.u0 hu
    have un := q.un hu
    by_cases hlt : i < m
    · have ih := x_io_loop q hu h93 f (i + 1) hlt (by omega)
      have hi0 : (i : Int) < A 93 u := by omega
      obtain ⟨b, j, s1, s2, s3, s4, s5, s6, s7, s8⟩ := q.slot hu hi0
      obtain ⟨g1, g2, g3, g4, g5⟩ := q.gh.1 b s3 s4 j s6
      obtain ⟨-, z2, z3, z4, -⟩ := q.ug u i hu hi0 b j s1 s2
      obtain ⟨k, k1, k2, k3, k4, k5, ⟨k6, k7, k8, k9⟩, -⟩ := q.blk s3 s4
      obtain ⟨b1, b2, -⟩ := q.bh.1 b s3 s4
      have st := (q.bi.2.1 b s3 s4).2.2.2.1
      have e10 := (q.rl.l k3).2.2.2.2.2.2.2.2.1.1
      have i4 : i < 4 := by omega
      have i9 : i < 100000 := by omega
      have hlt' : (i : Int) < (m : Int) := by omega
      have nb : ¬ 4 < zhD h 11 (gc (4 * b + j)) 5 := by rw [z2]; omega
      have wr1 : ∀ kr : Int → zH → Option ρ, Gr_isBufferWithinRoom (gc (4 * b + j) : Int) h kr = kr 1 h := fun kr => by
        unfold Gr_isBufferWithinRoom Gr_isBufferWithinRoom_13
        rw [zob_n g1, if_neg nb, znar_1]
      generalize zit (fun _ _ _ => none) (Un_isInOrder_2b kr) f = r2 at ih ⊢
      unfold Un_isInOrder_2b
      rw [zob_n u1, un.2.2, h93, if_pos hlt', zob_n u1, u2, zob_n u4, u5, zix_n i4, s7, zob_n g1, wr1, if_neg (by decide), zob_n u1, u2, zob_n u4, u5, zix_n i4, s7, zob_n g1, g3, zob_n b1, b2, zob_n k7, x_isOver k7, e10, st, show zover 114 = false from rfl, tb_f, if_pos rfl, wr_s i9]
      exact ih
    · have : i = m := by omega
      subst this
      have s3 := (q.su u hu).2.2
      have n1 : ¬ 4 < A 93 u := by omega
      unfold Un_isInOrder_2b Un_isInOrder_78 Un_isInOrder_79
      rw [zob_n u1, un.2.2, if_neg (by omega), zob_n u1, un.2.2, if_neg n1, zob_n u1, x_usedR q hu, if_neg (Int.not_lt.mpr s3.1), zob_n u1, x_usedS q hu, if_neg (Int.not_lt.mpr s3.2), znar_1]
theorem x_isSound (q : RR A h K L bc tc gc n B N M) : X_isSound 0 h kr = kr 1 h := by
  have un : X_isSound 0 h kr = X_isSound_2b kr (X_isSound_2b kr (X_isSound_2b kr (zit (fun _ _ _ => none) (X_isSound_2b kr) 4997))) 0 ((0 : Nat) : Int) h := rfl
  have rs := q.rs
  have io : ∀ (u : Nat), u < 2 → ∀ kr : Int → zH → Option ρ, Un_isInOrder (u : Int) h kr = kr 1 h := fun u hu kr => by
    obtain ⟨m, h93, m4⟩ := q.n93 hu
    exact x_io_loop q hu h93 zN 0 (Nat.zero_le _) (by show m - 0 < 5000; omega)
  have S : ∀ (r2 : Int → Int → zH → Option ρ) (i : Nat), i < 2 → zhD h 23 0 i = (i : Int) → X_isSound_2b kr r2 0 (i : Int) h = r2 0 (wr ((i : Int) + 1)) h := fun r2 i hi d => by
    have n3 : i < zhN h 3 := by rw [rs.N3]; exact hi
    unfold X_isSound_2b
    rw [if_pos (by omega), zob_0 rs.N0, rs.D0_0_1, zob_0 rs.N2, rs.D2_0_2, zob_0 rs.N23, rs.L23_0, zix_n hi, d, zob_n n3, io i hi, if_neg (by decide)]
  have w1 : wr (((0 : Nat) : Int) + 1) = ((1 : Nat) : Int) := by decide
  have w2 : wr (((1 : Nat) : Int) + 1) = 2 := by decide
  rw [un, S _ 0 (by decide) rs.D23_0_0, w1, S _ 1 (by decide) rs.D23_0_1, w2]
  unfold X_isSound_2b
  rw [if_neg (by decide)]
end
