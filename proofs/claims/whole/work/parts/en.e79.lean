/-! ROOM IN A UNIT -/
theorem mono_le {f : Nat → Int} {m : Nat} (hs : ∀ i, i < m → f i ≤ f (i + 1)) : ∀ d i : Nat, i + d ≤ m → f i ≤ f (i + d)
  | 0, _, _ => Int.le_refl _
  | d + 1, i, hd => Int.le_trans (mono_le hs d i (by omega)) (hs (i + d) (by omega))
/-- room for one more block of a launch -/
def zrm (A : zA) (u l : Nat) : Bool := decide (A 93 u + Int.tdiv (A 73 l + 3) 4 ≤ 4) && decide (zsrm A u 72 + A 73 l * A 61 (A 70 l).toNat ≤ 64) && decide (zssm A u 72 + A 62 (A 70 l).toNat ≤ 32)
/-- the unit that takes it -/
def zuf (A : zA) (l : Nat) : Int := if zrm A 0 l = false then (if zrm A 1 l = false then -1 else 1) else if zrm A 1 l = false then 0 else if A 93 1 < A 93 0 then 1 else 0
section
variable {ρ : Type} {h g : zH} {A A0 B : zA} {kr : Int → zH → Option ρ} {K L n : Nat} {bc tc gc : Nat → Nat} {N M : Int}
/-- a launch of a kernel -/
theorem RR.lnk (q : RR A h K L bc tc gc n B N M) {l : Nat} (hl : l < L) (h70 : A 70 l ≠ -1) : ∃ k : Nat, k < K ∧ A 70 l = (k : Int) ∧ (k < zhN h 7 ∧ l < zhN h 9 ∧ k < 4 ∧ l < 12) ∧ (1 ≤ A 73 l ∧ A 73 l ≤ 16 ∧ 1 ≤ A 72 l ∧ A 72 l ≤ 6 ∧ 0 ≤ A 79 l ∧ A 79 l ≤ A 78 l ∧ A 78 l ≤ A 72 l) ∧ (1 ≤ A 61 k ∧ A 61 k ≤ 8 ∧ 0 ≤ A 62 k ∧ A 62 k ≤ 16 ∧ 0 ≤ A 63 k ∧ A 63 k ≤ 40) ∧ (zhD h 9 l 5 = (k : Int) ∧ zhD h 9 l 6 = A 72 l ∧ zhD h 9 l 7 = A 73 l ∧ zhD h 9 l 8 = A 78 l ∧ zhD h 9 l 10 = A 69 l) ∧ (zhD h 7 k 0 = A 61 k ∧ zhD h 7 k 1 = A 62 k ∧ zhD h 7 k 3 = A 63 k) := by
  obtain ⟨b1, b2, b3, b4, b5, b6, b7, b8, b9, b10, b11, b12, -⟩ := q.rl.l hl
  obtain ⟨c1, c2, c3, c4, c5, c6, c7, c8, c9, -⟩ := b12 h70
  obtain ⟨k, hk⟩ : ∃ k : Nat, A 70 l = (k : Int) := ⟨(A 70 l).toNat, by omega⟩
  have hkK : k < K := by omega
  obtain ⟨d0, d1, d2, d3, d4, d5, d6, d7, e1, e2, e3, e4, -⟩ := q.rk.2.2.2.2.1 k hkK
  obtain ⟨a1, a2, a3, a4⟩ := q.rl.at
  have hK := q.rk.2.1
  have hN := q.rk.2.2.1
  exact ⟨k, hkK, hk, ⟨by omega, by omega, by omega, by omega⟩, ⟨c3, c4, c1, c2, c7, c8, c9⟩, ⟨d1, d2, d3, d4, d5, d6⟩, ⟨by rw [b7.1, hk], b8.1, b8.2.1, b8.2.2.1, b9.1⟩, ⟨e1, e2, e3⟩⟩
theorem rr_trm (q : RR A h K L bc tc gc n B N M) {b : Nat} (hb : b < 72) (hin : A 87 b = 1) : 0 ≤ A 73 (b / 6) * A 61 (A 70 (b / 6)).toNat ∧ 0 ≤ A 62 (A 70 (b / 6)).toNat := by
  obtain ⟨k, c1, c2, c3, c4, c5, -⟩ := q.blk hb hin
  rw [c2, Int.toNat_natCast]
  exact ⟨Int.mul_nonneg (by omega) (by omega), c5.2.2.1⟩
theorem rr_src (q : RR A h K L bc tc gc n B N M) {u m : Nat} (hu : u < 2) (h93 : A 93 u = (m : Int)) {i : Nat} (hi : i ≤ m) : 0 ≤ zsrc A u i ∧ zsrc A u i ≤ 64 ∧ 0 ≤ zssc A u i ∧ zssc A u i ≤ 32 := by
  obtain ⟨s1, s2, s3, s4⟩ := q.su u hu
  rw [s1, h93, Int.toNat_natCast] at s3
  rw [s2, h93, Int.toNat_natCast] at s4
  have st : ∀ i, i < m → zsrc A u i ≤ zsrc A u (i + 1) ∧ zssc A u i ≤ zssc A u (i + 1) := fun i him => by
    obtain ⟨b, j, t1, t2, t3, t4, t5, t6, -⟩ := q.slot hu (i := i) (by omega)
    have tr := rr_trm q t3 t4
    have e1 : zsrc A u (i + 1) = zsrc A u i + (if A 95 (4 * u + i) = 0 then A 73 ((A 94 (4 * u + i)).toNat / 6) * A 61 (A 70 ((A 94 (4 * u + i)).toNat / 6)).toNat else 0) := rfl
    have e2 : zssc A u (i + 1) = zssc A u i + (if A 95 (4 * u + i) = 0 then A 62 (A 70 ((A 94 (4 * u + i)).toNat / 6)).toNat else 0) := rfl
    rw [e1, e2, t1, Int.toNat_natCast]
    by_cases hz : A 95 (4 * u + i) = 0
    · rw [if_pos hz, if_pos hz]
      exact ⟨Int.le_add_of_nonneg_right tr.1, Int.le_add_of_nonneg_right tr.2⟩
    · rw [if_neg hz, if_neg hz]
      exact ⟨by omega, by omega⟩
  have a1 := mono_le (m := m) (fun i hi => (st i hi).1) i 0 (by omega)
  have a2 := mono_le (m := m) (fun i hi => (st i hi).1) (m - i) i (by omega)
  have a3 := mono_le (m := m) (fun i hi => (st i hi).2) i 0 (by omega)
  have a4 := mono_le (m := m) (fun i hi => (st i hi).2) (m - i) i (by omega)
  rw [show i + (m - i) = m by omega] at a2 a4
  rw [show 0 + i = i by omega] at a1 a3
  have z1 : zsrc A u 0 = 0 := rfl
  have z2 : zssc A u 0 = 0 := rfl
  rw [z1] at a1
  rw [z2] at a3
  exact ⟨a1, Int.le_trans a2 s3, a3, Int.le_trans a4 s4⟩
theorem rr_srm (q : RR A h K L bc tc gc n B N M) {u : Nat} (hu : u < 2) {i : Nat} (hi : i ≤ 72) : 0 ≤ zsrm A u i ∧ zsrm A u i ≤ 64 ∧ 0 ≤ zssm A u i ∧ zssm A u i ≤ 32 := by
  obtain ⟨s1, s2, s3, s4⟩ := q.su u hu
  have st : ∀ i, i < 72 → zsrm A u i ≤ zsrm A u (i + 1) ∧ zssm A u i ≤ zssm A u (i + 1) := fun i him => by
    have e1 : zsrm A u (i + 1) = zsrm A u i + (if A 87 i = 1 ∧ A 88 i = (u : Int) then A 73 (i / 6) * A 61 (A 70 (i / 6)).toNat else 0) := rfl
    have e2 : zssm A u (i + 1) = zssm A u i + (if A 87 i = 1 ∧ A 88 i = (u : Int) then A 62 (A 70 (i / 6)).toNat else 0) := rfl
    rw [e1, e2]
    by_cases hz : A 87 i = 1 ∧ A 88 i = (u : Int)
    · have tr := rr_trm q him hz.1
      rw [if_pos hz, if_pos hz]
      exact ⟨Int.le_add_of_nonneg_right tr.1, Int.le_add_of_nonneg_right tr.2⟩
    · rw [if_neg hz, if_neg hz]
      exact ⟨by omega, by omega⟩
  have a1 := mono_le (m := 72) (fun i hi => (st i hi).1) i 0 (by omega)
  have a2 := mono_le (m := 72) (fun i hi => (st i hi).1) (72 - i) i (by omega)
  have a3 := mono_le (m := 72) (fun i hi => (st i hi).2) i 0 (by omega)
  have a4 := mono_le (m := 72) (fun i hi => (st i hi).2) (72 - i) i (by omega)
  rw [show i + (72 - i) = 72 by omega] at a2 a4
  rw [show 0 + i = i by omega] at a1 a3
  have z1 : zsrm A u 0 = 0 := rfl
  have z2 : zssm A u 0 = 0 := rfl
  rw [z1] at a1
  rw [z2] at a3
  exact ⟨a1, Int.le_trans a2 s3, a3, Int.le_trans a4 s4⟩
theorem x_ur_loop (q : RR A h K L bc tc gc n B N M) {u m : Nat} (hu : u < 2) (h93 : A 93 u = (m : Int)) : ∀ f i : Nat, i ≤ m → m - i < f → zit (fun _ _ _ _ => none) (Un_usedRegisters_4b kr) f (u : Int) (zsrc A u i) (i : Int) h = kr (zsrc A u m) h
  | 0, i, _, hf => absurd hf (Nat.not_lt_zero _)
  | f + 1, i, him, hf => by
    rw [zit_s]
    obtain ⟨u1, u2, u3, u4, u5, -⟩ := q.rs.u0 hu
    have un := (q.un hu)
    by_cases hlt : i < m
    · have ih := x_ur_loop q hu h93 f (i + 1) hlt (by omega)
      obtain ⟨b, j, s1, s2, s3, s4, s5, s6, s7, s8⟩ := q.slot hu (i := i) (by omega)
      obtain ⟨g1, g2, g3, g4, g5⟩ := q.gh.1 b s3 s4 j s6
      obtain ⟨k, k1, k2, k3, k4, k5, ⟨k6, k7, k8, k9⟩, ⟨e1, e2, e3, e4, e5⟩⟩ := q.blk s3 s4
      obtain ⟨b1, b2, b3, b4, b5, b6⟩ := q.bh.1 b s3 s4
      obtain ⟨n36, n37, n38, n39, n40, n41, d⟩ := q.rd.2.2.2.1
      obtain ⟨d2, d3, d4, -⟩ := d (bc b) b1
      have n36' : bc b < zhN h 36 := by rw [n36]; exact b1
      have i4 : i < 4 := by omega
      have hm4 : m ≤ 4 := by omega
      have hlt' : (i : Int) < (m : Int) := by omega
      have r0 := rr_src q hu h93 (i := i) him
      have r1 := rr_src q hu h93 (i := i + 1) hlt
      have e : zsrc A u (i + 1) = zsrc A u i + (if A 95 (4 * u + i) = 0 then A 73 ((A 94 (4 * u + i)).toNat / 6) * A 61 (A 70 ((A 94 (4 * u + i)).toNat / 6)).toNat else 0) := rfl
      rw [s1, s2, Int.toNat_natCast, k2, Int.toNat_natCast] at e
      have w1 := wr_s (t := i) (by omega)
      have j0 : ((4 * j : Nat) : Int) = 0 ↔ (j : Int) = 0 := by omega
      have wz : wr (zsrc A u i + 0) = zsrc A u i := by rw [Int.add_zero]; exact wr_id (by omega) (by omega)
      have P0 : 0 ≤ A 73 (b / 6) * A 61 k := Int.mul_nonneg (by omega) (by omega)
      obtain ⟨P, hP⟩ : ∃ P, P = A 73 (b / 6) * A 61 k := ⟨_, rfl⟩
      rw [← hP] at e P0
      have wP : (j : Int) = 0 → wr P = P ∧ wr (zsrc A u i + P) = zsrc A u (i + 1) := fun hj => by
        rw [if_pos hj] at e
        exact ⟨wr_id (by omega) (by omega), by rw [e]; exact wr_id (by omega) (by omega)⟩
      generalize zit (fun _ _ _ _ => none) (Un_usedRegisters_4b kr) f = r2 at ih ⊢
      unfold Un_usedRegisters_4b Un_usedRegisters_55
      rw [zob_n u1, un.2.2, h93, if_pos hlt', zob_n u1, u2, zob_n u4, u5, zix_n i4, s7, zob_n g1, zob_n u1, u2, zob_n u4, u5, zix_n i4, s7, zob_n g1, g4, w1]
      by_cases hj : (j : Int) = 0
      · rw [if_pos (j0.mpr hj), g3, zob_n b1, d2, zob_n n36', zob_n b1, b2, zob_n k7, e2, zob_n k6, b4, e3, ← hP, (wP hj).1, (wP hj).2]
        exact ih
      · rw [if_neg (fun z => hj (j0.mp z)), wz]
        rw [if_neg hj, Int.add_zero] at e
        rw [e] at ih
        exact ih
    · have : i = m := by omega
      subst this
      unfold Un_usedRegisters_4b
      rw [zob_n u1, un.2.2, h93, if_neg (Int.lt_irrefl _)]
theorem x_us_loop (q : RR A h K L bc tc gc n B N M) {u m : Nat} (hu : u < 2) (h93 : A 93 u = (m : Int)) : ∀ f i : Nat, i ≤ m → m - i < f → zit (fun _ _ _ _ => none) (Un_usedShared_4b kr) f (u : Int) (zssc A u i) (i : Int) h = kr (zssc A u m) h
  | 0, i, _, hf => absurd hf (Nat.not_lt_zero _)
  | f + 1, i, him, hf => by
    rw [zit_s]
    obtain ⟨u1, u2, u3, u4, u5, -⟩ := q.rs.u0 hu
    have un := (q.un hu)
    by_cases hlt : i < m
    · have ih := x_us_loop q hu h93 f (i + 1) hlt (by omega)
      obtain ⟨b, j, s1, s2, s3, s4, s5, s6, s7, s8⟩ := q.slot hu (i := i) (by omega)
      obtain ⟨g1, g2, g3, g4, g5⟩ := q.gh.1 b s3 s4 j s6
      obtain ⟨k, k1, k2, k3, k4, k5, ⟨k6, k7, k8, k9⟩, ⟨e1, e2, e3, e4, e5⟩⟩ := q.blk s3 s4
      obtain ⟨b1, b2, b3, b4, b5, b6⟩ := q.bh.1 b s3 s4
      rw [k2, Int.toNat_natCast] at b6
      obtain ⟨n36, n37, n38, n39, n40, n41, d⟩ := q.rd.2.2.2.1
      obtain ⟨d2, d3, d4, -⟩ := d (bc b) b1
      have n38' : bc b < zhN h 38 := by rw [n38]; exact b1
      have i4 : i < 4 := by omega
      have hm4 : m ≤ 4 := by omega
      have hlt' : (i : Int) < (m : Int) := by omega
      have r0 := rr_src q hu h93 (i := i) him
      have r1 := rr_src q hu h93 (i := i + 1) hlt
      have e : zssc A u (i + 1) = zssc A u i + (if A 95 (4 * u + i) = 0 then A 62 (A 70 ((A 94 (4 * u + i)).toNat / 6)).toNat else 0) := rfl
      rw [s1, s2, Int.toNat_natCast, k2, Int.toNat_natCast] at e
      have w1 := wr_s (t := i) (by omega)
      have j0 : ((4 * j : Nat) : Int) = 0 ↔ (j : Int) = 0 := by omega
      have wz : wr (zssc A u i + 0) = zssc A u i := by rw [Int.add_zero]; exact wr_id (by omega) (by omega)
      have wP : (j : Int) = 0 → wr (zssc A u i + A 62 k) = zssc A u (i + 1) := fun hj => by
        rw [if_pos hj] at e
        rw [e]
        exact wr_id (by omega) (by omega)
      generalize zit (fun _ _ _ _ => none) (Un_usedShared_4b kr) f = r2 at ih ⊢
      unfold Un_usedShared_4b Un_usedShared_42
      rw [zob_n u1, un.2.2, h93, if_pos hlt', zob_n u1, u2, zob_n u4, u5, zix_n i4, s7, zob_n g1, g4, w1]
      by_cases hj : (j : Int) = 0
      · rw [if_pos (j0.mpr hj), zob_n u1, u2, zob_n u4, u5, zix_n i4, s7, zob_n g1, g3, zob_n b1, d4, zob_n n38', b6, wP hj]
        exact ih
      · rw [if_neg (fun z => hj (j0.mp z)), wz]
        rw [if_neg hj, Int.add_zero] at e
        rw [e] at ih
        exact ih
    · have : i = m := by omega
      subst this
      unfold Un_usedShared_4b
      rw [zob_n u1, un.2.2, h93, if_neg (Int.lt_irrefl _)]
theorem m_ur_loop (q : RR A h K L bc tc gc n B N M) (e : ∀ c, c ≠ 69 → A0 c = A c) {u : Nat} (hu : u < 2) : ∀ f i : Nat, i ≤ 72 → 72 - i < f → zit (fun _ _ _ _ => none) (M_usedRegisters_4b kr) f (u : Int) (zsrm A u i) (i : Int) (mh g A0) = kr (zsrm A u 72) (mh g A0)
  | 0, i, _, hf => absurd hf (Nat.not_lt_zero _)
  | f + 1, i, him, hf => by
    rw [zit_s]
    by_cases hlt : i < 72
    · have ih := m_ur_loop q e hu f (i + 1) hlt (by omega)
      have hlt' : (i : Int) < 72 := by omega
      have b12 : i / 6 < 12 := by omega
      have r0 := rr_srm q hu (i := i) him
      have r1 := rr_srm q hu (i := i + 1) hlt
      have e1 : zsrm A u (i + 1) = zsrm A u i + (if A 87 i = 1 ∧ A 88 i = (u : Int) then A 73 (i / 6) * A 61 (A 70 (i / 6)).toNat else 0) := rfl
      have w1 := wr_s (t := i) (by omega)
      have wz : wr (zsrm A u i + 0) = zsrm A u i := by rw [Int.add_zero]; exact wr_id (by omega) (by omega)
      generalize zit (fun _ _ _ _ => none) (M_usedRegisters_4b kr) f = r2 at ih ⊢
      unfold M_usedRegisters_4b M_usedRegisters_57 M_usedRegisters_58
      rw [if_pos hlt', zix_n hlt, mD87, e 87 (by decide), w1]
      rcases q.bi.1 i hlt with h87 | h87
      · rw [if_neg (fun z => by rw [h87] at z; exact absurd z.1 (by decide)), Int.add_zero] at e1
        rw [e1] at ih
        rw [if_pos h87, wz]
        exact ih
      · rw [if_neg (by rw [h87]; decide), zix_n hlt, mD88, e 88 (by decide)]
        by_cases h88 : A 88 i = (u : Int)
        · obtain ⟨k, k1, k2, k3, k4, k5, ⟨k6, k7, k8, k9⟩, -⟩ := q.blk hlt h87
          rw [if_pos ⟨h87, h88⟩, k2, Int.toNat_natCast] at e1
          have P0 : 0 ≤ A 73 (i / 6) * A 61 k := Int.mul_nonneg (by omega) (by omega)
          obtain ⟨P, hP⟩ : ∃ P, P = A 73 (i / 6) * A 61 k := ⟨_, rfl⟩
          rw [← hP] at e1 P0
          have wP : wr P = P ∧ wr (zsrm A u i + P) = zsrm A u (i + 1) := ⟨wr_id (by omega) (by omega), by rw [e1]; exact wr_id (by omega) (by omega)⟩
          rw [if_pos h88, wtd6 hlt, zix_n b12, zix_n b12, mD70, e 70 (by decide), k2, zix_n k8, mD73, mD61, e 73 (by decide), e 61 (by decide), ← hP, wP.1, wP.2]
          exact ih
        · rw [if_neg (fun z => h88 z.2), Int.add_zero] at e1
          rw [e1] at ih
          rw [if_neg h88, wz]
          exact ih
    · have : i = 72 := by omega
      subst this
      unfold M_usedRegisters_4b
      rw [if_neg (by decide)]
theorem m_us_loop (q : RR A h K L bc tc gc n B N M) (e : ∀ c, c ≠ 69 → A0 c = A c) {u : Nat} (hu : u < 2) : ∀ f i : Nat, i ≤ 72 → 72 - i < f → zit (fun _ _ _ _ => none) (M_usedShared_4b kr) f (u : Int) (zssm A u i) (i : Int) (mh g A0) = kr (zssm A u 72) (mh g A0)
  | 0, i, _, hf => absurd hf (Nat.not_lt_zero _)
  | f + 1, i, him, hf => by
    rw [zit_s]
    by_cases hlt : i < 72
    · have ih := m_us_loop q e hu f (i + 1) hlt (by omega)
      have hlt' : (i : Int) < 72 := by omega
      have b12 : i / 6 < 12 := by omega
      have r0 := rr_srm q hu (i := i) him
      have r1 := rr_srm q hu (i := i + 1) hlt
      have e1 : zssm A u (i + 1) = zssm A u i + (if A 87 i = 1 ∧ A 88 i = (u : Int) then A 62 (A 70 (i / 6)).toNat else 0) := rfl
      have w1 := wr_s (t := i) (by omega)
      have wz : wr (zssm A u i + 0) = zssm A u i := by rw [Int.add_zero]; exact wr_id (by omega) (by omega)
      generalize zit (fun _ _ _ _ => none) (M_usedShared_4b kr) f = r2 at ih ⊢
      unfold M_usedShared_4b M_usedShared_47 M_usedShared_48
      rw [if_pos hlt', zix_n hlt, mD87, e 87 (by decide), w1]
      rcases q.bi.1 i hlt with h87 | h87
      · rw [if_neg (fun z => by rw [h87] at z; exact absurd z.1 (by decide)), Int.add_zero] at e1
        rw [e1] at ih
        rw [if_pos h87, wz]
        exact ih
      · rw [if_neg (by rw [h87]; decide), zix_n hlt, mD88, e 88 (by decide)]
        by_cases h88 : A 88 i = (u : Int)
        · obtain ⟨k, k1, k2, k3, k4, k5, ⟨k6, k7, k8, k9⟩, -⟩ := q.blk hlt h87
          rw [if_pos ⟨h87, h88⟩, k2, Int.toNat_natCast] at e1
          have wP : wr (zssm A u i + A 62 k) = zssm A u (i + 1) := by rw [e1]; exact wr_id (by omega) (by omega)
          rw [if_pos h88, wtd6 hlt, zix_n b12, mD70, e 70 (by decide), k2, zix_n k8, mD62, e 62 (by decide), wP]
          exact ih
        · rw [if_neg (fun z => h88 z.2), Int.add_zero] at e1
          rw [e1] at ih
          rw [if_neg h88, wz]
          exact ih
    · have : i = 72 := by omega
      subst this
      unfold M_usedShared_4b
      rw [if_neg (by decide)]
theorem RR.n93 (q : RR A h K L bc tc gc n B N M) {u : Nat} (hu : u < 2) : ∃ m : Nat, A 93 u = (m : Int) ∧ m ≤ 4 := by
  have := q.un hu
  exact ⟨(A 93 u).toNat, by omega, by omega⟩
theorem x_usedR (q : RR A h K L bc tc gc n B N M) {u : Nat} (hu : u < 2) : Un_usedRegisters (u : Int) h kr = kr (zsrm A u 72) h := by
  obtain ⟨m, hm, m4⟩ := q.n93 hu
  have s := (q.su u hu).1
  rw [hm, Int.toNat_natCast] at s
  rw [s]
  exact x_ur_loop q hu hm zN 0 (Nat.zero_le _) (by show m - 0 < 5000; omega)
theorem x_usedS (q : RR A h K L bc tc gc n B N M) {u : Nat} (hu : u < 2) : Un_usedShared (u : Int) h kr = kr (zssm A u 72) h := by
  obtain ⟨m, hm, m4⟩ := q.n93 hu
  have s := (q.su u hu).2.1
  rw [hm, Int.toNat_natCast] at s
  rw [s]
  exact x_us_loop q hu hm zN 0 (Nat.zero_le _) (by show m - 0 < 5000; omega)
theorem m_usedR (q : RR A h K L bc tc gc n B N M) (e : ∀ c, c ≠ 69 → A0 c = A c) {u : Nat} (hu : u < 2) : M_usedRegisters (u : Int) (mh g A0) kr = kr (zsrm A u 72) (mh g A0) := m_ur_loop q e hu zN 0 (by decide) (by decide)
theorem m_usedS (q : RR A h K L bc tc gc n B N M) (e : ∀ c, c ≠ 69 → A0 c = A c) {u : Nat} (hu : u < 2) : M_usedShared (u : Int) (mh g A0) kr = kr (zssm A u 72) (mh g A0) := m_us_loop q e hu zN 0 (by decide) (by decide)
theorem zrm_i (q : RR A h K L bc tc gc n B N M) {l : Nat} (hl : l < L) (h70 : A 70 l ≠ -1) {u : Nat} (hu : u < 2) {x : Int → Option ρ} {y : Option ρ} : (if 4 < A 93 u + Int.tdiv (A 73 l + 3) 4 then x 0 else if 64 < zsrm A u 72 + A 73 l * A 61 (A 70 l).toNat then x 0 else if 32 < zssm A u 72 + A 62 (A 70 l).toNat then x 0 else x 1) = x (tb (zrm A u l)) := by
  unfold zrm
  by_cases h1 : 4 < A 93 u + Int.tdiv (A 73 l + 3) 4
  · rw [if_pos h1, decide_eq_false (by omega), Bool.false_and, Bool.false_and, tb_f]
  · rw [if_neg h1, decide_eq_true (show A 93 u + Int.tdiv (A 73 l + 3) 4 ≤ 4 by omega), Bool.true_and]
    by_cases h2 : 64 < zsrm A u 72 + A 73 l * A 61 (A 70 l).toNat
    · rw [if_pos h2, decide_eq_false (Int.not_le.mpr h2), Bool.false_and, tb_f]
    · rw [if_neg h2, decide_eq_true (Int.not_lt.mp h2), Bool.true_and]
      by_cases h3 : 32 < zssm A u 72 + A 62 (A 70 l).toNat
      · rw [if_pos h3, decide_eq_false (Int.not_le.mpr h3), tb_f]
      · rw [if_neg h3, decide_eq_true (Int.not_lt.mp h3), tb_t]
theorem x_hasRoom (q : RR A h K L bc tc gc n B N M) {l k : Nat} (hl : l < L) (hk : A 70 l = (k : Int)) {u : Nat} (hu : u < 2) : Un_hasRoomFor (u : Int) (k : Int) (A 73 l) h kr = kr (tb (zrm A u l)) h := by
  have h70 : A 70 l ≠ -1 := by omega
  obtain ⟨k9, k1, k2, ⟨k3, k4, k5, k6⟩, ⟨t1, t2, -⟩, ⟨r1, r2, r3, r4, -⟩, ⟨f1, -⟩, ⟨g1, g2, g3⟩⟩ := q.lnk hl h70
  have : k9 = k := by omega
  subst this
  obtain ⟨u1, u2, u3, u4, u5, -⟩ := q.rs.u0 hu
  have un := (q.un hu)
  have gg := zgroups t1 t2
  have mb := zmulb t1 t2 r1 r2
  have sr := rr_srm q hu (i := 72) (by decide)
  have w1 : wr (A 93 u + Int.tdiv (A 73 l + 3) 4) = A 93 u + Int.tdiv (A 73 l + 3) 4 := wr_id (by omega) (by omega)
  have w2 : wr (A 73 l * A 61 k9) = A 73 l * A 61 k9 := wr_id (by omega) (by omega)
  have w3 : wr (zsrm A u 72 + A 73 l * A 61 k9) = zsrm A u 72 + A 73 l * A 61 k9 := by
    clear w1 w2
    exact wr_id (by omega) (by omega)
  have w4 : wr (zssm A u 72 + A 62 k9) = zssm A u 72 + A 62 k9 := by
    clear w1 w2 w3
    exact wr_id (by omega) (by omega)
  have z := zrm_i (ρ := ρ) q hl h70 hu (x := fun v => kr v h) (y := none)
  rw [k2, Int.toNat_natCast] at z
  rw [← z]
  unfold Un_hasRoomFor Un_hasRoomFor_47 Un_hasRoomFor_48
  rw [zob_n u1, x_groupsFor t1 t2, un.2.2, w1, zob_n u1, x_usedR q hu, zob_n k3, g1, w2, w3, zob_n u1, x_usedS q hu, zob_n k3, g2, w4]
  simp only [znar_0, znar_1]
theorem m_hasRoom (q : RR A h K L bc tc gc n B N M) (e : ∀ c, c ≠ 69 → A0 c = A c) {l : Nat} (hl : l < L) (h70 : A 70 l ≠ -1) {u : Nat} (hu : u < 2) : M_hasRoom (u : Int) (l : Int) (mh g A0) kr = kr (tb (zrm A u l)) (mh g A0) := by
  obtain ⟨k9, k1, k2, ⟨k3, k4, k5, k6⟩, ⟨t1, t2, -⟩, ⟨r1, r2, r3, r4, -⟩, ⟨f1, -⟩, ⟨g1, g2, g3⟩⟩ := q.lnk hl h70
  have un := (q.un hu)
  have gg := zgroups t1 t2
  have mb := zmulb t1 t2 r1 r2
  have sr := rr_srm q hu (i := 72) (by decide)
  have w1 : wr (A 93 u + Int.tdiv (A 73 l + 3) 4) = A 93 u + Int.tdiv (A 73 l + 3) 4 := wr_id (by omega) (by omega)
  have w2 : wr (A 73 l * A 61 k9) = A 73 l * A 61 k9 := wr_id (by omega) (by omega)
  have w3 : wr (zsrm A u 72 + A 73 l * A 61 k9) = zsrm A u 72 + A 73 l * A 61 k9 := by
    clear w1 w2
    exact wr_id (by omega) (by omega)
  have w4 : wr (zssm A u 72 + A 62 k9) = zssm A u 72 + A 62 k9 := by
    clear w1 w2 w3
    exact wr_id (by omega) (by omega)
  have z := zrm_i (ρ := ρ) q hl h70 hu (x := fun v => kr v (mh g A0)) (y := none)
  rw [k2, Int.toNat_natCast] at z
  rw [← z]
  unfold M_hasRoom M_hasRoom_71 M_hasRoom_72 M_groupsOf
  rw [zix_n hu, zix_n k6, mD73, e 73 (by decide), m_groupsFor t1 t2]
  dsimp only
  rw [mD93, e 93 (by decide), w1, m_usedR q e hu, zix_n k6, zix_n k6, mD70, e 70 (by decide), k2, zix_n k5, mD61, mD73, e 61 (by decide), e 73 (by decide), w2, w3, m_usedS q e hu, zix_n k6, mD70, e 70 (by decide), k2, zix_n k5, mD62, e 62 (by decide), w4]
  simp only [znar_0, znar_1]
theorem x_unitFor (q : RR A h K L bc tc gc n B N M) {l : Nat} (hl : l < L) (h70 : A 70 l ≠ -1) : Co_unitFor 0 (l : Int) h kr = kr (zuf A l) h := by
  have un : Co_unitFor 0 (l : Int) h kr = Co_unitFor_4b kr (Co_unitFor_4b kr (Co_unitFor_4b kr (zit (fun _ _ _ _ _ => none) (Co_unitFor_4b kr) 4997))) 0 (l : Int) (-1) ((0 : Nat) : Int) h := rfl
  obtain ⟨k, k1, k2, ⟨k3, k4, k5, k6⟩, ⟨t1, t2, -⟩, -, ⟨f1, f2, f3, -⟩, ⟨g1, g2, g3⟩⟩ := q.lnk hl h70
  have rs := q.rs
  have m0 := (q.un (u := 0) (by decide)).2.2
  have m1 := (q.un (u := 1) (by decide)).2.2
  have i0 : (0 : Nat) < 2 := by decide
  have i1 : (1 : Nat) < 2 := by decide
  have N0 : 0 < zhN h 3 := by rw [rs.N3]; decide
  have N1 : 1 < zhN h 3 := by rw [rs.N3]; decide
  have w1 : wr (((0 : Nat) : Int) + 1) = ((1 : Nat) : Int) := by decide
  have w2 : wr (((1 : Nat) : Int) + 1) = 2 := by decide
  have R0 : ∀ kr : Int → zH → Option ρ, Un_hasRoomFor ((0 : Nat) : Int) (k : Int) (A 73 l) h kr = kr (tb (zrm A 0 l)) h := fun kr => x_hasRoom q hl k2 i0
  have R1 : ∀ kr : Int → zH → Option ρ, Un_hasRoomFor ((1 : Nat) : Int) (k : Int) (A 73 l) h kr = kr (tb (zrm A 1 l)) h := fun kr => x_hasRoom q hl k2 i1
  have d0 : zhD h 23 0 0 = ((0 : Nat) : Int) := rs.D23_0_0
  have d1 : zhD h 23 0 1 = ((1 : Nat) : Int) := rs.D23_0_1
  have l0 : ((0 : Nat) : Int) < 2 := by decide
  have l1 : ((1 : Nat) : Int) < 2 := by decide
  have S : ∀ (r4 : Int → Int → Int → Int → zH → Option ρ) (a2 : Int) {i : Nat} (hi : i < 2) (d : zhD h 23 0 i = (i : Int)) (n0 : i < zhN h 3) (li : (i : Int) < 2) (R : ∀ kr : Int → zH → Option ρ, Un_hasRoomFor (i : Int) (k : Int) (A 73 l) h kr = kr (tb (zrm A i l)) h), Co_unitFor_4b kr r4 0 (l : Int) a2 (i : Int) h = if zrm A i l = false then r4 0 (l : Int) a2 (wr ((i : Int) + 1)) h else if a2 < 0 then r4 0 (l : Int) (i : Int) (wr ((i : Int) + 1)) h else zob h 3 a2 fun p12 => if zhD h 3 i 2 < zhD h 3 p12 2 then r4 0 (l : Int) (i : Int) (wr ((i : Int) + 1)) h else r4 0 (l : Int) a2 (wr ((i : Int) + 1)) h := fun r4 a2 i hi d n0 li R => by
    unfold Co_unitFor_4b Co_unitFor_49 Co_unitFor_56
    rw [if_pos li, zob_0 rs.N2, rs.D2_0_2, zob_0 rs.N23, rs.L23_0, zix_n hi, zob_n k4, zob_n k4, d, zob_n n0, f1, f3, R]
    cases zrm A i l with
    | false => rw [tb_f, if_pos rfl, if_pos rfl]
    | true =>
      have nf : ¬ (true = false) := by decide
      rw [tb_t, if_neg (by decide), if_neg nf, zob_0 rs.N2, rs.D2_0_2, zob_0 rs.N23, rs.L23_0, zix_n hi, zob_0 rs.N2, rs.D2_0_2, zob_0 rs.N23, rs.L23_0, zix_n hi, d, zob_n n0]
  have E : ∀ (r4 : Int → Int → Int → Int → zH → Option ρ) (a2 : Int), Co_unitFor_4b kr r4 0 (l : Int) a2 2 h = kr a2 h := fun r4 a2 => by
    unfold Co_unitFor_4b
    rw [if_neg (by decide)]
  have nf : ¬ (true = false) := by decide
  rw [un, S _ _ i0 d0 N0 l0 R0, w1]
  unfold zuf
  cases h0 : zrm A 0 l with
  | false =>
    rw [if_pos rfl, if_pos rfl, S _ _ i1 d1 N1 l1 R1, w2]
    cases h1 : zrm A 1 l with
    | false => rw [if_pos rfl, if_pos rfl, E]
    | true => rw [if_neg nf, if_neg nf, if_pos (by decide), E]; rfl
  | true =>
    rw [if_neg nf, if_neg nf, if_pos (by decide), S _ _ i1 d1 N1 l1 R1, w2]
    cases h1 : zrm A 1 l with
    | false => rw [if_pos rfl, if_pos rfl, E]; rfl
    | true =>
      rw [if_neg nf, if_neg nf, if_neg (by decide), zob_n N0, m0, m1]
      by_cases hc : A 93 1 < A 93 0
      · rw [if_pos hc, if_pos hc, E]; rfl
      · rw [if_neg hc, if_neg hc, E]; rfl
theorem m_unitFor (q : RR A h K L bc tc gc n B N M) (e : ∀ c, c ≠ 69 → A0 c = A c) {l : Nat} (hl : l < L) (h70 : A 70 l ≠ -1) : M_unitFor (l : Int) (mh g A0) kr = kr (zuf A l) (mh g A0) := by
  have i0 : (0 : Nat) < 2 := by decide
  have i1 : (1 : Nat) < 2 := by decide
  have z0 : ∀ kk : Nat → Option ρ, zix 2 0 kk = kk 0 := fun kk => zix_n (i := 0) i0
  have z1 : ∀ kk : Nat → Option ρ, zix 2 1 kk = kk 1 := fun kk => zix_n (i := 1) i1
  have R0 : ∀ kr : Int → zH → Option ρ, M_hasRoom 0 (l : Int) (mh g A0) kr = kr (tb (zrm A 0 l)) (mh g A0) := fun kr => m_hasRoom q e hl h70 i0
  have R1 : ∀ kr : Int → zH → Option ρ, M_hasRoom 1 (l : Int) (mh g A0) kr = kr (tb (zrm A 1 l)) (mh g A0) := fun kr => m_hasRoom q e hl h70 i1
  have nf : ¬ (true = false) := by decide
  have n1 : ¬ ((1 : Int) = 0) := by decide
  unfold M_unitFor M_unitFor_41 M_unitFor_37 M_unitFor_50 zuf
  rw [R0, R1, z0, z1, mD93, mD93, e 93 (by decide)]
  cases zrm A 0 l with
  | false =>
    rw [tb_f, if_pos rfl, if_pos rfl]
    cases zrm A 1 l with
    | false => rw [tb_f, if_pos rfl, if_pos rfl]
    | true => rw [tb_t, if_neg n1, if_neg nf]
  | true =>
    rw [tb_t, if_neg n1, if_neg nf]
    cases zrm A 1 l with
    | false => rw [tb_f, if_pos rfl, if_pos rfl]
    | true =>
      rw [tb_t, if_neg n1, if_neg nf, if_neg n1]
      by_cases hc : A 93 1 < A 93 0
      · rw [if_pos hc, if_pos hc]
      · rw [if_neg hc, if_neg hc]
theorem zuf_v {l : Nat} : zuf A l = -1 ∨ ∃ u : Nat, u < 2 ∧ zuf A l = (u : Int) ∧ zrm A u l = true := by
  unfold zuf
  cases h0 : zrm A 0 l with
  | false =>
    cases h1 : zrm A 1 l with
    | false => exact Or.inl (by simp)
    | true => exact Or.inr ⟨1, by decide, by simp, h1⟩
  | true =>
    cases h1 : zrm A 1 l with
    | false => exact Or.inr ⟨0, by decide, by simp, h0⟩
    | true =>
      by_cases hc : A 93 1 < A 93 0
      · exact Or.inr ⟨1, by decide, by simp [hc], h1⟩
      · exact Or.inr ⟨0, by decide, by simp [hc], h0⟩
theorem x_hasBlock (q : RR A h K L bc tc gc n B N M) {l : Nat} (hl : l < L) : La_hasBlockToGive (l : Int) h kr = kr (tb (decide (A 70 l ≠ -1 ∧ A 69 l = 114 ∧ A 78 l < A 72 l))) h := by
  obtain ⟨b1, b2, b3, b4, b5, b6, b7, b8, b9, b10, b11, b12, -⟩ := q.rl.l hl
  obtain ⟨a1, a2, a3, a4⟩ := q.rl.at
  have hN : l < zhN h 9 := by omega
  unfold La_hasBlockToGive La_hasBlockToGive_31 La_hasBlockToGive_32
  rw [zob_n hN, b7.1]
  by_cases h70 : A 70 l = -1
  · rw [if_pos (by omega), decide_eq_false (fun z => z.1 h70), tb_f, znar_0]
  · rw [if_neg (by omega), zob_n hN, b9.1]
    by_cases h69 : A 69 l = 114
    · rw [if_pos h69, zob_n hN, zob_n hN, b8.1, b8.2.2.1]
      by_cases h78 : A 78 l < A 72 l
      · rw [if_pos h78, decide_eq_true ⟨h70, h69, h78⟩, tb_t, znar_1]
      · rw [if_neg h78, decide_eq_false (fun z => h78 z.2.2), tb_f, znar_0]
    · rw [if_neg h69, decide_eq_false (fun z => h69 z.2.1), tb_f, znar_0]
end
