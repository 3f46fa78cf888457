/-! WHAT IS ASKED OF GROUPS -/
def yb (A : zA) (u i : Int) : Nat := (A 94 (4 * u.toNat + i.toNat)).toNat
def yj (A : zA) (u i : Int) : Nat := (A 95 (4 * u.toNat + i.toNat)).toNat
def yin (A : zA) (u i : Int) : Bool := zwi u 0 1 && zwi i 0 (A 93 u.toNat - 1)
section
variable {ρ : Type} {h : zH} {A B : zA} {kr : Int → zH → Option ρ} {kt : Nat → zH → Option ρ} {K L n : Nat} {bc tc gc : Nat → Nat} {N M : Int}
theorem RR.at (q : RR A h K L bc tc gc n B N M) {u i : Int} (hz : yin A u i = true) : A 94 (4 * u.toNat + i.toNat) = (yb A u i : Int) ∧ A 95 (4 * u.toNat + i.toNat) = (yj A u i : Int) ∧ yb A u i < 72 ∧ A 87 (yb A u i) = 1 ∧ ((4 * yj A u i : Nat) : Int) < A 73 (yb A u i / 6) ∧ zhD h 26 u.toNat i.toNat = (gc (4 * yb A u i + yj A u i) : Int) ∧ MG A (4 * u.toNat + i.toNat) (yb A u i) (yj A u i) ∧ wr (wr (4 * u) + i) = ((4 * u.toNat + i.toNat : Nat) : Int) ∧ u.toNat < 2 ∧ (i.toNat : Int) < A 93 u.toNat := by
  obtain ⟨z1, z2⟩ := zand_t hz
  obtain ⟨h1, h2⟩ := zwi_t z1
  obtain ⟨h3, h4⟩ := zwi_t z2
  have hu : u.toNat < 2 := by omega
  have hi : (i.toNat : Int) < A 93 u.toNat := by omega
  obtain ⟨b, j, s1, s2, s3, s4, s5, s6, s7, s8⟩ := q.slot hu hi
  have e1 : yb A u i = b := by unfold yb; rw [s1]; rfl
  have e2 : yj A u i = j := by unfold yj; rw [s2]; rfl
  have hm := (q.un hu).2.1
  rw [e1, e2]
  refine ⟨s1, s2, s3, s4, s6, s7, s8, ?_, hu, hi⟩
  rw [wr_id (x := 4 * u) (by omega) (by omega), wr_id (by omega) (by omega)]
  omega
theorem RR.mm (q : RR A h K L bc tc gc n B N M) : ∀ v : Nat, v < 2 → 0 ≤ A 93 v ∧ A 93 v ≤ 4 := fun v hv => ⟨(q.un hv).1, (q.un hv).2.1⟩
theorem x_groups (q : RR A h K L bc tc gc n B N M) {u : Int} : X_groups 0 u h kt kr = if zwi u 0 1 = true then kr (A 93 u.toNat) h else kt 3 (zthrown h) := by
  unfold X_groups
  rw [zob_0 q.rs.N0, x_unitAt q.rs]
  cases hz : zwi u 0 1 with
  | false => rfl
  | true =>
    obtain ⟨h1, h2⟩ := zwi_t hz
    obtain ⟨v, rfl⟩ : ∃ v : Nat, u = (v : Int) := ⟨u.toNat, by omega⟩
    have hv : v < 2 := by omega
    rw [if_pos rfl, zob_n (q.rs.u0 hv).1, (q.un hv).2.2]
    rfl
theorem m_groups (q : RR A h K L bc tc gc n B N M) {u : Int} : M_groups u (mh h A) kr = if zwi u 0 1 = true then kr (A 93 u.toNat) (mh h (a0 A)) else kr 0 (mh h (au A 12 0 1)) := by
  unfold M_groups M_groups_27
  simp only [mS12, zlet_d]
  show M_noUnit u (mh h (a0 A)) _ = _
  rw [m_noUnit, m_fails a0_0 (by decide)]
  cases hz : zwi u 0 1 with
  | false => simp [a0_thr]
  | true =>
    obtain ⟨h1, h2⟩ := zwi_t hz
    have z1 : ∀ kk : Nat → Option ρ, zix 2 u kk = kk u.toNat := fun kk => zix_i (by omega) (by omega)
    simp [z1, mD93, a0_c]
theorem x_threadAt (q : RR A h K L bc tc gc n B N M) {u i : Int} : X_threadAt 0 u i h kt kr = if yin A u i = true then kr (1000 * ((yb A u i / 6 : Nat) : Int) + 100 * ((yb A u i % 6 : Nat) : Int) + ((4 * yj A u i : Nat) : Int)) h else kt 3 (zthrown h) := by
  unfold X_threadAt
  rw [zob_0 q.rs.N0, x_groupAt q]
  show (if yin A u i = true then _ else _) = _
  cases hz : yin A u i with
  | false => rfl
  | true =>
    obtain ⟨s1, s2, s3, s4, s5, s6, s7, -⟩ := q.at hz
    obtain ⟨k, hkK, hk, hbL, ⟨ht0, ht1⟩, -, ⟨k1, k2, k3, k4⟩, ⟨e1, -⟩⟩ := q.blk s3 s4
    obtain ⟨g1, g2, g3, g4, g5⟩ := q.gh.1 _ s3 s4 _ s5
    obtain ⟨b1, b2, b3, -⟩ := q.bh.1 _ s3 s4
    rw [if_pos rfl, if_pos rfl, s6]
    simp only [zob_n g1, g3, g4, zob_n b1, b2, b3, zob_n k2, e1]
    generalize yb A u i = b at *
    generalize yj A u i = j at *
    rw [wr_id (x := 1000 * ((b / 6 : Nat) : Int)) (by omega) (by omega), wr_id (x := 100 * ((b % 6 : Nat) : Int)) (by omega) (by omega), wr_id (x := 1000 * ((b / 6 : Nat) : Int) + _) (by omega) (by omega), wr_id (by omega) (by omega)]
theorem m_threadAt (q : RR A h K L bc tc gc n B N M) {u i : Int} : M_threadAt u i (mh h A) kr = if yin A u i = true then kr (1000 * ((yb A u i / 6 : Nat) : Int) + 100 * ((yb A u i % 6 : Nat) : Int) + ((4 * yj A u i : Nat) : Int)) (mh h (a0 A)) else kr 0 (mh h (au A 12 0 1)) := by
  unfold M_threadAt
  simp only [mS12, zlet_d]
  show M_noGroup u i (mh h (a0 A)) _ = _
  rw [m_noGroup (A := a0 A) q.mm, m_fails a0_0 (by decide)]
  show (if (!(yin A u i)) = true then _ else _) = _
  cases hz : yin A u i with
  | false => simp [a0_thr]
  | true =>
    obtain ⟨s1, s2, s3, s4, s5, s6, s7, s8, s9, s10⟩ := q.at hz
    have hi : yj A u i < 4 := s7.2.2.1
    have hy := s7.1
    rw [s8]
    simp only [zix_n hy, mD94, mD95, a0_c (show 94 ≠ 12 by decide), a0_c (show 95 ≠ 12 by decide), s1, s2, wtd6 s3, wtm6, Bool.not_true, Bool.false_eq_true, if_false, if_true]
    generalize yb A u i = b at *
    generalize yj A u i = j at *
    rw [wr_id (x := 1000 * ((b / 6 : Nat) : Int)) (by omega) (by omega), wr_id (x := 100 * ((b % 6 : Nat) : Int)) (by omega) (by omega), wr_id (x := 4 * (j : Int)) (by omega) (by omega), wr_id (x := 1000 * ((b / 6 : Nat) : Int) + _) (by omega) (by omega), wr_id (by omega) (by omega)]
    rfl
theorem gex_congr {p r : Nat → Int} {v : Int} : ∀ n, (∀ k, k < n → p k = r k) → gex p n v = gex r n v
  | 0, _ => rfl
  | n + 1, h => by
    unfold gex
    rw [h n (Nat.lt_succ_self _), gex_congr n (fun k hk => h k (Nat.lt_succ_of_lt hk))]
theorem gdf_congr {p r : Nat → Int} : ∀ n, (∀ k, k < n → p k = r k) → gdf p n = gdf r n
  | 0, _ => rfl
  | n + 1, h => by
    unfold gdf
    rw [h n (Nat.lt_succ_self _), gdf_congr n (fun k hk => h k (Nat.lt_succ_of_lt hk)), gex_congr n (fun k hk => h k (Nat.lt_succ_of_lt hk))]
theorem x_mask (q : RR A h K L bc tc gc n B N M) {u i : Int} : X_mask 0 u i h kt kr = if yin A u i = true then kr (zbs (mmf A (yb A u i) (yj A u i)) 4) h else kt 3 (zthrown h) := by
  unfold X_mask
  rw [zob_0 q.rs.N0, x_groupAt q]
  show (if yin A u i = true then _ else _) = _
  cases hz : yin A u i with
  | false => rfl
  | true =>
    obtain ⟨s1, s2, s3, s4, s5, s6, s7, -⟩ := q.at hz
    obtain ⟨g1, g2, g3, g4⟩ := q.grp s3 s4 s5
    rw [if_pos rfl, if_pos rfl, s6, zob_n g1.1, x_lanesUnderMask q.rd g1, zbs_congr (g := mmf A (yb A u i) (yj A u i)) 4 (fun k hk => by unfold gmf mmf; rw [zlm_congr 4 g2, g2 k hk])]
theorem x_places (q : RR A h K L bc tc gc n B N M) {u i : Int} : X_places 0 u i h kt kr = if yin A u i = true then kr (gdf (mpl A (yb A u i) (yj A u i)) 4) h else kt 3 (zthrown h) := by
  unfold X_places
  rw [zob_0 q.rs.N0, x_groupAt q]
  show (if yin A u i = true then _ else _) = _
  cases hz : yin A u i with
  | false => rfl
  | true =>
    obtain ⟨s1, s2, s3, s4, s5, s6, s7, -⟩ := q.at hz
    obtain ⟨g1, g2, g3, g4⟩ := q.grp s3 s4 s5
    rw [if_pos rfl, if_pos rfl, s6, zob_n g1.1, x_differentPlaces q.rd g1, gdf_congr 4 g2]
theorem x_place (q : RR A h K L bc tc gc n B N M) {u i : Int} : X_place 0 u i h kt kr = if yin A u i = true then (if zlm (mpl A (yb A u i) (yj A u i)) 4 = -1 then kt 5 (zthrown h) else kr (zlm (mpl A (yb A u i) (yj A u i)) 4) h) else kt 3 (zthrown h) := by
  unfold X_place
  rw [zob_0 q.rs.N0, x_groupAt q]
  show (if yin A u i = true then _ else _) = _
  cases hz : yin A u i with
  | false => rfl
  | true =>
    obtain ⟨s1, s2, s3, s4, s5, s6, s7, -⟩ := q.at hz
    obtain ⟨g1, g2, g3, g4⟩ := q.grp s3 s4 s5
    rw [if_pos rfl, if_pos rfl, s6, zob_n g1.1, x_leastPlace q.rd g1, zlm_congr 4 g2]
    rfl
theorem x_reason (q : RR A h K L bc tc gc n B N M) {u i : Int} : X_reason 0 u i h kt kr = if yin A u i = true then kr (if zlm (mpl A (yb A u i) (yj A u i)) 4 = -1 then (if zal (men A (yb A u i) (yj A u i)) 4 = true then 101 else 98) else if A 12 1 < A 96 (4 * u.toNat + i.toNat) then 100 else 45) h else kt 3 (zthrown h) := by
  unfold X_reason
  rw [zob_0 q.rs.N0, x_groupAt q]
  show (if yin A u i = true then _ else _) = _
  cases hz : yin A u i with
  | false => rfl
  | true =>
    obtain ⟨s1, s2, s3, s4, s5, s6, s7, s8, s9, s10⟩ := q.at hz
    obtain ⟨g1, g2, g3, g4⟩ := q.grp s3 s4 s5
    obtain ⟨r1, -⟩ := q.ug _ _ s9 s10 _ _ s1 s2
    have hc : zhD h 2 0 4 = A 12 1 := q.rm.2.1
    have e1 : (A 12 1 < zhD h 11 (gc (4 * yb A u i + yj A u i)) 6) = (A 12 1 < A 96 (4 * u.toNat + i.toNat)) := by
      rcases r1 with r1 | r1
      · rw [r1]
      · exact propext ⟨fun z => by omega, fun z => by omega⟩
    rw [if_pos rfl, if_pos rfl, s6, zob_0 q.rs.N0, q.rs.D0_0_1, zob_0 q.rs.N2, zob_n g1.1, hc, x_whyIdle q.rd g1, zlm_congr 4 g2, zal_congr 4 g3]
    simp only [e1]
    refine znar_c ?_
    split
    · split <;> decide
    · split <;> decide
theorem x_buffered (q : RR A h K L bc tc gc n B N M) {u i : Int} : X_buffered 0 u i h kt kr = if yin A u i = true then kr (A 97 (4 * u.toNat + i.toNat)) h else kt 3 (zthrown h) := by
  unfold X_buffered
  rw [zob_0 q.rs.N0, x_groupAt q]
  show (if yin A u i = true then _ else _) = _
  cases hz : yin A u i with
  | false => rfl
  | true =>
    obtain ⟨s1, s2, s3, s4, s5, s6, s7, s8, s9, s10⟩ := q.at hz
    obtain ⟨g1, g2, g3, g4⟩ := q.grp s3 s4 s5
    obtain ⟨-, r2, -⟩ := q.ug _ _ s9 s10 _ _ s1 s2
    rw [if_pos rfl, if_pos rfl, s6, zob_n g1.1, r2]
theorem x_hasShared (q : RR A h K L bc tc gc n B N M) {b : Nat} (hb : b < 72) (hin : A 87 b = 1) {c : Int} : Bl_hasShared (bc b : Int) c h kr = kr (tb (zwi c 0 (A 62 (A 70 (b / 6)).toNat - 1))) h := by
  obtain ⟨b1, b2, b3, b4, b5, b6⟩ := q.bh.1 b hb hin
  obtain ⟨-, -, c3, -, -, -, c6⟩ := q.rd.2.2.2.1
  obtain ⟨-, -, d4, -⟩ := c6 _ b1
  obtain ⟨k, hkK, hk, hbL, -, ⟨r0, r1, r2, r3, r4, r5⟩, -⟩ := q.blk hb hin
  unfold Bl_hasShared
  rw [hk, Int.toNat_natCast] at b6 ⊢
  rw [zob_n b1, d4, zob_n (show bc b < zhN h 38 by omega), b6, wr_id (by omega) (by omega), x_isWithin, znar_tb]
theorem x_shared (q : RR A h K L bc tc gc n B N M) {u i c : Int} : X_shared 0 u i c h kt kr = if yin A u i = true then (if zwi c 0 (A 62 (A 70 (yb A u i / 6)).toNat - 1) = true then kr (A 92 (16 * yb A u i + c.toNat)) h else kt 3 (zthrown h)) else kt 3 (zthrown h) := by
  unfold X_shared
  rw [zob_0 q.rs.N0, x_groupAt q]
  show (if yin A u i = true then _ else _) = _
  cases hz : yin A u i with
  | false => rfl
  | true =>
    obtain ⟨s1, s2, s3, s4, s5, s6, s7, s8, s9, s10⟩ := q.at hz
    obtain ⟨g1, g2, g3, g4, g5⟩ := q.gh.1 _ s3 s4 _ s5
    obtain ⟨b1, b2, b3, b4, b5, b6⟩ := q.bh.1 _ s3 s4
    obtain ⟨-, -, c3, -, -, -, c6⟩ := q.rd.2.2.2.1
    obtain ⟨-, -, d4, -⟩ := c6 _ b1
    rw [if_pos rfl, if_pos rfl, s6, zob_n g1, g3, zob_n b1, x_hasShared q s3 s4]
    cases hy : zwi c 0 (A 62 (A 70 (yb A u i / 6)).toNat - 1) with
    | false => simp [tb_f, zlet_d]
    | true =>
      obtain ⟨h1, h2⟩ := zwi_t hy
      have e1 := q.sh _ s3 s4 c.toNat (by omega)
      rw [tb_t, if_neg (by decide), zob_n b1, d4, zob_n (show bc (yb A u i) < zhN h 38 by omega), zix_i h1 (by omega), e1, if_pos rfl]
theorem x_at {T : Nat} {r : Int} (qd : RD h) (hT : T < zhN h 6) : Th_at (T : Int) r h kr = kr (if zwi r 0 ((zhL h 32 T : Int) - 1) = true then zhD h 32 T r.toNat else 0) h := by
  obtain ⟨d1, -, d3, -⟩ := qd.2.2.1
  have e1 := d3 T hT
  have hT2 : T < zhN h 32 := by omega
  unfold Th_at Th_at_22 Th_at_23
  cases hz : zwi r 0 ((zhL h 32 T : Int) - 1) with
  | true =>
    obtain ⟨h1, h2⟩ := zwi_t hz
    have z1 : ∀ kk : Nat → Option ρ, zix (zhL h 32 T) r kk = kk r.toNat := fun kk => zix_i (by omega) (by omega)
    rw [if_neg (by omega), zob_n hT, e1, zob_n hT2, if_pos (by omega), zob_n hT, e1, zob_n hT2, z1]
    rfl
  | false =>
    rcases zwi_f hz with h1 | h1
    · rw [if_pos h1]
      rfl
    · by_cases h0 : r < 0
      · rw [if_pos h0]
        rfl
      · rw [if_neg h0, zob_n hT, e1, zob_n hT2, if_neg (by omega)]
        rfl
theorem x_register (q : RR A h K L bc tc gc n B N M) {u i l r : Int} : X_register 0 u i l r h kt kr = if yin A u i = true then (if zwi l 0 3 = true ∧ ((4 * yj A u i + l.toNat : Nat) : Int) < A 73 (yb A u i / 6) ∧ zwi r 0 (A 61 (A 70 (yb A u i / 6)).toNat - 1) = true then kr (A 91 (8 * (16 * yb A u i + (4 * yj A u i + l.toNat)) + r.toNat)) h else kt 3 (zthrown h)) else kt 3 (zthrown h) := by
  unfold X_register X_register_40
  rw [zob_0 q.rs.N0, x_groupAt q]
  show (if yin A u i = true then _ else _) = _
  cases hz : yin A u i with
  | false => rfl
  | true =>
    obtain ⟨s1, s2, s3, s4, s5, s6, s7, s8, s9, s10⟩ := q.at hz
    obtain ⟨gw, -⟩ := q.grp s3 s4 s5
    obtain ⟨g1, g2, g3, g4, g5⟩ := q.gh.1 _ s3 s4 _ s5
    obtain ⟨b1, b2, b3, b4, b5, b6⟩ := q.bh.1 _ s3 s4
    obtain ⟨k, hkK, hk, hbL, ⟨ht0, ht1⟩, ⟨r0, r1, r2, r3, r4, r5⟩, ⟨k1, k2, k3, k4⟩, ⟨e1, e2, e3, e4, e5⟩⟩ := q.blk s3 s4
    rw [if_pos rfl, if_pos rfl, s6, zob_n g1, x_threadIn q.rd gw]
    cases hl : zwi l 0 3 with
    | false => simp [zlet_d]
    | true =>
      obtain ⟨h1, h2⟩ := zwi_t hl
      rw [if_pos rfl, g5 _ (show l.toNat < 4 by omega)]
      by_cases hlt : ((4 * yj A u i + l.toNat : Nat) : Int) < A 73 (yb A u i / 6)
      · obtain ⟨t1, t2, t3, t4, t5, t6⟩ := q.th.1 _ s3 s4 _ hlt
        obtain ⟨-, -, -, d4⟩ := q.td _ s3 s4 _ hlt
        rw [if_pos hlt, if_neg (by omega), zob_n g1, g3, zob_n b1, b2, zob_n k2, e2, zob_n k1, x_hasRegister k1 (by omega) (by omega), e3, hk, Int.toNat_natCast]
        cases hr : zwi r 0 (A 61 k - 1) with
        | false => simp [tb_f, zlet_d]
        | true =>
          obtain ⟨h3, h4⟩ := zwi_t hr
          have e6 := d4 r.toNat (by rw [hk, Int.toNat_natCast]; omega)
          rw [hk, Int.toNat_natCast] at t6
          rw [tb_t, if_neg (by decide), zob_n t2, x_at q.rd t2, t6, hr, if_pos rfl, e6, if_pos ⟨rfl, hlt, rfl⟩]
      · rw [if_neg hlt, if_pos (by decide), if_neg (fun z => hlt z.2.1)]
        rfl
/-! the model -/
theorem m_mask (q : RR A h K L bc tc gc n B N M) {u i : Int} : M_mask u i (mh h A) kr = if yin A u i = true then kr (zbs (mmf A (yb A u i) (yj A u i)) 4) (mh h (a0 A)) else kr 0 (mh h (au A 12 0 1)) := by
  unfold M_mask M_mask_32
  simp only [mS12, zlet_d]
  show M_noGroup u i (mh h (a0 A)) _ = _
  rw [m_noGroup (A := a0 A) q.mm, m_fails a0_0 (by decide)]
  show (if (!(yin A u i)) = true then _ else _) = _
  cases hz : yin A u i with
  | false => simp [a0_thr]
  | true =>
    obtain ⟨s1, s2, s3, s4, s5, s6, s7, s8, s9, s10⟩ := q.at hz
    obtain ⟨g1, g2, g3, g4⟩ := q.grp s3 s4 s5
    rw [Bool.not_true, if_neg (by decide), if_pos rfl, if_pos rfl, s8, m_maskOf (A := a0 A) s7 g4]
    rfl
theorem m_buffered (q : RR A h K L bc tc gc n B N M) {u i : Int} : M_buffered u i (mh h A) kr = if yin A u i = true then kr (A 97 (4 * u.toNat + i.toNat)) (mh h (a0 A)) else kr 0 (mh h (au A 12 0 1)) := by
  unfold M_buffered M_buffered_33
  simp only [mS12, zlet_d]
  show M_noGroup u i (mh h (a0 A)) _ = _
  rw [m_noGroup (A := a0 A) q.mm, m_fails a0_0 (by decide)]
  show (if (!(yin A u i)) = true then _ else _) = _
  cases hz : yin A u i with
  | false => simp [a0_thr]
  | true =>
    obtain ⟨s1, s2, s3, s4, s5, s6, s7, s8, s9, s10⟩ := q.at hz
    obtain ⟨g1, g2, g3, g4⟩ := q.grp s3 s4 s5
    rw [Bool.not_true, if_neg (by decide), if_pos rfl, if_pos rfl, s8, zix_n s7.1, mD97, a0_c (show 97 ≠ 12 by decide)]
theorem m_place (q : RR A h K L bc tc gc n B N M) {u i : Int} : M_place u i (mh h A) kr = if yin A u i = true then (if zlm (mpl A (yb A u i) (yj A u i)) 4 = -1 then kr 0 (mh h (au A 12 0 2)) else kr (zlm (mpl A (yb A u i) (yj A u i)) 4) (mh h (a0 A))) else kr 0 (mh h (au A 12 0 1)) := by
  unfold M_place M_place_42 M_place_54
  simp only [mS12, zlet_d]
  show M_noGroup u i (mh h (a0 A)) _ = _
  rw [m_noGroup (A := a0 A) q.mm, m_fails a0_0 (by decide)]
  show (if (!(yin A u i)) = true then _ else _) = _
  cases hz : yin A u i with
  | false => simp [a0_thr]
  | true =>
    obtain ⟨s1, s2, s3, s4, s5, s6, s7, s8, s9, s10⟩ := q.at hz
    obtain ⟨g1, g2, g3, g4⟩ := q.grp s3 s4 s5
    rw [Bool.not_true, if_neg (by decide), if_pos rfl, if_pos rfl, s8, m_placeOf (A := a0 A) s7 g4]
    show (if zlm (mpl A (yb A u i) (yj A u i)) 4 = -1 then M_fails 1 2 _ (fun v1 h2 => if v1 = 0 then kr (zlm (mpl A (yb A u i) (yj A u i)) 4) h2 else kr 0 h2) else M_fails 0 2 _ (fun v1 h2 => if v1 = 0 then kr (zlm (mpl A (yb A u i) (yj A u i)) 4) h2 else kr 0 h2)) = _
    by_cases h1 : zlm (mpl A (yb A u i) (yj A u i)) 4 = -1
    · rw [if_pos h1, if_pos h1, m_fails1 a0_0 (by decide), if_neg (by decide), a0_thr]
    · rw [if_neg h1, if_neg h1, m_fails0 a0_0 (by decide), if_pos rfl]
theorem m_reason (q : RR A h K L bc tc gc n B N M) {u i : Int} : M_reason u i (mh h A) kr = if yin A u i = true then kr (if zlm (mpl A (yb A u i) (yj A u i)) 4 = -1 then (if zal (men A (yb A u i) (yj A u i)) 4 = true then 101 else 98) else if A 12 1 < A 96 (4 * u.toNat + i.toNat) then 100 else 45) (mh h (a0 A)) else kr 0 (mh h (au A 12 0 1)) := by
  have n1 : ∀ kk : Int → Option ρ, znar 2 101 kk = kk 101 := fun kk => znar_c (by decide)
  have n2 : ∀ kk : Int → Option ρ, znar 2 98 kk = kk 98 := fun kk => znar_c (by decide)
  have n3 : ∀ kk : Int → Option ρ, znar 2 100 kk = kk 100 := fun kk => znar_c (by decide)
  have n4 : ∀ kk : Int → Option ρ, znar 2 45 kk = kk 45 := fun kk => znar_c (by decide)
  unfold M_reason M_reason_51 M_reason_72
  simp only [mS12, zlet_d]
  show M_noGroup u i (mh h (a0 A)) _ = _
  rw [m_noGroup (A := a0 A) q.mm, m_fails a0_0 (by decide)]
  show (if (!(yin A u i)) = true then _ else _) = _
  cases hz : yin A u i with
  | false => simp [a0_thr]
  | true =>
    obtain ⟨s1, s2, s3, s4, s5, s6, s7, s8, s9, s10⟩ := q.at hz
    obtain ⟨g1, g2, g3, g4⟩ := q.grp s3 s4 s5
    rw [Bool.not_true, if_neg (by decide), if_pos rfl, if_pos rfl, s8, m_placeOf (A := a0 A) s7 g4]
    show (if zlm (mpl A (yb A u i) (yj A u i)) 4 = -1 then _ else _) = _
    by_cases h1 : zlm (mpl A (yb A u i) (yj A u i)) 4 = -1
    · rw [if_pos h1, if_pos h1, m_hasEnded (A := a0 A) s7]
      show (if tb (zal (men A (yb A u i) (yj A u i)) 4) = 0 then _ else _) = _
      cases zal (men A (yb A u i) (yj A u i)) 4 <;> simp [tb, n1, n2]
    · rw [if_neg h1, if_neg h1, zix_n s7.1, mD12, mD96, a0_j (by decide), a0_c (by decide)]
      by_cases h2 : A 12 1 < A 96 (4 * u.toNat + i.toNat)
      · rw [if_pos h2, if_pos h2, n3]
      · rw [if_neg h2, if_neg h2, n4]
theorem m_shared (q : RR A h K L bc tc gc n B N M) {u i c : Int} : M_shared u i c (mh h A) kr = if yin A u i = true then (if zwi c 0 (A 62 (A 70 (yb A u i / 6)).toNat - 1) = true then kr (A 92 (16 * yb A u i + c.toNat)) (mh h (a0 A)) else kr 0 (mh h (au A 12 0 1))) else kr 0 (mh h (au A 12 0 1)) := by
  unfold M_shared M_shared_64 M_shared_87
  simp only [mS12, zlet_d]
  show M_noGroup u i (mh h (a0 A)) _ = _
  rw [m_noGroup (A := a0 A) q.mm, m_fails a0_0 (by decide)]
  show (if (!(yin A u i)) = true then _ else _) = _
  cases hz : yin A u i with
  | false => simp [a0_thr]
  | true =>
    obtain ⟨s1, s2, s3, s4, s5, s6, s7, s8, s9, s10⟩ := q.at hz
    obtain ⟨k, hkK, hk, hbL, ⟨ht0, ht1⟩, ⟨r0, r1, r2, r3, r4, r5⟩, ⟨k1, k2, k3, k4⟩, -⟩ := q.blk s3 s4
    rw [Bool.not_true, if_neg (by decide), if_pos rfl, if_pos rfl, s8]
    simp only [zix_n s7.1, mD94, a0_c (show 94 ≠ 12 by decide), s1, wtd6 s3, zix_n k4, mD70, a0_c (show 70 ≠ 12 by decide), hk, zix_n k3, mD62, a0_c (show 62 ≠ 12 by decide), m_in, Int.toNat_natCast]
    rw [wr_id (by omega) (by omega)]
    cases hy : zwi c 0 (A 62 k - 1) with
    | false => simp [tb_f, m_fails1, a0_0, a0_thr]
    | true =>
      obtain ⟨h1, h2⟩ := zwi_t hy
      have z1 : ∀ kk : Nat → Option ρ, zix 1152 (wr (wr (16 * (yb A u i : Int)) + c)) kk = kk (16 * yb A u i + c.toNat) := fun kk => by
        rw [wr_id (x := 16 * (yb A u i : Int)) (by omega) (by omega), wr_id (by omega) (by omega), zix_i (by omega) (by omega)]
        exact congrArg kk (by omega)
      simp [tb_t, m_fails0, a0_0, z1, mD92, a0_c]
theorem m_registerCell {y b j l r : Nat} (g : MG A y b j) (hl : l < 4) (hr : r < 8) : M_registerCell (y : Int) (l : Int) (r : Int) (mh h A) kr = kr ((8 * (16 * b + (4 * j + l)) + r : Nat) : Int) (mh h A) := by
  obtain ⟨hy, hb, hi, e94, e95, t0, t16⟩ := id g
  unfold M_registerCell
  rw [zix_n hy, zix_n hy, mD94, mD95, e94, e95, wi2 hi (by omega), m_threadCell hb (by omega), wr_id (x := 8 * _) (by omega) (by omega), wr_id (by omega) (by omega)]
  exact congrArg (fun z => kr z (mh h A)) (by omega)
theorem m_register (q : RR A h K L bc tc gc n B N M) {u i l r : Int} : M_register u i l r (mh h A) kr = if yin A u i = true then (if zwi l 0 3 = true ∧ ((4 * yj A u i + l.toNat : Nat) : Int) < A 73 (yb A u i / 6) ∧ zwi r 0 (A 61 (A 70 (yb A u i / 6)).toNat - 1) = true then kr (A 91 (8 * (16 * yb A u i + (4 * yj A u i + l.toNat)) + r.toNat)) (mh h (a0 A)) else kr 0 (mh h (au A 12 0 1))) else kr 0 (mh h (au A 12 0 1)) := by
  unfold M_register M_register_93 M_register_98 M_register_128
  simp only [mS12, zlet_d]
  show M_noGroup u i (mh h (a0 A)) _ = _
  rw [m_noGroup (A := a0 A) q.mm, m_fails a0_0 (by decide)]
  show (if (!(yin A u i)) = true then _ else _) = _
  cases hz : yin A u i with
  | false => simp [a0_thr]
  | true =>
    obtain ⟨s1, s2, s3, s4, s5, s6, s7, s8, s9, s10⟩ := q.at hz
    obtain ⟨k, hkK, hk, hbL, ⟨ht0, ht1⟩, ⟨r0, r1, r2, r3, r4, r5⟩, ⟨k1, k2, k3, k4⟩, -⟩ := q.blk s3 s4
    rw [Bool.not_true, if_neg (by decide), if_pos rfl, if_pos rfl, s8]
    simp only [zix_n s7.1, mD94, mD95, mD73, a0_c (show 94 ≠ 12 by decide), a0_c (show 95 ≠ 12 by decide), a0_c (show 73 ≠ 12 by decide), s1, s2, wtd6 s3, zix_n k4, mD70, a0_c (show 70 ≠ 12 by decide), hk, zix_n k3, mD61, a0_c (show 61 ≠ 12 by decide), m_in, Int.toNat_natCast]
    rw [wr_id (x := A 61 k - 1) (by omega) (by omega)]
    cases hl : zwi l 0 3 with
    | false => simp [tb_f, m_fails1, a0_0, a0_thr]
    | true =>
      obtain ⟨h1, h2⟩ := zwi_t hl
      obtain ⟨m, rfl⟩ : ∃ m : Nat, l = (m : Int) := ⟨l.toNat, by omega⟩
      have hm : m < 4 := by omega
      rw [tb_t, if_neg (by decide), wi2 s7.2.2.1 (by omega), Int.toNat_natCast]
      by_cases hlt : ((4 * yj A u i + m : Nat) : Int) < A 73 (yb A u i / 6)
      · rw [if_pos hlt]
        cases hr : zwi r 0 (A 61 k - 1) with
        | false => simp [tb_f, m_fails1, a0_0, a0_thr]
        | true =>
          obtain ⟨h3, h4⟩ := zwi_t hr
          obtain ⟨x, rfl⟩ : ∃ x : Nat, r = (x : Int) := ⟨r.toNat, by omega⟩
          have hx : x < 8 := by omega
          have hj : yj A u i < 4 := s7.2.2.1
          rw [tb_t, if_neg (by decide), m_fails0 a0_0 (by decide), if_pos rfl, m_registerCell (A := a0 A) s7 hm hx, zix_n (by omega), mD91, a0_c (by decide), if_pos ⟨rfl, hlt, rfl⟩]
          rfl
      · rw [if_neg hlt, m_fails1 a0_0 (by decide), if_neg (by decide), if_neg (fun z => hlt z.2.1), a0_thr]
end
