/-! LAUNCH, COPY -/
/-- what launch does: class, model -/
def hU (h : zH) (qu c d k bl th : Int) : zH := zset (zset (zset (zset (hE h qu c d (-1)) 9 (zhN h 9) 5 k) 7 k.toNat 4 1) 9 (zhN h 9) 6 bl) 9 (zhN h 9) 7 th
def hC (h : zH) (qu c d fr to n : Int) : zH := zset (zset (zset (hE h qu c d (-1)) 9 (zhN h 9) 13 fr) 9 (zhN h 9) 14 to) 9 (zhN h 9) 15 n
def mLaunch (A : zA) (qu k bl th aft : Int) (L : Nat) : zA := au (au (au (mAdd A qu k aft L) 72 L bl) 73 L th) 64 k.toNat 1
def mCopy (A : zA) (qu fr to n aft : Int) (L : Nat) : zA := au (au (au (mAdd A qu (-1) aft L) 80 L fr) 81 L to) 82 L n
section
variable {ρ : Type} {h g : zH} {A : zA} {kr : Int → zH → Option ρ} {kt : Nat → zH → Option ρ} {K L : Nat}
theorem x_checkQ (q : RS h) (r : RL A h K L) {qu aft : Int} : X_checkQueueAndAfter 0 qu aft h kt kr = if (zwi qu 0 1 && (decide (aft = -1) || zwi aft 0 (A 12 13 - 1))) = true then kr 0 h else kt 3 (zthrown h) := by
  unfold X_checkQueueAndAfter X_checkQueueAndAfter_28
  rw [x_isWithin]
  cases hq : zwi qu 0 1 with
  | false => simp [tb_f, zlet_d]
  | true =>
    by_cases ha : aft = -1
    · simp [tb_t, ha]
    · simp only [tb_t, if_neg (show ¬ (1 : Int) = 0 by decide), if_neg ha, zob_0 q.N0, x_launchAt q r]
      cases zwi aft 0 (A 12 13 - 1) <;> simp [ha]
theorem x_checkRoom (q : RS h) (r : RL A h K L) : X_checkRoomForLaunch 0 h kt kr = if A 12 13 = 12 then kt 2 (zthrown h) else kr 0 h := by
  obtain ⟨a1, a2, a3, a4⟩ := r.at
  unfold X_checkRoomForLaunch
  by_cases h12 : L = 12
  · have : A 12 13 = 12 := by omega
    have n1 : ¬ (L : Int) < 12 := by omega
    simp [zob_0 q.N0, q.D0_0_0, zob_0 q.N1, a4, this, n1, zlet_d]
  · have : ¬ A 12 13 = 12 := by omega
    have n1 : (L : Int) < 12 := by omega
    simp [zob_0 q.N0, q.D0_0_0, zob_0 q.N1, a4, this, n1]
theorem hE_N9 {b c d e : Int} : zhN (hE h b c d e) 9 = zhN h 9 + 1 := rfl
theorem hE_N7 {b c d e : Int} : zhN (hE h b c d e) 7 = zhN h 7 := rfl
theorem x_launch (q : RS h) (rk : RK A h K) (r : RL A h K L) {qu k bl th aft : Int} : X_launch 0 qu k bl th aft h kt kr =
    if (zwi qu 0 1 && (decide (aft = -1) || zwi aft 0 (A 12 13 - 1)) && zwi k 0 (A 12 4 - 1)) = true then
      if (zwi bl 1 6 && zwi th 1 16) = true then
        if zbf (A 61 k.toNat) (A 62 k.toNat) th = 0 then kt 4 (zthrown h)
        else if A 12 13 = 12 then kt 2 (zthrown h)
        else kr (L : Int) (hU h qu (zahead A qu L) (if zwi aft 0 (A 12 13 - 1) = true then aft else -1) k bl th)
      else kt 1 (zthrown h)
    else kt 3 (zthrown h) := by
  obtain ⟨a1, a2, a3, a4⟩ := r.at
  obtain ⟨r1, r2, r3, r4, r5⟩ := rk.at
  unfold X_launch X_launch_35
  simp only [zob_0 q.N0, x_checkQ q r]
  cases hq : zwi qu 0 1 with
  | false => simp
  | true =>
    cases haf : (decide (aft = -1) || zwi aft 0 (A 12 13 - 1)) with
    | false => simp
    | true =>
      simp only [Bool.and_self, if_true, x_kernelAt q r1 r2 r3, r5]
      cases hk : zwi k 0 ((K : Int) - 1) with
      | false => simp
      | true =>
        obtain ⟨h1, h2⟩ := zwi_t hk
        obtain ⟨n, rfl⟩ : ∃ n : Nat, k = (n : Int) := ⟨k.toNat, by omega⟩
        have hn : n < K := by omega
        have hn7 : n < zhN h 7 := by omega
        obtain ⟨-, c1, c2, c3, c4, -, -, -, c5, c6, -⟩ := rk.2.2.2.2.1 n hn
        simp only [if_true, x_isWithin, Bool.and_self]
        cases hb : zwi bl 1 6 with
        | false => simp [tb_f, zlet_d]
        | true =>
          cases ht : zwi th 1 16 with
          | false => simp [tb_f, tb_t, zlet_d]
          | true =>
            simp only [tb_t, if_neg (show ¬ (1 : Int) = 0 by decide), zob_n hn7, x_blocksInUnit hn7 c5 c6 c1 c2 c3 c4, ht, if_true, Bool.and_self, Int.toNat_natCast]
            by_cases hz : zbf (A 61 n) (A 62 n) th = 0
            · simp [hz, zlet_d]
            · simp only [if_neg hz, zob_0 q.N0, x_checkRoom q r]
              by_cases h12 : A 12 13 = 12
              · simp [h12]
              · have hL : L < 12 := by omega
                have hq1 : qu ≠ -1 := fun z => by rw [z] at hq; exact absurd hq (by decide)
                simp only [if_neg h12, zob_0 q.N0, q.D0_0_0, zob_0 q.N1, x_enterHost q r hL hq1]
                have n9 : L < zhN (hE h qu (zahead A qu L) (if zwi aft 0 (A 12 13 - 1) = true then aft else -1) (-1)) 9 := by rw [hE_N9, a3]; exact Nat.lt_succ_self _
                have n7 : n < zhN (hE h qu (zahead A qu L) (if zwi aft 0 (A 12 13 - 1) = true then aft else -1) (-1)) 7 := hn7
                have d0 : zhD (hE h qu (zahead A qu L) (if zwi aft 0 (A 12 13 - 1) = true then aft else -1) (-1)) 9 L 0 = (L : Int) := by
                  unfold hE
                  rw [zD_ne (by decide), zD_ne (by decide), ← a3]
                  exact hL0_9.1
                unfold La_useKernel hU
                rw [a3]
                generalize hE h qu (zahead A qu L) (if zwi aft 0 (A 12 13 - 1) = true then aft else -1) (-1) = g9 at n9 n7 d0 ⊢
                simp only [zob_n n9, zob_set, zlet_d, zD_eq, zob_n n7, Int.toNat_natCast]
                rw [zD_nj (by decide), zD_nj (by decide), zD_ne (by decide), zD_nj (by decide), d0]
theorem x_copy (q : RS h) (r : RL A h K L) {qu fr to n aft : Int} : X_copy 0 qu fr to n aft h kt kr =
    if (zwi qu 0 1 && (decide (aft = -1) || zwi aft 0 (A 12 13 - 1))) = true then
      if (zwi n 1 64 && (zwi fr 0 (64 - n) && zwi to 0 (64 - n))) = true then
        if A 12 13 = 12 then kt 2 (zthrown h)
        else kr (L : Int) (hC h qu (zahead A qu L) (if zwi aft 0 (A 12 13 - 1) = true then aft else -1) fr to n)
      else kt 1 (zthrown h)
    else kt 3 (zthrown h) := by
  obtain ⟨a1, a2, a3, a4⟩ := r.at
  unfold X_copy X_copy_44
  simp only [zob_0 q.N0, x_checkQ q r]
  cases hq : zwi qu 0 1 with
  | false => simp
  | true =>
    cases haf : (decide (aft = -1) || zwi aft 0 (A 12 13 - 1)) with
    | false => simp
    | true =>
      simp only [Bool.and_self, if_true, x_isWithin]
      cases hn : zwi n 1 64 with
      | false => simp [tb_f, zlet_d]
      | true =>
        obtain ⟨n1, n2⟩ := zwi_t hn
        have w1 : wr (64 - n) = 64 - n := wr_id (by omega) (by omega)
        simp only [tb_t, if_neg (show ¬ (1 : Int) = 0 by decide), w1]
        cases hf : zwi fr 0 (64 - n) with
        | false => simp [tb_f, zlet_d]
        | true =>
          cases ht : zwi to 0 (64 - n) with
          | false => simp [tb_f, tb_t, zlet_d]
          | true =>
            simp only [tb_t, if_neg (show ¬ (1 : Int) = 0 by decide), zob_0 q.N0, x_checkRoom q r, Bool.and_self, if_true]
            by_cases h12 : A 12 13 = 12
            · simp [h12]
            · have hL : L < 12 := by omega
              have hq1 : qu ≠ -1 := fun z => by rw [z] at hq; exact absurd hq (by decide)
              simp only [if_neg h12, zob_0 q.N0, q.D0_0_0, zob_0 q.N1, x_enterHost q r hL hq1]
              have n9 : L < zhN (hE h qu (zahead A qu L) (if zwi aft 0 (A 12 13 - 1) = true then aft else -1) (-1)) 9 := by rw [hE_N9, a3]; exact Nat.lt_succ_self _
              have d0 : zhD (hE h qu (zahead A qu L) (if zwi aft 0 (A 12 13 - 1) = true then aft else -1) (-1)) 9 L 0 = (L : Int) := by
                unfold hE
                rw [zD_ne (by decide), zD_ne (by decide), ← a3]
                exact hL0_9.1
              unfold La_useCopy hC
              rw [a3]
              generalize hE h qu (zahead A qu L) (if zwi aft 0 (A 12 13 - 1) = true then aft else -1) (-1) = g9 at n9 d0 ⊢
              simp only [zob_n n9, zob_set, zlet_d]
              rw [zD_nj (by decide), zD_nj (by decide), zD_nj (by decide), d0]
theorem mAdd_0 {qu k aft : Int} (h13 : A 12 13 = (L : Int)) : a0 A 12 13 = (L : Int) := by
  rw [a0_j (by decide), h13]
theorem m_launch (rk : RK A g K) (r : RL A g K L) {qu k bl th aft : Int} : M_launch qu k bl th aft (mh h A) kr =
    if (zwi qu 0 1 && (decide (aft = -1) || zwi aft 0 (A 12 13 - 1)) && zwi k 0 (A 12 4 - 1)) = true then
      if (zwi bl 1 6 && zwi th 1 16) = true then
        if zbf (A 61 k.toNat) (A 62 k.toNat) th = 0 then kr 0 (mh h (au A 12 0 3))
        else if A 12 13 = 12 then kr 0 (mh h (au A 12 0 4))
        else kr (L : Int) (mh h (mLaunch (a0 A) qu k bl th aft L))
      else kr 0 (mh h (au A 12 0 2))
    else kr 0 (mh h (au A 12 0 1)) := by
  obtain ⟨a1, a2, a3, a4⟩ := r.at
  obtain ⟨r1, r2, r3, r4, r5⟩ := rk.at
  have b13 : a0 A 12 13 = (L : Int) := mAdd_0 (qu := 0) (k := 0) (aft := 0) a1
  have b4 : a0 A 12 4 = (K : Int) := by rw [a0_j (by decide), r5]
  unfold M_launch
  simp only [mS12, zlet_d]
  show M_in qu 0 1 (mh h (a0 A)) _ = _
  simp only [m_in, m_noKernel (A := a0 A) (by rw [b4]; omega), m_noLaunch (A := a0 A) (by rw [b13]; omega), b13, b4, a1, r5]
  -- the four refusals
  have f1 : M_launch_37 kr qu k bl th aft (mh h (a0 A)) = kr 0 (mh h (au A 12 0 1)) := by
    simp [M_launch_37, M_launch_42, M_launch_133, m_fails1, a0_0, a0_thr]
  have f2 : M_launch_76 kr qu k bl th aft (mh h (a0 A)) = kr 0 (mh h (au A 12 0 2)) := by
    simp [M_launch_76, M_launch_81, M_launch_133, m_fails1, a0_0, a0_thr]
  have f3 : M_launch_104 kr qu k bl th aft 1 (mh h (a0 A)) = kr 0 (mh h (au A 12 0 3)) := by
    simp [M_launch_104, M_launch_133, m_fails1, a0_0, a0_thr]
  have f4 : M_launch_126 kr qu k bl th aft 1 (mh h (a0 A)) = kr 0 (mh h (au A 12 0 4)) := by
    simp [M_launch_126, M_launch_133, m_fails1, a0_0, a0_thr]
  cases hq : zwi qu 0 1 with
  | false => simp [tb_f, f1]
  | true =>
    cases hk : zwi k 0 ((K : Int) - 1) with
    | false => simp [tb_t, f1]
    | true =>
      cases haf : (decide (aft = -1) || zwi aft 0 ((L : Int) - 1)) with
      | false =>
        obtain ⟨g1, g2⟩ := Bool.or_eq_false_iff.mp haf
        have g1 : ¬ aft = -1 := of_decide_eq_false g1
        simp [tb_t, tb_f, g1, g2, f1]
      | true =>
        obtain ⟨h1, h2⟩ := zwi_t hk
        obtain ⟨n, rfl⟩ : ∃ n : Nat, k = (n : Int) := ⟨k.toNat, by omega⟩
        have hn : n < K := by omega
        obtain ⟨-, c1, c2, c3, c4, -⟩ := rk.2.2.2.2.1 n hn
        have e61 : a0 A 61 = A 61 := a0_c (by decide)
        have e62 : a0 A 62 = A 62 := a0_c (by decide)
        have key : M_launch_41 kr qu (n : Int) bl th aft (mh h (a0 A)) = if (zwi bl 1 6 && zwi th 1 16) = true then
            if zbf (A 61 n) (A 62 n) th = 0 then kr 0 (mh h (au A 12 0 3))
            else if (L : Int) = 12 then kr 0 (mh h (au A 12 0 4))
            else kr (L : Int) (mh h (mLaunch (a0 A) qu n bl th aft L))
          else kr 0 (mh h (au A 12 0 2)) := by
          unfold M_launch_41 M_launch_42
          rw [m_fails0 a0_0 (by decide), if_pos rfl]
          simp only [m_in]
          cases hb : zwi bl 1 6 with
          | false => simp [tb_f, f2]
          | true =>
            cases ht : zwi th 1 16 with
            | false => simp [tb_f, tb_t, f2]
            | true =>
              obtain ⟨t1, t2⟩ := zwi_t ht
              have hfit := fun kr9 => m_fit (ρ := ρ) (h := h) (A := a0 A) (kr := kr9) (k := n) (t := th) (by omega) t1 t2 (by rw [e61]; exact c1) (by rw [e61]; exact c2) (by rw [e62]; exact c3) (by rw [e62]; exact c4)
              rw [e61, e62] at hfit
              simp only [tb_t, if_neg (show ¬ (1 : Int) = 0 by decide)]
              unfold M_launch_81
              rw [m_fails0 a0_0 (by decide), if_pos rfl, hfit]
              by_cases hz : zbf (A 61 n) (A 62 n) th = 0
              · simp [hz, f3]
              · simp only [if_neg hz, Bool.and_self, if_true]
                unfold M_launch_104
                rw [m_fails0 a0_0 (by decide), if_pos rfl, mD12, b13]
                by_cases h12 : (L : Int) = 12
                · rw [if_pos h12, if_pos h12]
                  exact f4
                · have hL : L < 12 := by omega
                  rw [if_neg h12, if_neg h12]
                  unfold M_launch_126
                  rw [m_fails0 a0_0 (by decide), if_pos rfl, m_add hL b13]
                  simp only [zix_n hL, zix_n (show n < 4 by omega), mS72, mS73, mS64, zlet_d]
                  rfl
        rcases Bool.or_eq_true_iff.mp haf with g1 | g1
        · have g1 : aft = -1 := of_decide_eq_true g1
          simp only [tb_t, Bool.not_true, tb_f, if_neg (show ¬ (1 : Int) = 0 by decide), if_true, if_pos g1, key, Bool.and_self, Int.toNat_natCast]
        · by_cases g2 : aft = -1
          · simp only [tb_t, Bool.not_true, tb_f, if_neg (show ¬ (1 : Int) = 0 by decide), if_true, if_pos g2, key, Bool.and_self, Int.toNat_natCast]
          · simp only [tb_t, Bool.not_true, tb_f, if_neg (show ¬ (1 : Int) = 0 by decide), if_true, if_neg g2, g1, key, Bool.and_self, Int.toNat_natCast]
end
