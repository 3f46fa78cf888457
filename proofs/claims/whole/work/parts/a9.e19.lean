/-! COPY, KEPT; THE REST KEPT -/
section
variable {ρ : Type} {h g h' : zH} {A A' : zA} {kr : Int → zH → Option ρ} {kt : Nat → zH → Option ρ} {K L : Nat}
theorem RL.copy (q : RS h) (rk : RK A h K) (r : RL A h K L) (hL : L < 12) {qu fr to n aft : Int} (hq : zwi qu 0 1 = true) (ha : (decide (aft = -1) || zwi aft 0 (A 12 13 - 1)) = true) (hn : zwi n 1 64 = true) (hf : zwi fr 0 (64 - n) = true) (ht : zwi to 0 (64 - n) = true) :
    RL (mCopy (a0 A) qu fr to n aft L) (hC h qu (zahead A qu L) aft fr to n) K (L + 1) := by
  obtain ⟨a1, a2, a3, a4⟩ := r.at
  have tl := r.2.2.2.2.2 L (Nat.le_refl _) hL
  have hqu := zwi_t hq
  have hnn := zwi_t hn
  have hff := zwi_t hf
  have htt := zwi_t ht
  have haf : -1 ≤ aft ∧ aft < (L : Int) := by
    rcases Bool.or_eq_true_iff.mp ha with k | k
    · have k : aft = -1 := of_decide_eq_true k
      omega
    · have := zwi_t k
      omega
  have hzr := zahead_rng A qu L
  have hzA := zahead_a0 (A := A) (L := L) (qu := qu)
  have ec : ∀ c, c ≠ 12 → a0 A c = A c := fun c hc => a0_c hc
  obtain ⟨f0, f1, f2, f3, f4, f5, -, -, f8, f9⟩ := hL0_9 (h := h) (a := (zhN h 9 : Int)) (b := qu) (c := zahead A qu L) (d := aft) (e := -1)
  rw [a3] at f0 f1 f2 f3 f4 f5 f8 f9
  have g9 : ∀ j, zhD (hC h qu (zahead A qu L) aft fr to n) 9 L j = if j = 15 then n else if j = 14 then to else if j = 13 then fr else zhD (hL0 h (L : Int) qu (zahead A qu L) aft (-1)) 9 L j := fun j => by
    unfold hC
    rw [a3]
    simp only [zD_set, hE_9L a3, true_and]
    rw [a3]
  have g9p : ∀ l, l ≠ L → zhD (hC h qu (zahead A qu L) aft fr to n) 9 l = zhD h 9 l := fun l hl => by
    unfold hC
    rw [a3, zD_np hl, zD_np hl, zD_np hl, hE_9p a3 hl]
  have g21 : ∀ l, zhD (hC h qu (zahead A qu L) aft fr to n) 21 0 l = if l = L then (L : Int) else zhD h 21 0 l := fun l => by
    unfold hC
    rw [zD_ne (by decide), zD_ne (by decide), zD_ne (by decide), hE_21, a3]
  have g1 : zhD (hC h qu (zahead A qu L) aft fr to n) 1 0 3 = (L : Int) + 1 := by
    unfold hC
    rw [zD_ne (by decide), zD_ne (by decide), zD_ne (by decide), hE_1.1, a3]
  have gN : zhN (hC h qu (zahead A qu L) aft fr to n) 9 = L + 1 := by
    unfold hC
    rw [zN_set, zN_set, zN_set, hE_N9, a3]
  generalize hC h qu (zahead A qu L) aft fr to n = h' at g9 g9p g21 g1 gN ⊢
  refine RL.new q r hL (by simp [mCopy_k, mAdd_k]) gN g1 (fun l hl => by rw [g21, if_neg (by omega)]) (fun l hl => g9p l (by omega)) (fun c l h1 h2 hl => ?_) (fun k hk => ?_) ?_
  · have : c ≠ 12 := by omega
    simp [mCopy_k, mAdd_k, hl, ec, *]
  · refine ⟨by simp [mCopy_k, mAdd_k, ec], by simp [mCopy_k, mAdd_k, ec], fun z => ?_⟩
    simp [mCopy_k, mAdd_k, ec, z]
  · unfold RLn
    rw [g21, if_pos rfl]
    simp only [g9]
    simp [mCopy_k, mAdd_k, ec, hzA, f0, f1, f2, f3, f4, f5, f8, a3, f9, tl, zst]
    omega
theorem RK.launch (a3 : zhN h 9 = L) (rk : RK A h K) {qu bl th aft c : Int} {n : Nat} (hn : n < K) : RK (mLaunch (a0 A) qu n bl th aft L) (hU h qu c aft n bl th) K := by
  have ec : ∀ c, c ≠ 12 → a0 A c = A c := fun c hc => a0_c hc
  have e : ∀ c, 61 ≤ c → c ≤ 68 → mLaunch (a0 A) qu n bl th aft L c = au A 64 n 1 c := fun c h1 h2 => by
    funext j
    have h3 : ∀ x, (x < 61 ∨ 68 < x) → c ≠ x := fun x hx => by omega
    rw [mLaunch_k, mAdd_k, Int.toNat_natCast]
    show _ = if c = 64 ∧ j = n then 1 else A c j
    by_cases hz : c = 64 ∧ j = n
    · rw [if_pos hz, if_pos hz]
    · rw [if_neg hz, if_neg hz, if_neg (fun z => h3 73 (by decide) z.1), if_neg (fun z => h3 72 (by decide) z.1), if_neg (fun z => h3 12 (by decide) z.1), if_neg (fun z => h3 75 (by decide) z.1), if_neg (fun z => h3 76 (by decide) z.1), if_neg (fun z => h3 74 (by decide) z.1), if_neg (fun z => h3 70 (by decide) z.1), if_neg (fun z => h3 71 (by decide) z.1), if_neg (fun z => h3 69 (by decide) z.1), ec c (h3 12 (by decide))]
  have D : ∀ x, x ≠ 9 → x ≠ 34 → x ≠ 35 → x ≠ 21 → x ≠ 1 → zhD (hU h qu c aft n bl th) x = zhD (zset h 7 n 4 1) x := fun x h9 h34 h35 h21 h1 => by
    unfold hU
    rw [zD_ne h9, zD_ne h9, Int.toNat_natCast]
    funext p j
    rw [zD_set, zD_ne h9, hE_D h9 h34 h35 h21 h1, zD_set]
  refine (rk.was hn).frame ⟨?_, e 61 (by decide) (by decide), e 62 (by decide) (by decide), e 63 (by decide) (by decide), e 64 (by decide) (by decide), e 65 (by decide) (by decide), e 66 (by decide) (by decide), e 67 (by decide) (by decide), e 68 (by decide) (by decide)⟩ ?_ ?_ ?_ (D 7 (by decide) (by decide) (by decide) (by decide) (by decide)) (fun r _ => congrFun (D 8 (by decide) (by decide) (by decide) (by decide) (by decide)) r) (D 20 (by decide) (by decide) (by decide) (by decide) (by decide)) (D 33 (by decide) (by decide) (by decide) (by decide) (by decide))
  · rw [au_ne (by decide)]
    simp [mLaunch_k, mAdd_k, a0_j]
  · unfold hU
    rw [zN_set, zN_set, zN_set, zN_set, hE_N (by decide) (by decide) (by decide), zN_set]
  · unfold hU
    rw [zN_set, zN_set, zN_set, zN_set, zN_set, hE_N (by decide) (by decide) (by decide)]
    exact Nat.le_refl _
  · unfold hU
    rw [zD_ne (by decide), zD_ne (by decide), zD_ne (by decide), zD_ne (by decide), hE_1.2 2 (by decide), zD_ne (by decide)]
theorem RK.copy (a3 : zhN h 9 = L) (rk : RK A h K) {qu fr to n aft c : Int} : RK (mCopy (a0 A) qu fr to n aft L) (hC h qu c aft fr to n) K := by
  have ec : ∀ c, c ≠ 12 → a0 A c = A c := fun c hc => a0_c hc
  have e : ∀ c, 61 ≤ c → c ≤ 68 → mCopy (a0 A) qu fr to n aft L c = A c := fun c h1 h2 => by
    funext j
    have h3 : ∀ x, (x < 61 ∨ 68 < x) → c ≠ x := fun x hx => by omega
    rw [mCopy_k, mAdd_k, if_neg (fun z => h3 82 (by decide) z.1), if_neg (fun z => h3 81 (by decide) z.1), if_neg (fun z => h3 80 (by decide) z.1), if_neg (fun z => h3 12 (by decide) z.1), if_neg (fun z => h3 75 (by decide) z.1), if_neg (fun z => h3 76 (by decide) z.1), if_neg (fun z => h3 74 (by decide) z.1), if_neg (fun z => h3 70 (by decide) z.1), if_neg (fun z => h3 71 (by decide) z.1), if_neg (fun z => h3 69 (by decide) z.1), ec c (h3 12 (by decide))]
  have D : ∀ x, x ≠ 9 → x ≠ 34 → x ≠ 35 → x ≠ 21 → x ≠ 1 → zhD (hC h qu c aft fr to n) x = zhD h x := fun x h9 h34 h35 h21 h1 => by
    unfold hC
    rw [zD_ne h9, zD_ne h9, zD_ne h9, hE_D h9 h34 h35 h21 h1]
  refine rk.frame ⟨?_, e 61 (by decide) (by decide), e 62 (by decide) (by decide), e 63 (by decide) (by decide), e 64 (by decide) (by decide), e 65 (by decide) (by decide), e 66 (by decide) (by decide), e 67 (by decide) (by decide), e 68 (by decide) (by decide)⟩ ?_ ?_ ?_ (D 7 (by decide) (by decide) (by decide) (by decide) (by decide)) (fun r _ => congrFun (D 8 (by decide) (by decide) (by decide) (by decide) (by decide)) r) (D 20 (by decide) (by decide) (by decide) (by decide) (by decide)) (D 33 (by decide) (by decide) (by decide) (by decide) (by decide))
  · simp [mCopy_k, mAdd_k, a0_j]
  · unfold hC
    rw [zN_set, zN_set, zN_set, hE_N (by decide) (by decide) (by decide)]
  · unfold hC
    rw [zN_set, zN_set, zN_set, hE_N (by decide) (by decide) (by decide)]
    exact Nat.le_refl _
  · unfold hC
    rw [zD_ne (by decide), zD_ne (by decide), zD_ne (by decide), hE_1.2 2 (by decide)]
theorem RS.launch (q : RS h) {qu c aft k bl th : Int} : RS (hU h qu c aft k bl th) := ((((q.newE).set rfl).set rfl).set rfl).set rfl
theorem RS.copy (q : RS h) {qu c aft fr to n : Int} : RS (hC h qu c aft fr to n) := (((q.newE).set rfl).set rfl).set rfl
theorem RD.newE (q : RD h) {b c d e : Int} : RD (hE h b c d e) := ((q.newL).set rfl).set rfl
theorem RD.launch (q : RD h) {qu c aft k bl th : Int} : RD (hU h qu c aft k bl th) := ((((q.newE).set rfl).set rfl).set rfl).set rfl
theorem RD.copy (q : RD h) {qu c aft fr to n : Int} : RD (hC h qu c aft fr to n) := (((q.newE).set rfl).set rfl).set rfl
/-- what RM reads -/
theorem RM.frame (m : RM A h) (h60 : A' 60 = A 60) (h12 : ∀ j, (1 ≤ j ∧ j ≤ 2 ∨ 54 ≤ j ∧ j ≤ 61) → A' 12 j = A 12 j) (h22 : zhD h' 22 = zhD h 22) (h2 : zhD h' 2 = zhD h 2) (h4 : zhD h' 4 = zhD h 4) : RM A' h' := by
  unfold RM
  rw [h60, h22, h2, h4, h12 1 (by decide), h12 2 (by decide), h12 54 (by decide), h12 55 (by decide), h12 56 (by decide), h12 57 (by decide), h12 58 (by decide), h12 59 (by decide), h12 60 (by decide), h12 61 (by decide)]
  exact m
theorem RM.launch (m : RM A h) {qu bl th aft c : Int} {n : Nat} : RM (mLaunch (a0 A) qu n bl th aft L) (hU h qu c aft n bl th) := by
  refine m.frame ?_ (fun j hj => ?_) ?_ ?_ ?_
  · funext j
    simp [mLaunch_k, mAdd_k, a0_c]
  · have h13 : j ≠ 13 := by omega
    have h0 : j ≠ 0 := by omega
    simp [mLaunch_k, mAdd_k, h13, a0_j h0]
  all_goals
    unfold hU
    rw [zD_ne (by decide), zD_ne (by decide), zD_ne (by decide), zD_ne (by decide), hE_D (by decide) (by decide) (by decide) (by decide) (by decide)]
theorem RM.copy (m : RM A h) {qu fr to n aft c : Int} : RM (mCopy (a0 A) qu fr to n aft L) (hC h qu c aft fr to n) := by
  refine m.frame ?_ (fun j hj => ?_) ?_ ?_ ?_
  · funext j
    simp [mCopy_k, mAdd_k, a0_c]
  · have h13 : j ≠ 13 := by omega
    have h0 : j ≠ 0 := by omega
    simp [mCopy_k, mAdd_k, h13, a0_j h0]
  all_goals
    unfold hC
    rw [zD_ne (by decide), zD_ne (by decide), zD_ne (by decide), hE_D (by decide) (by decide) (by decide) (by decide) (by decide)]
theorem RM.thr (m : RM A h) {e : Int} : RM (au A 12 0 e) (zthrown h) := m.frame (au_ne (by decide)) (fun j hj => by rw [au_j, if_neg (by omega)]) rfl rfl rfl
theorem RM.poke (m : RM A h) {a v : Int} (ha : zwi a 0 63 = true) : RM (au (a0 A) 60 a.toNat v) (zset h 22 0 a.toNat v) := by
  obtain ⟨m1, m2⟩ := m
  refine ⟨fun j hj => ?_, ?_⟩
  · rw [zD_set, au_j, a0_c (by decide)]
    have := m1 j hj
    by_cases hz : j = a.toNat
    · rw [if_pos ⟨rfl, rfl, hz⟩, if_pos hz]
    · rw [if_neg (fun z => hz z.2.2), if_neg hz, this]
  · rw [zD_ne (by decide), zD_ne (by decide), au_ne (by decide)]
    simp only [a0_j (show 1 ≠ 0 by decide), a0_j (show 2 ≠ 0 by decide), a0_j (show 54 ≠ 0 by decide), a0_j (show 55 ≠ 0 by decide), a0_j (show 56 ≠ 0 by decide), a0_j (show 57 ≠ 0 by decide), a0_j (show 58 ≠ 0 by decide), a0_j (show 59 ≠ 0 by decide), a0_j (show 60 ≠ 0 by decide), a0_j (show 61 ≠ 0 by decide)]
    exact m2
theorem m_copy (rk : RK A g K) (r : RL A g K L) {qu fr to n aft : Int} : M_copy qu fr to n aft (mh h A) kr =
    if (zwi qu 0 1 && (decide (aft = -1) || zwi aft 0 (A 12 13 - 1))) = true then
      if (zwi n 1 64 && (zwi fr 0 (64 - n) && zwi to 0 (64 - n))) = true then
        if A 12 13 = 12 then kr 0 (mh h (au A 12 0 3))
        else kr (L : Int) (mh h (mCopy (a0 A) qu fr to n aft L))
      else kr 0 (mh h (au A 12 0 2))
    else kr 0 (mh h (au A 12 0 1)) := by
  obtain ⟨a1, a2, a3, a4⟩ := r.at
  have b13 : a0 A 12 13 = (L : Int) := by rw [a0_j (by decide), a1]
  unfold M_copy
  simp only [mS12, zlet_d]
  show M_in qu 0 1 (mh h (a0 A)) _ = _
  simp only [m_in, m_noLaunch (A := a0 A) (by rw [b13]; omega), b13, a1]
  have f1 : M_copy_29 kr qu fr to n aft (mh h (a0 A)) = kr 0 (mh h (au A 12 0 1)) := by
    unfold M_copy_29 M_copy_34
    rw [m_in]
    have e : ∀ t, M_copy_84 kr qu fr to n aft 1 t (mh h (a0 A)) = kr 0 (mh h (au A 12 0 1)) := fun t => by
      simp [M_copy_84, M_copy_128, m_fails1, a0_0, a0_thr]
    have e1 : M_copy_79 kr qu fr to n aft 1 (mh h (a0 A)) = kr 0 (mh h (au A 12 0 1)) := e 1
    simp only [m_noCell, e, e1, ite_self]
  have key : M_copy_33 kr qu fr to n aft (mh h (a0 A)) = if (zwi n 1 64 && (zwi fr 0 (64 - n) && zwi to 0 (64 - n))) = true then
        if (L : Int) = 12 then kr 0 (mh h (au A 12 0 3))
        else kr (L : Int) (mh h (mCopy (a0 A) qu fr to n aft L))
      else kr 0 (mh h (au A 12 0 2)) := by
    unfold M_copy_33 M_copy_34
    have f2 : M_copy_79 kr qu fr to n aft 0 (mh h (a0 A)) = kr 0 (mh h (au A 12 0 2)) := by
      simp [M_copy_79, M_copy_84, M_copy_128, m_fails0, m_fails1, a0_0, a0_thr]
    have f3 : M_copy_84 kr qu fr to n aft 0 0 (mh h (a0 A)) = if (L : Int) = 12 then kr 0 (mh h (au A 12 0 3)) else kr (L : Int) (mh h (mCopy (a0 A) qu fr to n aft L)) := by
      unfold M_copy_84
      rw [m_fails0 a0_0 (by decide), if_pos rfl, m_fails0 a0_0 (by decide), if_pos rfl, mD12, b13]
      unfold M_copy_121 M_copy_128
      by_cases h12 : (L : Int) = 12
      · rw [if_pos h12, if_pos h12, m_fails1 a0_0 (by decide), if_neg (by decide), a0_thr]
      · have hL : L < 12 := by omega
        rw [if_neg h12, if_neg h12, m_fails0 a0_0 (by decide), if_pos rfl, m_add hL b13]
        simp only [zix_n hL, mS80, mS81, mS82, zlet_d]
        rfl
    rw [m_in]
    simp only [m_noCell, f2, f3]
    cases hn : zwi n 1 64 with
    | false => simp [tb_f]
    | true =>
      obtain ⟨n1, n2⟩ := zwi_t hn
      cases hf : zwi fr 0 63 with
      | false =>
        have : zwi fr 0 (64 - n) = false := by
          rcases zwi_f hf with k | k
          · unfold zwi
            rw [decide_eq_false (by omega)]
            rfl
          · unfold zwi
            rw [decide_eq_false (show ¬ fr ≤ 64 - n by omega), Bool.and_false]
        simp [tb_t, this]
      | true =>
        obtain ⟨g1, g2⟩ := zwi_t hf
        have z1 : zwi fr 0 (64 - n) = decide (fr ≤ 64 - n) := by unfold zwi; rw [decide_eq_true g1]; rfl
        have w1 : wr (fr + n) = fr + n := wr_id (by omega) (by omega)
        cases ht : zwi to 0 63 with
        | false =>
          have : zwi to 0 (64 - n) = false := by
            rcases zwi_f ht with k | k
            · unfold zwi
              rw [decide_eq_false (by omega)]
              rfl
            · unfold zwi
              rw [decide_eq_false (show ¬ to ≤ 64 - n by omega), Bool.and_false]
          simp [tb_t, tb_f, this]
        | true =>
          obtain ⟨g3, g4⟩ := zwi_t ht
          have z2 : zwi to 0 (64 - n) = decide (to ≤ 64 - n) := by unfold zwi; rw [decide_eq_true g3]; rfl
          have w2 : wr (to + n) = to + n := wr_id (by omega) (by omega)
          rw [z1, z2]
          simp only [tb_t, tb_f, Bool.not_true, if_neg (show ¬ (1 : Int) = 0 by decide), if_true, w1, w2, Bool.true_and]
          by_cases h1 : 64 < fr + n
          · rw [if_pos h1, decide_eq_false (show ¬ fr ≤ 64 - n by omega)]
            simp
          · rw [if_neg h1, decide_eq_true (show fr ≤ 64 - n by omega)]
            by_cases h2 : 64 < to + n
            · rw [if_pos h2, decide_eq_false (show ¬ to ≤ 64 - n by omega)]
              simp
            · rw [if_neg h2, decide_eq_true (show to ≤ 64 - n by omega)]
              simp
  cases hq : zwi qu 0 1 with
  | false => simp [tb_f, f1]
  | true =>
    cases haf : (decide (aft = -1) || zwi aft 0 ((L : Int) - 1)) with
    | false =>
      obtain ⟨g1, g2⟩ := Bool.or_eq_false_iff.mp haf
      have g1 : ¬ aft = -1 := of_decide_eq_false g1
      simp [tb_t, g1, g2, f1]
    | true =>
      rcases Bool.or_eq_true_iff.mp haf with g1 | g1
      · have g1 : aft = -1 := of_decide_eq_true g1
        simp only [tb_t, if_neg (show ¬ (1 : Int) = 0 by decide), if_true, if_pos g1, key, Bool.and_self]
      · by_cases g2 : aft = -1
        · simp only [tb_t, if_neg (show ¬ (1 : Int) = 0 by decide), if_true, if_pos g2, key, Bool.and_self]
        · simp only [tb_t, Bool.not_true, tb_f, if_neg (show ¬ (1 : Int) = 0 by decide), if_true, if_neg g2, g1, key, Bool.and_self]
end
