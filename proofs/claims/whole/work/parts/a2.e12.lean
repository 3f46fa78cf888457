/-! THE MODEL: what is asked of launches -/
section
variable {ρ : Type} {h g : zH} {A : zA} {kr : Int → zH → Option ρ} {kt : Nat → zH → Option ρ} {K L : Nat}
theorem m_state (r : RL A g K L) {l : Int} : M_state l (mh h A) kr = if zwi l 0 (A 12 13 - 1) = true then kr (A 69 l.toNat) (mh h (a0 A)) else kr 0 (mh h (au A 12 0 1)) := by
  unfold M_state M_state_28
  obtain ⟨a1, a2, a3, a4⟩ := r.at
  simp only [mS12, zlet_d]
  show M_noLaunch l (mh h (a0 A)) _ = _
  rw [m_noLaunch (by rw [a0_j (by decide)]; omega), a0_j (by decide)]
  cases hz : zwi l 0 (A 12 13 - 1) with
  | false => simp [tb_t, m_fails1, a0_0, a0_thr, znar_0, znar_c (show (0 : Int) ≤ 0 ∧ (0 : Int) < 65536 by decide)]
  | true =>
    obtain ⟨h1, h2⟩ := zwi_t hz
    obtain ⟨n, rfl⟩ : ∃ n : Nat, l = (n : Int) := ⟨l.toNat, by omega⟩
    have hn : n < 12 := by omega
    have ec : ∀ c, c ≠ 12 → a0 A c = A c := fun c hc => a0_c hc
    obtain ⟨-, -, -, -, -, -, -, -, ⟨-, e2⟩, -⟩ := r.l (show n < L by omega)
    simp [tb_f, m_fails0, a0_0, zix_n hn, mD69, ec, znar_c (zst_rng e2)]
theorem m_given (r : RL A g K L) {l : Int} : M_given l (mh h A) kr = if zwi l 0 (A 12 13 - 1) = true then kr (A 78 l.toNat) (mh h (a0 A)) else kr 0 (mh h (au A 12 0 1)) := by
  unfold M_given M_given_28
  obtain ⟨a1, a2, a3, a4⟩ := r.at
  simp only [mS12, zlet_d]
  show M_noLaunch l (mh h (a0 A)) _ = _
  rw [m_noLaunch (by rw [a0_j (by decide)]; omega), a0_j (by decide)]
  cases hz : zwi l 0 (A 12 13 - 1) with
  | false => simp [tb_t, m_fails1, a0_0, a0_thr, znar_0, znar_c (show (0 : Int) ≤ 0 ∧ (0 : Int) < 65536 by decide)]
  | true =>
    obtain ⟨h1, h2⟩ := zwi_t hz
    obtain ⟨n, rfl⟩ : ∃ n : Nat, l = (n : Int) := ⟨l.toNat, by omega⟩
    have hn : n < 12 := by omega
    have ec : ∀ c, c ≠ 12 → a0 A c = A c := fun c hc => a0_c hc
    simp [tb_f, m_fails0, a0_0, zix_n hn, mD78, ec]
theorem m_parent (r : RL A g K L) {l : Int} : M_parent l (mh h A) kr = if zwi l 0 (A 12 13 - 1) = true then (if A 76 l.toNat = -1 then kr 0 (mh h (au A 12 0 2)) else kr (A 76 l.toNat) (mh h (a0 A))) else kr 0 (mh h (au A 12 0 1)) := by
  unfold M_parent M_parent_34 M_parent_41 M_parent_51
  obtain ⟨a1, a2, a3, a4⟩ := r.at
  simp only [mS12, zlet_d]
  show M_noLaunch l (mh h (a0 A)) _ = _
  rw [m_noLaunch (by rw [a0_j (by decide)]; omega), a0_j (by decide)]
  cases hz : zwi l 0 (A 12 13 - 1) with
  | false => simp [tb_t, m_fails1, a0_0, a0_thr, znar_0, znar_c (show (0 : Int) ≤ 0 ∧ (0 : Int) < 65536 by decide)]
  | true =>
    obtain ⟨h1, h2⟩ := zwi_t hz
    obtain ⟨n, rfl⟩ : ∃ n : Nat, l = (n : Int) := ⟨l.toNat, by omega⟩
    have hn : n < 12 := by omega
    have ec : ∀ c, c ≠ 12 → a0 A c = A c := fun c hc => a0_c hc
    by_cases hp : A 76 n = -1
    · simp [tb_f, m_fails0, m_fails1, a0_0, a0_thr, zix_n hn, mD76, ec, hp]
    · simp [tb_f, m_fails0, m_fails1, a0_0, a0_thr, zix_n hn, mD76, ec, hp]
theorem m_fault (r : RL A g K L) {l : Int} : M_fault l (mh h A) kr = if zwi l 0 (A 12 13 - 1) = true then (if A 69 l.toNat = 102 then kr (A 84 l.toNat) (mh h (a0 A)) else kr 0 (mh h (au A 12 0 2))) else kr 0 (mh h (au A 12 0 1)) := by
  unfold M_fault M_fault_35 M_fault_42 M_fault_52
  obtain ⟨a1, a2, a3, a4⟩ := r.at
  simp only [mS12, zlet_d]
  show M_noLaunch l (mh h (a0 A)) _ = _
  rw [m_noLaunch (by rw [a0_j (by decide)]; omega), a0_j (by decide)]
  cases hz : zwi l 0 (A 12 13 - 1) with
  | false => simp [tb_t, m_fails1, a0_0, a0_thr, znar_0, znar_c (show (0 : Int) ≤ 0 ∧ (0 : Int) < 65536 by decide)]
  | true =>
    obtain ⟨h1, h2⟩ := zwi_t hz
    obtain ⟨n, rfl⟩ : ∃ n : Nat, l = (n : Int) := ⟨l.toNat, by omega⟩
    have hn : n < 12 := by omega
    have ec : ∀ c, c ≠ 12 → a0 A c = A c := fun c hc => a0_c hc
    obtain ⟨-, -, -, -, -, -, -, -, -, e0, -⟩ := r.l (show n < L by omega)
    by_cases hp : A 69 n = 102
    · have e3 := (e0 hp).2.2
      simp [tb_f, m_fails0, m_fails1, a0_0, a0_thr, zix_n hn, mD69, mD84, ec, hp, znar_c e3]
    · simp [tb_f, m_fails0, m_fails1, a0_0, a0_thr, zix_n hn, mD69, ec, hp, znar_c (show (0 : Int) ≤ 0 ∧ (0 : Int) < 65536 by decide)]
theorem m_faultAt (r : RL A g K L) {l : Int} : M_faultAt l (mh h A) kr = if zwi l 0 (A 12 13 - 1) = true then (if A 69 l.toNat = 102 then kr (A 85 l.toNat) (mh h (a0 A)) else kr 0 (mh h (au A 12 0 2))) else kr 0 (mh h (au A 12 0 1)) := by
  unfold M_faultAt M_faultAt_35 M_faultAt_42 M_faultAt_52
  obtain ⟨a1, a2, a3, a4⟩ := r.at
  simp only [mS12, zlet_d]
  show M_noLaunch l (mh h (a0 A)) _ = _
  rw [m_noLaunch (by rw [a0_j (by decide)]; omega), a0_j (by decide)]
  cases hz : zwi l 0 (A 12 13 - 1) with
  | false => simp [tb_t, m_fails1, a0_0, a0_thr, znar_0, znar_c (show (0 : Int) ≤ 0 ∧ (0 : Int) < 65536 by decide)]
  | true =>
    obtain ⟨h1, h2⟩ := zwi_t hz
    obtain ⟨n, rfl⟩ : ∃ n : Nat, l = (n : Int) := ⟨l.toNat, by omega⟩
    have hn : n < 12 := by omega
    have ec : ∀ c, c ≠ 12 → a0 A c = A c := fun c hc => a0_c hc
    obtain ⟨-, -, -, -, -, -, -, -, -, e0, -⟩ := r.l (show n < L by omega)
    by_cases hp : A 69 n = 102
    · have e3 := (e0 hp).2.2
      simp [tb_f, m_fails0, m_fails1, a0_0, a0_thr, zix_n hn, mD69, mD85, ec, hp, znar_c e3]
    · simp [tb_f, m_fails0, m_fails1, a0_0, a0_thr, zix_n hn, mD69, ec, hp, znar_c (show (0 : Int) ≤ 0 ∧ (0 : Int) < 65536 by decide)]
theorem m_launches : M_launches (mh h A) kr = kr (A 12 13) (mh h (a0 A)) := by
  unfold M_launches
  simp only [mS12, zlet_d, mD12]
  show kr (a0 A 12 13) (mh h (a0 A)) = _
  rw [a0_j (by decide)]
theorem m_cycle : M_cycle (mh h A) kr = kr (A 12 1) (mh h (a0 A)) := by
  unfold M_cycle
  simp only [mS12, zlet_d, mD12]
  show kr (a0 A 12 1) (mh h (a0 A)) = _
  rw [a0_j (by decide)]
theorem m_lanes : M_lanes (mh h A) kr = kr (A 12 54) (mh h (a0 A)) := by
  unfold M_lanes
  simp only [mS12, zlet_d, mD12]
  show kr (a0 A 12 54) (mh h (a0 A)) = _
  rw [a0_j (by decide)]
theorem m_misses : M_misses (mh h A) kr = kr (A 12 58) (mh h (a0 A)) := by
  unfold M_misses
  simp only [mS12, zlet_d, mD12]
  show kr (a0 A 12 58) (mh h (a0 A)) = _
  rw [a0_j (by decide)]
theorem m_lost : M_lost (mh h A) kr = kr (A 12 59) (mh h (a0 A)) := by
  unfold M_lost
  simp only [mS12, zlet_d, mD12]
  show kr (a0 A 12 59) (mh h (a0 A)) = _
  rw [a0_j (by decide)]
theorem m_barriers : M_barriers (mh h A) kr = kr (A 12 60) (mh h (a0 A)) := by
  unfold M_barriers
  simp only [mS12, zlet_d, mD12]
  show kr (a0 A 12 60) (mh h (a0 A)) = _
  rw [a0_j (by decide)]
theorem m_refused : M_refused (mh h A) kr = kr (A 12 61) (mh h (a0 A)) := by
  unfold M_refused
  simp only [mS12, zlet_d, mD12]
  show kr (a0 A 12 61) (mh h (a0 A)) = _
  rw [a0_j (by decide)]
theorem m_isSound : M_isSound (mh h A) kr = kr 1 (mh h (a0 A)) := by
  unfold M_isSound
  simp only [mS12, zlet_d]
  first | rfl | exact znar_1
theorem m_setOrder {c : Int} (hA : A 12 2 = 111 ∨ A 12 2 = 121 ∨ A 12 2 = 97) : M_setOrder c (mh h A) kr = if c = 111 ∨ c = 121 ∨ c = 97 then kr (A 12 2) (mh h (au (a0 A) 12 2 c)) else kr 0 (mh h (au A 12 0 1)) := by
  unfold M_setOrder M_setOrder_28 M_setOrder_29
  simp only [mS12, zlet_d]
  show (if c = 111 then M_fails 0 1 (mh h (a0 A)) _ else _) = _
  have hr : 0 ≤ A 12 2 ∧ A 12 2 < 65536 := by omega
  by_cases hc : c = 111 ∨ c = 121 ∨ c = 97
  · have hc2 : 0 ≤ c ∧ c < 65536 := by omega
    have e : M_fails 0 1 (mh h (a0 A)) (fun v1 h2 => if v1 = 0 then znar 2 c fun x3 => znar 2 (zhD h2 12 0 2) fun x5 => kr x5 (zset h2 12 0 2 x3) else kr 0 h2) = kr (A 12 2) (mh h (au (a0 A) 12 2 c)) := by
      rw [m_fails0 a0_0 (by decide)]
      simp [znar_c hc2, mD12, a0_j, znar_c hr, mS12]
    rw [if_pos hc]
    rcases hc with rfl | rfl | rfl
    · rw [if_pos rfl]
      exact e
    · rw [if_neg (by decide), if_pos rfl]
      exact e
    · rw [if_neg (by decide), if_neg (by decide), if_pos rfl]
      exact e
  · have n1 : c ≠ 111 := by omega
    have n2 : c ≠ 121 := by omega
    have n3 : c ≠ 97 := by omega
    rw [if_neg hc, if_neg n1, if_neg n2, if_neg n3]
    show M_fails 1 1 (mh h (a0 A)) _ = _
    rw [m_fails1 a0_0 (by decide), a0_thr]
    rfl
theorem x_setOrder (q : RS h) {c : Int} (hA : zhD h 2 0 5 = 111 ∨ zhD h 2 0 5 = 121 ∨ zhD h 2 0 5 = 97) : X_setOrder 0 c h kt kr = if c = 111 ∨ c = 121 ∨ c = 97 then kr (zhD h 2 0 5) (zset h 2 0 5 c) else kt 1 (zthrown h) := by
  unfold X_setOrder X_setOrder_26
  have hr : 0 ≤ zhD h 2 0 5 ∧ zhD h 2 0 5 < 65536 := by omega
  by_cases hc : c = 111 ∨ c = 121 ∨ c = 97
  · have hc2 : 0 ≤ c ∧ c < 65536 := by omega
    rw [if_pos hc]
    rcases hc with rfl | rfl | rfl <;> simp [zob_0 q.N0, q.D0_0_1, zob_0 q.N2, zlet_d, znar_c hr, znar_c hc2]
  · have n1 : c ≠ 111 := by omega
    have n2 : c ≠ 121 := by omega
    have n3 : c ≠ 97 := by omega
    simp [n1, n2, n3, zlet_d]
theorem x_cycle (q : RS h) : X_cycle 0 h kr = kr (zhD h 2 0 4) h := by
  unfold X_cycle
  simp [zob_0 q.N0, q.D0_0_1, zob_0 q.N2, q.D2_0_3, zob_0 q.N4]
theorem x_lanes (q : RS h) : X_lanes 0 h kr = kr (zhD h 4 0 1) h := by
  unfold X_lanes
  simp [zob_0 q.N0, q.D0_0_1, zob_0 q.N2, q.D2_0_3, zob_0 q.N4]
theorem x_misses (q : RS h) : X_misses 0 h kr = kr (zhD h 4 0 4) h := by
  unfold X_misses
  simp [zob_0 q.N0, q.D0_0_1, zob_0 q.N2, q.D2_0_3, zob_0 q.N4]
theorem x_lost (q : RS h) : X_lost 0 h kr = kr (zhD h 4 0 5) h := by
  unfold X_lost
  simp [zob_0 q.N0, q.D0_0_1, zob_0 q.N2, q.D2_0_3, zob_0 q.N4]
theorem x_barriers (q : RS h) : X_barriers 0 h kr = kr (zhD h 4 0 6) h := by
  unfold X_barriers
  simp [zob_0 q.N0, q.D0_0_1, zob_0 q.N2, q.D2_0_3, zob_0 q.N4]
theorem x_refused (q : RS h) : X_refused 0 h kr = kr (zhD h 4 0 7) h := by
  unfold X_refused
  simp [zob_0 q.N0, q.D0_0_1, zob_0 q.N2, q.D2_0_3, zob_0 q.N4]
end
