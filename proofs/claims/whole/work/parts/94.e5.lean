/-! KERNELS -/
/-- how many blocks fit -/
def zbf (regs sh t : Int) : Int := let n := if Int.tdiv 4 (Int.tdiv (t + 3) 4) < Int.tdiv 64 (t * regs) then Int.tdiv 4 (Int.tdiv (t + 3) 4) else Int.tdiv 64 (t * regs)
  if sh = 0 then n else if n < Int.tdiv 32 sh then n else Int.tdiv 32 sh
theorem ztd_b {a b : Int} (ha : 0 ≤ a) (hb : 0 ≤ b) : 0 ≤ Int.tdiv a b ∧ Int.tdiv a b ≤ a := by
  rw [Int.tdiv_eq_ediv_of_nonneg ha]
  exact ⟨Int.ediv_nonneg ha hb, Int.ediv_le_self _ ha⟩
section
variable {ρ : Type} {h : zH} {A : zA} {kr : Int → zH → Option ρ} {kt : Nat → zH → Option ρ} {K : Nat}
theorem zgroups {t : Int} (h1 : 1 ≤ t) (h2 : t ≤ 16) : wr (Int.tdiv (wr (wr (t + 4) - 1)) 4) = Int.tdiv (t + 3) 4 ∧ 1 ≤ Int.tdiv (t + 3) 4 ∧ Int.tdiv (t + 3) 4 ≤ 4 := by
  rw [wr_id (x := t + 4) (by omega) (by omega), wr_id (x := t + 4 - 1) (by omega) (by omega), show t + 4 - 1 = t + 3 by omega, Int.tdiv_eq_ediv_of_nonneg (by omega)]
  exact ⟨wr_id (by omega) (by omega), by omega, by omega⟩
theorem m_groupsFor {t : Int} (h1 : 1 ≤ t) (h2 : t ≤ 16) : M_groupsFor t h kr = kr (Int.tdiv (t + 3) 4) h := by
  unfold M_groupsFor
  rw [(zgroups h1 h2).1]
theorem x_groupsFor {t : Int} (h1 : 1 ≤ t) (h2 : t ≤ 16) : X_groupsFor t h kr = kr (Int.tdiv (t + 3) 4) h := by
  unfold X_groupsFor
  rw [(zgroups h1 h2).1]
theorem m_least {a b : Int} : M_least a b h kr = kr (if a < b then a else b) h := by
  unfold M_least M_least_10
  split <;> rfl
theorem ma_min {a b : Int} : Ma_min a b h kr = kr (if a < b then a else b) h := by
  unfold Ma_min Ma_min_10
  by_cases h1 : b < a
  · rw [if_pos h1, if_neg (by omega)]
  · rw [if_neg h1]
    by_cases h2 : a < b
    · rw [if_pos h2]
    · rw [if_neg h2, show a = b by omega]
theorem zmulb {t r : Int} (h1 : 1 ≤ t) (h2 : t ≤ 16) (h3 : 1 ≤ r) (h4 : r ≤ 8) : 1 ≤ t * r ∧ t * r ≤ 128 := by
  have a1 : 1 * 1 ≤ t * r := Int.mul_le_mul h1 h3 (by omega) (by omega)
  have a2 : t * r ≤ 16 * 8 := Int.mul_le_mul h2 h4 (by omega) (by omega)
  omega
/-- the arithmetic of blocks in a unit -/
theorem zbf_wr {t r s : Int} (h1 : 1 ≤ t) (h2 : t ≤ 16) (h3 : 1 ≤ r) (h4 : r ≤ 8) (h5 : 0 ≤ s) (h6 : s ≤ 16) : wr (t * r) = t * r ∧ t * r ≠ 0 ∧ wr (Int.tdiv 4 (Int.tdiv (t + 3) 4)) = Int.tdiv 4 (Int.tdiv (t + 3) 4) ∧ wr (Int.tdiv 64 (t * r)) = Int.tdiv 64 (t * r) ∧ wr (Int.tdiv 32 s) = Int.tdiv 32 s := by
  have hm := zmulb h1 h2 h3 h4
  have hg := zgroups h1 h2
  have d1 := ztd_b (a := 4) (b := Int.tdiv (t + 3) 4) (by omega) (by omega)
  have d2 := ztd_b (a := 64) (b := t * r) (by omega) (by omega)
  have d3 := ztd_b (a := 32) (b := s) (by omega) (by omega)
  exact ⟨wr_id (by omega) (by omega), by omega, wr_id (by omega) (by omega), wr_id (by omega) (by omega), wr_id (by omega) (by omega)⟩
theorem m_fit {k : Nat} {t : Int} (hk : k < 4) (h1 : 1 ≤ t) (h2 : t ≤ 16) (h3 : 1 ≤ A 61 k) (h4 : A 61 k ≤ 8) (h5 : 0 ≤ A 62 k) (h6 : A 62 k ≤ 16) : M_fit (k : Int) t (mh h A) kr = kr (zbf (A 61 k) (A 62 k) t) (mh h A) := by
  obtain ⟨w1, w2, w3, w4, w5⟩ := zbf_wr h1 h2 h3 h4 h5 h6
  have hg := zgroups h1 h2
  have hg0 : Int.tdiv (t + 3) 4 ≠ 0 := by omega
  unfold M_fit M_fit_47
  rw [m_groupsFor h1 h2]
  by_cases hs : A 62 k = 0
  · simp [zix_n hk, mD61, mD62, w1, w2, w3, w4, m_least, hs, hg0, zbf]
  · simp [zix_n hk, mD61, mD62, w1, w2, w3, w4, w5, m_least, hs, hg0, zbf]
theorem x_blocksInUnit {k : Nat} {t r s : Int} (hk : k < zhN h 7) (e1 : zhD h 7 k 0 = r) (e2 : zhD h 7 k 1 = s) (h3 : 1 ≤ r) (h4 : r ≤ 8) (h5 : 0 ≤ s) (h6 : s ≤ 16) : Ke_blocksInUnit (k : Int) t h kr = kr (if zwi t 1 16 = true then zbf r s t else 0) h := by
  unfold Ke_blocksInUnit Ke_blocksInUnit_18 Ke_blocksInUnit_62
  rw [x_isWithin]
  cases hz : zwi t 1 16 with
  | false => simp [tb_f]
  | true =>
    obtain ⟨h1, h2⟩ := zwi_t hz
    obtain ⟨w1, w2, w3, w4, w5⟩ := zbf_wr h1 h2 h3 h4 h5 h6
    have hg := zgroups h1 h2
    have hg0 : Int.tdiv (t + 3) 4 ≠ 0 := by omega
    have hr : ¬ r < 1 := by omega
    by_cases hs : s = 0
    · simp [tb_t, zob_n hk, e1, e2, hr, x_groupsFor h1 h2, w1, w2, w3, w4, ma_min, hs, hg0, zbf]
    · have hs1 : ¬ s < 1 := by omega
      simp [tb_t, zob_n hk, e1, e2, hr, x_groupsFor h1 h2, w1, w2, w3, w4, w5, ma_min, hs, hs1, hg0, zbf]
/-- a kernel by its number -/
theorem x_kernelOf (q : RS h) (hK : zhD h 1 0 2 = (K : Int)) (hK4 : K ≤ 4) (hk : ∀ k : Nat, k < K → zhD h 20 0 k = (k : Int)) {k : Int} : Le_kernelOf 0 k h kr = kr (if zwi k 0 ((K : Int) - 1) = true then k else -1) h := by
  unfold Le_kernelOf Le_kernelOf_24
  have w1 : wr ((K : Int) - 1) = (K : Int) - 1 := wr_id (by omega) (by omega)
  cases hz : zwi k 0 ((K : Int) - 1) with
  | false => simp [zob_0 q.N1, hK, w1, x_isWithin, hz, tb_f]
  | true =>
    obtain ⟨h1, h2⟩ := zwi_t hz
    have z1 : ∀ kk : Nat → Option ρ, zix 4 k kk = kk k.toNat := fun kk => zix_i (by omega) (by omega)
    have e1 := hk k.toNat (by omega)
    have e2 : ((k.toNat : Nat) : Int) = k := by omega
    simp [zob_0 q.N1, zob_0 q.N20, hK, w1, x_isWithin, hz, tb_t, q.D1_0_0, q.L20_0, z1, e1, e2]
theorem x_kernelAt (q : RS h) (hK : zhD h 1 0 2 = (K : Int)) (hK4 : K ≤ 4) (hk : ∀ k : Nat, k < K → zhD h 20 0 k = (k : Int)) {k : Int} : X_kernelAt 0 k h kt kr = if zwi k 0 ((K : Int) - 1) = true then kr k h else kt 3 (zthrown h) := by
  unfold X_kernelAt
  simp only [zob_0 q.N0, q.D0_0_0, zob_0 q.N1]
  rw [x_kernelOf q hK hK4 hk]
  cases hz : zwi k 0 ((K : Int) - 1) with
  | false => simp [zlet_d]
  | true =>
    obtain ⟨h1, h2⟩ := zwi_t hz
    have : ¬ k < 0 := by omega
    simp [this]
theorem RK.at (hR : RK A h K) : zhD h 1 0 2 = (K : Int) ∧ K ≤ 4 ∧ (∀ k : Nat, k < K → zhD h 20 0 k = (k : Int)) ∧ zhN h 7 = K ∧ A 12 4 = (K : Int) := ⟨hR.2.2.2.1, hR.2.1, fun k hk => (hR.2.2.2.2.1 k hk).1, hR.2.2.1, hR.1⟩
theorem x_fits (q : RS h) (hR : RK A h K) {k t : Int} : X_fits 0 k t h kt kr = if zwi k 0 (A 12 4 - 1) = true then (if zwi t 1 16 = true then kr (zbf (A 61 k.toNat) (A 62 k.toNat) t) h else kt 1 (zthrown h)) else kt 3 (zthrown h) := by
  obtain ⟨r1, r2, r3, r4, r5⟩ := hR.at
  unfold X_fits
  simp only [zob_0 q.N0]
  rw [x_kernelAt q r1 r2 r3, r5]
  cases hz : zwi k 0 ((K : Int) - 1) with
  | false => simp
  | true =>
    obtain ⟨h1, h2⟩ := zwi_t hz
    obtain ⟨n, rfl⟩ : ∃ n : Nat, k = (n : Int) := ⟨k.toNat, by omega⟩
    have hn : n < K := by omega
    obtain ⟨-, c1, c2, c3, c4, -, -, -, c5, c6, -⟩ := hR.2.2.2.2.1 n hn
    cases ht : zwi t 1 16 with
    | false => simp [x_isWithin, ht, tb_f, zlet_d]
    | true => simp [x_isWithin, ht, tb_t, zob_n (show n < zhN h 7 by omega), x_blocksInUnit (show n < zhN h 7 by omega) c5 c6 c1 c2 c3 c4]
theorem m_fits (hK : A 12 4 = (K : Int)) (hK4 : K ≤ 4) (hk : ∀ k : Nat, k < K → 1 ≤ A 61 k ∧ A 61 k ≤ 8 ∧ 0 ≤ A 62 k ∧ A 62 k ≤ 16) {k t : Int} : M_fits k t (mh h A) kr = if zwi k 0 (A 12 4 - 1) = true then (if zwi t 1 16 = true then kr (zbf (A 61 k.toNat) (A 62 k.toNat) t) (mh h (a0 A)) else kr 0 (mh h (au A 12 0 2))) else kr 0 (mh h (au A 12 0 1)) := by
  unfold M_fits M_fits_34 M_fits_41 M_fits_51
  simp only [mS12, zlet_d]
  show M_noKernel k (mh h (a0 A)) _ = _
  rw [m_noKernel (by rw [a0_j (by decide)]; omega), a0_j (by decide)]
  cases hz : zwi k 0 (A 12 4 - 1) with
  | false => simp [tb_t, m_fails1, a0_0, a0_thr]
  | true =>
    obtain ⟨h1, h2⟩ := zwi_t hz
    obtain ⟨n, rfl⟩ : ∃ n : Nat, k = (n : Int) := ⟨k.toNat, by omega⟩
    obtain ⟨c1, c2, c3, c4⟩ := hk n (by omega)
    cases ht : zwi t 1 16 with
    | false => simp [tb_f, m_fails0, m_fails1, a0_0, a0_thr, m_in, ht]
    | true =>
      obtain ⟨t1, t2⟩ := zwi_t ht
      have e1 : a0 A 61 = A 61 := a0_c (by decide)
      have e2 : a0 A 62 = A 62 := a0_c (by decide)
      have := fun kr9 => m_fit (ρ := ρ) (h := h) (A := a0 A) (kr := kr9) (k := n) (t := t) (by omega) t1 t2 (by rw [e1]; exact c1) (by rw [e1]; exact c2) (by rw [e2]; exact c3) (by rw [e2]; exact c4)
      simp [tb_f, tb_t, m_fails0, a0_0, a0_thr, m_in, ht, this, e1, e2]
end
