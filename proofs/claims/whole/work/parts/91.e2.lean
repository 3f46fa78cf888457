/-! THE MODEL: leaves, simple calls -/
def zwi (v lo hi : Int) : Bool := decide (lo ≤ v) && decide (v ≤ hi)
theorem zwi_t {v lo hi : Int} (h : zwi v lo hi = true) : lo ≤ v ∧ v ≤ hi := by
  obtain ⟨h1, h2⟩ := zand_t h
  exact ⟨of_decide_eq_true h1, of_decide_eq_true h2⟩
theorem zwi_f {v lo hi : Int} (h : zwi v lo hi = false) : v < lo ∨ hi < v := by
  unfold zwi at h
  rcases Bool.and_eq_false_iff.mp h with h | h
  · have := of_decide_eq_false h
    omega
  · have := of_decide_eq_false h
    omega
theorem tb_t : tb true = 1 := rfl
theorem tb_f : tb false = 0 := rfl
theorem tb_if {α : Type} {b : Bool} {x y : α} : (if tb b = 0 then x else y) = if b = true then y else x := by
  cases b
  · rfl
  · rfl
theorem znar_tb {ρ : Type} {b : Bool} {k : Int → Option ρ} : znar 1 (tb b) k = k (tb b) := znar_b (tb_01 b)
section
variable {ρ : Type} {h : zH} {A : zA} {kr : Int → zH → Option ρ}
theorem m_in {a lo hi : Int} : M_in a lo hi h kr = kr (tb (zwi a lo hi)) h := by
  unfold M_in M_in_14 M_in_15
  rw [znar_0, znar_1]
  cases hz : zwi a lo hi with
  | true =>
    have := zwi_t hz
    rw [if_neg (by omega), if_neg (by omega)]
    rfl
  | false =>
    rcases zwi_f hz with k | k
    · rw [if_pos k]
      rfl
    · rw [if_pos k, ite_self]
      rfl
theorem x_isWithin {a lo hi : Int} : X_isWithin a lo hi h kr = kr (tb (zwi a lo hi)) h := by
  unfold X_isWithin X_isWithin_14 X_isWithin_15
  rw [znar_0, znar_1]
  cases hz : zwi a lo hi with
  | true =>
    have := zwi_t hz
    rw [if_neg (by omega), if_neg (by omega)]
    rfl
  | false =>
    rcases zwi_f hz with k | k
    · rw [if_pos k]
      rfl
    · rw [if_pos k, ite_self]
      rfl
theorem x_isCell {a : Int} : X_isCell a h kr = kr (tb (zwi a 0 63)) h := by
  unfold X_isCell
  rw [x_isWithin, znar_tb]
theorem tb_not {b : Bool} {α : Type} (k : Int → α) : (if tb b = 0 then k 1 else k 0) = k (tb !b) := by
  cases b
  · rfl
  · rfl
theorem m_noCell {a : Int} : M_noCell a h kr = kr (tb !(zwi a 0 63)) h := by
  unfold M_noCell M_noCell_15
  rw [m_in]
  cases zwi a 0 63
  · rw [tb_f, if_pos rfl]
    exact znar_1
  · rw [tb_t, if_neg (by decide)]
    exact znar_0
theorem m_noKernel {a : Int} (hK : 0 ≤ A 12 4 ∧ A 12 4 ≤ 4) : M_noKernel a (mh h A) kr = kr (tb !(zwi a 0 (A 12 4 - 1))) (mh h A) := by
  unfold M_noKernel M_noKernel_19
  simp only [mD12]
  rw [wr_id (by omega) (by omega), m_in]
  cases zwi a 0 (A 12 4 - 1)
  · rw [tb_f, if_pos rfl]
    exact znar_1
  · rw [tb_t, if_neg (by decide)]
    exact znar_0
theorem m_noLaunch {a : Int} (hK : 0 ≤ A 12 13 ∧ A 12 13 ≤ 12) : M_noLaunch a (mh h A) kr = kr (tb !(zwi a 0 (A 12 13 - 1))) (mh h A) := by
  unfold M_noLaunch M_noLaunch_19
  simp only [mD12]
  rw [wr_id (by omega) (by omega), m_in]
  cases zwi a 0 (A 12 13 - 1)
  · rw [tb_f, if_pos rfl]
    exact znar_1
  · rw [tb_t, if_neg (by decide)]
    exact znar_0
theorem m_noUnit {a : Int} : M_noUnit a h kr = kr (tb !(zwi a 0 1)) h := by
  unfold M_noUnit M_noUnit_14
  rw [m_in]
  cases zwi a 0 1
  · rw [tb_f, if_pos rfl]
    exact znar_1
  · rw [tb_t, if_neg (by decide)]
    exact znar_0
theorem m_fails {b : Bool} {e : Int} (h0 : A 12 0 = 0) (he : e ≠ 0) : M_fails (tb b) e (mh h A) kr = if b = true then kr 1 (mh h (au A 12 0 e)) else kr 0 (mh h A) := by
  unfold M_fails M_fails_16 M_fails_28
  cases b with
  | true => simp [tb_t, mD12, mS12, zlet_d, h0, au_same, he, znar_1]
  | false => simp [tb_f, mD12, h0, znar_0]
theorem m_fails1 {e : Int} (h0 : A 12 0 = 0) (he : e ≠ 0) : M_fails 1 e (mh h A) kr = kr 1 (mh h (au A 12 0 e)) := (m_fails (b := true) h0 he).trans (if_pos rfl)
theorem m_fails0 {e : Int} (h0 : A 12 0 = 0) (he : e ≠ 0) : M_fails 0 e (mh h A) kr = kr 0 (mh h A) := (m_fails (b := false) h0 he).trans (if_neg (by decide))
theorem au_au {c j : Nat} {v w : Int} : au (au A c j v) c j w = au A c j w := by
  unfold au
  funext c' j'
  by_cases hz : c' = c ∧ j' = j
  · rw [if_pos hz, if_pos hz]
  · rw [if_neg hz, if_neg hz, if_neg hz]
theorem au_id {c j : Nat} : au A c j (A c j) = A := by
  unfold au
  funext c' j'
  by_cases hz : c' = c ∧ j' = j
  · rw [if_pos hz, hz.1, hz.2]
  · rw [if_neg hz]
/-- thrown: none -/
def a0 (A : zA) : zA := au A 12 0 0
theorem a0_0 : a0 A 12 0 = 0 := au_same
theorem a0_j {j : Nat} (hj : j ≠ 0) : a0 A 12 j = A 12 j := if_neg (fun z => hj z.2)
theorem a0_c {c : Nat} (hc : c ≠ 12) : a0 A c = A c := au_ne hc
theorem a0_thr {e : Int} : au (a0 A) 12 0 e = au A 12 0 e := au_au
theorem m_poke {a v : Int} : M_poke a v (mh h A) kr = if zwi a 0 63 = true then kr (A 60 a.toNat) (mh h (au (a0 A) 60 a.toNat v)) else kr 0 (mh h (au A 12 0 1)) := by
  unfold M_poke
  simp only [mS12, zlet_d]
  show M_noCell a (mh h (a0 A)) _ = _
  rw [m_noCell, m_fails a0_0 (by decide)]
  cases hz : zwi a 0 63 with
  | true =>
    obtain ⟨h1, h2⟩ := zwi_t hz
    have z1 : ∀ k : Nat → Option ρ, zix 64 a k = k a.toNat := fun k => zix_i (by omega) (by omega)
    simp [z1, mD60, mS60, a0_c]
  | false => simp [a0_thr]
theorem m_peek {a : Int} : M_peek a (mh h A) kr = if zwi a 0 63 = true then kr (A 60 a.toNat) (mh h (a0 A)) else kr 0 (mh h (au A 12 0 1)) := by
  unfold M_peek M_peek_27
  simp only [mS12, zlet_d]
  show M_noCell a (mh h (a0 A)) _ = _
  rw [m_noCell, m_fails a0_0 (by decide)]
  cases hz : zwi a 0 63 with
  | true =>
    obtain ⟨h1, h2⟩ := zwi_t hz
    have z1 : ∀ k : Nat → Option ρ, zix 64 a k = k a.toNat := fun k => zix_i (by omega) (by omega)
    simp [z1, mD60, a0_c]
  | false => simp [a0_thr]
theorem m_thrown : M_thrown (mh h A) kr = kr (A 12 0) (mh h A) := by
  unfold M_thrown
  rw [mD12]
theorem m_addKernel {r s : Int} (hK : 0 ≤ A 12 4 ∧ A 12 4 ≤ 4) : M_addKernel r s (mh h A) kr =
    if (zwi r 1 8 && zwi s 0 16) = true then
      if A 12 4 = 4 then kr 0 (mh h (au A 12 0 2))
      else kr (A 12 4) (mh h (au (au (au (a0 A) 61 (A 12 4).toNat r) 62 (A 12 4).toNat s) 12 4 (A 12 4 + 1)))
    else kr 0 (mh h (au A 12 0 1)) := by
  unfold M_addKernel M_addKernel_26 M_addKernel_31 M_addKernel_52 M_addKernel_59
  simp only [mS12, zlet_d]
  show M_in r 1 8 (mh h (a0 A)) _ = _
  have w1 : wr (A 12 4 + 1) = A 12 4 + 1 := wr_id (by omega) (by omega)
  have w2 : wr (A 12 4) = A 12 4 := wr_id (by omega) (by omega)
  by_cases h4 : A 12 4 = 4
  · cases hr : zwi r 1 8 <;> cases hs : zwi s 0 16 <;> simp [m_in, hr, hs, tb_t, tb_f, m_fails1, m_fails0, a0_0, mD12, a0_j, a0_thr, h4]
  · have z1 : ∀ k : Nat → Option ρ, zix 4 (A 12 4) k = k (A 12 4).toNat := fun k => zix_i (by omega) (by omega)
    cases hr : zwi r 1 8 <;> cases hs : zwi s 0 16 <;> simp [m_in, hr, hs, tb_t, tb_f, m_fails1, m_fails0, a0_0, mD12, a0_j, a0_thr, h4, z1, mS61, mS62, mS12, au_ne, au_same, w1, w2]
end
