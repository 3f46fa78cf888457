/-! THE CLASS AGAINST THE MODEL -/
/-- the letters: what their three numbers are: bits 4, 2, 1 as the model has them -/
def zbits (c : Int) : Int := if c = 43 ∨ c = 45 ∨ c = 42 ∨ c = 60 ∨ c = 61 ∨ c = 97 ∨ c = 120 ∨ c = 115 then 7 else if c = 114 ∨ c = 119 ∨ c = 82 ∨ c = 87 ∨ c = 118 then 6 else if c = 107 ∨ c = 116 ∨ c = 110 ∨ c = 108 ∨ c = 122 then 4 else if c = 99 then 5 else if c = 106 ∨ c = 98 ∨ c = 102 ∨ c = 101 then 0 else -1
/-- an instruction that a kernel of so many registers may have -/
def zinsOK (regs c a b d : Int) : Prop := zbits c ≠ -1 ∧ (zbits c = 7 ∨ zbits c = 6 ∨ zbits c = 5 ∨ zbits c = 4 → 0 ≤ a ∧ a < regs) ∧ (zbits c = 7 ∨ zbits c = 6 → 0 ≤ b ∧ b < regs) ∧ (zbits c = 7 ∨ zbits c = 5 → 0 ≤ d ∧ d < regs) ∧ (c = 122 ∨ c = 106 → 0 ≤ b ∧ b < 40) ∧ (c = 99 → 0 ≤ b ∧ b < 4)
/-- the kernels -/
def RK (A : zA) (h : zH) (K : Nat) : Prop := A 12 4 = (K : Int) ∧ K ≤ 4 ∧ zhN h 7 = K ∧ zhD h 1 0 2 = (K : Int) ∧
  (∀ k : Nat, k < K → zhD h 20 0 k = (k : Int) ∧ 1 ≤ A 61 k ∧ A 61 k ≤ 8 ∧ 0 ≤ A 62 k ∧ A 62 k ≤ 16 ∧ 0 ≤ A 63 k ∧ A 63 k ≤ 40 ∧ (A 64 k = 0 ∨ A 64 k = 1) ∧ zhD h 7 k 0 = A 61 k ∧ zhD h 7 k 1 = A 62 k ∧ zhD h 7 k 3 = A 63 k ∧ zhD h 7 k 4 = A 64 k ∧
    ∀ i : Nat, (i : Int) < A 63 k → ∃ r : Nat, zhD h 33 k i = (r : Int) ∧ r < zhN h 8 ∧ zhD h 8 r 0 = A 65 (40 * k + i) ∧ zhD h 8 r 1 = A 66 (40 * k + i) ∧ zhD h 8 r 2 = A 67 (40 * k + i) ∧ zhD h 8 r 3 = A 68 (40 * k + i) ∧ zinsOK (A 61 k) (A 65 (40 * k + i)) (A 66 (40 * k + i)) (A 67 (40 * k + i)) (A 68 (40 * k + i))) ∧
  (∀ k : Nat, K ≤ k → k < 4 → A 63 k = 0 ∧ A 64 k = 0)
/-- the memory, the cycle, the order, what is counted -/
def RM (A : zA) (h : zH) : Prop := (∀ j : Nat, j < 64 → zhD h 22 0 j = A 60 j) ∧ zhD h 2 0 4 = A 12 1 ∧ zhD h 2 0 5 = A 12 2 ∧ (A 12 2 = 111 ∨ A 12 2 = 121 ∨ A 12 2 = 97) ∧
  zhD h 4 0 0 = A 12 55 ∧ zhD h 4 0 1 = A 12 54 ∧ zhD h 4 0 2 = A 12 57 ∧ zhD h 4 0 3 = A 12 56 ∧ zhD h 4 0 4 = A 12 58 ∧ zhD h 4 0 5 = A 12 59 ∧ zhD h 4 0 6 = A 12 60 ∧ zhD h 4 0 7 = A 12 61
section
variable {ρ : Type} {h : zH} {A : zA} {kr : Int → zH → Option ρ} {kt : Nat → zH → Option ρ}
theorem x_poke (q : RS h) {a v : Int} : X_poke 0 a v h kt kr = if zwi a 0 63 = true then kr (zhD h 22 0 a.toNat) (zset h 22 0 a.toNat v) else kt 3 (zthrown h) := by
  unfold X_poke
  rw [x_isCell]
  cases hz : zwi a 0 63 with
  | true =>
    obtain ⟨h1, h2⟩ := zwi_t hz
    have z1 : ∀ k : Nat → Option ρ, zix 64 a k = k a.toNat := fun k => zix_i (by omega) (by omega)
    simp only [tb_t, zob_0 q.N0, q.D0_0_1, zob_0 q.N2, q.D2_0_1, zob_0 q.N22, q.L22_0, z1, zlet_d, if_true]
    rw [if_neg (by decide)]
  | false =>
    simp only [tb_f, zlet_d, if_true]
    rw [if_neg (by decide)]
theorem x_peek (q : RS h) {a : Int} : X_peek 0 a h kt kr = if zwi a 0 63 = true then kr (zhD h 22 0 a.toNat) h else kt 3 (zthrown h) := by
  unfold X_peek
  rw [x_isCell]
  cases hz : zwi a 0 63 with
  | true =>
    obtain ⟨h1, h2⟩ := zwi_t hz
    have z1 : ∀ k : Nat → Option ρ, zix 64 a k = k a.toNat := fun k => zix_i (by omega) (by omega)
    simp only [tb_t, zob_0 q.N0, q.D0_0_1, zob_0 q.N2, q.D2_0_1, zob_0 q.N22, q.L22_0, z1, zlet_d, if_true]
    rw [if_neg (by decide)]
  | false =>
    simp only [tb_f, zlet_d, if_true]
    rw [if_neg (by decide)]
end
