/-! LAUNCHES -/
def zst (x : Int) : Prop := x = 113 ∨ x = 114 ∨ x = 100 ∨ x = 102 ∨ x = 120
def zover (x : Int) : Bool := decide (x = 100) || decide (x = 102) || decide (x = 120)
/-- one launch -/
def RLn (A : zA) (h : zH) (K l : Nat) : Prop :=
  zhD h 21 0 l = (l : Int) ∧ zhD h 9 l 0 = (l : Int) ∧
  (zhD h 9 l 1 = A 71 l ∧ (A 71 l = -1 ∨ A 71 l = 0 ∨ A 71 l = 1)) ∧
  (zhD h 9 l 2 = A 75 l ∧ -1 ≤ A 75 l ∧ A 75 l < (l : Int)) ∧
  (zhD h 9 l 3 = A 74 l ∧ -1 ≤ A 74 l ∧ A 74 l < (l : Int)) ∧
  (zhD h 9 l 4 = A 76 l ∧ -1 ≤ A 76 l ∧ A 76 l < (l : Int)) ∧
  (zhD h 9 l 5 = A 70 l ∧ -1 ≤ A 70 l ∧ A 70 l < (K : Int)) ∧
  (zhD h 9 l 6 = A 72 l ∧ zhD h 9 l 7 = A 73 l ∧ zhD h 9 l 8 = A 78 l ∧ zhD h 9 l 9 = A 79 l) ∧
  (zhD h 9 l 10 = A 69 l ∧ zst (A 69 l)) ∧
  (A 69 l = 102 → zhD h 9 l 11 = A 84 l ∧ zhD h 9 l 12 = A 85 l ∧ 0 ≤ A 84 l ∧ A 84 l < 65536) ∧
  (zhD h 9 l 13 = A 80 l + A 83 l ∧ zhD h 9 l 14 = A 81 l + A 83 l ∧ zhD h 9 l 15 = A 82 l - A 83 l) ∧
  (A 70 l ≠ -1 → 1 ≤ A 72 l ∧ A 72 l ≤ 6 ∧ 1 ≤ A 73 l ∧ A 73 l ≤ 16 ∧ A 64 (A 70 l).toNat = 1 ∧ zbf (A 61 (A 70 l).toNat) (A 62 (A 70 l).toNat) (A 73 l) ≠ 0 ∧ 0 ≤ A 79 l ∧ A 79 l ≤ A 78 l ∧ A 78 l ≤ A 72 l ∧ A 82 l = 0 ∧ A 83 l = 0) ∧
  (A 70 l = -1 → A 76 l = -1 ∧ 1 ≤ A 82 l ∧ A 82 l ≤ 64 ∧ 0 ≤ A 83 l ∧ A 83 l ≤ A 82 l ∧ 0 ≤ A 80 l ∧ A 80 l + A 82 l ≤ 64 ∧ 0 ≤ A 81 l ∧ A 81 l + A 82 l ≤ 64 ∧ A 78 l = 0 ∧ A 79 l = 0) ∧
  (0 ≤ A 77 l ∧ A 77 l ≤ 2 ∧ (A 76 l = -1 → A 77 l = 0) ∧ (A 76 l ≠ -1 → A 77 l = A 77 (A 76 l).toNat + 1))
def RL (A : zA) (h : zH) (K L : Nat) : Prop := A 12 13 = (L : Int) ∧ L ≤ 12 ∧ zhN h 9 = L ∧ zhD h 1 0 3 = (L : Int) ∧ (∀ l : Nat, l < L → RLn A h K l) ∧
  (∀ l : Nat, L ≤ l → l < 12 → A 72 l = 0 ∧ A 73 l = 0 ∧ A 77 l = 0 ∧ A 78 l = 0 ∧ A 79 l = 0 ∧ A 80 l = 0 ∧ A 81 l = 0 ∧ A 82 l = 0 ∧ A 83 l = 0)
section
variable {ρ : Type} {h : zH} {A : zA} {kr : Int → zH → Option ρ} {kt : Nat → zH → Option ρ} {K L : Nat}
theorem RL.at (r : RL A h K L) : A 12 13 = (L : Int) ∧ L ≤ 12 ∧ zhN h 9 = L ∧ zhD h 1 0 3 = (L : Int) := ⟨r.1, r.2.1, r.2.2.1, r.2.2.2.1⟩
theorem RL.l (r : RL A h K L) {l : Nat} (hl : l < L) : RLn A h K l := r.2.2.2.2.1 l hl
theorem x_launchOf (q : RS h) (r : RL A h K L) {l : Int} : Le_launchOf 0 l h kr = kr (if zwi l 0 (A 12 13 - 1) = true then l else -1) h := by
  obtain ⟨a1, a2, a3, a4⟩ := r.at
  unfold Le_launchOf Le_launchOf_24
  have w1 : wr ((L : Int) - 1) = (L : Int) - 1 := wr_id (by omega) (by omega)
  rw [a1]
  cases hz : zwi l 0 ((L : Int) - 1) with
  | false => simp [zob_0 q.N1, a4, w1, x_isWithin, hz, tb_f]
  | true =>
    obtain ⟨h1, h2⟩ := zwi_t hz
    obtain ⟨n, rfl⟩ : ∃ n : Nat, l = (n : Int) := ⟨l.toNat, by omega⟩
    have e1 := (r.l (show n < L by omega)).1
    have z1 : ∀ kk : Nat → Option ρ, zix 12 (n : Int) kk = kk n := fun kk => zix_n (by omega)
    simp [zob_0 q.N1, zob_0 q.N21, a4, w1, x_isWithin, hz, tb_t, q.D1_0_1, q.L21_0, z1, e1]
theorem x_launchAt (q : RS h) (r : RL A h K L) {l : Int} : X_launchAt 0 l h kt kr = if zwi l 0 (A 12 13 - 1) = true then kr l h else kt 3 (zthrown h) := by
  unfold X_launchAt
  simp only [zob_0 q.N0, q.D0_0_0, zob_0 q.N1]
  rw [x_launchOf q r]
  cases hz : zwi l 0 (A 12 13 - 1) with
  | false => simp [zlet_d]
  | true =>
    obtain ⟨h1, h2⟩ := zwi_t hz
    have : ¬ l < 0 := by omega
    simp [this]
theorem zst_rng {x : Int} (hx : zst x) : 0 ≤ x ∧ x < 65536 := by
  unfold zst at hx
  omega
theorem x_state (q : RS h) (r : RL A h K L) {l : Int} : X_state 0 l h kt kr = if zwi l 0 (A 12 13 - 1) = true then kr (A 69 l.toNat) h else kt 3 (zthrown h) := by
  obtain ⟨a1, a2, a3, a4⟩ := r.at
  unfold X_state
  simp only [zob_0 q.N0]
  rw [x_launchAt q r]
  cases hz : zwi l 0 (A 12 13 - 1) with
  | false => simp
  | true =>
    obtain ⟨h1, h2⟩ := zwi_t hz
    obtain ⟨n, rfl⟩ : ∃ n : Nat, l = (n : Int) := ⟨l.toNat, by omega⟩
    obtain ⟨-, -, -, -, -, -, -, -, ⟨e1, e2⟩, -⟩ := r.l (show n < L by omega)
    simp [zob_n (show n < zhN h 9 by omega), e1, znar_c (zst_rng e2)]
theorem x_given (q : RS h) (r : RL A h K L) {l : Int} : X_given 0 l h kt kr = if zwi l 0 (A 12 13 - 1) = true then kr (A 78 l.toNat) h else kt 3 (zthrown h) := by
  obtain ⟨a1, a2, a3, a4⟩ := r.at
  unfold X_given
  simp only [zob_0 q.N0]
  rw [x_launchAt q r]
  cases hz : zwi l 0 (A 12 13 - 1) with
  | false => simp
  | true =>
    obtain ⟨h1, h2⟩ := zwi_t hz
    obtain ⟨n, rfl⟩ : ∃ n : Nat, l = (n : Int) := ⟨l.toNat, by omega⟩
    obtain ⟨-, -, -, -, -, -, -, ⟨-, -, e1, -⟩, -⟩ := r.l (show n < L by omega)
    simp [zob_n (show n < zhN h 9 by omega), e1]
theorem x_parent (q : RS h) (r : RL A h K L) {l : Int} : X_parent 0 l h kt kr = if zwi l 0 (A 12 13 - 1) = true then (if A 76 l.toNat = -1 then kt 5 (zthrown h) else kr (A 76 l.toNat) h) else kt 3 (zthrown h) := by
  obtain ⟨a1, a2, a3, a4⟩ := r.at
  unfold X_parent
  simp only [zob_0 q.N0]
  rw [x_launchAt q r]
  cases hz : zwi l 0 (A 12 13 - 1) with
  | false => simp
  | true =>
    obtain ⟨h1, h2⟩ := zwi_t hz
    obtain ⟨n, rfl⟩ : ∃ n : Nat, l = (n : Int) := ⟨l.toNat, by omega⟩
    obtain ⟨-, -, -, -, -, ⟨e1, e2, e3⟩, -⟩ := r.l (show n < L by omega)
    have hn : n < zhN h 9 := by omega
    by_cases hp : A 76 n = -1
    · simp [zob_n hn, e1, hp, zlet_d]
    · obtain ⟨p, hp2⟩ : ∃ p : Nat, A 76 n = (p : Int) := ⟨(A 76 n).toNat, by omega⟩
      have e4 := (r.l (show p < L by omega)).2.1
      have hp3 : ¬ (p : Int) < 0 := by omega
      have hp4 : ¬ (p : Int) = -1 := by omega
      simp [zob_n hn, e1, hp2, hp3, hp4, zob_n (show p < zhN h 9 by omega), e4]
theorem x_launches (q : RS h) (r : RL A h K L) : X_launches 0 h kr = kr (A 12 13) h := by
  obtain ⟨a1, a2, a3, a4⟩ := r.at
  unfold X_launches
  simp [zob_0 q.N0, q.D0_0_0, zob_0 q.N1, a4, a1]
theorem x_failedAt (q : RS h) (r : RL A h K L) {l : Int} : X_failedAt 0 l h kt kr = if zwi l 0 (A 12 13 - 1) = true then (if A 69 l.toNat = 102 then kr l h else kt 5 (zthrown h)) else kt 3 (zthrown h) := by
  obtain ⟨a1, a2, a3, a4⟩ := r.at
  unfold X_failedAt
  simp only [zob_0 q.N0]
  rw [x_launchAt q r]
  cases hz : zwi l 0 (A 12 13 - 1) with
  | false => simp
  | true =>
    obtain ⟨h1, h2⟩ := zwi_t hz
    obtain ⟨n, rfl⟩ : ∃ n : Nat, l = (n : Int) := ⟨l.toNat, by omega⟩
    obtain ⟨-, -, -, -, -, -, -, -, ⟨e1, e2⟩, -⟩ := r.l (show n < L by omega)
    by_cases hf : A 69 n = 102
    · simp [zob_n (show n < zhN h 9 by omega), e1, hf]
    · simp [zob_n (show n < zhN h 9 by omega), e1, hf, zlet_d]
theorem x_fault (q : RS h) (r : RL A h K L) {l : Int} : X_fault 0 l h kt kr = if zwi l 0 (A 12 13 - 1) = true then (if A 69 l.toNat = 102 then kr (A 84 l.toNat) h else kt 5 (zthrown h)) else kt 3 (zthrown h) := by
  obtain ⟨a1, a2, a3, a4⟩ := r.at
  unfold X_fault
  simp only [zob_0 q.N0]
  rw [x_failedAt q r]
  cases hz : zwi l 0 (A 12 13 - 1) with
  | false => simp
  | true =>
    obtain ⟨h1, h2⟩ := zwi_t hz
    obtain ⟨n, rfl⟩ : ∃ n : Nat, l = (n : Int) := ⟨l.toNat, by omega⟩
    obtain ⟨-, -, -, -, -, -, -, -, -, e0, -⟩ := r.l (show n < L by omega)
    by_cases hf : A 69 n = 102
    · obtain ⟨e1, e2, e3⟩ := e0 hf
      simp [zob_n (show n < zhN h 9 by omega), e1, hf, znar_c e3]
    · simp [hf]
theorem x_faultAt (q : RS h) (r : RL A h K L) {l : Int} : X_faultAt 0 l h kt kr = if zwi l 0 (A 12 13 - 1) = true then (if A 69 l.toNat = 102 then kr (A 85 l.toNat) h else kt 5 (zthrown h)) else kt 3 (zthrown h) := by
  obtain ⟨a1, a2, a3, a4⟩ := r.at
  unfold X_faultAt
  simp only [zob_0 q.N0]
  rw [x_failedAt q r]
  cases hz : zwi l 0 (A 12 13 - 1) with
  | false => simp
  | true =>
    obtain ⟨h1, h2⟩ := zwi_t hz
    obtain ⟨n, rfl⟩ : ∃ n : Nat, l = (n : Int) := ⟨l.toNat, by omega⟩
    obtain ⟨-, -, -, -, -, -, -, -, -, e0, -⟩ := r.l (show n < L by omega)
    by_cases hf : A 69 n = 102
    · obtain ⟨e1, e2, e3⟩ := e0 hf
      simp [zob_n (show n < zhN h 9 by omega), e2, hf]
    · simp [hf]
end
