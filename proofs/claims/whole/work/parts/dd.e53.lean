/-! AN INSTRUCTION BEGINS -/
def lb (u b j : Nat) (A : zA) : zA := au (au A 100 u (b : Int)) 101 u (j : Int)
theorem lb_c {u b j c : Nat} {A : zA} (h : c ≠ 100 ∧ c ≠ 101) : lb u b j A c = A c := by
  unfold lb
  rw [au_ne h.2, au_ne h.1]
theorem mpl_fr {A A' : zA} {b j : Nat} (h73 : A' 73 = A 73) (h89 : A' 89 = A 89) (h90 : A' 90 = A 90) : mpl A' b j = mpl A b j := by
  funext k
  unfold mpl
  rw [h73, h89, h90]
theorem mmf_fr {A A' : zA} {b j : Nat} (h : mpl A' b j = mpl A b j) : mmf A' b j = mmf A b j := by
  funext k
  unfold mmf
  rw [h]
theorem mpl_t {A : zA} {b j p m2 : Nat} (h : mpl A b j m2 = (p : Int)) : m2 < 4 ∧ ((4 * j + m2 : Nat) : Int) < A 73 (b / 6) ∧ A 89 (16 * b + (4 * j + m2)) = 114 ∧ A 90 (16 * b + (4 * j + m2)) = (p : Int) := by
  unfold mpl at h
  by_cases h1 : ((4 * j + m2 : Nat) : Int) < A 73 (b / 6) ∧ m2 < 4
  · rw [if_pos h1] at h
    by_cases h2 : A 89 (16 * b + (4 * j + m2)) = 114
    · rw [if_pos h2] at h
      exact ⟨h1.2, h1.1, h2, h⟩
    · rw [if_neg h2] at h
      omega
  · rw [if_neg h1] at h
    omega
theorem mmf_t {A : zA} {b j p m2 : Nat} (hp : zlm (mpl A b j) 4 = (p : Int)) (hF : mmf A b j m2 = true) : mpl A b j m2 = (p : Int) := by
  unfold mmf at hF
  exact (of_decide_eq_true hF).2.trans hp
/-- the model's rows as an instruction begins -/
def mP0 (A : zA) (x : Nat) (mk : Int) : zA := au (au (au (ard (au A 12 63 mk) 109 (zwas (au A 12 63 mk) x 32)) 12 64 0) 12 65 0) 12 66 45
def mP1 (A : zA) (x y m : Nat) (mk c : Int) : zA := if c = 97 ∨ c = 120 ∨ c = 98 then mWA (mP0 A x mk) y m else if c = 102 then au (mWA (mP0 A x mk) y m) 12 65 (m : Int) else mP0 A x mk
theorem mP0_c {A : zA} {x c : Nat} {mk : Int} (h : c ≠ 12 ∧ c ≠ 109) : mP0 A x mk c = A c := by
  unfold mP0
  rw [au_ne h.1, au_ne h.1, au_ne h.1, ard_ne h.2, au_ne h.1]
theorem mP0_j {A : zA} {x j : Nat} {mk : Int} (h : j ≠ 63 ∧ j ≠ 64 ∧ j ≠ 65 ∧ j ≠ 66) : mP0 A x mk 12 j = A 12 j := by
  unfold mP0
  rw [au_j, if_neg h.2.2.2, au_j, if_neg h.2.2.1, au_j, if_neg h.2.1, ard_ne (by decide), au_j, if_neg h.1]
theorem mP0_12 {A : zA} {x : Nat} {mk : Int} : mP0 A x mk 12 63 = mk ∧ mP0 A x mk 12 64 = 0 ∧ mP0 A x mk 12 65 = 0 ∧ mP0 A x mk 12 66 = 45 := by
  unfold mP0
  refine ⟨?_, ?_, ?_, ?_⟩
  · rw [au_j, if_neg (by decide), au_j, if_neg (by decide), au_j, if_neg (by decide), ard_ne (by decide), au_same]
  · rw [au_j, if_neg (by decide), au_j, if_neg (by decide), au_same]
  · rw [au_j, if_neg (by decide), au_same]
  · rw [au_same]
theorem mP0_109 {A : zA} {x q : Nat} {mk : Int} (hq : q < 32) : mP0 A x mk 109 q = A 91 (8 * x + q) := by
  unfold mP0
  rw [au_ne (by decide), au_ne (by decide), au_ne (by decide), ard_same]
  unfold zwas
  rw [if_pos hq, au_ne (by decide)]
section
variable {ρ : Type} {h g : zH} {A B : zA} {kr : Int → zH → Option ρ} {K L n : Nat} {bc tc gc : Nat → Nat} {N M : Int} {u i b j k p m : Nat} {c : Int}
theorem m_pre (gg : MG A (4 * u + i) b j) (hu : u < 2) (hi : i < 4) (hp : MP A b j) (hpz : zlm (mpl A b j) 4 = (p : Int)) (h70 : A 70 (b / 6) = (k : Int)) (hk : k < 4) (hp40 : p < 40) (hc : A 65 (40 * k + p) = c) (h4 : m ≤ 4) (h97 : A 97 (4 * u + i) = (m : Int)) (hcs : ∀ k, k < m → 0 ≤ A 98 (4 * (4 * u + i) + k) ∧ A 98 (4 * (4 * u + i) + k) < 64) : M_carryOut (u : Int) (i : Int) (mh g A) kr = M_carryOut_178 kr (u : Int) ((4 * u + i : Nat) : Int) (b : Int) ((b / 6 : Nat) : Int) (p : Int) ((40 * k + p : Nat) : Int) c (mh g (mP1 A (16 * b + 4 * j) (4 * u + i) m (zbs (mmf A b j) 4) c)) := by
  have hy := gg.1
  have hb := gg.2.1
  have e94 := gg.2.2.2.1
  have hat : 40 * k + p < 160 := by omega
  have hb12 : b / 6 < 12 := by omega
  have wy : wr (wr (4 * (u : Int)) + (i : Int)) = ((4 * u + i : Nat) : Int) := by
    rw [wr_id (x := 4 * (u : Int)) (by omega) (by omega), wr_id (by omega) (by omega)]
    omega
  have w40 : wr (wr (40 * (k : Int)) + (p : Int)) = ((40 * k + p : Nat) : Int) := by
    clear wy
    rw [wr_id (x := 40 * (k : Int)) (by omega) (by omega), wr_id (by omega) (by omega)]
    omega
  have g2 : MG (au A 12 63 (zbs (mmf A b j) 4)) (4 * u + i) b j := gg
  have mw := fun (kr : Int → zH → Option ρ) (a1 a4 a5 a6 a7 a8 : Int) => m_was (kr := kr) (g := g) (a1 := a1) (a4 := a4) (a5 := a5) (a6 := a6) (a7 := a7) (a8 := a8) g2 zN 0 (by decide) (by show 4 - 0 < 5000; decide)
  rw [Nat.mul_zero, zwas_0, ard_id] at mw
  have wa : ∀ kr : Int → zH → Option ρ, M_writeAll ((4 * u + i : Nat) : Int) (mh g (mP0 A (16 * b + 4 * j) (zbs (mmf A b j) 4))) kr = kr (m : Int) (mh g (mWA (mP0 A (16 * b + 4 * j) (zbs (mmf A b j) 4)) (4 * u + i) m)) := fun kr => m_writeAll hy h4 (by rw [mP0_c (by decide)]; exact h97) (fun k hk => by rw [mP0_c (by decide)]; exact hcs k hk)
  unfold M_carryOut
  rw [wy, zix_n hy, m_placeOf gg hp, hpz, mD94, e94, wtd6 hb, zix_n hb12, mD70, h70, w40, zix_n hat, m_maskOf gg hp, mD65, hc, mS12, zlet_d]
  refine Eq.trans (mw kr _ _ _ _ _ _) ?_
  unfold M_carryOut_64b
  rw [if_neg (by decide), mS12, zlet_d, mS12, zlet_d, mS12, zlet_d]
  have fold : au (au (au (ard (au A 12 63 (zbs (mmf A b j) 4)) 109 (zwas (au A 12 63 (zbs (mmf A b j) 4)) (16 * b + 4 * j) 32)) 12 64 0) 12 65 0) 12 66 45 = mP0 A (16 * b + 4 * j) (zbs (mmf A b j) 4) := rfl
  rw [fold]
  unfold M_carryOut_156 M_carryOut_162 mP1
  simp only [wa, mS12, zlet_d]
  by_cases h1 : c = 97
  · subst h1
    rfl
  · by_cases h2 : c = 120
    · subst h2
      rfl
    · by_cases h3 : c = 98
      · subst h3
        rfl
      · rw [if_neg h1, if_neg h2, if_neg h3, if_neg (fun z => z.elim h1 (fun z => z.elim h2 h3) : ¬ (c = 97 ∨ c = 120 ∨ c = 98))]
        by_cases h4 : c = 102
        · rw [if_pos h4, if_pos h4]
        · rw [if_neg h4, if_neg h4]
theorem x_instrAt (q : RS h) (qd : RD h) (rk : RK A h K) {r : Nat} (hk : k < K) (hp : (p : Int) < A 63 k) (hr : zhD h 33 k p = (r : Int)) : Ke_instructionAt (k : Int) (p : Int) h kr = kr (r : Int) h := by
  obtain ⟨-, c1, c2, c3, c4, c5, c6, -, c7, c8, c9, c10, -⟩ := rk.2.2.2.2.1 k hk
  have hk7 : k < zhN h 7 := by rw [rk.2.2.1]; exact hk
  obtain ⟨⟨d1, d2⟩, -⟩ := qd
  obtain ⟨d3, d4⟩ := d2 k hk7
  have k33 : k < zhN h 33 := by rw [d1]; exact hk7
  have p40 : p < 40 := by omega
  have w : wr (A 63 k - 1) = A 63 k - 1 := wr_id (by omega) (by omega)
  unfold Ke_instructionAt Ke_instructionAt_24
  rw [zob_n hk7, c9, w, x_isWithin, zwi_lt hp, tb_t, if_neg (by decide), zob_n hk7, d3, zob_n k33, d4, zix_n p40, hr]
/-- what begins an instruction, on the class's side -/
theorem rr_p0 (q : RR (lb u b j A) h K L bc tc gc n B N M) {mk : Int} {h' : zH} {x : Nat} (bn : n ≤ 10000000) (hf : ∀ c p j, ¬ (c = 24 ∨ c = 25 ∨ (c = 2 ∧ (j = 8 ∨ j = 9 ∨ j = 10))) → zhD h' c p j = zhD (zset h 4 0 0 (A 12 55 + 1)) c p j) (e : zhN h' = zhN h ∧ zhL h' = zhL h ∧ zhC h' = zhC h ∧ zhS h' = zhS h) : RR (fg u b j (mP0 A x mk)) h' K L bc tc gc (n + 1) B N M := by
  have b55 := q.bd.1 55 (by decide)
  rw [lb_c (by decide)] at b55
  have q1 := rr_f0 q (v := A 12 55 + 1) (by omega) (by omega)
  refine up_x q1 (fun c2 j2 hz => ?_) (fun c2 p2 j2 hz => hf c2 p2 j2 (fun z => by rcases z with rfl | rfl | ⟨rfl, rfl | rfl | rfl⟩ <;> cases hz)) e.1 e.2.1 e.2.2.1 e.2.2.2
  by_cases h12 : c2 = 12
  · subst h12
    have n63 : j2 ≠ 63 ∧ j2 ≠ 64 ∧ j2 ≠ 65 ∧ j2 ≠ 66 := ⟨fun z => (by subst z; cases hz), fun z => (by subst z; cases hz), fun z => (by subst z; cases hz), fun z => (by subst z; cases hz)⟩
    by_cases h54 : j2 = 54
    · subst h54
      rw [fg_54, mP0_j n63, mP0_12.2.1, au_j, if_neg (by decide), lb_c (by decide), Int.add_zero]
    · by_cases h55 : j2 = 55
      · subst h55
        rw [fg_55, mP0_j n63, au_same]
      · rw [fg_j h54 h55, mP0_j n63, au_j, if_neg h55, lb_c (by decide)]
  · have h109 : c2 ≠ 109 := fun z => by subst z; cases hz
    unfold fg lb
    rw [au_ne (c := 12) h12]
    by_cases h101 : c2 = 101
    · subst h101
      rw [au_j, au_j, au_ne (by decide), au_ne (by decide), fg0_c (by decide), mP0_c (by decide)]
    · rw [au_ne h101, au_ne h101]
      by_cases h100 : c2 = 100
      · subst h100
        rw [au_j, au_j, fg0_c (by decide), mP0_c (by decide)]
      · rw [au_ne h100, au_ne h100, fg0_c h12, mP0_c ⟨h12, h109⟩]
end
