/-! COPIES MOVE -/
def hcp (h : zH) (i : Nat) : zH := zset (zset (zset (zset h 22 0 (zhD h 9 i 14).toNat (zhD h 22 0 (zhD h 9 i 13).toNat)) 9 i 13 (zhD h 9 i 13 + 1)) 9 i 14 (zhD h 9 i 14 + 1)) 9 i 15 (zhD h 9 i 15 - 1)
def hcd (h : zH) (i : Nat) : zH := if zhD h 9 i 15 = 1 then zset (hcp h i) 9 i 10 100 else hcp h i
def mcd (A : zA) (i : Nat) : zA := au (au (au A 60 (A 81 i + A 83 i).toNat (A 60 (A 80 i + A 83 i).toNat)) 83 i (A 83 i + 1)) 69 i (if A 83 i + 1 = A 82 i then 100 else 114)
/-- fields of the model that stay 0: what is thrown, and the rows' places -/
def zpt (j : Nat) : Bool := Nat.beq j 0 || Nat.beq j 3 || (Nat.ble 5 j && Nat.ble j 12) || (Nat.ble 14 j && Nat.ble j 53) || Nat.beq j 62 || (Nat.ble 68 j && Nat.ble j 73)
/-- copies that are not done have cells left -/
def RC (A : zA) (L : Nat) : Prop := (∀ l : Nat, l < L → A 70 l = -1 → A 69 l ≠ 100 → A 83 l < A 82 l) ∧ (∀ j : Nat, zpt j = true → A 12 j = 0)
section
variable {ρ : Type} {h g : zH} {A : zA} {kr : Int → zH → Option ρ} {K L : Nat} {s : Nat → Int}
theorem x_moveCell (q : RS h) (r : RL A h K L) (rc : RC A L) {i : Nat} (hi : i < L) (hk : A 70 i = -1) (hs : A 69 i = 114) : La_moveCell (i : Int) 0 h kr = kr 0 (hcd h i) := by
  obtain ⟨a1, a2, a3, a4⟩ := r.at
  obtain ⟨-, -, -, -, -, -, -, -, ⟨e10, -⟩, -, ⟨e13, e14, e15⟩, -, b13, -⟩ := r.l hi
  obtain ⟨-, c1, c2, c3, c4, c5, c6, c7, c8, -⟩ := b13 hk
  have c9 := rc.1 i hi hk (by omega)
  have hn : i < zhN h 9 := by omega
  have zb : ∀ kk : Nat → Option ρ, zob h 9 (i : Int) kk = kk i := fun kk => zob_n hn
  have z1 : ∀ kk : Nat → Option ρ, zix 64 (zhD h 9 i 13) kk = kk (zhD h 9 i 13).toNat := fun kk => zix_i (by omega) (by omega)
  have z2 : ∀ kk : Nat → Option ρ, zix 64 (zhD h 9 i 14) kk = kk (zhD h 9 i 14).toNat := fun kk => zix_i (by omega) (by omega)
  have t1 : zwi (zhD h 9 i 13) 0 63 = true := by unfold zwi; rw [decide_eq_true (show 0 ≤ zhD h 9 i 13 by omega), decide_eq_true (show zhD h 9 i 13 ≤ 63 by omega)]; rfl
  have t2 : zwi (zhD h 9 i 14) 0 63 = true := by unfold zwi; rw [decide_eq_true (show 0 ≤ zhD h 9 i 14 by omega), decide_eq_true (show zhD h 9 i 14 ≤ 63 by omega)]; rfl
  have w1 : wr (zhD h 9 i 13 + 1) = zhD h 9 i 13 + 1 := wr_id (by omega) (by omega)
  have w2 : wr (zhD h 9 i 14 + 1) = zhD h 9 i 14 + 1 := wr_id (by omega) (by omega)
  have w3 : wr (zhD h 9 i 15 - 1) = zhD h 9 i 15 - 1 := wr_id (by omega) (by omega)
  have hd : ∀ (x : Nat) (v : Int), zhD (zset h 22 0 x v) 9 = zhD h 9 := fun x v => zD_ne (by decide)
  unfold La_moveCell La_moveCell_69 La_moveCell_82
  simp only [zb, x_isCell, t1, t2, tb_t, if_neg (show ¬ (1 : Int) = 0 by decide), if_pos (show 0 < zhD h 9 i 15 by omega), zob_0 q.N22, q.L22_0, z1, z2, zlet_d, zob_set, hd, w1, w2, w3, zD_nj (show 14 ≠ 13 by decide), zD_nj (show 15 ≠ 13 by decide), zD_nj (show 15 ≠ 14 by decide), zD_eq]
  unfold hcd
  by_cases h1 : zhD h 9 i 15 = 1
  · rw [if_pos h1, if_pos (by omega)]
    rfl
  · rw [if_neg h1, if_neg (by omega)]
    rfl
theorem m_copyOne (r : RL A h K L) (rc : RC A L) {i : Nat} (hi : i < L) (hk : A 70 i = -1) (hs : A 69 i = 114) : M_copyOne (i : Int) (mh g A) kr = kr 0 (mh g (mcd A i)) := by
  obtain ⟨a1, a2, a3, a4⟩ := r.at
  obtain ⟨-, -, -, -, -, -, -, -, -, -, -, -, b13, -⟩ := r.l hi
  obtain ⟨-, c1, c2, c3, c4, c5, c6, c7, c8, -⟩ := b13 hk
  have c9 := rc.1 i hi hk (by omega)
  have hi12 : i < 12 := by omega
  have w1 : wr (A 80 i + A 83 i) = A 80 i + A 83 i := wr_id (by omega) (by omega)
  have w2 : wr (A 81 i + A 83 i) = A 81 i + A 83 i := wr_id (by omega) (by omega)
  have w3 : wr (A 83 i + 1) = A 83 i + 1 := wr_id (by omega) (by omega)
  have z1 : ∀ kk : Nat → Option ρ, zix 64 (A 80 i + A 83 i) kk = kk (A 80 i + A 83 i).toNat := fun kk => zix_i (by omega) (by omega)
  have z2 : ∀ kk : Nat → Option ρ, zix 64 (A 81 i + A 83 i) kk = kk (A 81 i + A 83 i).toNat := fun kk => zix_i (by omega) (by omega)
  unfold M_copyOne M_copyOne_73
  simp only [zix_n hi12, mD80, mD81, mD82, mD83, mD60, w1, w2, z1, z2, zlet_d, mS60, mS83, au_ne (show 83 ≠ 60 by decide), au_ne (show 82 ≠ 60 by decide), au_ne (show 82 ≠ 83 by decide), au_same, w3, mS69]
  unfold mcd
  by_cases h1 : A 83 i + 1 = A 82 i
  · rw [if_pos h1, if_pos h1, znar_c (by decide)]
  · rw [if_neg h1, if_neg h1, znar_c (by decide)]
theorem hcd_N {i : Nat} : zhN (hcd h i) = zhN h := by
  unfold hcd
  split <;> rfl
theorem hcd_L {i : Nat} : zhL (hcd h i) = zhL h := by
  unfold hcd
  split <;> rfl
theorem hcd_C {i : Nat} : zhC (hcd h i) = zhC h := by
  unfold hcd
  split <;> rfl
theorem hcd_S {i : Nat} : zhS (hcd h i) = zhS h := by
  unfold hcd
  split <;> rfl
theorem hcp_D {i c : Nat} (h9 : c ≠ 9) (h22 : c ≠ 22) : zhD (hcp h i) c = zhD h c := by
  unfold hcp
  rw [zD_ne h9, zD_ne h9, zD_ne h9, zD_ne h22]
theorem hcd_D {i c : Nat} (h9 : c ≠ 9) (h22 : c ≠ 22) : zhD (hcd h i) c = zhD h c := by
  unfold hcd
  split
  · rw [zD_ne h9, hcp_D h9 h22]
  · exact hcp_D h9 h22
theorem hcd_22 {i j : Nat} : zhD (hcd h i) 22 0 j = if j = (zhD h 9 i 14).toNat then zhD h 22 0 (zhD h 9 i 13).toNat else zhD h 22 0 j := by
  have key : zhD (hcp h i) 22 0 j = if j = (zhD h 9 i 14).toNat then zhD h 22 0 (zhD h 9 i 13).toNat else zhD h 22 0 j := by
    unfold hcp
    rw [zD_ne (by decide), zD_ne (by decide), zD_ne (by decide), zD_set]
    simp
  unfold hcd
  split
  · rw [zD_ne (by decide)]
    exact key
  · exact key
theorem hcp_9 {i l j : Nat} : zhD (hcp h i) 9 l j = if l = i ∧ j = 15 then zhD h 9 i 15 - 1 else if l = i ∧ j = 14 then zhD h 9 i 14 + 1 else if l = i ∧ j = 13 then zhD h 9 i 13 + 1 else zhD h 9 l j := by
  unfold hcp
  simp only [zD_set, true_and]
  simp
theorem hcd_9 {i l j : Nat} : zhD (hcd h i) 9 l j = if l = i ∧ j = 10 ∧ zhD h 9 i 15 = 1 then 100 else if l = i ∧ j = 15 then zhD h 9 i 15 - 1 else if l = i ∧ j = 14 then zhD h 9 i 14 + 1 else if l = i ∧ j = 13 then zhD h 9 i 13 + 1 else zhD h 9 l j := by
  unfold hcd
  by_cases h1 : zhD h 9 i 15 = 1
  · rw [if_pos h1, zD_set, hcp_9]
    by_cases h2 : l = i ∧ j = 10
    · rw [if_pos ⟨rfl, h2.1, h2.2⟩, if_pos ⟨h2.1, h2.2, h1⟩]
    · rw [if_neg (show ¬ (9 = 9 ∧ l = i ∧ j = 10) from fun z => h2 z.2), if_neg (show ¬ (l = i ∧ j = 10 ∧ zhD h 9 i 15 = 1) from fun z => h2 ⟨z.1, z.2.1⟩)]
  · rw [if_neg h1, hcp_9]
    rw [if_neg (show ¬ (l = i ∧ j = 10 ∧ zhD h 9 i 15 = 1) from fun z => h1 z.2.2)]
theorem RS.cd (q : RS h) {i : Nat} : RS (hcd h i) := by
  unfold hcd
  split
  · exact ((((q.set rfl).set rfl).set rfl).set rfl).set rfl
  · exact (((q.set rfl).set rfl).set rfl).set rfl
theorem RD.cd (q : RD h) {i : Nat} : RD (hcd h i) := by
  unfold hcd
  split
  · exact ((((q.set rfl).set rfl).set rfl).set rfl).set rfl
  · exact (((q.set rfl).set rfl).set rfl).set rfl
theorem mcd_k {i c j : Nat} : mcd A i c j = if c = 69 ∧ j = i then (if A 83 i + 1 = A 82 i then 100 else 114) else if c = 83 ∧ j = i then A 83 i + 1 else if c = 60 ∧ j = (A 81 i + A 83 i).toNat then A 60 (A 80 i + A 83 i).toNat else A c j := rfl
theorem mcd_c {i c : Nat} (h69 : c ≠ 69) (h83 : c ≠ 83) (h60 : c ≠ 60) : mcd A i c = A c := by
  unfold mcd
  rw [au_ne h69, au_ne h83, au_ne h60]
theorem mcd_l {i c l : Nat} (h60 : c ≠ 60) (hl : l ≠ i) : mcd A i c l = A c l := by
  rw [mcd_k, if_neg (fun z => hl z.2), if_neg (fun z => hl z.2), if_neg (fun z => h60 z.1)]
theorem RL.cd (r : RL A h K L) (rc : RC A L) {i : Nat} (hi : i < L) (hk : A 70 i = -1) (hs : A 69 i = 114) : RL (mcd A i) (hcd h i) K L := by
  obtain ⟨a1, a2, a3, a4, a5, a6⟩ := r
  have c9 := rc.1 i hi hk (by omega)
  refine ⟨by rw [mcd_c (by decide) (by decide) (by decide)]; exact a1, a2, by rw [hcd_N]; exact a3, by rw [hcd_D (by decide) (by decide)]; exact a4, fun l hl => ?_, fun l h1 h2 => ?_⟩
  · by_cases hli : l = i
    · subst hli
      obtain ⟨b1, b2, b3, b4, b5, b6, b7, b8, b9, b10, b11, b12, b13, b14⟩ := a5 l hl
      have b13 := b13 hk
      unfold RLn
      simp only [hcd_D (show 21 ≠ 9 by decide) (show 21 ≠ 22 by decide), hcd_9]
      simp [mcd_k]
      refine ⟨b1, b2, b3, b4, b5, b6, b7, b8, ?_, ?_, ?_, fun z => absurd hk z, fun _ => ?_, b14⟩
      · have e15 := b11.2.2
        by_cases h1 : A 83 l + 1 = A 82 l
        · rw [if_pos (by omega), if_pos h1]
          exact ⟨rfl, by unfold zst; omega⟩
        · rw [if_neg (by omega), if_neg h1, b9.1]
          exact ⟨hs, by unfold zst; omega⟩
      · intro z
        split at z <;> omega
      · omega
      · omega
    · refine RLn.frame (a5 l hl) (Nat.le_refl _) (by rw [hcd_D (by decide) (by decide)]) ?_ (fun c h1 h2 => mcd_l (by omega) hli) (fun p hp => by rw [mcd_c (by decide) (by decide) (by decide)]) (fun k hk => ⟨by rw [mcd_c (by decide) (by decide) (by decide)], by rw [mcd_c (by decide) (by decide) (by decide)], fun z => by rw [mcd_c (by decide) (by decide) (by decide)]; exact z⟩)
      funext j
      rw [hcd_9, if_neg (fun z => hli z.1), if_neg (fun z => hli z.1), if_neg (fun z => hli z.1), if_neg (fun z => hli z.1)]
  · have hli : l ≠ i := by omega
    rw [mcd_l (by decide) hli, mcd_l (by decide) hli, mcd_l (by decide) hli, mcd_l (by decide) hli, mcd_l (by decide) hli, mcd_l (by decide) hli, mcd_l (by decide) hli, mcd_l (by decide) hli, mcd_l (by decide) hli]
    exact a6 l h1 h2
theorem RC.cd (rc : RC A L) {i : Nat} (h0 : A 69 i ≠ 100) : RC (mcd A i) L := by
  refine ⟨?_, by rw [mcd_c (by decide) (by decide) (by decide)]; exact rc.2⟩
  intro l hl hk hs
  rw [mcd_c (by decide) (by decide) (by decide)] at hk
  rw [mcd_c (show 82 ≠ 69 by decide) (by decide) (by decide)]
  by_cases hli : l = i
  · subst hli
    have h1 : mcd A l 69 l = if A 83 l + 1 = A 82 l then 100 else 114 := by simp [mcd_k]
    have h2 : mcd A l 83 l = A 83 l + 1 := by simp [mcd_k]
    rw [h1] at hs
    rw [h2]
    have h3 : ¬ A 83 l + 1 = A 82 l := fun z => by
      rw [if_pos z] at hs
      exact hs rfl
    have := rc.1 l hl hk h0
    omega
  · rw [mcd_l (by decide) hli] at hs ⊢
    exact rc.1 l hl hk hs
theorem RK.cd (r : RK A h K) {i : Nat} : RK (mcd A i) (hcd h i) K := by
  have e : ∀ c, c ≠ 69 → c ≠ 83 → c ≠ 60 → mcd A i c = A c := fun c h1 h2 h3 => mcd_c h1 h2 h3
  refine r.frame ⟨by rw [e 12 (by decide) (by decide) (by decide)], e 61 (by decide) (by decide) (by decide), e 62 (by decide) (by decide) (by decide), e 63 (by decide) (by decide) (by decide), e 64 (by decide) (by decide) (by decide), e 65 (by decide) (by decide) (by decide), e 66 (by decide) (by decide) (by decide), e 67 (by decide) (by decide) (by decide), e 68 (by decide) (by decide) (by decide)⟩ (by rw [hcd_N]) (by rw [hcd_N]; exact Nat.le_refl _) (by rw [hcd_D (by decide) (by decide)]) (hcd_D (by decide) (by decide)) (fun _ _ => by rw [hcd_D (by decide) (by decide)]) (hcd_D (by decide) (by decide)) (hcd_D (by decide) (by decide))
theorem RM.cd (m : RM A h) (r : RL A h K L) (rc : RC A L) {i : Nat} (hi : i < L) (hk : A 70 i = -1) (hs : A 69 i = 114) : RM (mcd A i) (hcd h i) := by
  obtain ⟨-, -, -, -, -, -, -, -, -, -, ⟨e13, e14, e15⟩, -, b13, -⟩ := r.l hi
  have b13 := b13 hk
  have c9 := rc.1 i hi hk (by omega)
  obtain ⟨m1, m2⟩ := m
  refine ⟨fun j hj => ?_, ?_⟩
  · rw [hcd_22, show mcd A i 60 j = if j = (A 81 i + A 83 i).toNat then A 60 (A 80 i + A 83 i).toNat else A 60 j by simp [mcd_k], e13, e14]
    by_cases hz : j = (A 81 i + A 83 i).toNat
    · rw [if_pos hz, if_pos hz]
      exact m1 _ (by omega)
    · rw [if_neg hz, if_neg hz]
      exact m1 j hj
  · rw [hcd_D (by decide) (by decide), hcd_D (by decide) (by decide), mcd_c (by decide) (by decide) (by decide)]
    exact m2
end
