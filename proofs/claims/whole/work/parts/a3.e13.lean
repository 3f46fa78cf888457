/-! A NEW LAUNCH: the model -/
/-- the last launch of a queue among the first n -/
def zlast (A : zA) (q : Int) : Nat → Int
  | 0 => -1
  | n + 1 => if A 71 n = q then (n : Int) else zlast A q n
theorem zlast_rng (A : zA) (q : Int) : ∀ n : Nat, -1 ≤ zlast A q n ∧ zlast A q n < (n : Int)
  | 0 => ⟨Int.le_refl _, show (-1 : Int) < 0 by decide⟩
  | n + 1 => by
    have := zlast_rng A q n
    unfold zlast
    split <;> omega
theorem zlast_eq {A B : zA} {q : Int} : ∀ n : Nat, (∀ k : Nat, k < n → A 71 k = B 71 k) → zlast A q n = zlast B q n
  | 0, _ => rfl
  | n + 1, h => by
    unfold zlast
    rw [h n (Nat.lt_succ_self _), zlast_eq n (fun k hk => h k (Nat.lt_succ_of_lt hk))]
def zahd (A : zA) (q : Int) (n : Nat) : Int := if q = -1 then -1 else zlast A q n
theorem zahd_rng (A : zA) (q : Int) (n : Nat) : -1 ≤ zahd A q n ∧ zahd A q n < (n : Int) := by
  unfold zahd
  split
  · omega
  · exact zlast_rng A q n
def zahead (A : zA) (q : Int) (n : Nat) : Int := if zahd A q n ≠ -1 ∧ zover (A 69 (zahd A q n).toNat) = true then -1 else zahd A q n
def mAdd (A : zA) (q k aft : Int) (L : Nat) : zA := au (au (au (au (au (au (au A 69 L 113) 71 L q) 70 L k) 74 L aft) 76 L (-1)) 75 L (zahead A q L)) 12 13 ((L : Int) + 1)
section
variable {ρ : Type} {h : zH} {A : zA} {kr : Int → zH → Option ρ} {kt : Nat → zH → Option ρ} {K L : Nat}
theorem m_isOver {l : Nat} (hl : l < 12) : M_isOver (l : Int) (mh h A) kr = kr (tb (zover (A 69 l))) (mh h A) := by
  unfold M_isOver M_isOver_33 M_isOver_38 zover
  by_cases h1 : A 69 l = 100
  · simp [zix_n hl, mD69, h1, znar_1, tb]
  · by_cases h2 : A 69 l = 102
    · simp [zix_n hl, mD69, h2, znar_1, tb]
    · by_cases h3 : A 69 l = 120
      · simp [zix_n hl, mD69, h3, znar_1, tb]
      · simp [zix_n hl, mD69, h1, h2, h3, znar_0, tb]
theorem x_isOver {l : Nat} (hl : l < zhN h 9) : La_isOver (l : Int) h kr = kr (tb (zover (zhD h 9 l 10))) h := by
  unfold La_isOver La_isOver_27 La_isOver_32 zover
  by_cases h1 : zhD h 9 l 10 = 100
  · simp [zob_n hl, h1, znar_1, tb]
  · by_cases h2 : zhD h 9 l 10 = 102
    · simp [zob_n hl, h2, znar_1, tb]
    · by_cases h3 : zhD h 9 l 10 = 120
      · simp [zob_n hl, h3, znar_1, tb]
      · simp [zob_n hl, h1, h2, h3, znar_0, tb]
theorem m_add_loop {q : Int} {B : zA} (hL : L < 12) (h13 : B 12 13 = (L : Int)) : ∀ (n k : Nat), k ≤ L → L - k < n →
    zit (fun _ _ _ _ => none) (M_add_58b kr) n q (L : Int) (k : Int) (mh h (au B 75 L (zahd B q k))) = kr (L : Int) (mh h (au (au B 75 L (if zahd B q L ≠ -1 ∧ zover (B 69 (zahd B q L).toNat) = true then -1 else zahd B q L)) 12 13 ((L : Int) + 1)))
  | 0, k, hk, hn => absurd hn (Nat.not_lt_zero _)
  | n + 1, k, hk, hn => by
    show M_add_58b kr (zit (fun _ _ _ _ => none) (M_add_58b kr) n) q (L : Int) (k : Int) (mh h (au B 75 L (zahd B q k))) = _
    unfold M_add_58b M_add_92 M_add_99 M_add_141 M_add_148
    by_cases hkL : k < L
    · have hk12 : k < 12 := by omega
      have w1 : wr ((k : Int) + 1) = ((k + 1 : Nat) : Int) := by rw [wr_id (by omega) (by omega)]; rfl
      have ih := m_add_loop (q := q) (B := B) hL h13 n (k + 1) hkL (by omega)
      rw [if_pos (show (k : Int) < (L : Int) by omega)]
      by_cases hq : q = -1
      · have e1 : zahd B q (k + 1) = zahd B q k := by unfold zahd; rw [if_pos hq, if_pos hq]
        rw [e1] at ih
        rw [if_pos hq]
        simp only [zix_n hL, mD75, au_same, mS75, zlet_d, au_au, w1]
        exact ih
      · rw [if_neg hq, zix_n hk12]
        simp only [mD71, au_ne (show 71 ≠ 75 by decide)]
        by_cases h71 : B 71 k = q
        · have e1 : zahd B q (k + 1) = (k : Int) := by unfold zahd zlast; rw [if_neg hq, if_pos h71]
          rw [e1] at ih
          rw [if_pos h71]
          simp only [zix_n hL, mS75, zlet_d, au_au, w1]
          exact ih
        · have e1 : zahd B q (k + 1) = zahd B q k := by unfold zahd; rw [if_neg hq, if_neg hq]; show (if B 71 k = q then _ else _) = _; rw [if_neg h71]
          rw [e1] at ih
          rw [if_neg h71]
          simp only [zix_n hL, mD75, au_same, mS75, zlet_d, au_au, w1]
          exact ih
    · have hkL2 : k = L := by omega
      subst hkL2
      have w1 : wr ((k : Int) + 1) = (k : Int) + 1 := wr_id (by omega) (by omega)
      have hr := zahd_rng B q k
      rw [if_neg (show ¬ (k : Int) < (k : Int) by omega)]
      generalize zahd B q k = a at hr ⊢
      by_cases ha : a = -1
      · subst ha
        simp [zix_n hL, mD75, au_same, mS75, zlet_d, au_au, mD12, au_ne, h13, w1, mS12]
      · obtain ⟨m, rfl⟩ : ∃ m : Nat, a = (m : Int) := ⟨a.toNat, by omega⟩
        have hm : m < 12 := by omega
        have hm1 : ¬ (m : Int) = -1 := by omega
        cases hz : zover (B 69 m) with
        | true => simp [zix_n hL, mD75, au_same, mS75, zlet_d, au_au, mD12, au_ne, h13, w1, mS12, hm1, m_isOver hm, hz, tb_t]
        | false => simp [zix_n hL, mD75, au_same, mS75, zlet_d, au_au, mD12, au_ne, h13, w1, mS12, hm1, m_isOver hm, hz, tb_f]
theorem m_add {q k aft : Int} (hL : L < 12) (h13 : A 12 13 = (L : Int)) : M_add q k aft (mh h A) kr = kr (L : Int) (mh h (mAdd A q k aft L)) := by
  unfold M_add
  simp only [mD12, mS69, mS71, mS70, mS74, mS76, mS75, zlet_d, au_ne (show 12 ≠ 69 by decide), au_ne (show 12 ≠ 71 by decide), au_ne (show 12 ≠ 70 by decide), au_ne (show 12 ≠ 74 by decide), au_ne (show 12 ≠ 76 by decide), au_ne (show 12 ≠ 75 by decide), h13, zix_n hL]
  have hb := m_add_loop (kr := kr) (h := h) (q := q) (B := au (au (au (au (au A 69 L 113) 71 L q) 70 L k) 74 L aft) 76 L (-1)) hL (by simp [au_ne, h13]) zN 0 (Nat.zero_le _) (by show L - 0 < 5000; omega)
  have e0 : ∀ B : zA, zahd B q 0 = -1 := fun B => by unfold zahd zlast; rw [ite_self]
  rw [e0] at hb
  have e1 : zahd (au (au (au (au (au A 69 L 113) 71 L q) 70 L k) 74 L aft) 76 L (-1)) q L = zahd A q L := by
    unfold zahd
    rw [zlast_eq (B := A) L (fun j hj => by simp [au_ne, au_j, Nat.ne_of_lt hj])]
  have hr := zahd_rng A q L
  rw [e1] at hb
  have e2 : (if zahd A q L ≠ -1 ∧ zover ((au (au (au (au (au A 69 L 113) 71 L q) 70 L k) 74 L aft) 76 L (-1)) 69 (zahd A q L).toNat) = true then -1 else zahd A q L) = zahead A q L := by
    unfold zahead
    by_cases ha : zahd A q L = -1
    · rw [if_neg (fun z => z.1 ha), if_neg (fun z => z.1 ha)]
    · have hne : (zahd A q L).toNat ≠ L := by omega
      have e3 : (au (au (au (au (au A 69 L 113) 71 L q) 70 L k) 74 L aft) 76 L (-1)) 69 (zahd A q L).toNat = A 69 (zahd A q L).toNat := by simp [au_ne, au_j, hne]
      rw [e3]
  rw [e2] at hb
  exact hb
end
