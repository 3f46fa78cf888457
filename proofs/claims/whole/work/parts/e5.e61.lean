/-! GROUPS DROPPED: the class -/
section
variable {ρ : Type} {h : zH} {A B : zA} {kr : Int → zH → Option ρ} {K L n : Nat} {bc tc gc : Nat → Nat} {N M : Int}
/-- a unit's own arrays are there, its groups too -/
def UO (h : zH) (u m : Nat) : Prop := u < zhN h 3 ∧ zhD h 3 u 0 = (u : Int) ∧ u < zhN h 26 ∧ zhL h 26 u = 4 ∧ zhD h 3 u 2 = (m : Int) ∧ m ≤ 4 ∧ ∀ i, i < m → ∃ G : Nat, zhD h 26 u i = (G : Int) ∧ G < zhN h 11 ∧ ∃ b : Nat, zhD h 11 G 0 = (b : Int) ∧ b < zhN h 10
theorem x_cut_loop {u m k : Nat} (x : UO h u m) : ∀ (f i : Nat) (r : Nat → Int), i ≤ m → m - i < f → k ≤ i → ∃ r' : Nat → Int, (∀ kr : Int → zH → Option ρ, zit (fun _ _ _ _ => none) (Un_cutTo_2b kr) f (u : Int) (k : Int) (i : Int) (hrw h 26 u r) = kr 0 (zset (hrw h 26 u r') 3 u 2 (k : Int))) ∧ ∀ j, j < k → r' j = r j
  | 0, i, _, _, hf, _ => absurd hf (Nat.not_lt_zero _)
  | f + 1, i, r, hi, hf, hk => by
    obtain ⟨x1, x2, x3, x4, x5, x6, -⟩ := id x
    have d3 : ∀ j, zhD (hrw h 26 u r) 3 u j = zhD h 3 u j := fun j => by rw [hrw_D, if_neg (fun z => absurd z.1 (by decide))]
    have n3 : u < zhN (hrw h 26 u r) 3 := x1
    have n26 : u < zhN (hrw h 26 u r) 26 := x3
    by_cases him : i < m
    · have i4 : i < zhL (hrw h 26 u r) 26 u := by
        show i < zhL h 26 u
        rw [x4]
        omega
      have hf2 : m - (i + 1) < f := by omega
      have hlt : (i : Int) < (m : Int) := by omega
      have hk2 : k ≤ i + 1 := by omega
      have w1 : wr ((i : Int) + 1) = ((i + 1 : Nat) : Int) := by
        rw [wr_id (by omega) (by omega)]
        rfl
      obtain ⟨r', y1, y2⟩ := x_cut_loop x f (i + 1) (zup r i (-1)) him hf2 hk2
      refine ⟨r', fun kr => ?_, fun j hj => ?_⟩
      · rw [zit_s, ← y1 kr]
        generalize zit (fun _ _ _ _ => none) (Un_cutTo_2b kr) f = r9
        unfold Un_cutTo_2b
        rw [zob_n n3, d3, x5, if_pos hlt, zob_n n3, d3, x2, zob_n n26, zix_n i4, zorn_m, zlet_d, hrw_set, w1]
      · rw [y2 j hj, zup_ne (by clear w1; omega)]
    · have : i = m := Nat.le_antisymm hi (Nat.le_of_not_lt him)
      subst this
      refine ⟨r, fun kr => ?_, fun _ _ => rfl⟩
      rw [zit_s]
      unfold Un_cutTo_2b
      rw [zob_n n3, d3, x5, if_neg (Int.lt_irrefl _), zob_n n3, zlet_d]
theorem x_cutTo {u m k : Nat} {r : Nat → Int} (x : UO h u m) (hk : k ≤ m) : ∃ r' : Nat → Int, (∀ kr : Int → zH → Option ρ, Un_cutTo (u : Int) (k : Int) (hrw h 26 u r) kr = kr 0 (zset (hrw h 26 u r') 3 u 2 (k : Int))) ∧ ∀ j, j < k → r' j = r j := by
  obtain ⟨r', y1, y2⟩ := x_cut_loop (ρ := ρ) x zN k r hk (by have := x.2.2.2.2.2.1; show m - k < 5000; omega) (Nat.le_refl _)
  exact ⟨r', fun kr => by unfold Un_cutTo; exact y1 kr, y2⟩
theorem x_dropBlock_loop {u m bb : Nat} (x : UO h u m) : ∀ (f i k : Nat) (r : Nat → Int) (s : Nat → Nat), i ≤ m → m - i < f → k ≤ i → (∀ j, j < k → r j = zhD h 26 u (s j)) → (∀ j, i ≤ j → r j = zhD h 26 u j) → SEL (fun i => zhD h 11 (zhD h 26 u i).toNat 0 ≠ (bb : Int)) i k s → ∃ (r' : Nat → Int) (m' : Nat) (s' : Nat → Nat), (∀ kr : Int → zH → Option ρ, zit (fun _ _ _ _ _ => none) (Un_dropBlock_4b kr) f (u : Int) (bb : Int) (k : Int) (i : Int) (hrw h 26 u r) = kr 0 (zset (hrw h 26 u r') 3 u 2 (m' : Int))) ∧ SEL (fun i => zhD h 11 (zhD h 26 u i).toNat 0 ≠ (bb : Int)) m m' s' ∧ ∀ j, j < m' → r' j = zhD h 26 u (s' j)
  | 0, i, _, _, _, _, hf, _, _, _, _ => absurd hf (Nat.not_lt_zero _)
  | f + 1, i, k, r, s, hi, hf, hk, hr1, hr2, hs => by
    obtain ⟨x1, x2, x3, x4, x5, x6, x7⟩ := id x
    have D : ∀ c p j, ¬ (c = 26 ∧ p = u) → zhD (hrw h 26 u r) c p j = zhD h c p j := fun c p j hc => by rw [hrw_D, if_neg hc]
    have d3 : ∀ j, zhD (hrw h 26 u r) 3 u j = zhD h 3 u j := fun j => D 3 u j (fun z => absurd z.1 (by decide))
    have n3 : u < zhN (hrw h 26 u r) 3 := x1
    have n26 : u < zhN (hrw h 26 u r) 26 := x3
    have l26 : zhL (hrw h 26 u r) 26 u = 4 := x4
    by_cases him : i < m
    · obtain ⟨G, e1, e2, b, e3, e4⟩ := x7 i him
      have n11 : G < zhN (hrw h 26 u r) 11 := e2
      have n10 : b < zhN (hrw h 26 u r) 10 := e4
      have i4 : i < 4 := Nat.lt_of_lt_of_le him x6
      have k4 : k < 4 := Nat.lt_of_le_of_lt hk i4
      have hf2 : m - (i + 1) < f := by omega
      have hlt : (i : Int) < (m : Int) := by omega
      have eG : zhD (hrw h 26 u r) 26 u i = (G : Int) := by
        rw [hrw_D, if_pos ⟨rfl, rfl⟩, hr2 i (Nat.le_refl _)]
        exact e1
      have e3' : zhD (hrw h 26 u r) 11 G 0 = (b : Int) := by rw [D 11 G 0 (fun z => absurd z.1 (by decide))]; exact e3
      have e5' : zhD (hrw h 26 u r) 10 b 0 = zhD h 10 b 0 := D 10 b 0 (fun z => absurd z.1 (by decide))
      have w1 : wr ((i : Int) + 1) = ((i + 1 : Nat) : Int) := by
        rw [wr_id (by omega) (by omega)]
        rfl
      have w2 : wr ((k : Int) + 1) = ((k + 1 : Nat) : Int) := by
        clear w1
        rw [wr_id (by omega) (by omega)]
        rfl
      by_cases hb : (b : Int) = (bb : Int)
      · obtain ⟨r', m', s', y1, y2, y3⟩ := x_dropBlock_loop x f (i + 1) k r s him hf2 (Nat.le_succ_of_le hk) hr1 (fun j hj => hr2 j (Nat.le_of_succ_le hj)) (hs.snoc0 (fun z => z (by rw [e1, Int.toNat_natCast, e3]; exact hb)))
        refine ⟨r', m', s', fun kr => ?_, y2, y3⟩
        rw [zit_s, ← y1 kr]
        generalize zit (fun _ _ _ _ _ => none) (Un_dropBlock_4b kr) f = r9
        unfold Un_dropBlock_4b Un_dropBlock_40
        rw [zob_n n3, d3, x5, if_pos hlt, zob_n n3, d3, x2, zob_n n26, l26, zix_n i4, eG, zob_n n11, e3', if_pos hb, w1]
      · obtain ⟨r', m', s', y1, y2, y3⟩ := x_dropBlock_loop x f (i + 1) (k + 1) (zup r k (G : Int)) (fun y => if y = k then i else s y) him hf2 (Nat.succ_le_succ hk) (fun j hj => by
          by_cases hjk : j = k
          · subst hjk
            rw [zup_same, if_pos rfl]
            exact e1.symm
          · rw [zup_ne hjk, if_neg hjk]
            exact hr1 j (by clear w1 w2; omega)) (fun j hj => by rw [zup_ne (by clear w1 w2; omega)]; exact hr2 j (Nat.le_of_succ_le hj)) (hs.snoc1 (fun z => hb (by rw [e1, Int.toNat_natCast, e3] at z; exact z)))
        refine ⟨r', m', s', fun kr => ?_, y2, y3⟩
        rw [zit_s, ← y1 kr]
        generalize zit (fun _ _ _ _ _ => none) (Un_dropBlock_4b kr) f = r9
        unfold Un_dropBlock_4b Un_dropBlock_40
        rw [zob_n n3, d3, x5, if_pos hlt, zob_n n3, d3, x2, zob_n n26, l26, zix_n i4, eG, zob_n n11, e3', if_neg hb, zob_n n3, zob_n n3, d3, x2, zob_n n26, l26, zix_n i4, zob_n n26, l26, zix_n k4, eG, zorn_n n11, zlet_d, hrw_set, w1, w2]
    · have : i = m := Nat.le_antisymm hi (Nat.le_of_not_lt him)
      subst this
      obtain ⟨r', y1, y2⟩ := x_cutTo (ρ := ρ) (r := r) x hk
      refine ⟨r', k, s, fun kr => ?_, hs, fun j hj => (y2 j hj).trans (hr1 j hj)⟩
      rw [zit_s]
      unfold Un_dropBlock_4b
      rw [zob_n n3, d3, x5, if_neg (Int.lt_irrefl _), zob_n n3, y1]
theorem x_dropBlock {u m bb : Nat} (x : UO h u m) : ∃ (r' : Nat → Int) (m' : Nat) (s' : Nat → Nat), (∀ kr : Int → zH → Option ρ, Un_dropBlock (u : Int) (bb : Int) h kr = kr 0 (zset (hrw h 26 u r') 3 u 2 (m' : Int))) ∧ SEL (fun i => zhD h 11 (zhD h 26 u i).toNat 0 ≠ (bb : Int)) m m' s' ∧ ∀ j, j < m' → r' j = zhD h 26 u (s' j) := by
  have h4 := x.2.2.2.2.2.1
  obtain ⟨r', m', s', y1, y2, y3⟩ := x_dropBlock_loop (ρ := ρ) (bb := bb) x zN 0 0 (zhD h 26 u) (fun i => i) (Nat.zero_le _) (by show m - 0 < 5000; omega) (Nat.le_refl _) (fun j hj => absurd hj (Nat.not_lt_zero _)) (fun _ _ => rfl) SEL.nil
  refine ⟨r', m', s', fun kr => ?_, y2, y3⟩
  have := y1 kr
  rw [hrw_id] at this
  unfold Un_dropBlock
  exact this
theorem x_dropLaunch_loop {u m bb : Nat} (x : UO h u m) : ∀ (f i k : Nat) (r : Nat → Int) (s : Nat → Nat), i ≤ m → m - i < f → k ≤ i → (∀ j, j < k → r j = zhD h 26 u (s j)) → (∀ j, i ≤ j → r j = zhD h 26 u j) → SEL (fun i => zhD h 10 (zhD h 11 (zhD h 26 u i).toNat 0).toNat 0 ≠ (bb : Int)) i k s → ∃ (r' : Nat → Int) (m' : Nat) (s' : Nat → Nat), (∀ kr : Int → zH → Option ρ, zit (fun _ _ _ _ _ => none) (Un_dropLaunch_4b kr) f (u : Int) (bb : Int) (k : Int) (i : Int) (hrw h 26 u r) = kr 0 (zset (hrw h 26 u r') 3 u 2 (m' : Int))) ∧ SEL (fun i => zhD h 10 (zhD h 11 (zhD h 26 u i).toNat 0).toNat 0 ≠ (bb : Int)) m m' s' ∧ ∀ j, j < m' → r' j = zhD h 26 u (s' j)
  | 0, i, _, _, _, _, hf, _, _, _, _ => absurd hf (Nat.not_lt_zero _)
  | f + 1, i, k, r, s, hi, hf, hk, hr1, hr2, hs => by
    obtain ⟨x1, x2, x3, x4, x5, x6, x7⟩ := id x
    have D : ∀ c p j, ¬ (c = 26 ∧ p = u) → zhD (hrw h 26 u r) c p j = zhD h c p j := fun c p j hc => by rw [hrw_D, if_neg hc]
    have d3 : ∀ j, zhD (hrw h 26 u r) 3 u j = zhD h 3 u j := fun j => D 3 u j (fun z => absurd z.1 (by decide))
    have n3 : u < zhN (hrw h 26 u r) 3 := x1
    have n26 : u < zhN (hrw h 26 u r) 26 := x3
    have l26 : zhL (hrw h 26 u r) 26 u = 4 := x4
    by_cases him : i < m
    · obtain ⟨G, e1, e2, b, e3, e4⟩ := x7 i him
      have n11 : G < zhN (hrw h 26 u r) 11 := e2
      have n10 : b < zhN (hrw h 26 u r) 10 := e4
      have i4 : i < 4 := Nat.lt_of_lt_of_le him x6
      have k4 : k < 4 := Nat.lt_of_le_of_lt hk i4
      have hf2 : m - (i + 1) < f := by omega
      have hlt : (i : Int) < (m : Int) := by omega
      have eG : zhD (hrw h 26 u r) 26 u i = (G : Int) := by
        rw [hrw_D, if_pos ⟨rfl, rfl⟩, hr2 i (Nat.le_refl _)]
        exact e1
      have e3' : zhD (hrw h 26 u r) 11 G 0 = (b : Int) := by rw [D 11 G 0 (fun z => absurd z.1 (by decide))]; exact e3
      have e5' : zhD (hrw h 26 u r) 10 b 0 = zhD h 10 b 0 := D 10 b 0 (fun z => absurd z.1 (by decide))
      have w1 : wr ((i : Int) + 1) = ((i + 1 : Nat) : Int) := by
        rw [wr_id (by omega) (by omega)]
        rfl
      have w2 : wr ((k : Int) + 1) = ((k + 1 : Nat) : Int) := by
        clear w1
        rw [wr_id (by omega) (by omega)]
        rfl
      by_cases hb : zhD h 10 b 0 = (bb : Int)
      · obtain ⟨r', m', s', y1, y2, y3⟩ := x_dropLaunch_loop x f (i + 1) k r s him hf2 (Nat.le_succ_of_le hk) hr1 (fun j hj => hr2 j (Nat.le_of_succ_le hj)) (hs.snoc0 (fun z => z (by rw [e1, Int.toNat_natCast, e3, Int.toNat_natCast]; exact hb)))
        refine ⟨r', m', s', fun kr => ?_, y2, y3⟩
        rw [zit_s, ← y1 kr]
        generalize zit (fun _ _ _ _ _ => none) (Un_dropLaunch_4b kr) f = r9
        unfold Un_dropLaunch_4b Un_dropLaunch_43
        rw [zob_n n3, d3, x5, if_pos hlt, zob_n n3, d3, x2, zob_n n26, l26, zix_n i4, eG, zob_n n11, e3', zob_n n10, e5', if_pos hb, w1]
      · obtain ⟨r', m', s', y1, y2, y3⟩ := x_dropLaunch_loop x f (i + 1) (k + 1) (zup r k (G : Int)) (fun y => if y = k then i else s y) him hf2 (Nat.succ_le_succ hk) (fun j hj => by
          by_cases hjk : j = k
          · subst hjk
            rw [zup_same, if_pos rfl]
            exact e1.symm
          · rw [zup_ne hjk, if_neg hjk]
            exact hr1 j (by clear w1 w2; omega)) (fun j hj => by rw [zup_ne (by clear w1 w2; omega)]; exact hr2 j (Nat.le_of_succ_le hj)) (hs.snoc1 (fun z => hb (by rw [e1, Int.toNat_natCast, e3, Int.toNat_natCast] at z; exact z)))
        refine ⟨r', m', s', fun kr => ?_, y2, y3⟩
        rw [zit_s, ← y1 kr]
        generalize zit (fun _ _ _ _ _ => none) (Un_dropLaunch_4b kr) f = r9
        unfold Un_dropLaunch_4b Un_dropLaunch_43
        rw [zob_n n3, d3, x5, if_pos hlt, zob_n n3, d3, x2, zob_n n26, l26, zix_n i4, eG, zob_n n11, e3', zob_n n10, e5', if_neg hb, zob_n n3, zob_n n3, d3, x2, zob_n n26, l26, zix_n i4, zob_n n26, l26, zix_n k4, eG, zorn_n n11, zlet_d, hrw_set, w1, w2]
    · have : i = m := Nat.le_antisymm hi (Nat.le_of_not_lt him)
      subst this
      obtain ⟨r', y1, y2⟩ := x_cutTo (ρ := ρ) (r := r) x hk
      refine ⟨r', k, s, fun kr => ?_, hs, fun j hj => (y2 j hj).trans (hr1 j hj)⟩
      rw [zit_s]
      unfold Un_dropLaunch_4b
      rw [zob_n n3, d3, x5, if_neg (Int.lt_irrefl _), zob_n n3, y1]
theorem x_dropLaunch {u m bb : Nat} (x : UO h u m) : ∃ (r' : Nat → Int) (m' : Nat) (s' : Nat → Nat), (∀ kr : Int → zH → Option ρ, Un_dropLaunch (u : Int) (bb : Int) h kr = kr 0 (zset (hrw h 26 u r') 3 u 2 (m' : Int))) ∧ SEL (fun i => zhD h 10 (zhD h 11 (zhD h 26 u i).toNat 0).toNat 0 ≠ (bb : Int)) m m' s' ∧ ∀ j, j < m' → r' j = zhD h 26 u (s' j) := by
  have h4 := x.2.2.2.2.2.1
  obtain ⟨r', m', s', y1, y2, y3⟩ := x_dropLaunch_loop (ρ := ρ) (bb := bb) x zN 0 0 (zhD h 26 u) (fun i => i) (Nat.zero_le _) (by show m - 0 < 5000; omega) (Nat.le_refl _) (fun j hj => absurd hj (Nat.not_lt_zero _)) (fun _ _ => rfl) SEL.nil
  refine ⟨r', m', s', fun kr => ?_, y2, y3⟩
  have := y1 kr
  rw [hrw_id] at this
  unfold Un_dropLaunch
  exact this
end
