/-! TOUCHES OF THE MEMORY, KEPT -/
section
variable {h : zH} {A B : zA} {K L n G : Nat} {bc tc gc : Nat → Nat} {N M : Int}
theorem hTG_N {b2 l k t c : Nat} {w : Bool} : zhN (hTG h b2 l k t c w) = zhN h := by
  unfold hTG
  split
  · exact hMR_N
  · rfl
theorem hTG_L {b2 l k t c : Nat} {w : Bool} : zhL (hTG h b2 l k t c w) = zhL h := by
  unfold hTG
  split
  · exact hMR_L
  · rfl
theorem hTG_C {b2 l k t c : Nat} {w : Bool} : zhC (hTG h b2 l k t c w) = zhC h := by
  unfold hTG
  split
  · exact hMR_C
  · rfl
theorem hTG_S {b2 l k t c : Nat} {w : Bool} : zhS (hTG h b2 l k t c w) = zhS h := by
  unfold hTG
  split
  · exact hMR_S
  · rfl
theorem hTG_D {b2 l k t c : Nat} {w : Bool} {c2 p j : Nat} (h1 : c2 ≠ 34) (h2 : c2 ≠ 39) (h3 : c2 ≠ 35) (h4 : ¬ (c2 = 9 ∧ j = 18)) : zhD (hTG h b2 l k t c w) c2 p j = zhD h c2 p j := by
  unfold hTG
  rw [zD_set, if_neg (fun z => h1 z.1), zD_set, if_neg (fun z => h2 z.1)]
  split
  · exact hMR_D h3 h4
  · rfl
theorem hTG_34 {b2 l k t c : Nat} {w : Bool} {p j : Nat} : zhD (hTG h b2 l k t c w) 34 p j = if p = l ∧ j = c then zwt (zhD h 34 l c) k w else zhD h 34 p j := by
  unfold hTG
  have e : zhD (if zrace h b2 l k t c w = true then hMR h l c else h) 34 p j = zhD h 34 p j := by
    split
    · exact hMR_D (by decide) (fun z => absurd z.1 (by decide))
    · rfl
  rw [zD_set, zD_ne (by decide), e]
  simp
theorem hTG_39 {b2 l k t c : Nat} {w : Bool} {p j : Nat} : zhD (hTG h b2 l k t c w) 39 p j = if p = b2 ∧ j = c then zwt (zhD h 39 b2 c) t w else zhD h 39 p j := by
  unfold hTG
  have e : zhD (if zrace h b2 l k t c w = true then hMR h l c else h) 39 p j = zhD h 39 p j := by
    split
    · exact hMR_D (by decide) (fun z => absurd z.1 (by decide))
    · rfl
  rw [zD_ne (by decide), zD_set, e]
  simp
theorem hTG_35 {b2 l k t c : Nat} {w : Bool} {p j : Nat} : zhD (hTG h b2 l k t c w) 35 p j = if zrace h b2 l k t c w = true ∧ zhD h 35 l c = 0 ∧ p = l ∧ j = c then 1 else zhD h 35 p j := by
  unfold hTG
  rw [zD_ne (by decide), zD_ne (by decide)]
  by_cases h1 : zrace h b2 l k t c w = true
  · rw [if_pos h1]
    unfold hMR
    by_cases h2 : zhD h 35 l c = 0
    · rw [if_pos h2, zD_ne (by decide), zD_set]
      simp [h1, h2]
    · rw [if_neg h2, if_neg (fun z => h2 z.2.1)]
  · rw [if_neg h1, if_neg (fun z => h1 z.1)]
theorem hTG_9 {b2 l k t c : Nat} {w : Bool} {p : Nat} : zhD (hTG h b2 l k t c w) 9 p 18 = if zrace h b2 l k t c w = true ∧ zhD h 35 l c = 0 ∧ p = l then zhD h 9 l 18 + 1 else zhD h 9 p 18 := by
  unfold hTG
  rw [zD_ne (by decide), zD_ne (by decide)]
  by_cases h1 : zrace h b2 l k t c w = true
  · rw [if_pos h1]
    unfold hMR
    by_cases h2 : zhD h 35 l c = 0
    · rw [if_pos h2, zD_set]
      simp [h1, h2, zD_ne]
    · rw [if_neg h2, if_neg (fun z => h2 z.2.1)]
  · rw [if_neg h1, if_neg (fun z => h1 z.1)]
theorem mAC_c {b t c c2 : Nat} {w : Bool} (h1 : c2 ≠ 103) (h2 : c2 ≠ 104) (h3 : c2 ≠ 105) : mAC A b t c w c2 = A c2 := by
  unfold mAC
  rw [au_ne h2, au_ne h1, au_ne h3]
theorem mAC_103 {b t c : Nat} {w : Bool} {j : Nat} : mAC A b t c w 103 j = if j = 96 * (64 * (b / 6) + c) + (16 * (b % 6) + t) then A 86 b + 1 else A 103 j := by
  unfold mAC
  rw [au_ne (by decide), au_j, au_ne (by decide)]
theorem mAC_104 {b t c : Nat} {w : Bool} {j : Nat} : mAC A b t c w 104 j = if j = 96 * (64 * (b / 6) + c) + (16 * (b % 6) + t) then (if w = true then A 86 b + 1 else A 104 (96 * (64 * (b / 6) + c) + (16 * (b % 6) + t))) else A 104 j := by
  unfold mAC
  rw [au_j, au_ne (by decide), au_ne (by decide)]
theorem mAC_105 {b t c : Nat} {w : Bool} : mAC A b t c w 105 = zup (A 105) (64 * (b / 6) + c) (tb (decide (A 105 (64 * (b / 6) + c) = 1) || zacc A b t c w)) := by
  unfold mAC
  rw [au_ne (by decide), au_ne (by decide), au_zup]
/-- both find the same races -/
theorem race_eq (q : RR A h K L bc tc gc n B N M) {b t c : Nat} {w : Bool} (hb : b < 72) (hin : A 87 b = 1) (ht : (t : Int) < A 73 (b / 6)) (hc : c < 64) : zrace h (bc b) (b / 6) (b % 6) t c w = zacc A b t c w := by
  obtain ⟨k0, hkK, hk, hbL, ⟨ht0, ht1⟩, -, ⟨k1, k2, k3, k4⟩, -⟩ := q.blk hb hin
  obtain ⟨i1, i2, i3, i4, i5, i6⟩ := q.bi.2.1 b hb hin
  obtain ⟨-, -, -, -, -, -, -, -, -, -, -, b12, -⟩ := q.rl.l i1
  obtain ⟨c1, c2, c3, c4, -, -, -, c8, c9, -⟩ := b12 i2
  have hta := q.ta.1
  obtain ⟨tl1, -⟩ := q.tl (b / 6) i1
  obtain ⟨-, tl2, tl3⟩ := tl1 c hc
  have htb := fun t2 ht2 => q.tb.1 b c t2 hb hin hc ht2
  rw [Bool.eq_iff_iff]
  unfold zrace zacc zclh
  rw [Bool.or_eq_true_iff, zan_iff, zan_iff, zan_iff]
  have rowc : w = true ∨ w = false := by cases w <;> simp
  constructor
  · rintro (⟨i, hi, hz⟩ | ⟨k, hk16, hz⟩)
    · obtain ⟨z1, z2⟩ := zand_t hz
      have z3 : i ≠ t := of_decide_eq_true z1
      have z4 : A 86 b + 1 ≤ A (if w = true then 103 else 104) (96 * (64 * (b / 6) + c) + (16 * (b % 6) + i)) := by
        rcases rowc with rfl | rfl
        · rw [if_pos rfl] at z2 ⊢
          rw [(htb i hi).1] at z2
          exact of_decide_eq_true z2
        · rw [if_neg (by decide)] at z2 ⊢
          rw [(htb i hi).2] at z2
          exact of_decide_eq_true z2
      have z5 : (i : Int) < A 73 (b / 6) := by
        by_cases z6 : b / 6 < L ∧ ((b % 6 : Nat) : Int) < A 78 (b / 6) ∧ (i : Int) < A 73 (b / 6)
        · exact z6.2.2
        · obtain ⟨z7, z8⟩ := hta (b / 6) c (b % 6) i k4 hc (by omega) hi z6
          exfalso
          rcases rowc with rfl | rfl
          · rw [if_pos rfl, z7] at z4
            omega
          · rw [if_neg (by decide), z8] at z4
            omega
      refine ⟨b % 6, by omega, (zan_iff _).mpr ⟨i, by omega, ?_⟩⟩
      unfold fK
      rw [decide_eq_false (fun z => z3 z.2), if_pos rfl, decide_eq_true z4]
      rfl
    · obtain ⟨z1, z2⟩ := zand_t hz
      have z3 : k ≠ b % 6 := of_decide_eq_true z1
      by_cases hk6 : k < 6
      · have z4 : ∃ t2 : Nat, t2 < 16 ∧ 1 ≤ A (if w = true then 103 else 104) (96 * (64 * (b / 6) + c) + (16 * k + t2)) := by
          rcases rowc with rfl | rfl
          · rw [if_pos rfl] at z2 ⊢
            exact (tl2 k hk6).1.mp z2
          · rw [if_neg (by decide)] at z2 ⊢
            exact (tl2 k hk6).2.mp z2
        obtain ⟨t2, ht2, z4⟩ := z4
        have z5 : (k : Int) < A 78 (b / 6) ∧ (t2 : Int) < A 73 (b / 6) := by
          by_cases z6 : b / 6 < L ∧ (k : Int) < A 78 (b / 6) ∧ (t2 : Int) < A 73 (b / 6)
          · exact z6.2
          · obtain ⟨z7, z8⟩ := hta (b / 6) c k t2 k4 hc hk6 ht2 z6
            exfalso
            rcases rowc with rfl | rfl
            · rw [if_pos rfl, z7] at z4
              omega
            · rw [if_neg (by decide), z8] at z4
              omega
        refine ⟨k, by omega, (zan_iff _).mpr ⟨t2, by omega, ?_⟩⟩
        unfold fK
        rw [decide_eq_false (fun z => z3 z.1), if_neg z3, decide_eq_true z4]
        rfl
      · exfalso
        obtain ⟨z4, z5⟩ := tl3 k (by omega) hk16
        rcases rowc with rfl | rfl
        · rw [if_pos rfl, z4] at z2
          cases z2
        · rw [if_neg (by decide), z5] at z2
          cases z2
  · rintro ⟨k, hkb, hz⟩
    obtain ⟨t2, ht2, hf⟩ := (zan_iff _).mp hz
    unfold fK at hf
    obtain ⟨z1, z2⟩ := zand_t hf
    have z2 := of_decide_eq_true z2
    have z1 : ¬ (k = b % 6 ∧ t2 = t) := fun z => by
      rw [decide_eq_true z] at z1
      cases z1
    have hk6 : k < 6 := by omega
    have ht16 : t2 < 16 := by omega
    by_cases hkb6 : k = b % 6
    · rw [if_pos hkb6] at z2
      refine Or.inl ⟨t2, ht16, ?_⟩
      rw [decide_eq_true (show t2 ≠ t from fun z => z1 ⟨hkb6, z⟩), Bool.true_and]
      rcases rowc with rfl | rfl
      · rw [if_pos rfl] at z2 ⊢
        rw [(htb t2 ht16).1]
        exact decide_eq_true (hkb6 ▸ z2)
      · rw [if_neg (by decide)] at z2 ⊢
        rw [(htb t2 ht16).2]
        exact decide_eq_true (hkb6 ▸ z2)
    · rw [if_neg hkb6] at z2
      refine Or.inr ⟨k, by omega, ?_⟩
      rw [decide_eq_true hkb6, Bool.true_and]
      rcases rowc with rfl | rfl
      · rw [if_pos rfl] at z2 ⊢
        exact (tl2 k hk6).1.mpr ⟨t2, ht16, z2⟩
      · rw [if_neg (by decide)] at z2 ⊢
        exact (tl2 k hk6).2.mpr ⟨t2, ht16, z2⟩
theorem rr_acc (q : RR A h K L bc tc gc n B N M) {b t c : Nat} {w : Bool} (hb : b < 72) (hin : A 87 b = 1) (ht : (t : Int) < A 73 (b / 6)) (hc : c < 64) : RR (mAC A b t c w) (hTG h (bc b) (b / 6) (b % 6) t c w) K L bc tc gc n B N M := by
  have hrace := race_eq (w := w) q hb hin ht hc
  obtain ⟨k0, hkK, hk, hbL, ⟨ht0, ht1⟩, -, ⟨k1, k2, k3, k4⟩, -⟩ := q.blk hb hin
  obtain ⟨i1, i2, i3, i4, i5, i6⟩ := q.bi.2.1 b hb hin
  have hA : ∀ c2 j, oatx c2 j = true → mAC A b t c w c2 j = A c2 j := fun c2 j hz => by
    have n1 : c2 ≠ 103 := fun e => by subst e; cases hz
    have n2 : c2 ≠ 104 := fun e => by subst e; cases hz
    have n3 : c2 ≠ 105 := fun e => by subst e; cases hz
    rw [mAC_c n1 n2 n3]
  have hD : ∀ c2 p j, odtx c2 j = true → zhD (hTG h (bc b) (b / 6) (b % 6) t c w) c2 p j = zhD h c2 p j := fun c2 p j hz => by
    have n1 : c2 ≠ 34 := fun e => by subst e; cases hz
    have n2 : c2 ≠ 39 := fun e => by subst e; cases hz
    have n3 : c2 ≠ 35 := fun e => by subst e; cases hz
    exact hTG_D n1 n2 n3 (fun z => by obtain ⟨rfl, rfl⟩ := z; cases hz)
  have e73 : mAC A b t c w 73 = A 73 := mAC_c (by decide) (by decide) (by decide)
  have e78 : mAC A b t c w 78 = A 78 := mAC_c (by decide) (by decide) (by decide)
  have e86 : mAC A b t c w 86 = A 86 := mAC_c (by decide) (by decide) (by decide)
  have e87 : mAC A b t c w 87 = A 87 := mAC_c (by decide) (by decide) (by decide)
  have e62 : mAC A b t c w 62 = A 62 := mAC_c (by decide) (by decide) (by decide)
  have e70 : mAC A b t c w 70 = A 70 := mAC_c (by decide) (by decide) (by decide)
  have e106 : mAC A b t c w 106 = A 106 := mAC_c (by decide) (by decide) (by decide)
  have e107 : mAC A b t c w 107 = A 107 := mAC_c (by decide) (by decide) (by decide)
  have e108 : mAC A b t c w 108 = A 108 := mAC_c (by decide) (by decide) (by decide)
  obtain ⟨ta1, ta2, ta3, ta4, ta5, ta6, ta7, ta8⟩ := q.ta
  have h105 := ta5 (b / 6) c k4 hc
  refine up_tx q hA hD hTG_N hTG_L hTG_C hTG_S ?_ ?_ ?_
  · unfold TA
    rw [e73, e78, e86, e87, e106, e107, e108]
    refine ⟨fun l cell k t2 hl hcell hk2 ht2 hz => ?_, ta2, ta3, ta4, fun l cell hl hcell => ?_, fun l cell hl hl2 hcell => ?_, fun b2 cell t2 hb2 hin2 hcell ht2 => ?_, ta8⟩
    · obtain ⟨y1, y2⟩ := ta1 l cell k t2 hl hcell hk2 ht2 hz
      have hne : 96 * (64 * l + cell) + (16 * k + t2) ≠ 96 * (64 * (b / 6) + c) + (16 * (b % 6) + t) := fun z => hz (by
        have : l = b / 6 ∧ k = b % 6 ∧ t2 = t := by omega
        obtain ⟨rfl, rfl, rfl⟩ := this
        exact ⟨i1, i3, ht⟩)
      rw [mAC_103, mAC_104, if_neg hne, if_neg hne]
      exact ⟨y1, y2⟩
    · rw [mAC_105]
      unfold zup
      split
      · exact tb_01 _
      · exact ta5 l cell hl hcell
    · rw [mAC_105]
      unfold zup
      rw [if_neg (by omega)]
      exact ta6 l cell hl hl2 hcell
    · obtain ⟨y1, y2⟩ := ta7 b2 cell t2 hb2 hin2 hcell ht2
      rw [mAC_103, mAC_104]
      by_cases hne : 96 * (64 * (b2 / 6) + cell) + (16 * (b2 % 6) + t2) = 96 * (64 * (b / 6) + c) + (16 * (b % 6) + t)
      · have : b2 = b := by omega
        subst this
        rw [if_pos hne, if_pos hne]
        refine ⟨Int.le_refl _, ?_⟩
        split
        · exact Int.le_refl _
        · rw [← hne]
          exact y2
      · rw [if_neg hne, if_neg hne]
        exact ⟨y1, y2⟩
  · unfold TB
    rw [e62, e70, e86, e87, e106, e107, e108]
    have x40 : ∀ p j, zhD (hTG h (bc b) (b / 6) (b % 6) t c w) 40 p j = zhD h 40 p j := fun p j => hTG_D (by decide) (by decide) (by decide) (fun z => absurd z.1 (by decide))
    have x41 : ∀ p j, zhD (hTG h (bc b) (b / 6) (b % 6) t c w) 41 p j = zhD h 41 p j := fun p j => hTG_D (by decide) (by decide) (by decide) (fun z => absurd z.1 (by decide))
    refine ⟨fun b2 cell t2 hb2 hin2 hcell ht2 => ?_, fun b2 c2 hb2 hin2 hc2 => ?_⟩
    · obtain ⟨y1, y2⟩ := q.tb.1 b2 cell t2 hb2 hin2 hcell ht2
      rw [hTG_39, mAC_103, mAC_104]
      by_cases hs : bc b2 = bc b ∧ cell = c
      · have hbb := q.bh.2 b2 b hb2 hb hin2 hin hs.1
        obtain ⟨-, rfl⟩ := hs
        subst hbb
        rw [if_pos ⟨rfl, rfl⟩, zwt_bit (by omega) (by omega), zwt_bit (by omega) (by omega), y1, y2]
        by_cases htt : t2 = t
        · subst htt
          rw [if_pos rfl, if_pos rfl, decide_eq_true (show t2 = t2 from rfl), decide_eq_true (Int.le_refl _), decide_eq_false (show ¬ 16 + t2 = t2 by omega), decide_eq_true (show 16 + t2 = 16 + t2 from rfl)]
          cases w with
          | true =>
            rw [if_pos rfl, decide_eq_true (Int.le_refl _)]
            simp
          | false =>
            rw [if_neg (by decide)]
            simp
        · have n1 : 96 * (64 * (b2 / 6) + cell) + (16 * (b2 % 6) + t2) ≠ 96 * (64 * (b2 / 6) + cell) + (16 * (b2 % 6) + t) := by omega
          rw [if_neg n1, if_neg n1, decide_eq_false htt, decide_eq_false (show ¬ t2 = 16 + t by omega), decide_eq_false (show ¬ 16 + t2 = t by omega), decide_eq_false (show ¬ 16 + t2 = 16 + t by omega)]
          simp
      · have n1 : 96 * (64 * (b2 / 6) + cell) + (16 * (b2 % 6) + t2) ≠ 96 * (64 * (b / 6) + c) + (16 * (b % 6) + t) := fun z => hs (by
          have : b2 = b ∧ cell = c := by omega
          exact ⟨by rw [this.1], this.2⟩)
        rw [if_neg hs, if_neg n1, if_neg n1]
        exact ⟨y1, y2⟩
    · simp only [x40, x41]
      exact q.tb.2 b2 c2 hb2 hin2 hc2
  · unfold TL
    rw [e108]
    intro l hl
    have hL12 := q.rl.2.1
    obtain ⟨z1, z2⟩ := q.tl l hl
    refine ⟨fun cell hcell => ?_, ?_⟩
    · obtain ⟨y1, y2, y3⟩ := z1 cell hcell
      refine ⟨?_, fun k2 hk2 => ?_, fun k2 hk6 hk16 => ?_⟩
      · rw [hTG_35, mAC_105, hrace]
        unfold zup
        by_cases hs : l = b / 6 ∧ cell = c
        · obtain ⟨rfl, rfl⟩ := hs
          rw [if_pos rfl, y1]
          rcases h105 with z | z
          · rw [z]
            cases zacc A b t cell w <;> simp [tb]
          · rw [z]
            simp [tb]
        · rw [if_neg (fun z => hs ⟨z.2.2.1, z.2.2.2⟩), if_neg (by omega)]
          exact y1
      · obtain ⟨x1, x2⟩ := y2 k2 hk2
        rw [hTG_34]
        simp only [mAC_103, mAC_104]
        by_cases hs : l = b / 6 ∧ cell = c
        · obtain ⟨rfl, rfl⟩ := hs
          rw [if_pos ⟨rfl, rfl⟩, zwt_bit (by omega) (by omega), zwt_bit (by omega) (by omega)]
          by_cases hkk : k2 = b % 6
          · subst hkk
            constructor
            · rw [decide_eq_true rfl]
              simp only [Bool.or_true, Bool.true_or, true_iff]
              exact ⟨t, by omega, by rw [if_pos rfl]; omega⟩
            · cases w with
              | true =>
                rw [decide_eq_true (show 16 + b % 6 = 16 + b % 6 from rfl)]
                simp only [Bool.true_and, Bool.or_true, true_iff]
                exact ⟨t, by omega, by rw [if_pos rfl, if_pos trivial]; omega⟩
              | false =>
                rw [decide_eq_false (show ¬ 16 + b % 6 = b % 6 by omega), Bool.false_and, Bool.or_false, Bool.or_false, x2]
                refine exists_congr (fun t2 => and_congr_right (fun ht2 => ?_))
                by_cases hn : 96 * (64 * (b / 6) + cell) + (16 * (b % 6) + t2) = 96 * (64 * (b / 6) + cell) + (16 * (b % 6) + t)
                · rw [if_pos hn, if_neg (by decide), hn]
                · rw [if_neg hn]
          · rw [decide_eq_false hkk, decide_eq_false (show ¬ k2 = 16 + b % 6 by omega), decide_eq_false (show ¬ 16 + k2 = b % 6 by omega), decide_eq_false (show ¬ 16 + k2 = 16 + b % 6 by omega), Bool.and_false, Bool.or_false, Bool.or_false, Bool.or_false, Bool.or_false, x1, x2]
            have n1 : ∀ t2, t2 < 16 → ¬ 96 * (64 * (b / 6) + cell) + (16 * k2 + t2) = 96 * (64 * (b / 6) + cell) + (16 * (b % 6) + t) := fun t2 ht2 => by omega
            exact ⟨exists_congr (fun t2 => and_congr_right (fun ht2 => by rw [if_neg (n1 t2 ht2)])), exists_congr (fun t2 => and_congr_right (fun ht2 => by rw [if_neg (n1 t2 ht2)]))⟩
        · rw [if_neg hs, x1, x2]
          have n1 : ∀ t2, t2 < 16 → ¬ 96 * (64 * l + cell) + (16 * k2 + t2) = 96 * (64 * (b / 6) + c) + (16 * (b % 6) + t) := fun t2 ht2 z => hs (by omega)
          exact ⟨exists_congr (fun t2 => and_congr_right (fun ht2 => by rw [if_neg (n1 t2 ht2)])), exists_congr (fun t2 => and_congr_right (fun ht2 => by rw [if_neg (n1 t2 ht2)]))⟩
      · obtain ⟨x1, x2⟩ := y3 k2 hk6 hk16
        rw [hTG_34]
        by_cases hs : l = b / 6 ∧ cell = c
        · obtain ⟨rfl, rfl⟩ := hs
          rw [if_pos ⟨rfl, rfl⟩, zwt_bit (by omega) (by omega), zwt_bit (by omega) (by omega), x1, x2, decide_eq_false (show ¬ k2 = b % 6 by omega), decide_eq_false (show ¬ k2 = 16 + b % 6 by omega), decide_eq_false (show ¬ 16 + k2 = b % 6 by omega), decide_eq_false (show ¬ 16 + k2 = 16 + b % 6 by omega)]
          simp
        · rw [if_neg hs]
          exact ⟨x1, x2⟩
    · rw [hTG_9, mAC_105, zsum_up, hrace]
      by_cases hs : l = b / 6
      · subst hs
        have y1 := (z1 c hc).1
        rw [if_pos (show 64 * (b / 6) ≤ 64 * (b / 6) + c ∧ 64 * (b / 6) + c < 64 * (b / 6) + 64 by omega), z2, y1]
        rcases h105 with z | z
        · rw [z]
          cases zacc A b t c w
          · simp [tb]
          · simp [tb]
            omega
        · rw [z]
          simp [tb]
      · rw [if_neg (fun z => hs z.2.2), if_neg (by omega), z2]
        omega
end
