/-! COUNTS OF KINDS 7, 8, 33 MAY CHANGE -/
section
variable {h h' : zH} {A B : zA} {K L : Nat} {bc tc gc : Nat → Nat}
theorem BH.cnt (q : BH A h bc) (hN : ∀ c, c ≠ 7 → c ≠ 8 → c ≠ 33 → zhN h' c = zhN h c) (hL : ∀ c p, c ≠ 7 → c ≠ 8 → c ≠ 33 → zhL h' c p = zhL h c p) (hD : zhD h' = zhD h) : BH A h' bc := by
  unfold BH at q ⊢
  simp (disch := decide) only [hN, hL, hD]
  exact q
theorem TH.cnt (q : TH A h bc tc) (hN : ∀ c, c ≠ 7 → c ≠ 8 → c ≠ 33 → zhN h' c = zhN h c) (hL : ∀ c p, c ≠ 7 → c ≠ 8 → c ≠ 33 → zhL h' c p = zhL h c p) (hD : zhD h' = zhD h) : TH A h' bc tc := by
  unfold TH at q ⊢
  simp (disch := decide) only [hN, hL, hD]
  exact q
theorem TD.cnt (q : TD A h tc) (hN : ∀ c, c ≠ 7 → c ≠ 8 → c ≠ 33 → zhN h' c = zhN h c) (hL : ∀ c p, c ≠ 7 → c ≠ 8 → c ≠ 33 → zhL h' c p = zhL h c p) (hD : zhD h' = zhD h) : TD A h' tc := by
  unfold TD at q ⊢
  simp (disch := decide) only [hN, hL, hD]
  exact q
theorem GH.cnt (q : GH A h bc tc gc) (hN : ∀ c, c ≠ 7 → c ≠ 8 → c ≠ 33 → zhN h' c = zhN h c) (hL : ∀ c p, c ≠ 7 → c ≠ 8 → c ≠ 33 → zhL h' c p = zhL h c p) (hD : zhD h' = zhD h) : GH A h' bc tc gc := by
  unfold GH at q ⊢
  simp (disch := decide) only [hN, hL, hD]
  exact q
theorem SH.cnt (q : SH A h bc) (hN : ∀ c, c ≠ 7 → c ≠ 8 → c ≠ 33 → zhN h' c = zhN h c) (hL : ∀ c p, c ≠ 7 → c ≠ 8 → c ≠ 33 → zhL h' c p = zhL h c p) (hD : zhD h' = zhD h) : SH A h' bc := by
  unfold SH at q ⊢
  simp (disch := decide) only [hN, hL, hD]
  exact q
theorem US.cnt (q : US A h gc) (hN : ∀ c, c ≠ 7 → c ≠ 8 → c ≠ 33 → zhN h' c = zhN h c) (hL : ∀ c p, c ≠ 7 → c ≠ 8 → c ≠ 33 → zhL h' c p = zhL h c p) (hD : zhD h' = zhD h) : US A h' gc := by
  unfold US at q ⊢
  simp (disch := decide) only [hN, hL, hD]
  exact q
theorem UG.cnt (q : UG A h gc) (hN : ∀ c, c ≠ 7 → c ≠ 8 → c ≠ 33 → zhN h' c = zhN h c) (hL : ∀ c p, c ≠ 7 → c ≠ 8 → c ≠ 33 → zhL h' c p = zhL h c p) (hD : zhD h' = zhD h) : UG A h' gc := by
  unfold UG at q ⊢
  simp (disch := decide) only [hN, hL, hD]
  exact q
theorem UL.cnt (q : UL A h) (hN : ∀ c, c ≠ 7 → c ≠ 8 → c ≠ 33 → zhN h' c = zhN h c) (hL : ∀ c p, c ≠ 7 → c ≠ 8 → c ≠ 33 → zhL h' c p = zhL h c p) (hD : zhD h' = zhD h) : UL A h' := by
  unfold UL at q ⊢
  simp (disch := decide) only [hN, hL, hD]
  exact q
theorem TB.cnt (q : TB A h bc) (hN : ∀ c, c ≠ 7 → c ≠ 8 → c ≠ 33 → zhN h' c = zhN h c) (hL : ∀ c p, c ≠ 7 → c ≠ 8 → c ≠ 33 → zhL h' c p = zhL h c p) (hD : zhD h' = zhD h) : TB A h' bc := by
  unfold TB at q ⊢
  simp (disch := decide) only [hN, hL, hD]
  exact q
theorem TL.cnt (q : TL A h L) (hN : ∀ c, c ≠ 7 → c ≠ 8 → c ≠ 33 → zhN h' c = zhN h c) (hL : ∀ c p, c ≠ 7 → c ≠ 8 → c ≠ 33 → zhL h' c p = zhL h c p) (hD : zhD h' = zhD h) : TL A h' L := by
  unfold TL at q ⊢
  simp (disch := decide) only [hN, hL, hD]
  exact q
theorem RM.cnt (q : RM A h) (hN : ∀ c, c ≠ 7 → c ≠ 8 → c ≠ 33 → zhN h' c = zhN h c) (hL : ∀ c p, c ≠ 7 → c ≠ 8 → c ≠ 33 → zhL h' c p = zhL h c p) (hD : zhD h' = zhD h) : RM A h' := by
  unfold RM at q ⊢
  simp (disch := decide) only [hN, hL, hD]
  exact q
end
