/-! KERNELS' ROWS MAY CHANGE WHERE NO BLOCK LOOKS -/
section
variable {h : zH} {A A' : zA} {K L : Nat} {bc tc gc : Nat → Nat}
/-- what the blocks in the units see of their kernels stands -/
def KW (A A' : zA) : Prop := (∀ c, c ≠ 12 → c ≠ 61 → c ≠ 62 → c ≠ 63 → c ≠ 65 → c ≠ 66 → c ≠ 67 → c ≠ 68 → A' c = A c) ∧ ∀ b : Nat, b < 72 → A 87 b = 1 → A' 61 (A 70 (b / 6)).toNat = A 61 (A 70 (b / 6)).toNat ∧ A' 62 (A 70 (b / 6)).toNat = A 62 (A 70 (b / 6)).toNat ∧ A 63 (A 70 (b / 6)).toNat ≤ A' 63 (A 70 (b / 6)).toNat
theorem BH.row (q : BH A h bc) (w : KW A A') : BH A' h bc := by
  obtain ⟨e, k⟩ := w
  unfold BH at q ⊢
  rw [e 87 (by decide) (by decide) (by decide) (by decide) (by decide) (by decide) (by decide) (by decide), e 73 (by decide) (by decide) (by decide) (by decide) (by decide) (by decide) (by decide) (by decide), e 70 (by decide) (by decide) (by decide) (by decide) (by decide) (by decide) (by decide) (by decide)]
  refine ⟨fun b hb hin => ?_, q.2⟩
  rw [(k b hb hin).2.1]
  exact q.1 b hb hin
theorem TH.row (q : TH A h bc tc) (w : KW A A') : TH A' h bc tc := by
  obtain ⟨e, k⟩ := w
  unfold TH at q ⊢
  rw [e 87 (by decide) (by decide) (by decide) (by decide) (by decide) (by decide) (by decide) (by decide), e 73 (by decide) (by decide) (by decide) (by decide) (by decide) (by decide) (by decide) (by decide), e 70 (by decide) (by decide) (by decide) (by decide) (by decide) (by decide) (by decide) (by decide)]
  refine ⟨fun b hb hin t ht => ?_, q.2⟩
  rw [(k b hb hin).1]
  exact q.1 b hb hin t ht
theorem TD.row (q : TD A h tc) (w : KW A A') : TD A' h tc := by
  obtain ⟨e, k⟩ := w
  unfold TD at q ⊢
  rw [e 87 (by decide) (by decide) (by decide) (by decide) (by decide) (by decide) (by decide) (by decide), e 73 (by decide) (by decide) (by decide) (by decide) (by decide) (by decide) (by decide) (by decide), e 70 (by decide) (by decide) (by decide) (by decide) (by decide) (by decide) (by decide) (by decide), e 89 (by decide) (by decide) (by decide) (by decide) (by decide) (by decide) (by decide) (by decide), e 90 (by decide) (by decide) (by decide) (by decide) (by decide) (by decide) (by decide) (by decide), e 91 (by decide) (by decide) (by decide) (by decide) (by decide) (by decide) (by decide) (by decide)]
  intro b hb hin t ht
  obtain ⟨k1, k2, k3⟩ := k b hb hin
  rw [k1]
  obtain ⟨q1, q2, q3, q4⟩ := q b hb hin t ht
  refine ⟨q1, q2, fun z => ?_, q4⟩
  obtain ⟨y1, y2, y3⟩ := q3 z
  exact ⟨y1, y2, by omega⟩
theorem SH.row (q : SH A h bc) (w : KW A A') : SH A' h bc := by
  obtain ⟨e, k⟩ := w
  unfold SH at q ⊢
  rw [e 87 (by decide) (by decide) (by decide) (by decide) (by decide) (by decide) (by decide) (by decide), e 70 (by decide) (by decide) (by decide) (by decide) (by decide) (by decide) (by decide) (by decide), e 92 (by decide) (by decide) (by decide) (by decide) (by decide) (by decide) (by decide) (by decide)]
  intro b hb hin
  rw [(k b hb hin).2.1]
  exact q b hb hin
theorem TB.row (q : TB A h bc) (w : KW A A') : TB A' h bc := by
  obtain ⟨e, k⟩ := w
  unfold TB at q ⊢
  simp (disch := decide) only [e 87, e 70, e 86, e 103, e 104, e 106, e 107, e 108]
  refine ⟨q.1, fun b c hb hin hc => ?_⟩
  rw [(k b hb hin).2.1] at hc
  exact q.2 b c hb hin hc
theorem zsrm_row (w : KW A A') {u : Nat} : ∀ n, n ≤ 72 → zsrm A' u n = zsrm A u n ∧ zssm A' u n = zssm A u n
  | 0, _ => ⟨rfl, rfl⟩
  | n + 1, hn => by
    obtain ⟨i1, i2⟩ := zsrm_row w n (by omega)
    obtain ⟨e, k⟩ := w
    unfold zsrm zssm
    rw [i1, i2]
    simp (disch := decide) only [e 87, e 70, e 88, e 73]
    by_cases hz : A 87 n = 1 ∧ A 88 n = (u : Int)
    · obtain ⟨k1, k2, -⟩ := k n (by omega) hz.1
      rw [if_pos hz, if_pos hz, if_pos hz, if_pos hz, k1, k2]
      exact ⟨rfl, rfl⟩
    · rw [if_neg hz, if_neg hz, if_neg hz, if_neg hz]
      exact ⟨rfl, rfl⟩
end
