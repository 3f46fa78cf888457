/-! TOUCHES OF THE MEMORY -/
def hMR (h : zH) (l c : Nat) : zH := if zhD h 35 l c = 0 then zset (zset h 35 l c 1) 9 l 18 (zhD h 9 l 18 + 1) else h
def zrace (h : zH) (b2 l k t c : Nat) (w : Bool) : Bool := zclh (zhD h 39 b2 c) t w || zclh (zhD h 34 l c) k w
def hTG (h : zH) (b2 l k t c : Nat) (w : Bool) : zH := zset (zset (if zrace h b2 l k t c w = true then hMR h l c else h) 39 b2 c (zwt (zhD h 39 b2 c) t w)) 34 l c (zwt (zhD h 34 l c) k w)
/-- one earlier access that races -/
def fK (A : zA) (b t c : Nat) (w : Bool) (k t2 : Nat) : Bool := !(decide (k = b % 6 ∧ t2 = t)) && decide ((if k = b % 6 then A 86 b + 1 else 1) ≤ A (if w = true then 103 else 104) (96 * (64 * (b / 6) + c) + (16 * k + t2)))
def zacc (A : zA) (b t c : Nat) (w : Bool) : Bool := zan (fun k => zan (fK A b t c w k) (A 73 (b / 6)).toNat) (A 72 (b / 6)).toNat
def mAC (A : zA) (b t c : Nat) (w : Bool) : zA := au (au (au A 105 (64 * (b / 6) + c) (tb (decide (A 105 (64 * (b / 6) + c) = 1) || zacc A b t c w))) 103 (96 * (64 * (b / 6) + c) + (16 * (b % 6) + t)) (A 86 b + 1)) 104 (96 * (64 * (b / 6) + c) + (16 * (b % 6) + t)) (if w = true then A 86 b + 1 else A 104 (96 * (64 * (b / 6) + c) + (16 * (b % 6) + t)))
section
variable {ρ : Type} {h : zH} {A B : zA} {kr : Int → zH → Option ρ} {kt : Nat → zH → Option ρ} {K L n G : Nat} {bc tc gc : Nat → Nat} {N M : Int}
theorem hMR_N {l c : Nat} : zhN (hMR h l c) = zhN h := by unfold hMR; split <;> rfl
theorem hMR_L {l c : Nat} : zhL (hMR h l c) = zhL h := by unfold hMR; split <;> rfl
theorem hMR_C {l c : Nat} : zhC (hMR h l c) = zhC h := by unfold hMR; split <;> rfl
theorem hMR_S {l c : Nat} : zhS (hMR h l c) = zhS h := by unfold hMR; split <;> rfl
theorem hMR_D {l c c2 p j : Nat} (h1 : c2 ≠ 35) (h2 : ¬ (c2 = 9 ∧ j = 18)) : zhD (hMR h l c) c2 p j = zhD h c2 p j := by
  unfold hMR
  split
  · rw [zD_set, if_neg (fun z => h2 ⟨z.1, z.2.2⟩), zD_set, if_neg (fun z => h1 z.1)]
  · rfl
theorem x_markRace (qd : RD h) {l c : Nat} (hl : l < zhN h 9) (hc : c < 64) (h0 : 0 ≤ zhD h 9 l 18) (h1 : zhD h 9 l 18 ≤ 1000) : La_markRace (l : Int) (c : Int) h kr = kr 0 (hMR h l c) := by
  obtain ⟨b1, b2, b3⟩ := qd.2.1
  obtain ⟨d1, d2, l1, l2⟩ := b3 l hl
  have l35 : l < zhN h 35 := by rw [b2]; exact hl
  have e1 : wr (zhD h 9 l 18 + 1) = zhD h 9 l 18 + 1 := wr_id (by omega) (by omega)
  have hl2 : ∀ v, l < zhN (zset h 35 l c v) 9 := fun _ => hl
  unfold La_markRace La_markRace_26 hMR
  rw [zob_n hl, d2, zob_n l35, l2, zix_n hc]
  by_cases hz : zhD h 35 l c = 0
  · rw [if_pos hz, if_pos hz, zob_n hl, d2, zob_n l35, l2, zix_n hc, zlet_d, zob_n (hl2 1), zob_n (hl2 1), zD_ne (by decide), e1]
    rfl
  · rw [if_neg hz, if_neg hz]
theorem x_tg42 (qd : RD h) {b2 l k t c : Nat} {w : Bool} (hb : b2 < zhN h 10) (h0 : zhD h 10 b2 0 = (l : Int)) (h1 : zhD h 10 b2 1 = (k : Int)) (hl : l < zhN h 9) (hc : c < 64) (hk : k < 16) (ht : t < 16) : Bl_touchGlobal_42 kr (b2 : Int) (t : Int) (c : Int) (tb w) h = kr 0 (zset (zset h 39 b2 c (zwt (zhD h 39 b2 c) t w)) 34 l c (zwt (zhD h 34 l c) k w)) := by
  obtain ⟨y1, y2, y3⟩ := qd.2.1
  obtain ⟨d1, d2, l1, l2⟩ := y3 l hl
  obtain ⟨-, -, -, n39, -, -, c6⟩ := qd.2.2.2.1
  obtain ⟨-, -, -, f5, -, -, l39, -⟩ := c6 b2 hb
  have b39 : b2 < zhN h 39 := by rw [n39]; exact hb
  have l34 : l < zhN h 34 := by rw [y1]; exact hl
  unfold Bl_touchGlobal_42
  rw [zob_n hb, zob_n hb, f5, zob_n b39, l39, zix_n hc, x_withTouch ht, zob_n b39, l39, zix_n hc, zlet_d]
  generalize hh : zset h 39 b2 c (zwt (zhD h 39 b2 c) t w) = h2
  have hb2 : b2 < zhN h2 10 := by rw [← hh]; exact hb
  have hl2 : l < zhN h2 9 := by rw [← hh]; exact hl
  have l342 : l < zhN h2 34 := by rw [← hh]; exact l34
  have e10 : zhD h2 10 = zhD h 10 := by rw [← hh, zD_ne (by decide)]
  have e9 : zhD h2 9 = zhD h 9 := by rw [← hh, zD_ne (by decide)]
  have e34 : zhD h2 34 = zhD h 34 := by rw [← hh, zD_ne (by decide)]
  have eL : zhL h2 = zhL h := by rw [← hh]; rfl
  rw [zob_n hb2, e10, h0, zob_n hl2, zob_n hb2, h0, zob_n hl2, e9, d1, zob_n l342, eL, l1, zix_n hc, zob_n hb2, h1, e34, x_withTouch hk, zob_n l342, eL, l1, zix_n hc, zlet_d]
theorem x_touchGlobal (qd : RD h) {b2 l k t c : Nat} {w : Bool} (hb : b2 < zhN h 10) (h0 : zhD h 10 b2 0 = (l : Int)) (h1 : zhD h 10 b2 1 = (k : Int)) (hl : l < zhN h 9) (hc : c < 64) (hk : k < 16) (ht : t < 16) (hr0 : 0 ≤ zhD h 9 l 18) (hr1 : zhD h 9 l 18 ≤ 1000) : Bl_touchGlobal (b2 : Int) (t : Int) (c : Int) (tb w) h kr = kr 0 (hTG h b2 l k t c w) := by
  obtain ⟨y1, y2, y3⟩ := qd.2.1
  obtain ⟨d1, d2, l1, l2⟩ := y3 l hl
  obtain ⟨-, -, -, n39, -, -, c6⟩ := qd.2.2.2.1
  obtain ⟨-, -, -, f5, -, -, l39, -⟩ := c6 b2 hb
  have b39 : b2 < zhN h 39 := by rw [n39]; exact hb
  have l34 : l < zhN h 34 := by rw [y1]; exact hl
  have qd2 : RD (hMR h l c) := by
    unfold hMR
    split
    · exact (qd.set rfl).set rfl
    · exact qd
  have no : Bl_touchGlobal_42 kr (b2 : Int) (t : Int) (c : Int) (tb w) h = kr 0 (zset (zset h 39 b2 c (zwt (zhD h 39 b2 c) t w)) 34 l c (zwt (zhD h 34 l c) k w)) := x_tg42 qd hb h0 h1 hl hc hk ht
  have yes : Bl_touchGlobal_34 kr (b2 : Int) (t : Int) (c : Int) (tb w) h = kr 0 (zset (zset (hMR h l c) 39 b2 c (zwt (zhD h 39 b2 c) t w)) 34 l c (zwt (zhD h 34 l c) k w)) := by
    unfold Bl_touchGlobal_34
    rw [zob_n hb, h0, zob_n hl, x_markRace qd hl hc hr0 hr1]
    have e := x_tg42 (kr := kr) (t := t) (w := w) qd2 (by rw [hMR_N]; exact hb) (by rw [hMR_D (by decide) (fun z => absurd z.1 (by decide))]; exact h0) (by rw [hMR_D (by decide) (fun z => absurd z.1 (by decide))]; exact h1) (by rw [hMR_N]; exact hl) hc hk ht
    rw [hMR_D (c2 := 39) (by decide) (fun z => absurd z.1 (by decide)), hMR_D (c2 := 34) (by decide) (fun z => absurd z.1 (by decide))] at e
    exact e
  unfold Bl_touchGlobal hTG zrace
  rw [zob_n hb, f5, zob_n b39, l39, zix_n hc, x_isClash ht]
  cases hz1 : zclh (zhD h 39 b2 c) t w with
  | true =>
    rw [tb_t, if_neg (by decide), Bool.true_or, if_pos rfl]
    exact yes
  | false =>
    rw [tb_f, if_pos rfl, zob_n hb, h0, zob_n hl, d1, zob_n l34, l1, zix_n hc, zob_n hb, h1, x_isClash hk, Bool.false_or]
    cases hz2 : zclh (zhD h 34 l c) k w with
    | true =>
      rw [tb_t, if_neg (by decide), if_pos rfl]
      exact yes
    | false =>
      rw [tb_f, if_pos rfl, if_neg (by decide)]
      exact no
/-! the model -/
theorem m_ac_step {r21 : Int → Int → Int → Int → Int → Int → Int → zH → Option ρ} {r36 : Int → Int → Int → Int → Int → Int → Int → Int → zH → Option ρ} {b t c k t2 : Nat} {w v : Bool} (hb : b < 72) (ht : t < 16) (hc : c < 64) (hk : k < 6) (ht2 : t2 < 16) (hlt : (t2 : Int) < A 73 (b / 6)) (h86 : 0 ≤ A 86 b ∧ A 86 b ≤ 100000000) :
    M_access_36b kr r21 r36 (b : Int) (t : Int) (c : Int) (tb w) ((b / 6 : Nat) : Int) ((96 * (64 * (b / 6) + c) : Nat) : Int) (k : Int) (t2 : Int) (mh h (au A 105 (64 * (b / 6) + c) (tb v))) = r36 (b : Int) (t : Int) (c : Int) (tb w) ((b / 6 : Nat) : Int) ((96 * (64 * (b / 6) + c) : Nat) : Int) (k : Int) ((t2 + 1 : Nat) : Int) (mh h (au A 105 (64 * (b / 6) + c) (tb (v || fK A b t c w k t2)))) := by
  have i1 : b / 6 < 12 := by omega
  have i2 : 96 * (64 * (b / 6) + c) + (16 * k + t2) < 73728 := by omega
  have i3 : 64 * (b / 6) + c < 768 := by omega
  have i4 : (k : Int) = ((b % 6 : Nat) : Int) ↔ k = b % 6 := by omega
  have i5 : (t2 : Int) = (t : Int) ↔ t2 = t := by omega
  have w1 : wr (wr (((96 * (64 * (b / 6) + c) : Nat) : Int) + wr (16 * (k : Int))) + (t2 : Int)) = ((96 * (64 * (b / 6) + c) + (16 * k + t2) : Nat) : Int) := by
    rw [wr_id (x := 16 * (k : Int)) (by omega) (by omega), wr_id (x := ((96 * (64 * (b / 6) + c) : Nat) : Int) + 16 * (k : Int)) (by omega) (by omega), wr_id (by omega) (by omega)]
    omega
  have w2 : wr (wr (64 * ((b / 6 : Nat) : Int)) + (c : Int)) = ((64 * (b / 6) + c : Nat) : Int) := by
    clear w1
    rw [wr_id (x := 64 * ((b / 6 : Nat) : Int)) (by omega) (by omega), wr_id (by omega) (by omega)]
    omega
  have w3 : wr ((t2 : Int) + 1) = ((t2 + 1 : Nat) : Int) := by
    clear w1 w2
    rw [wr_id (by omega) (by omega)]
    omega
  have w4 : wr (A 86 b + 1) = A 86 b + 1 := by
    clear w1 w2 w3
    exact wr_id (by omega) (by omega)
  have e73 : ∀ z, au A 105 (64 * (b / 6) + c) z 73 = A 73 := fun z => au_ne (by decide)
  have e86 : ∀ z, au A 105 (64 * (b / 6) + c) z 86 = A 86 := fun z => au_ne (by decide)
  have e103 : ∀ z, au A 105 (64 * (b / 6) + c) z 103 = A 103 := fun z => au_ne (by decide)
  have e104 : ∀ z, au A 105 (64 * (b / 6) + c) z 104 = A 104 := fun z => au_ne (by decide)
  have d0 : M_access_147 kr r21 r36 (b : Int) (t : Int) (c : Int) (tb w) ((b / 6 : Nat) : Int) ((96 * (64 * (b / 6) + c) : Nat) : Int) (k : Int) (t2 : Int) (mh h (au A 105 (64 * (b / 6) + c) (tb v))) = r36 (b : Int) (t : Int) (c : Int) (tb w) ((b / 6 : Nat) : Int) ((96 * (64 * (b / 6) + c) : Nat) : Int) (k : Int) ((t2 + 1 : Nat) : Int) (mh h (au A 105 (64 * (b / 6) + c) (tb (v || false)))) := by
    unfold M_access_147 M_access_148 M_access_181 M_access_186
    rw [w2, zix_n i3, mD105, au_same]
    cases v
    · rw [tb_f, if_pos rfl, if_pos rfl, zix_n i3, znar_0, zlet_d, mS105, au_au, w3]
      rfl
    · rw [tb_t, if_neg (by decide), zix_n i3, znar_1, zlet_d, mS105, au_au, w3]
      rfl
  have d1 : M_access_143 kr r21 r36 (b : Int) (t : Int) (c : Int) (tb w) ((b / 6 : Nat) : Int) ((96 * (64 * (b / 6) + c) : Nat) : Int) (k : Int) (t2 : Int) (mh h (au A 105 (64 * (b / 6) + c) (tb v))) = r36 (b : Int) (t : Int) (c : Int) (tb w) ((b / 6 : Nat) : Int) ((96 * (64 * (b / 6) + c) : Nat) : Int) (k : Int) ((t2 + 1 : Nat) : Int) (mh h (au A 105 (64 * (b / 6) + c) (tb (v || true)))) := by
    unfold M_access_143 M_access_148 M_access_181 M_access_186
    rw [w2, zix_n i3, mD105, au_same]
    cases v
    · rw [tb_f, if_pos rfl, if_neg (by decide), zix_n i3, znar_1, zlet_d, mS105, au_au, w3]
      rfl
    · rw [tb_t, if_neg (by decide), zix_n i3, znar_1, zlet_d, mS105, au_au, w3]
      rfl
  clear w2 w3
  unfold M_access_36b M_access_80 M_access_81 M_access_104
  simp only [zix_n i1, mD73, e73, wtm6, i4, i5, w1, zix_n hb, mD86, e86, w4, zix_n i2, mD103, e103, mD104, e104]
  rw [if_pos hlt]
  clear w1 w4
  by_cases hk6 : k = b % 6
  · by_cases htt : t2 = t
    · have hf : fK A b t c w k t2 = false := by
        unfold fK
        rw [decide_eq_true (show k = b % 6 ∧ t2 = t from ⟨hk6, htt⟩)]
        rfl
      rw [if_pos hk6, if_pos htt, if_pos hk6, if_neg (by decide), hf]
      exact d0
    · rw [if_pos hk6, if_neg htt, if_pos hk6, if_pos trivial]
      cases w with
      | true =>
        rw [tb_t, if_neg (by decide)]
        by_cases hz : A 103 (96 * (64 * (b / 6) + c) + (16 * k + t2)) < A 86 b + 1
        · have hf : fK A b t c true k t2 = false := by
            unfold fK
            rw [decide_eq_false (show ¬ (k = b % 6 ∧ t2 = t) from fun z => htt z.2), if_pos hk6, if_pos rfl, decide_eq_false (by omega)]
            rfl
          rw [if_pos hz, hf]
          exact d0
        · have hf : fK A b t c true k t2 = true := by
            unfold fK
            rw [decide_eq_false (show ¬ (k = b % 6 ∧ t2 = t) from fun z => htt z.2), if_pos hk6, if_pos rfl, decide_eq_true (by omega)]
            rfl
          rw [if_neg hz, hf]
          exact d1
      | false =>
        rw [tb_f, if_pos rfl]
        by_cases hz : A 104 (96 * (64 * (b / 6) + c) + (16 * k + t2)) < A 86 b + 1
        · have hf : fK A b t c false k t2 = false := by
            unfold fK
            rw [decide_eq_false (show ¬ (k = b % 6 ∧ t2 = t) from fun z => htt z.2), if_pos hk6, if_neg (show ¬ (false = true) by decide), decide_eq_false (by omega)]
            rfl
          rw [if_pos hz, hf]
          exact d0
        · have hf : fK A b t c false k t2 = true := by
            unfold fK
            rw [decide_eq_false (show ¬ (k = b % 6 ∧ t2 = t) from fun z => htt z.2), if_pos hk6, if_neg (show ¬ (false = true) by decide), decide_eq_true (by omega)]
            rfl
          rw [if_neg hz, hf]
          exact d1
  · rw [if_neg hk6, if_neg hk6, if_pos trivial]
    cases w with
    | true =>
      rw [tb_t, if_neg (by decide)]
      by_cases hz : A 103 (96 * (64 * (b / 6) + c) + (16 * k + t2)) < 1
      · have hf : fK A b t c true k t2 = false := by
          unfold fK
          rw [decide_eq_false (show ¬ (k = b % 6 ∧ t2 = t) from fun z => hk6 z.1), if_neg hk6, if_pos rfl, decide_eq_false (by omega)]
          rfl
        rw [if_pos hz, hf]
        exact d0
      · have hf : fK A b t c true k t2 = true := by
          unfold fK
          rw [decide_eq_false (show ¬ (k = b % 6 ∧ t2 = t) from fun z => hk6 z.1), if_neg hk6, if_pos rfl, decide_eq_true (by omega)]
          rfl
        rw [if_neg hz, hf]
        exact d1
    | false =>
      rw [tb_f, if_pos rfl]
      by_cases hz : A 104 (96 * (64 * (b / 6) + c) + (16 * k + t2)) < 1
      · have hf : fK A b t c false k t2 = false := by
          unfold fK
          rw [decide_eq_false (show ¬ (k = b % 6 ∧ t2 = t) from fun z => hk6 z.1), if_neg hk6, if_neg (show ¬ (false = true) by decide), decide_eq_false (by omega)]
          rfl
        rw [if_pos hz, hf]
        exact d0
      · have hf : fK A b t c false k t2 = true := by
          unfold fK
          rw [decide_eq_false (show ¬ (k = b % 6 ∧ t2 = t) from fun z => hk6 z.1), if_neg hk6, if_neg (show ¬ (false = true) by decide), decide_eq_true (by omega)]
          rfl
        rw [if_neg hz, hf]
        exact d1
theorem m_ac36 {r21 : Int → Int → Int → Int → Int → Int → Int → zH → Option ρ} {b t c k th : Nat} {w v : Bool} (hb : b < 72) (ht : t < 16) (hc : c < 64) (hk : k < 6) (hth : th ≤ 16) (h73 : A 73 (b / 6) = (th : Int)) (h86 : 0 ≤ A 86 b ∧ A 86 b ≤ 100000000) : ∀ n t2 : Nat, t2 ≤ th → th - t2 < n →
    zit (fun _ _ _ _ _ _ _ _ _ => none) (M_access_36b kr r21) n (b : Int) (t : Int) (c : Int) (tb w) ((b / 6 : Nat) : Int) ((96 * (64 * (b / 6) + c) : Nat) : Int) (k : Int) (t2 : Int) (mh h (au A 105 (64 * (b / 6) + c) (tb (v || zan (fK A b t c w k) t2)))) = r21 (b : Int) (t : Int) (c : Int) (tb w) ((b / 6 : Nat) : Int) ((96 * (64 * (b / 6) + c) : Nat) : Int) ((k + 1 : Nat) : Int) (mh h (au A 105 (64 * (b / 6) + c) (tb (v || zan (fK A b t c w k) th))))
  | 0, t2, _, hn => absurd hn (Nat.not_lt_zero _)
  | n + 1, t2, ht2, hn => by
    show M_access_36b kr r21 (zit (fun _ _ _ _ _ _ _ _ _ => none) (M_access_36b kr r21) n) _ _ _ _ _ _ _ _ _ = _
    by_cases hlt : t2 < th
    · rw [m_ac_step hb ht hc hk (by omega) (by omega) h86, Bool.or_assoc]
      exact m_ac36 hb ht hc hk hth h73 h86 n (t2 + 1) hlt (by omega)
    · have : t2 = th := by omega
      subst this
      have i1 : b / 6 < 12 := by omega
      unfold M_access_36b
      rw [zix_n i1, mD73, au_ne (by decide), h73, if_neg (by omega), wr_id (by omega) (by omega)]
      rfl
theorem m_ac21 {b t c th bl : Nat} {w v : Bool} (hb : b < 72) (ht : t < 16) (hc : c < 64) (hth : th ≤ 16) (h73 : A 73 (b / 6) = (th : Int)) (hbl : bl ≤ 6) (h72 : A 72 (b / 6) = (bl : Int)) (h86 : 0 ≤ A 86 b ∧ A 86 b ≤ 100000000) : ∀ n k : Nat, k ≤ bl → bl - k < n →
    zit (fun _ _ _ _ _ _ _ _ => none) (M_access_21b kr) n (b : Int) (t : Int) (c : Int) (tb w) ((b / 6 : Nat) : Int) ((96 * (64 * (b / 6) + c) : Nat) : Int) (k : Int) (mh h (au A 105 (64 * (b / 6) + c) (tb (v || zan (fun k => zan (fK A b t c w k) th) k)))) = kr 0 (mh h (au (au (au A 105 (64 * (b / 6) + c) (tb (v || zan (fun k => zan (fK A b t c w k) th) bl))) 103 (96 * (64 * (b / 6) + c) + (16 * (b % 6) + t)) (A 86 b + 1)) 104 (96 * (64 * (b / 6) + c) + (16 * (b % 6) + t)) (if w = true then A 86 b + 1 else A 104 (96 * (64 * (b / 6) + c) + (16 * (b % 6) + t)))))
  | 0, k, _, hn => absurd hn (Nat.not_lt_zero _)
  | n + 1, k, hk, hn => by
    show M_access_21b kr (zit (fun _ _ _ _ _ _ _ _ => none) (M_access_21b kr) n) _ _ _ _ _ _ _ _ = _
    have i1 : b / 6 < 12 := by omega
    by_cases hlt : k < bl
    · have ih := m_ac21 (v := v) (w := w) hb ht hc hth h73 hbl h72 h86 n (k + 1) hlt (by omega)
      generalize zit (fun _ _ _ _ _ _ _ _ => none) (M_access_21b kr) n = r2 at ih ⊢
      have hi := m_ac36 (kr := kr) (h := h) (r21 := r2) (w := w) (v := v || zan (fun k => zan (fK A b t c w k) th) k) hb ht hc (show k < 6 by omega) hth h73 h86 zN 0 (Nat.zero_le _) (by show th - 0 < 5000; omega)
      unfold M_access_21b
      rw [zix_n i1, mD72, au_ne (by decide), h72, if_pos (by omega)]
      have e0 : (v || zan (fun k => zan (fK A b t c w k) th) k || zan (fK A b t c w k) 0) = (v || zan (fun k => zan (fK A b t c w k) th) k) := Bool.or_false _
      rw [e0] at hi
      refine Eq.trans hi ?_
      rw [Bool.or_assoc]
      exact ih
    · have : k = bl := by omega
      subst this
      have i2 : 96 * (64 * (b / 6) + c) + (16 * (b % 6) + t) < 73728 := by omega
      have w1 : wr (wr (((96 * (64 * (b / 6) + c) : Nat) : Int) + wr (16 * ((b % 6 : Nat) : Int))) + (t : Int)) = ((96 * (64 * (b / 6) + c) + (16 * (b % 6) + t) : Nat) : Int) := by
        rw [wr_id (x := 16 * ((b % 6 : Nat) : Int)) (by omega) (by omega), wr_id (x := ((96 * (64 * (b / 6) + c) : Nat) : Int) + 16 * ((b % 6 : Nat) : Int)) (by omega) (by omega), wr_id (by omega) (by omega)]
        omega
      have w4 : wr (A 86 b + 1) = A 86 b + 1 := by
        clear w1
        exact wr_id (by omega) (by omega)
      unfold M_access_21b M_access_257
      rw [zix_n i1, mD72, au_ne (by decide), h72, if_neg (by clear w1 w4; omega), wtm6, w1]
      simp only [zix_n hb, mD86, au_ne (show 86 ≠ 105 by decide), w4, zix_n i2, zlet_d, mS103, mD104, au_ne (show 104 ≠ 103 by decide), au_ne (show 104 ≠ 105 by decide), au_ne (show 86 ≠ 103 by decide), mS104]
      cases w with
      | true => rw [tb_t, if_neg (by decide), if_pos rfl]
      | false => rw [tb_f, if_pos rfl, if_neg (by decide)]
theorem m_access {b t c : Nat} {w : Bool} (hb : b < 72) (ht : t < 16) (hc : c < 64) (h73 : 0 ≤ A 73 (b / 6) ∧ A 73 (b / 6) ≤ 16) (h72 : 0 ≤ A 72 (b / 6) ∧ A 72 (b / 6) ≤ 6) (h86 : 0 ≤ A 86 b ∧ A 86 b ≤ 100000000) (h105 : A 105 (64 * (b / 6) + c) = 0 ∨ A 105 (64 * (b / 6) + c) = 1) : M_access (b : Int) (t : Int) (c : Int) (tb w) (mh h A) kr = kr 0 (mh h (mAC A b t c w)) := by
  have hl := m_ac21 (kr := kr) (h := h) (A := A) (w := w) (v := decide (A 105 (64 * (b / 6) + c) = 1)) (th := (A 73 (b / 6)).toNat) (bl := (A 72 (b / 6)).toNat) hb ht hc (by omega) (by omega) (by omega) (by omega) h86 zN 0 (Nat.zero_le _) (by show _ - 0 < 5000; omega)
  have e0 : (decide (A 105 (64 * (b / 6) + c) = 1) || zan (fun k => zan (fK A b t c w k) (A 73 (b / 6)).toNat) 0) = decide (A 105 (64 * (b / 6) + c) = 1) := Bool.or_false _
  have e1 : tb (decide (A 105 (64 * (b / 6) + c) = 1)) = A 105 (64 * (b / 6) + c) := by
    rcases h105 with z | z
    · rw [z]
      rfl
    · rw [z]
      rfl
  rw [e0, e1, au_id] at hl
  have w1 : wr (96 * wr (wr (64 * ((b / 6 : Nat) : Int)) + (c : Int))) = ((96 * (64 * (b / 6) + c) : Nat) : Int) := by
    rw [wr_id (x := 64 * ((b / 6 : Nat) : Int)) (by omega) (by omega), wr_id (x := 64 * ((b / 6 : Nat) : Int) + (c : Int)) (by omega) (by omega), wr_id (by omega) (by omega)]
    omega
  unfold M_access
  rw [wtd6 hb, w1]
  exact hl
end
