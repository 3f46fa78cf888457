/-! TOUCHES OF SHARED CELLS -/
theorem zit_s {α : Type} {f : α} {F : α → α} {n : Nat} : zit f F (n + 1) = F (zit f F n) := rfl
def hSR (h : zH) (b2 l c : Nat) : zH := if zhD h 41 b2 c = 0 then zset (zset h 41 b2 c 1) 9 l 18 (zhD h 9 l 18 + 1) else h
def hTS (h : zH) (b2 l t c : Nat) (w : Bool) : zH := zset (if zclh (zhD h 40 b2 c) t w = true then hSR h b2 l c else h) 40 b2 c (zwt (zhD h 40 b2 c) t w)
def fS (A : zA) (b t c : Nat) (w : Bool) (t2 : Nat) : Bool := !(decide (t2 = t)) && decide (A 86 b + 1 ≤ A (if w = true then 106 else 107) (16 * (16 * b + c) + t2))
def zacs (A : zA) (b t c : Nat) (w : Bool) : Bool := zan (fS A b t c w) (A 73 (b / 6)).toNat
def mAS (A : zA) (b t c : Nat) (w : Bool) : zA := au (au (au A 108 (16 * b + c) (tb (decide (A 108 (16 * b + c) = 1) || zacs A b t c w))) 106 (16 * (16 * b + c) + t) (A 86 b + 1)) 107 (16 * (16 * b + c) + t) (if w = true then A 86 b + 1 else A 107 (16 * (16 * b + c) + t))
section
variable {ρ : Type} {h : zH} {A B : zA} {kr : Int → zH → Option ρ} {kt : Nat → zH → Option ρ} {K L n G : Nat} {bc tc gc : Nat → Nat} {N M : Int}
theorem hSR_N {b2 l c : Nat} : zhN (hSR h b2 l c) = zhN h := by unfold hSR; split <;> rfl
theorem hSR_L {b2 l c : Nat} : zhL (hSR h b2 l c) = zhL h := by unfold hSR; split <;> rfl
theorem hSR_C {b2 l c : Nat} : zhC (hSR h b2 l c) = zhC h := by unfold hSR; split <;> rfl
theorem hSR_S {b2 l c : Nat} : zhS (hSR h b2 l c) = zhS h := by unfold hSR; split <;> rfl
theorem hSR_D {b2 l c c2 p j : Nat} (h1 : c2 ≠ 41) (h2 : ¬ (c2 = 9 ∧ j = 18)) : zhD (hSR h b2 l c) c2 p j = zhD h c2 p j := by
  unfold hSR
  split
  · rw [zD_set, if_neg (fun z => h2 ⟨z.1, z.2.2⟩), zD_set, if_neg (fun z => h1 z.1)]
  · rfl
theorem x_ts43 (qd : RD h) {b2 t c : Nat} {w : Bool} (hb : b2 < zhN h 10) (hc : c < zhL h 38 b2) (ht : t < 16) : Bl_touchShared_43 kr (b2 : Int) (t : Int) (c : Int) (tb w) h = kr 0 (zset h 40 b2 c (zwt (zhD h 40 b2 c) t w)) := by
  obtain ⟨-, -, -, -, n40, -, c6⟩ := qd.2.2.2.1
  obtain ⟨-, -, -, -, f6, -, -, l40, -⟩ := c6 b2 hb
  have b40 : b2 < zhN h 40 := by rw [n40]; exact hb
  unfold Bl_touchShared_43
  rw [zob_n hb, zob_n hb, f6, zob_n b40, l40, zix_n hc, x_withTouch ht, zob_n b40, l40, zix_n hc, zlet_d]
theorem x_touchShared (qd : RD h) {b2 l t c : Nat} {w : Bool} (hb : b2 < zhN h 10) (h0 : zhD h 10 b2 0 = (l : Int)) (hl : l < zhN h 9) (hc : c < zhL h 38 b2) (ht : t < 16) (hr0 : 0 ≤ zhD h 9 l 18) (hr1 : zhD h 9 l 18 ≤ 1000) : Bl_touchShared (b2 : Int) (t : Int) (c : Int) (tb w) h kr = kr 0 (hTS h b2 l t c w) := by
  obtain ⟨-, -, -, -, n40, n41, c6⟩ := qd.2.2.2.1
  obtain ⟨-, -, -, -, f6, f7, -, l40, l41⟩ := c6 b2 hb
  have b40 : b2 < zhN h 40 := by rw [n40]; exact hb
  have b41 : b2 < zhN h 41 := by rw [n41]; exact hb
  have no : Bl_touchShared_43 kr (b2 : Int) (t : Int) (c : Int) (tb w) h = kr 0 (zset h 40 b2 c (zwt (zhD h 40 b2 c) t w)) := x_ts43 qd hb hc ht
  unfold Bl_touchShared hTS
  rw [zob_n hb, f6, zob_n b40, l40, zix_n hc, x_isClash ht]
  cases hz1 : zclh (zhD h 40 b2 c) t w with
  | false =>
    rw [tb_f, if_pos rfl, if_neg (by decide)]
    exact no
  | true =>
    rw [tb_t, if_neg (by decide), if_pos rfl, zob_n hb, f7, zob_n b41, l41, zix_n hc]
    unfold hSR
    by_cases hz : zhD h 41 b2 c = 0
    · have e1 : wr (zhD h 9 l 18 + 1) = zhD h 9 l 18 + 1 := wr_id (by omega) (by omega)
      have hb2 : b2 < zhN (zset h 41 b2 c 1) 10 := hb
      have hl2 : l < zhN (zset h 41 b2 c 1) 9 := hl
      have yes := x_ts43 (kr := kr) (t := t) (w := w) (h := zset (zset h 41 b2 c 1) 9 l 18 (zhD h 9 l 18 + 1)) ((qd.set rfl).set rfl) hb hc ht
      rw [zD_ne (show 40 ≠ 9 by decide), zD_ne (show 40 ≠ 41 by decide)] at yes
      rw [if_pos hz, if_pos hz, zob_n hb, f7, zob_n b41, l41, zix_n hc, zlet_d, zob_n hb2, zD_ne (show 10 ≠ 41 by decide), h0, zob_n hl2, zob_n hl2, zD_ne (show 9 ≠ 41 by decide), e1, zlet_d]
      exact yes
    · rw [if_neg hz, if_neg hz]
      exact no
/-! the model -/
theorem m_as_step {r14 : Int → Int → Int → Int → Int → Int → zH → Option ρ} {b t c t2 : Nat} {w v : Bool} (hb : b < 72) (ht : t < 16) (hc : c < 16) (ht2 : t2 < 16) (hlt : (t2 : Int) < A 73 (b / 6)) (h86 : 0 ≤ A 86 b ∧ A 86 b ≤ 100000000) :
    M_accessShared_14b kr r14 (b : Int) (t : Int) (c : Int) (tb w) ((16 * (16 * b + c) : Nat) : Int) (t2 : Int) (mh h (au A 108 (16 * b + c) (tb v))) = r14 (b : Int) (t : Int) (c : Int) (tb w) ((16 * (16 * b + c) : Nat) : Int) ((t2 + 1 : Nat) : Int) (mh h (au A 108 (16 * b + c) (tb (v || fS A b t c w t2)))) := by
  have i1 : b / 6 < 12 := by omega
  have i2 : 16 * (16 * b + c) + t2 < 18432 := by omega
  have i3 : 16 * b + c < 1152 := by omega
  have i5 : (t2 : Int) = (t : Int) ↔ t2 = t := by omega
  have w1 : wr (((16 * (16 * b + c) : Nat) : Int) + (t2 : Int)) = ((16 * (16 * b + c) + t2 : Nat) : Int) := by
    rw [wr_id (by omega) (by omega)]
    omega
  have w2 : wr (wr (16 * (b : Int)) + (c : Int)) = ((16 * b + c : Nat) : Int) := by
    clear w1
    rw [wr_id (x := 16 * (b : Int)) (by omega) (by omega), wr_id (by omega) (by omega)]
    omega
  have w3 : wr ((t2 : Int) + 1) = ((t2 + 1 : Nat) : Int) := by
    clear w1 w2
    rw [wr_id (by omega) (by omega)]
    omega
  have e73 : ∀ z, au A 108 (16 * b + c) z 73 = A 73 := fun z => au_ne (by decide)
  have e86 : ∀ z, au A 108 (16 * b + c) z 86 = A 86 := fun z => au_ne (by decide)
  have e106 : ∀ z, au A 108 (16 * b + c) z 106 = A 106 := fun z => au_ne (by decide)
  have e107 : ∀ z, au A 108 (16 * b + c) z 107 = A 107 := fun z => au_ne (by decide)
  have d0 : M_accessShared_84 kr r14 (b : Int) (t : Int) (c : Int) (tb w) ((16 * (16 * b + c) : Nat) : Int) (t2 : Int) (mh h (au A 108 (16 * b + c) (tb v))) = r14 (b : Int) (t : Int) (c : Int) (tb w) ((16 * (16 * b + c) : Nat) : Int) ((t2 + 1 : Nat) : Int) (mh h (au A 108 (16 * b + c) (tb (v || false)))) := by
    unfold M_accessShared_84 M_accessShared_85 M_accessShared_116 M_accessShared_121
    rw [w2, zix_n i3, mD108, au_same]
    cases v
    · rw [tb_f, if_pos rfl, if_pos rfl, zix_n i3, znar_0, zlet_d, mS108, au_au, w3]
      rfl
    · rw [tb_t, if_neg (by decide), zix_n i3, znar_1, zlet_d, mS108, au_au, w3]
      rfl
  have d1 : M_accessShared_80 kr r14 (b : Int) (t : Int) (c : Int) (tb w) ((16 * (16 * b + c) : Nat) : Int) (t2 : Int) (mh h (au A 108 (16 * b + c) (tb v))) = r14 (b : Int) (t : Int) (c : Int) (tb w) ((16 * (16 * b + c) : Nat) : Int) ((t2 + 1 : Nat) : Int) (mh h (au A 108 (16 * b + c) (tb (v || true)))) := by
    unfold M_accessShared_80 M_accessShared_85 M_accessShared_116 M_accessShared_121
    rw [w2, zix_n i3, mD108, au_same]
    cases v
    · rw [tb_f, if_pos rfl, if_neg (by decide), zix_n i3, znar_1, zlet_d, mS108, au_au, w3]
      rfl
    · rw [tb_t, if_neg (by decide), zix_n i3, znar_1, zlet_d, mS108, au_au, w3]
      rfl
  clear w2 w3
  unfold M_accessShared_14b
  rw [wtd6 hb, zix_n i1, mD73, e73, if_pos hlt, w1]
  clear w1
  simp only [i5, zix_n i2, zix_n hb, mD86, e86, mD106, e106, mD107, e107]
  by_cases htt : t2 = t
  · have hf : fS A b t c w t2 = false := by
      unfold fS
      rw [decide_eq_true (show t2 = t from htt)]
      rfl
    rw [if_pos htt, hf]
    exact d0
  · rw [if_neg htt]
    cases w with
    | true =>
      rw [tb_t, if_neg (by decide)]
      by_cases hz : A 86 b < A 106 (16 * (16 * b + c) + t2)
      · have hf : fS A b t c true t2 = true := by
          unfold fS
          rw [decide_eq_false (show ¬ t2 = t from htt), if_pos rfl, decide_eq_true (by omega)]
          rfl
        rw [if_pos hz, hf]
        exact d1
      · have hf : fS A b t c true t2 = false := by
          unfold fS
          rw [decide_eq_false (show ¬ t2 = t from htt), if_pos rfl, decide_eq_false (by omega)]
          rfl
        rw [if_neg hz, hf]
        exact d0
    | false =>
      rw [tb_f, if_pos rfl]
      by_cases hz : A 86 b < A 107 (16 * (16 * b + c) + t2)
      · have hf : fS A b t c false t2 = true := by
          unfold fS
          rw [decide_eq_false (show ¬ t2 = t from htt), if_neg (show ¬ (false = true) by decide), decide_eq_true (by omega)]
          rfl
        rw [if_pos hz, hf]
        exact d1
      · have hf : fS A b t c false t2 = false := by
          unfold fS
          rw [decide_eq_false (show ¬ t2 = t from htt), if_neg (show ¬ (false = true) by decide), decide_eq_false (by omega)]
          rfl
        rw [if_neg hz, hf]
        exact d0
theorem m_as_loop {b t c th : Nat} {w v : Bool} (hb : b < 72) (ht : t < 16) (hc : c < 16) (hth : th ≤ 16) (h73 : A 73 (b / 6) = (th : Int)) (h86 : 0 ≤ A 86 b ∧ A 86 b ≤ 100000000) : ∀ n t2 : Nat, t2 ≤ th → th - t2 < n →
    zit (fun _ _ _ _ _ _ _ => none) (M_accessShared_14b kr) n (b : Int) (t : Int) (c : Int) (tb w) ((16 * (16 * b + c) : Nat) : Int) (t2 : Int) (mh h (au A 108 (16 * b + c) (tb (v || zan (fS A b t c w) t2)))) = kr 0 (mh h (au (au (au A 108 (16 * b + c) (tb (v || zan (fS A b t c w) th))) 106 (16 * (16 * b + c) + t) (A 86 b + 1)) 107 (16 * (16 * b + c) + t) (if w = true then A 86 b + 1 else A 107 (16 * (16 * b + c) + t))))
  | 0, t2, _, hn => absurd hn (Nat.not_lt_zero _)
  | n + 1, t2, ht2, hn => by
    rw [zit_s]
    by_cases hlt : t2 < th
    · rw [m_as_step hb ht hc (by omega) (by omega) h86, Bool.or_assoc]
      exact m_as_loop hb ht hc hth h73 h86 n (t2 + 1) hlt (by omega)
    · have : t2 = th := by omega
      generalize zit (fun _ _ _ _ _ _ _ => none) (M_accessShared_14b kr) n = r2
      clear hn hlt
      subst this
      have i1 : b / 6 < 12 := by omega
      have i2 : 16 * (16 * b + c) + t < 18432 := by omega
      have w1 : wr (((16 * (16 * b + c) : Nat) : Int) + (t : Int)) = ((16 * (16 * b + c) + t : Nat) : Int) := by
        rw [wr_id (by omega) (by omega)]
        omega
      have w4 : wr (A 86 b + 1) = A 86 b + 1 := by
        clear w1
        exact wr_id (by omega) (by omega)
      unfold M_accessShared_14b M_accessShared_178
      rw [wtd6 hb, zix_n i1, mD73, au_ne (by decide), h73, if_neg (by clear w1 w4; omega), w1]
      simp only [zix_n hb, mD86, au_ne (show 86 ≠ 108 by decide), w4, zix_n i2, zlet_d, mS106, mD107, au_ne (show 107 ≠ 106 by decide), au_ne (show 107 ≠ 108 by decide), au_ne (show 86 ≠ 106 by decide), mS107]
      cases w with
      | true => rw [tb_t, if_neg (by decide), if_pos rfl]
      | false => rw [tb_f, if_pos rfl, if_neg (by decide)]
theorem m_accessShared {b t c : Nat} {w : Bool} (hb : b < 72) (ht : t < 16) (hc : c < 16) (h73 : 0 ≤ A 73 (b / 6) ∧ A 73 (b / 6) ≤ 16) (h86 : 0 ≤ A 86 b ∧ A 86 b ≤ 100000000) (h108 : A 108 (16 * b + c) = 0 ∨ A 108 (16 * b + c) = 1) : M_accessShared (b : Int) (t : Int) (c : Int) (tb w) (mh h A) kr = kr 0 (mh h (mAS A b t c w)) := by
  have hl := m_as_loop (kr := kr) (h := h) (A := A) (w := w) (v := decide (A 108 (16 * b + c) = 1)) (th := (A 73 (b / 6)).toNat) hb ht hc (by omega) (by omega) h86 zN 0 (Nat.zero_le _) (by show _ - 0 < 5000; omega)
  have e0 : (decide (A 108 (16 * b + c) = 1) || zan (fS A b t c w) 0) = decide (A 108 (16 * b + c) = 1) := Bool.or_false _
  have e1 : tb (decide (A 108 (16 * b + c) = 1)) = A 108 (16 * b + c) := by
    rcases h108 with z | z
    · rw [z]
      rfl
    · rw [z]
      rfl
  rw [e0, e1, au_id] at hl
  have w1 : wr (16 * wr (wr (16 * (b : Int)) + (c : Int))) = ((16 * (16 * b + c) : Nat) : Int) := by
    rw [wr_id (x := 16 * (b : Int)) (by omega) (by omega), wr_id (x := 16 * (b : Int) + (c : Int)) (by omega) (by omega), wr_id (by omega) (by omega)]
    omega
  unfold M_accessShared
  rw [w1]
  exact hl
/-! kept -/
theorem hTS_N {b2 l t c : Nat} {w : Bool} : zhN (hTS h b2 l t c w) = zhN h := by
  unfold hTS
  split
  · exact hSR_N
  · rfl
theorem hTS_L {b2 l t c : Nat} {w : Bool} : zhL (hTS h b2 l t c w) = zhL h := by
  unfold hTS
  split
  · exact hSR_L
  · rfl
theorem hTS_C {b2 l t c : Nat} {w : Bool} : zhC (hTS h b2 l t c w) = zhC h := by
  unfold hTS
  split
  · exact hSR_C
  · rfl
theorem hTS_S {b2 l t c : Nat} {w : Bool} : zhS (hTS h b2 l t c w) = zhS h := by
  unfold hTS
  split
  · exact hSR_S
  · rfl
theorem hTS_D {b2 l t c : Nat} {w : Bool} {c2 p j : Nat} (h1 : c2 ≠ 40) (h3 : c2 ≠ 41) (h4 : ¬ (c2 = 9 ∧ j = 18)) : zhD (hTS h b2 l t c w) c2 p j = zhD h c2 p j := by
  unfold hTS
  rw [zD_set, if_neg (fun z => h1 z.1)]
  split
  · exact hSR_D h3 h4
  · rfl
theorem hTS_40 {b2 l t c : Nat} {w : Bool} {p j : Nat} : zhD (hTS h b2 l t c w) 40 p j = if p = b2 ∧ j = c then zwt (zhD h 40 b2 c) t w else zhD h 40 p j := by
  unfold hTS
  have e : zhD (if zclh (zhD h 40 b2 c) t w = true then hSR h b2 l c else h) 40 p j = zhD h 40 p j := by
    split
    · exact hSR_D (by decide) (fun z => absurd z.1 (by decide))
    · rfl
  rw [zD_set, e]
  simp
theorem hTS_41 {b2 l t c : Nat} {w : Bool} {p j : Nat} : zhD (hTS h b2 l t c w) 41 p j = if zclh (zhD h 40 b2 c) t w = true ∧ zhD h 41 b2 c = 0 ∧ p = b2 ∧ j = c then 1 else zhD h 41 p j := by
  unfold hTS
  rw [zD_ne (by decide)]
  by_cases h1 : zclh (zhD h 40 b2 c) t w = true
  · rw [if_pos h1]
    unfold hSR
    by_cases h2 : zhD h 41 b2 c = 0
    · rw [if_pos h2, zD_ne (by decide), zD_set]
      simp [h1, h2]
    · rw [if_neg h2, if_neg (fun z => h2 z.2.1)]
  · rw [if_neg h1, if_neg (fun z => h1 z.1)]
theorem hTS_9 {b2 l t c : Nat} {w : Bool} {p : Nat} : zhD (hTS h b2 l t c w) 9 p 18 = if zclh (zhD h 40 b2 c) t w = true ∧ zhD h 41 b2 c = 0 ∧ p = l then zhD h 9 l 18 + 1 else zhD h 9 p 18 := by
  unfold hTS
  rw [zD_ne (by decide)]
  by_cases h1 : zclh (zhD h 40 b2 c) t w = true
  · rw [if_pos h1]
    unfold hSR
    by_cases h2 : zhD h 41 b2 c = 0
    · rw [if_pos h2, zD_set]
      simp [h1, h2, zD_ne]
    · rw [if_neg h2, if_neg (fun z => h2 z.2.1)]
  · rw [if_neg h1, if_neg (fun z => h1 z.1)]
theorem mAS_c {b t c c2 : Nat} {w : Bool} (h1 : c2 ≠ 106) (h2 : c2 ≠ 107) (h3 : c2 ≠ 108) : mAS A b t c w c2 = A c2 := by
  unfold mAS
  rw [au_ne h2, au_ne h1, au_ne h3]
theorem mAS_106 {b t c : Nat} {w : Bool} {j : Nat} : mAS A b t c w 106 j = if j = 16 * (16 * b + c) + t then A 86 b + 1 else A 106 j := by
  unfold mAS
  rw [au_ne (by decide), au_j, au_ne (by decide)]
theorem mAS_107 {b t c : Nat} {w : Bool} {j : Nat} : mAS A b t c w 107 j = if j = 16 * (16 * b + c) + t then (if w = true then A 86 b + 1 else A 107 (16 * (16 * b + c) + t)) else A 107 j := by
  unfold mAS
  rw [au_j, au_ne (by decide), au_ne (by decide)]
theorem mAS_108 {b t c : Nat} {w : Bool} : mAS A b t c w 108 = zup (A 108) (16 * b + c) (tb (decide (A 108 (16 * b + c) = 1) || zacs A b t c w)) := by
  unfold mAS
  rw [au_ne (by decide), au_ne (by decide), au_zup]
theorem races_eq (q : RR A h K L bc tc gc n B N M) {b t c : Nat} {w : Bool} (hb : b < 72) (hin : A 87 b = 1) (ht : (t : Int) < A 73 (b / 6)) (hc : (c : Int) < A 62 (A 70 (b / 6)).toNat) : zclh (zhD h 40 (bc b) c) t w = zacs A b t c w := by
  obtain ⟨k0, hkK, hk, hbL, ⟨ht0, ht1⟩, ⟨-, -, s0, s1, -⟩, ⟨k1, k2, k3, k4⟩, -⟩ := q.blk hb hin
  obtain ⟨i1, i2, i3, i4, i5, i6⟩ := q.bi.2.1 b hb hin
  have hta := q.ta.2.1
  obtain ⟨-, htb⟩ := q.tb.2 b c hb hin hc
  rw [hk, Int.toNat_natCast] at hc
  rw [Bool.eq_iff_iff]
  unfold zacs zclh
  rw [zan_iff, zan_iff]
  have rowc : w = true ∨ w = false := by cases w <;> simp
  constructor
  · rintro ⟨i, hi, hz⟩
    obtain ⟨z1, z2⟩ := zand_t hz
    have z3 : i ≠ t := of_decide_eq_true z1
    have z4 : A 86 b + 1 ≤ A (if w = true then 106 else 107) (16 * (16 * b + c) + i) := by
      rcases rowc with rfl | rfl
      · rw [if_pos rfl] at z2 ⊢
        rw [(htb i hi).1] at z2
        exact of_decide_eq_true z2
      · rw [if_neg (by decide)] at z2 ⊢
        rw [(htb i hi).2] at z2
        exact of_decide_eq_true z2
    have z5 : (i : Int) < A 73 (b / 6) := by
      by_cases z6 : b / 6 < L ∧ ((b % 6 : Nat) : Int) < A 78 (b / 6) ∧ (i : Int) < A 73 (b / 6)
      · exact z6.2.2
      · obtain ⟨z7, z8⟩ := hta b c i hb (by omega) hi z6
        exfalso
        rcases rowc with rfl | rfl
        · rw [if_pos rfl, z7] at z4
          omega
        · rw [if_neg (by decide), z8] at z4
          omega
    refine ⟨i, by omega, ?_⟩
    unfold fS
    rw [decide_eq_false z3, decide_eq_true z4]
    rfl
  · rintro ⟨t2, ht2, hf⟩
    unfold fS at hf
    obtain ⟨z1, z2⟩ := zand_t hf
    have z2 := of_decide_eq_true z2
    have z1 : ¬ t2 = t := fun z => by
      rw [decide_eq_true z] at z1
      cases z1
    have ht16 : t2 < 16 := by omega
    refine ⟨t2, ht16, ?_⟩
    rw [decide_eq_true (show t2 ≠ t from z1), Bool.true_and]
    rcases rowc with rfl | rfl
    · rw [if_pos rfl] at z2 ⊢
      rw [(htb t2 ht16).1]
      exact decide_eq_true z2
    · rw [if_neg (by decide)] at z2 ⊢
      rw [(htb t2 ht16).2]
      exact decide_eq_true z2
theorem rr_acs (q : RR A h K L bc tc gc n B N M) {b t c : Nat} {w : Bool} (hb : b < 72) (hin : A 87 b = 1) (ht : (t : Int) < A 73 (b / 6)) (hc : (c : Int) < A 62 (A 70 (b / 6)).toNat) : RR (mAS A b t c w) (hTS h (bc b) (b / 6) t c w) K L bc tc gc n B N M := by
  have hrace := races_eq (w := w) q hb hin ht hc
  obtain ⟨k0, hkK, hk, hbL, ⟨ht0, ht1⟩, ⟨-, -, s0, s1, -⟩, ⟨k1, k2, k3, k4⟩, -⟩ := q.blk hb hin
  obtain ⟨i1, i2, i3, i4, i5, i6⟩ := q.bi.2.1 b hb hin
  have hc16 : c < 16 := by
    rw [hk, Int.toNat_natCast] at hc
    omega
  have hA : ∀ c2 j, oatx c2 j = true → mAS A b t c w c2 j = A c2 j := fun c2 j hz => by
    have n1 : c2 ≠ 106 := fun e => by subst e; cases hz
    have n2 : c2 ≠ 107 := fun e => by subst e; cases hz
    have n3 : c2 ≠ 108 := fun e => by subst e; cases hz
    rw [mAS_c n1 n2 n3]
  have hD : ∀ c2 p j, odtx c2 j = true → zhD (hTS h (bc b) (b / 6) t c w) c2 p j = zhD h c2 p j := fun c2 p j hz => by
    have n1 : c2 ≠ 40 := fun e => by subst e; cases hz
    have n3 : c2 ≠ 41 := fun e => by subst e; cases hz
    exact hTS_D n1 n3 (fun z => by obtain ⟨rfl, rfl⟩ := z; cases hz)
  have e73 : mAS A b t c w 73 = A 73 := mAS_c (by decide) (by decide) (by decide)
  have e78 : mAS A b t c w 78 = A 78 := mAS_c (by decide) (by decide) (by decide)
  have e86 : mAS A b t c w 86 = A 86 := mAS_c (by decide) (by decide) (by decide)
  have e87 : mAS A b t c w 87 = A 87 := mAS_c (by decide) (by decide) (by decide)
  have e62 : mAS A b t c w 62 = A 62 := mAS_c (by decide) (by decide) (by decide)
  have e70 : mAS A b t c w 70 = A 70 := mAS_c (by decide) (by decide) (by decide)
  have e103 : mAS A b t c w 103 = A 103 := mAS_c (by decide) (by decide) (by decide)
  have e104 : mAS A b t c w 104 = A 104 := mAS_c (by decide) (by decide) (by decide)
  have e105 : mAS A b t c w 105 = A 105 := mAS_c (by decide) (by decide) (by decide)
  obtain ⟨ta1, ta2, ta3, ta4, ta5, ta6, ta7, ta8⟩ := q.ta
  have h108 := ta4 b c hb hc16
  refine up_tx q hA hD hTS_N hTS_L hTS_C hTS_S ?_ ?_ ?_
  · unfold TA
    rw [e73, e78, e86, e87, e103, e104, e105]
    refine ⟨ta1, fun b2 c2 t2 hb2 hc2 ht2 hz => ?_, fun b2 c2 hb2 hc2 hz => ?_, fun b2 c2 hb2 hc2 => ?_, ta5, ta6, ta7, fun b2 c2 t2 hb2 hin2 hc2 ht2 => ?_⟩
    · obtain ⟨y1, y2⟩ := ta2 b2 c2 t2 hb2 hc2 ht2 hz
      have hne : 16 * (16 * b2 + c2) + t2 ≠ 16 * (16 * b + c) + t := fun z => hz (by
        have : b2 = b ∧ t2 = t := by omega
        obtain ⟨rfl, rfl⟩ := this
        exact ⟨i1, i3, ht⟩)
      rw [mAS_106, mAS_107, if_neg hne, if_neg hne]
      exact ⟨y1, y2⟩
    · rw [mAS_108]
      unfold zup
      rw [if_neg (fun z => hz (by
        have : b2 = b := by omega
        subst this
        exact ⟨i1, i3⟩))]
      exact ta3 b2 c2 hb2 hc2 hz
    · rw [mAS_108]
      unfold zup
      split
      · exact tb_01 _
      · exact ta4 b2 c2 hb2 hc2
    · obtain ⟨y1, y2⟩ := ta8 b2 c2 t2 hb2 hin2 hc2 ht2
      rw [mAS_106, mAS_107]
      by_cases hne : 16 * (16 * b2 + c2) + t2 = 16 * (16 * b + c) + t
      · have : b2 = b := by omega
        subst this
        rw [if_pos hne, if_pos hne]
        refine ⟨Int.le_refl _, ?_⟩
        split
        · exact Int.le_refl _
        · rw [← hne]
          exact y2
      · rw [if_neg hne, if_neg hne]
        exact ⟨y1, y2⟩
  · unfold TB
    rw [e62, e70, e86, e87, e103, e104]
    have x39 : ∀ p j, zhD (hTS h (bc b) (b / 6) t c w) 39 p j = zhD h 39 p j := fun p j => hTS_D (by decide) (by decide) (fun z => absurd z.1 (by decide))
    refine ⟨fun b2 cell t2 hb2 hin2 hcell ht2 => ?_, fun b2 c2 hb2 hin2 hc2 => ?_⟩
    · rw [x39]
      exact q.tb.1 b2 cell t2 hb2 hin2 hcell ht2
    · obtain ⟨y0, y1⟩ := q.tb.2 b2 c2 hb2 hin2 hc2
      obtain ⟨k9, hkK9, hk9, -, -, ⟨-, -, s09, s19, -⟩, -⟩ := q.blk hb2 hin2
      rw [hk9, Int.toNat_natCast] at hc2
      rw [hTS_41, hTS_40, mAS_108, hrace]
      by_cases hs : bc b2 = bc b ∧ c2 = c
      · have hbb := q.bh.2 b2 b hb2 hb hin2 hin hs.1
        obtain ⟨-, rfl⟩ := hs
        subst hbb
        refine ⟨?_, fun t2 ht2 => ?_⟩
        · rw [y0]
          unfold zup
          rw [if_pos rfl]
          rcases h108 with z | z
          · rw [z]
            cases zacs A b2 t c2 w <;> simp [tb]
          · rw [z]
            simp [tb]
        · obtain ⟨y2, y3⟩ := y1 t2 ht2
          rw [if_pos ⟨rfl, rfl⟩, zwt_bit (by omega) (by omega), zwt_bit (by omega) (by omega), y2, y3, mAS_106, mAS_107]
          by_cases htt : t2 = t
          · subst htt
            rw [if_pos rfl, if_pos rfl, decide_eq_true (show t2 = t2 from rfl), decide_eq_true (Int.le_refl _), decide_eq_false (show ¬ 16 + t2 = t2 by omega), decide_eq_true (show 16 + t2 = 16 + t2 from rfl)]
            cases w with
            | true =>
              rw [if_pos rfl, decide_eq_true (Int.le_refl _)]
              simp
            | false =>
              rw [if_neg (by decide)]
              simp
          · have n1 : 16 * (16 * b2 + c2) + t2 ≠ 16 * (16 * b2 + c2) + t := by omega
            rw [if_neg n1, if_neg n1, decide_eq_false htt, decide_eq_false (show ¬ t2 = 16 + t by omega), decide_eq_false (show ¬ 16 + t2 = t by omega), decide_eq_false (show ¬ 16 + t2 = 16 + t by omega)]
            simp
      · refine ⟨?_, fun t2 ht2 => ?_⟩
        · rw [if_neg (fun z => hs ⟨z.2.2.1, z.2.2.2⟩)]
          unfold zup
          rw [if_neg (fun z => hs (by
            have : b2 = b ∧ c2 = c := by omega
            exact ⟨by rw [this.1], this.2⟩))]
          exact y0
        · have n1 : 16 * (16 * b2 + c2) + t2 ≠ 16 * (16 * b + c) + t := fun z => hs (by
            have : b2 = b ∧ c2 = c := by omega
            exact ⟨by rw [this.1], this.2⟩)
          rw [if_neg hs, mAS_106, mAS_107, if_neg n1, if_neg n1]
          exact y1 t2 ht2
  · unfold TL
    rw [e103, e104, e105]
    have x34 : ∀ p j, zhD (hTS h (bc b) (b / 6) t c w) 34 p j = zhD h 34 p j := fun p j => hTS_D (by decide) (by decide) (fun z => absurd z.1 (by decide))
    have x35 : ∀ p j, zhD (hTS h (bc b) (b / 6) t c w) 35 p j = zhD h 35 p j := fun p j => hTS_D (by decide) (by decide) (fun z => absurd z.1 (by decide))
    intro l hl
    simp only [x34, x35]
    obtain ⟨z1, z2⟩ := q.tl l hl
    refine ⟨z1, ?_⟩
    rw [hTS_9, mAS_108, zsum_up, hrace, (q.tb.2 b c hb hin hc).1]
    by_cases hs : l = b / 6
    · subst hs
      rw [if_pos (show 96 * (b / 6) ≤ 16 * b + c ∧ 16 * b + c < 96 * (b / 6) + 96 by omega), z2]
      rcases h108 with z | z
      · rw [z]
        cases zacs A b t c w
        · simp [tb]
        · simp [tb]
          omega
      · rw [z]
        simp [tb]
    · rw [if_neg (fun z => hs z.2.2), if_neg (by omega), z2]
      omega
end
