/-! A BARRIER: tools -/
/-- those that wait, of n from i on, wait at one place -/
def zeq (A : zA) (b : Nat) : Nat → Nat → Bool
  | _, 0 => true
  | i, n + 1 => if A 89 (16 * b + i) = 119 then (zeq A b (i + 1) n && (decide (zlw A b (i + 1) n = -1) || decide (A 90 (16 * b + i) = A 90 (16 * b + (zlw A b (i + 1) n).toNat)))) else zeq A b (i + 1) n
theorem zeq_s {A : zA} {b i n : Nat} : zeq A b i (n + 1) = if A 89 (16 * b + i) = 119 then (zeq A b (i + 1) n && (decide (zlw A b (i + 1) n = -1) || decide (A 90 (16 * b + i) = A 90 (16 * b + (zlw A b (i + 1) n).toNat)))) else zeq A b (i + 1) n := rfl
theorem zlw_s {A : zA} {b i n : Nat} : zlw A b i (n + 1) = if A 89 (16 * b + i) = 119 then (i : Int) else zlw A b (i + 1) n := rfl
theorem zeq_iff {A : zA} {b : Nat} : ∀ n i, zeq A b i n = true ↔ ∀ t, i ≤ t → t < i + n → A 89 (16 * b + t) = 119 → A 90 (16 * b + t) = A 90 (16 * b + (zlw A b i n).toNat)
  | 0, i => ⟨fun _ t h1 h2 => by omega, fun _ => rfl⟩
  | n + 1, i => by
    have ih := zeq_iff (A := A) (b := b) n (i + 1)
    have r := zlw_r (A := A) (b := b) n (i + 1)
    have nn := zlw_n (A := A) (b := b) n (i + 1)
    rw [zeq_s, zlw_s]
    by_cases hw : A 89 (16 * b + i) = 119
    · rw [if_pos hw, if_pos hw, Int.toNat_natCast, Bool.and_eq_true, ih, Bool.or_eq_true, decide_eq_true_iff, decide_eq_true_iff]
      constructor
      · rintro ⟨z1, z2⟩ t h1 h2 h3
        by_cases e : t = i
        · rw [e]
        · have h4 : zlw A b (i + 1) n ≠ -1 := fun w => nn w t (by omega) (by omega) h3
          rw [z1 t (by omega) (by omega) h3]
          exact (z2.resolve_left h4).symm
      · intro z
        have k : zlw A b (i + 1) n ≠ -1 → A 90 (16 * b + (zlw A b (i + 1) n).toNat) = A 90 (16 * b + i) := fun w => by
          rcases r with r | ⟨r1, r2, r3, -⟩
          · exact absurd r w
          · exact z _ (by omega) (by omega) r3
        refine ⟨fun t h1 h2 h3 => ?_, ?_⟩
        · rw [k (fun w => nn w t h1 h2 h3)]
          exact z t (by omega) (by omega) h3
        · by_cases w : zlw A b (i + 1) n = -1
          · exact Or.inl w
          · exact Or.inr (k w).symm
    · rw [if_neg hw, if_neg hw, ih]
      constructor
      · intro z t h1 h2 h3
        have : t ≠ i := fun e => hw (by rw [← e]; exact h3)
        exact z t (by omega) (by omega) h3
      · intro z t h1 h2 h3
        exact z t (by omega) (by omega) h3
theorem wr_p {i : Nat} (h : i < 100000) : wr ((i : Int) + (-1)) = (i : Int) - 1 := wr_id (by omega) (by omega)
def zf0 (s : Nat → Int) (i : Nat) : Nat → Int := fun j => if j < i then 0 else s j
theorem zf0_s {s : Nat → Int} {i : Nat} : zup (zf0 s i) i 0 = zf0 s (i + 1) := by
  funext j
  unfold zup zf0
  by_cases h1 : j = i
  · rw [if_pos h1, if_pos (by omega)]
  · rw [if_neg h1]
    by_cases h2 : j < i
    · rw [if_pos h2, if_pos (by omega)]
    · rw [if_neg h2, if_neg (by omega)]
theorem zf0_0 {s : Nat → Int} : zf0 s 0 = s := funext fun j => if_neg (Nat.not_lt_zero j)
section
variable {ρ : Type} {h h' g : zH} {A A' B : zA} {kr : Int → zH → Option ρ} {K L n n' : Nat} {bc tc gc : Nat → Nat} {N M : Int} {s : Nat → Int} {b : Nat}
theorem m_la66 {l th : Nat} (hb : b < 72) (hth : th ≤ 16) : ∀ f i m : Nat, i + m = th → i < f → zit (fun _ _ _ _ _ _ => none) (M_lookAt_66b kr) f (b : Int) (l : Int) (zlw A b i m) (tb (zeq A b i m)) ((i : Int) - 1) (mh g A) = M_lookAt_66b kr (fun _ _ _ _ _ _ => none) (b : Int) (l : Int) (zlw A b 0 th) (tb (zeq A b 0 th)) (-1) (mh g A)
  | 0, _, _, _, hf => absurd hf (Nat.not_lt_zero _)
  | f + 1, 0, m, hm, _ => by
    have : m = th := by omega
    subst this
    have e : ((0 : Nat) : Int) - 1 = -1 := rfl
    rw [zit_s, e]
    have hm1 : (-1 : Int) < 0 := by decide
    unfold M_lookAt_66b
    rw [if_pos hm1, if_pos hm1]
  | f + 1, i + 1, m, hm, hf => by
    have ih := m_la66 (l := l) hb hth f i (m + 1) (by omega) (by omega)
    have ec : ((i + 1 : Nat) : Int) - 1 = (i : Int) := by omega
    have n0 : ¬ (i : Int) < 0 := by omega
    have i16 : i < 16 := by omega
    have i9 : i < 100000 := by omega
    have i1 : 16 * b + i < 1152 := by omega
    have r := zlw_r (A := A) (b := b) m (i + 1)
    rw [zit_s, ← ih, ec]
    clear ih
    generalize zit (fun _ _ _ _ _ _ => none) (M_lookAt_66b kr) f = r9
    unfold M_lookAt_66b M_lookAt_127 M_lookAt_123 M_lookAt_128 M_lookAt_133
    rw [if_neg n0, m_threadCell hb i16, zix_n i1, mD89, wr_p i9]
    by_cases hw : A 89 (16 * b + i) = 119
    · rw [if_pos hw, zlw_s, if_pos hw, zeq_s, if_pos hw]
      cases hz : zeq A b (i + 1) m with
      | false => rw [tb_f, if_pos rfl, Bool.false_and, tb_f]
      | true =>
        rw [tb_t, if_neg (by decide), Bool.true_and]
        by_cases hl : zlw A b (i + 1) m = -1
        · rw [if_pos hl, decide_eq_true hl, Bool.true_or, tb_t]
        · obtain ⟨lo, hlo⟩ : ∃ lo : Nat, zlw A b (i + 1) m = (lo : Int) := ⟨(zlw A b (i + 1) m).toNat, by omega⟩
          have lo16 : lo < 16 := by omega
          have lo1 : 16 * b + lo < 1152 := by omega
          rw [if_neg hl, decide_eq_false hl, Bool.false_or, hlo, zix_n i1, m_threadCell hb lo16, zix_n lo1, mD90, mD90, Int.toNat_natCast]
          by_cases he : A 90 (16 * b + i) = A 90 (16 * b + lo)
          · rw [if_pos he, decide_eq_true he, tb_t]
          · rw [if_neg he, decide_eq_false he, tb_f]
    · rw [if_neg hw, zlw_s, if_neg hw, zeq_s, if_neg hw]
theorem x_chk_ok {th : Nat} (q : TT A h bc tc b th) (h3 : ∀ t, t < th → A 89 (16 * b + t) = 119 → zhD h 6 (tc (16 * b + t)) 3 = A 90 (16 * b + t)) {P len : Int} (ok : ∀ t, t < th → A 89 (16 * b + t) = 119 → A 90 (16 * b + t) = P) : ∀ f t : Nat, t ≤ th → th - t < f → zit (fun _ _ _ _ _ _ => none) (Th_release_36_3b kr) f (bc b : Int) (th : Int) P len (t : Int) h = Th_release_36_45 kr (bc b : Int) (th : Int) P len h
  | 0, _, _, hf => absurd hf (Nat.not_lt_zero _)
  | f + 1, t, ht, hf => by
    have q' := q
    obtain ⟨b1, b2, b3, b4, b5, b6, b7⟩ := q'
    rw [zit_s]
    by_cases h4 : t < th
    · have ih := x_chk_ok (len := len) q h3 ok f (t + 1) h4 (by omega)
      obtain ⟨t1, t2, t3⟩ := b7 t h4
      have hlt : (t : Int) < (th : Int) := by omega
      have t9 : t < 100000 := by omega
      generalize zit (fun _ _ _ _ _ _ => none) (Th_release_36_3b kr) f = r2 at ih ⊢
      unfold Th_release_36_3b Th_release_36_39
      rw [if_pos hlt, zob_n b3, b4, if_pos hlt, zob_n b3, b4, zix_n h4, t1, zob_n t2, x_isWaiting t2, t3, wr_s t9]
      by_cases hv : A 89 (16 * b + t) = 119
      · rw [decide_eq_true hv, tb_t, if_neg (by decide), zob_n b3, b4, zix_n h4, t1, zob_n t2, h3 t h4 hv, if_pos (ok t h4 hv)]
        exact ih
      · rw [decide_eq_false hv, tb_f, if_pos rfl]
        exact ih
    · unfold Th_release_36_3b
      rw [if_neg (by omega)]
theorem x_chk_bad {th : Nat} (q : TT A h bc tc b th) (h3 : ∀ t, t < th → A 89 (16 * b + t) = 119 → zhD h 6 (tc (16 * b + t)) 3 = A 90 (16 * b + t)) {P len : Int} : ∀ f t : Nat, t ≤ th → th - t < f → (∃ t2, t ≤ t2 ∧ t2 < th ∧ A 89 (16 * b + t2) = 119 ∧ A 90 (16 * b + t2) ≠ P) → zit (fun _ _ _ _ _ _ => none) (Th_release_36_3b kr) f (bc b : Int) (th : Int) P len (t : Int) h = kr 0 h
  | 0, _, _, hf, _ => absurd hf (Nat.not_lt_zero _)
  | f + 1, t, ht, hf, ⟨t2, c1, c2, c3, c4⟩ => by
    have q' := q
    obtain ⟨b1, b2, b3, b4, b5, b6, b7⟩ := q'
    rw [zit_s]
    have h4 : t < th := by omega
    obtain ⟨t1, tt2, t3⟩ := b7 t h4
    have hlt : (t : Int) < (th : Int) := by omega
    have t9 : t < 100000 := by omega
    by_cases hv : A 89 (16 * b + t) = 119
    · by_cases hp : A 90 (16 * b + t) = P
      · have ne : t2 ≠ t := fun e => c4 (by rw [e]; exact hp)
        have ih := x_chk_bad (P := P) (len := len) q h3 f (t + 1) h4 (by omega) ⟨t2, by omega, c2, c3, c4⟩
        generalize zit (fun _ _ _ _ _ _ => none) (Th_release_36_3b kr) f = r2 at ih ⊢
        unfold Th_release_36_3b Th_release_36_39
        rw [if_pos hlt, zob_n b3, b4, if_pos hlt, zob_n b3, b4, zix_n h4, t1, zob_n tt2, x_isWaiting tt2, t3, wr_s t9, decide_eq_true hv, tb_t, if_neg (by decide), zob_n b3, b4, zix_n h4, t1, zob_n tt2, h3 t h4 hv, if_pos hp]
        exact ih
      · unfold Th_release_36_3b Th_release_36_39
        rw [if_pos hlt, zob_n b3, b4, if_pos hlt, zob_n b3, b4, zix_n h4, t1, zob_n tt2, x_isWaiting tt2, t3, wr_s t9, decide_eq_true hv, tb_t, if_neg (by decide), zob_n b3, b4, zix_n h4, t1, zob_n tt2, h3 t h4 hv, if_neg hp]
    · have ne : t2 ≠ t := fun e => hv (by rw [← e]; exact c3)
      have ih := x_chk_bad (P := P) (len := len) q h3 f (t + 1) h4 (by omega) ⟨t2, by omega, c2, c3, c4⟩
      generalize zit (fun _ _ _ _ _ _ => none) (Th_release_36_3b kr) f = r2 at ih ⊢
      unfold Th_release_36_3b Th_release_36_39
      rw [if_pos hlt, zob_n b3, b4, if_pos hlt, zob_n b3, b4, zix_n h4, t1, zob_n tt2, x_isWaiting tt2, t3, wr_s t9, decide_eq_false hv, tb_f, if_pos rfl]
      exact ih
theorem x_fl39_loop {p len : Nat} (hp : p < zhN h 39) (hl : zhL h 39 p = len) (l9 : len ≤ 1000) : ∀ f i : Nat, i ≤ len → len - i < f → zit (fun _ _ _ _ _ => none) (Ar_fill_39_5b kr) f (p : Int) 0 (i : Int) (len : Int) (hrw h 39 p (zf0 (zhD h 39 p) i)) = kr 0 (hrw h 39 p (zf0 (zhD h 39 p) len))
  | 0, _, _, hf => absurd hf (Nat.not_lt_zero _)
  | f + 1, i, hi, hf => by
    rw [zit_s]
    have hp' : p < zhN (hrw h 39 p (zf0 (zhD h 39 p) i)) 39 := hp
    have hl' : zhL (hrw h 39 p (zf0 (zhD h 39 p) i)) 39 p = len := hl
    by_cases h4 : i < len
    · have ih := x_fl39_loop hp hl l9 f (i + 1) h4 (by omega)
      have hlt : (i : Int) < (len : Int) := by omega
      have i9 : i < 100000 := by omega
      generalize zit (fun _ _ _ _ _ => none) (Ar_fill_39_5b kr) f = r2 at ih ⊢
      unfold Ar_fill_39_5b
      rw [if_pos hlt, zob_n hp', hl', zix_n h4, hrw_set, zlet_d, zf0_s, wr_s i9]
      exact ih
    · have : i = len := by omega
      subst this
      unfold Ar_fill_39_5b
      rw [if_neg (Int.lt_irrefl _)]
theorem x_fl39 {p len : Nat} (hp : p < zhN h 39) (hl : zhL h 39 p = len) (l9 : len ≤ 1000) : Ar_fill_39 (p : Int) 0 h kr = kr 0 (hrw h 39 p (zf0 (zhD h 39 p) len)) := by
  have := x_fl39_loop (kr := kr) hp hl l9 zN 0 (Nat.zero_le _) (by show len - 0 < 5000; omega)
  rw [zf0_0, hrw_id] at this
  unfold Ar_fill_39
  rw [zob_n hp, hl]
  exact this
theorem x_fl40_loop {p len : Nat} (hp : p < zhN h 40) (hl : zhL h 40 p = len) (l9 : len ≤ 1000) : ∀ f i : Nat, i ≤ len → len - i < f → zit (fun _ _ _ _ _ => none) (Ar_fill_40_5b kr) f (p : Int) 0 (i : Int) (len : Int) (hrw h 40 p (zf0 (zhD h 40 p) i)) = kr 0 (hrw h 40 p (zf0 (zhD h 40 p) len))
  | 0, _, _, hf => absurd hf (Nat.not_lt_zero _)
  | f + 1, i, hi, hf => by
    rw [zit_s]
    have hp' : p < zhN (hrw h 40 p (zf0 (zhD h 40 p) i)) 40 := hp
    have hl' : zhL (hrw h 40 p (zf0 (zhD h 40 p) i)) 40 p = len := hl
    by_cases h4 : i < len
    · have ih := x_fl40_loop hp hl l9 f (i + 1) h4 (by omega)
      have hlt : (i : Int) < (len : Int) := by omega
      have i9 : i < 100000 := by omega
      generalize zit (fun _ _ _ _ _ => none) (Ar_fill_40_5b kr) f = r2 at ih ⊢
      unfold Ar_fill_40_5b
      rw [if_pos hlt, zob_n hp', hl', zix_n h4, hrw_set, zlet_d, zf0_s, wr_s i9]
      exact ih
    · have : i = len := by omega
      subst this
      unfold Ar_fill_40_5b
      rw [if_neg (Int.lt_irrefl _)]
theorem x_fl40 {p len : Nat} (hp : p < zhN h 40) (hl : zhL h 40 p = len) (l9 : len ≤ 1000) : Ar_fill_40 (p : Int) 0 h kr = kr 0 (hrw h 40 p (zf0 (zhD h 40 p) len)) := by
  have := x_fl40_loop (kr := kr) hp hl l9 zN 0 (Nat.zero_le _) (by show len - 0 < 5000; omega)
  rw [zf0_0, hrw_id] at this
  unfold Ar_fill_40
  rw [zob_n hp, hl]
  exact this
end
