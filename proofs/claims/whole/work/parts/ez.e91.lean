/-! THE SERIAL RUN: an instruction, its effect -/
theorem zb_cases {c : Int} (h : zbits c ≠ -1) (h1 : c ≠ 118) (h2 : c ≠ 115) (h3 : c ≠ 99) : (c = 43 ∨ c = 45 ∨ c = 42 ∨ c = 60 ∨ c = 61) ∨ (c = 107 ∨ c = 116 ∨ c = 110 ∨ c = 108) ∨ (c = 122 ∨ c = 106 ∨ c = 98 ∨ c = 102 ∨ c = 101) ∨ (c = 114 ∨ c = 119 ∨ c = 97 ∨ c = 120) ∨ (c = 82 ∨ c = 87) := by
  unfold zbits at h
  split at h
  · omega
  · split at h
    · omega
    · split at h
      · omega
      · split at h
        · omega
        · exact absurd rfl h
/-- an instruction, on both sides -/
def IR (A : zA) (h : zH) (k p r : Nat) (c a b d : Int) : Prop := (r < zhN h 8 ∧ zhD h 8 r 0 = c ∧ zhD h 8 r 1 = a ∧ zhD h 8 r 2 = b ∧ zhD h 8 r 3 = d) ∧ (A 65 (40 * k + p) = c ∧ A 66 (40 * k + p) = a ∧ A 67 (40 * k + p) = b ∧ A 68 (40 * k + p) = d) ∧ zinsOK (A 61 k) c a b d ∧ (k < 4 ∧ p < 40 ∧ A 61 k ≤ 8 ∧ 0 ≤ A 62 k ∧ A 62 k ≤ 16) ∧ k < zhN h 7 ∧ zhD h 7 k 1 = A 62 k
def zcl9 (c x z : Int) : Int := if c = 119 ∨ c = 87 then z else x
/-- a register is set -/
def zrv9 (c x y b bn : Int) (t : Nat) : Int := if c = 107 then b else if c = 116 then (t : Int) else if c = 110 then bn else if c = 108 then Int.tmod (t : Int) 4 else zcomp c x y
section
variable {ρ : Type} {h h0 g : zH} {A A0 B : zA} {kr : Int → zH → Option ρ} {K L n k T t p r : Nat} {M bn v c a b d w : Int}
theorem IR.za (x : IR A h k p r c a b d) (hz : zbits c = 7 ∨ zbits c = 6 ∨ zbits c = 5 ∨ zbits c = 4) : ∃ an : Nat, a = (an : Int) ∧ an < 8 := by
  obtain ⟨-, -, ⟨-, o1, -⟩, ⟨-, -, m3, -⟩, -⟩ := x
  have := o1 hz
  exact ⟨a.toNat, by omega, by omega⟩
theorem IR.zb (x : IR A h k p r c a b d) (hz : zbits c = 7 ∨ zbits c = 6) : ∃ an : Nat, b = (an : Int) ∧ an < 8 := by
  obtain ⟨-, -, ⟨-, -, o1, -⟩, ⟨-, -, m3, -⟩, -⟩ := x
  have := o1 hz
  exact ⟨b.toNat, by omega, by omega⟩
theorem IR.zd (x : IR A h k p r c a b d) (hz : zbits c = 7 ∨ zbits c = 5) : ∃ an : Nat, d = (an : Int) ∧ an < 8 := by
  obtain ⟨-, -, ⟨-, -, -, o1, -⟩, ⟨-, -, m3, -⟩, -⟩ := x
  have := o1 hz
  exact ⟨d.toNat, by omega, by omega⟩
theorem zwi_07 {i : Nat} (hi : i < 8) : zwi (i : Int) 0 7 = true := zwi_i (by omega) (by omega)
theorem zsr_n {i : Nat} (hi : i < 8) : zsr A t (i : Int) = A 112 (8 * t + i) := by
  unfold zsr
  rw [if_pos (zwi_07 hi), Int.toNat_natCast]
theorem sq_th (qd : RD h) (ht : t < T) (t16 : T ≤ 16) : t < zhN h 6 ∧ zhL h 32 t = 8 ∧ zhD h 6 t 0 = (t : Int) := by
  have z := qd.2.2.1
  have y := z.2.2.2 t (by omega)
  exact ⟨by have := z.2.1; omega, y.1, y.2⟩
theorem sq_set (qd : RD h) (ht : t < T) (t16 : T ≤ 16) {i : Nat} (hi : i < 8) : Th_set (t : Int) (i : Int) v h kr = kr 0 (zset h 32 t i v) := by
  obtain ⟨h1, h2, -⟩ := sq_th qd ht t16
  rw [x_set qd h1, h2, show ((8 : Nat) : Int) - 1 = 7 by decide, if_pos (zwi_07 hi), Int.toNat_natCast]
/-- reckoning: the class -/
theorem x_rk_all (x : SQ A h k T bn) (y : IR A h k p r c a b d) (qd : RD h) (ht : t < T) (t16 : T ≤ 16) (hc : (c = 43 ∨ c = 45 ∨ c = 42 ∨ c = 60 ∨ c = 61) ∨ (c = 107 ∨ c = 116 ∨ c = 110 ∨ c = 108)) : ∃ an : Nat, a = (an : Int) ∧ an < 8 ∧ ∀ kr : Int → zH → Option ρ, Th_reckon (t : Int) (r : Int) h kr = kr 0 (zset h 32 t an (zrv9 c (zsr A t b) (zsr A t d) b bn t)) := by
  obtain ⟨h1, h2, h3⟩ := sq_th qd ht t16
  obtain ⟨i1, i2, i3, i4, i5⟩ := y.1
  have hb2 := (x.2.2.2 t ht).1
  rcases hc with hc | hc
  · have z7 : zbits c = 7 := by
      rcases hc with rfl | rfl | rfl | rfl | rfl <;> decide
    obtain ⟨an, rfl, an8⟩ := y.za (Or.inl z7)
    obtain ⟨bq, rfl, bn8⟩ := y.zb (Or.inl z7)
    obtain ⟨dn, rfl, dn8⟩ := y.zd (Or.inl z7)
    have e1 : zhD h 32 t bq = zsr A t (bq : Int) := by rw [zsr_n bn8]; exact (x.2.2.2 t ht).2.2.2.2 bq bn8
    have e2 : zhD h 32 t dn = zsr A t (dn : Int) := by rw [zsr_n dn8]; exact (x.2.2.2 t ht).2.2.2.2 dn dn8
    refine ⟨an, rfl, an8, fun kr => ?_⟩
    rw [← h2] at an8 bn8 dn8
    rw [← e1, ← e2]
    rcases hc with rfl | rfl | rfl | rfl | rfl
    · exact x_rk_add qd h1 i1 i2 i3 i4 i5 an8 bn8 dn8
    · exact x_rk_sub qd h1 i1 i2 i3 i4 i5 an8 bn8 dn8
    · exact x_rk_mul qd h1 i1 i2 i3 i4 i5 an8 bn8 dn8
    · exact x_rk_lt qd h1 i1 i2 i3 i4 i5 an8 bn8 dn8
    · exact x_rk_eq qd h1 i1 i2 i3 i4 i5 an8 bn8 dn8
  · have z7 : zbits c = 4 := by
      rcases hc with rfl | rfl | rfl | rfl <;> decide
    obtain ⟨an, rfl, an8⟩ := y.za (Or.inr (Or.inr (Or.inr z7)))
    refine ⟨an, rfl, an8, fun kr => ?_⟩
    rw [← h2] at an8
    rcases hc with rfl | rfl | rfl | rfl
    · exact x_rk_k qd h1 i1 i2 i3 i4 an8
    · rw [x_rk_t qd h1 i1 i2 i3 an8, h3]
      rfl
    · rw [x_rk_n qd h1 i1 i2 i3 an8, hb2]
      rfl
    · rw [x_rk_l qd h1 i1 i2 i3 an8, h3]
      rfl
/-- the model, registers -/
theorem m_rk_all {r0 : Int → Int → Int → zH → Option ρ} {x9 : Int} (y : IR A h k p r c a b d) (h113 : A 113 t = (p : Int)) (ht : t < 16) (hc : (c = 43 ∨ c = 45 ∨ c = 42 ∨ c = 60 ∨ c = 61) ∨ (c = 107 ∨ c = 116 ∨ c = 110 ∨ c = 108)) {an : Nat} (ha : a = (an : Int)) (an8 : an < 8) {x z ce : Int} : M_runThread_264 kr r0 (k : Int) bn (t : Int) ((40 * k + p : Nat) : Int) c ((8 * t : Nat) : Int) x x9 z ce (mh g A) = r0 (k : Int) bn (t : Int) (mh g (au (au A 112 (8 * t + an) (zrv9 c x x9 b bn t)) 113 t (((p + 1 : Nat) : Int)))) := by
  obtain ⟨-, ⟨j1, j2, j3, j4⟩, -, ⟨m1, m2, m3, m4, m5⟩, -⟩ := y
  subst ha
  have p9 : p < 100000 := by omega
  have x160 : 40 * k + p < 160 := by omega
  have a128 : 8 * t + an < 128 := by omega
  have a9 : 8 * t + an < 100000 := by omega
  rcases hc with (rfl | rfl | rfl | rfl | rfl) | (rfl | rfl | rfl | rfl)
  all_goals (unfold M_runThread_264 M_runThread_488 M_runThread_527 M_runThread_654; simp only [reduceIte, Int.reduceEq, zix_n ht, zix_n x160, mD113, mD66, mD67, h113, wr_s p9, j2, j3, wr_nn a9, zix_n a128, m_compute, mS112, zlet_d, mS113]; rfl)
/-- the model, the others -/
theorem m_no_all {r0 : Int → Int → Int → zH → Option ρ} {x x9 z ce : Int} (y : IR A h k p r c a b d) (h113 : A 113 t = (p : Int)) (ht : t < 16) (hc : c = 122 ∨ c = 106 ∨ c = 98 ∨ c = 102 ∨ c = 101) : M_runThread_264 kr r0 (k : Int) bn (t : Int) ((40 * k + p : Nat) : Int) c ((8 * t : Nat) : Int) x x9 z ce (mh g A) = r0 (k : Int) bn (t : Int) (mh g (zmg A t c (znx c b (p : Int) z))) := by
  obtain ⟨-, ⟨j1, j2, j3, j4⟩, -, ⟨m1, m2, m3, m4, m5⟩, -⟩ := y
  have p9 : p < 100000 := by omega
  have x160 : 40 * k + p < 160 := by omega
  have pe : ((p + 1 : Nat) : Int) = (p : Int) + 1 := by omega
  rcases hc with rfl | rfl | rfl | rfl | rfl
  · unfold M_runThread_264 M_runThread_555 M_runThread_654 zmg znx
    simp only [reduceIte, Int.reduceEq, zix_n ht, zix_n x160, mD113, mD67, h113, wr_s p9, j3, true_and, false_or, false_and, pe]
    by_cases hz : z = 0
    · simp only [hz, reduceIte, mS113, zlet_d]
    · simp only [if_neg hz, mS113, zlet_d]
  all_goals (unfold M_runThread_264 M_runThread_654 zmg znx; simp only [reduceIte, Int.reduceEq, zix_n ht, zix_n x160, mD113, mD67, h113, wr_s p9, j3, mS113, mS114, zlet_d, true_or, false_and, or_self, pe, au_ne (show 113 ≠ 114 by decide)])
theorem m_rd_all {r0 : Int → Int → Int → zH → Option ρ} {x x9 z : Int} (y : IR A h k p r c a b d) (h113 : A 113 t = (p : Int)) (ht : t < 16) {an ce : Nat} (ha : a = (an : Int)) (an8 : an < 8) (hc : (c = 114 ∧ ce < 64) ∨ (c = 82 ∧ ce < 16)) : M_runThread_264 kr r0 (k : Int) bn (t : Int) ((40 * k + p : Nat) : Int) c ((8 * t : Nat) : Int) x x9 z (ce : Int) (mh g A) = r0 (k : Int) bn (t : Int) (mh g (au (au A 112 (8 * t + an) (if c = 114 then A 110 ce else A 111 ce)) 113 t ((p + 1 : Nat) : Int))) := by
  obtain ⟨-, ⟨j1, j2, j3, j4⟩, -, ⟨m1, m2, m3, m4, m5⟩, -⟩ := y
  subst ha
  have p9 : p < 100000 := by omega
  have x160 : 40 * k + p < 160 := by omega
  have a128 : 8 * t + an < 128 := by omega
  have a9 : 8 * t + an < 100000 := by omega
  rcases hc with ⟨rfl, c9⟩ | ⟨rfl, c9⟩
  all_goals (unfold M_runThread_264 M_runThread_326 M_runThread_364 M_runThread_654; simp only [reduceIte, Int.reduceEq, zix_n ht, zix_n x160, zix_n c9, mD113, mD66, mD110, mD111, h113, wr_s p9, j2, wr_nn a9, zix_n a128, mS112, zlet_d, mS113])
theorem m_wr_all {r0 : Int → Int → Int → zH → Option ρ} {x x9 z : Int} (y : IR A h k p r c a b d) (h113 : A 113 t = (p : Int)) (ht : t < 16) {ce : Nat} (hc : (c = 119 ∧ ce < 64) ∨ (c = 87 ∧ ce < 16)) : M_runThread_264 kr r0 (k : Int) bn (t : Int) ((40 * k + p : Nat) : Int) c ((8 * t : Nat) : Int) x x9 z (ce : Int) (mh g A) = r0 (k : Int) bn (t : Int) (mh g (au (if c = 119 then au A 110 ce x else au A 111 ce x) 113 t ((p + 1 : Nat) : Int))) := by
  obtain ⟨-, -, -, ⟨m1, m2, m3, m4, m5⟩, -⟩ := y
  have p9 : p < 100000 := by omega
  rcases hc with ⟨rfl, c9⟩ | ⟨rfl, c9⟩
  all_goals (unfold M_runThread_264 M_runThread_654; simp only [reduceIte, Int.reduceEq, zix_n ht, zix_n c9, mD113, h113, wr_s p9, mS110, mS111, zlet_d, mS113])
theorem m_ex_all {r0 : Int → Int → Int → zH → Option ρ} {x x9 z : Int} (y : IR A h k p r c a b d) (h113 : A 113 t = (p : Int)) (ht : t < 16) {an ce : Nat} (ha : a = (an : Int)) (an8 : an < 8) (c9 : ce < 64) (hc : c = 97 ∨ c = 120) : M_runThread_264 kr r0 (k : Int) bn (t : Int) ((40 * k + p : Nat) : Int) c ((8 * t : Nat) : Int) x x9 z (ce : Int) (mh g A) = r0 (k : Int) bn (t : Int) (mh g (au (au (au A 110 ce (if c = 97 then wr (A 110 ce + x9) else x9)) 112 (8 * t + an) (A 110 ce)) 113 t ((p + 1 : Nat) : Int))) := by
  obtain ⟨-, ⟨j1, j2, j3, j4⟩, -, ⟨m1, m2, m3, m4, m5⟩, -⟩ := y
  subst ha
  have p9 : p < 100000 := by omega
  have x160 : 40 * k + p < 160 := by omega
  have a128 : 8 * t + an < 128 := by omega
  have a9 : 8 * t + an < 100000 := by omega
  rcases hc with rfl | rfl
  all_goals (unfold M_runThread_264 M_runThread_382 M_runThread_414 M_runThread_654; simp only [reduceIte, Int.reduceEq, zix_n ht, zix_n x160, zix_n c9, mD113, mD66, mD110, h113, wr_s p9, mS110, au_ne (show 66 ≠ 110 by decide), j2, wr_nn a9, zix_n a128, mS112, zlet_d, mS113])
/-- what both do at an instruction -/
def SE (ρ : Type) (g : zH) (A : zA) (h : zH) (k T t p r : Nat) (c a b d bn w : Int) (s : Nat → Int) (h1 : zH) (A2 : zA) : Prop := (∀ kr : Int → zH → Option ρ, Re_carry 0 (t : Int) (r : Int) h kr = kr 1 h1) ∧ (∀ (kr : Int → zH → Option ρ) (r0 : Int → Int → Int → zH → Option ρ), M_runThread_207 kr r0 (k : Int) bn (t : Int) ((40 * k + p : Nat) : Int) c ((8 * t : Nat) : Int) (zsr A t b) (zsr A t d) (zsr A t a) (zcl9 c (zsr A t b) (zsr A t a)) (mh g (au A 115 t w)) = r0 (k : Int) bn (t : Int) (mh g (zmg (au A2 115 t w) t c (znx c b (p : Int) (zsr A t a))))) ∧ SQ (ard A2 114 s) h1 k T bn ∧ SF A A2 h h1 ∧ (A2 63 = A 63 ∧ A2 113 = A 113 ∧ A2 114 = A 114 ∧ A2 115 = A 115) ∧ (c = 122 → h1 = h)
def SEf (ρ : Type) (g : zH) (A : zA) (h : zH) (k t p r : Nat) (c a b d bn w : Int) : Prop := (∀ kr : Int → zH → Option ρ, Re_carry 0 (t : Int) (r : Int) h kr = kr 0 h) ∧ (∀ (kr : Int → zH → Option ρ) (r0 : Int → Int → Int → zH → Option ρ), M_runThread_207 kr r0 (k : Int) bn (t : Int) ((40 * k + p : Nat) : Int) c ((8 * t : Nat) : Int) (zsr A t b) (zsr A t d) (zsr A t a) (zcl9 c (zsr A t b) (zsr A t a)) (mh g (au A 115 t w)) = kr 0 (mh g (au A 115 t w)))
theorem IR.au115 (y : IR A h k p r c a b d) : IR (au A 115 t w) h k p r c a b d := by
  unfold IR at y ⊢
  rw [au_ne (show 65 ≠ 115 by decide), au_ne (show 66 ≠ 115 by decide), au_ne (show 67 ≠ 115 by decide), au_ne (show 68 ≠ 115 by decide), au_ne (show 61 ≠ 115 by decide), au_ne (show 62 ≠ 115 by decide)]
  exact y
/-- the model to its switch -/
theorem m_207 {r0 : Int → Int → Int → zH → Option ρ} {x4 x6 x x9 z ce : Int} (ht : t < 16) (hk : k < 4) (h62 : 0 ≤ A 62 k ∧ A 62 k ≤ 16) (h115 : A 115 t ≤ 200) : M_runThread_207 kr r0 (k : Int) bn (t : Int) x4 c x6 x x9 z ce (mh g A) = if (c = 114 ∨ c = 119 ∨ c = 97 ∨ c = 120) ∧ zwi ce 0 63 = false then kr 0 (mh g A) else if (c = 82 ∨ c = 87) ∧ zwi ce 0 (A 62 k - 1) = false then kr 0 (mh g A) else M_runThread_264 kr r0 (k : Int) bn (t : Int) x4 c x6 x x9 z ce (mh g A) := by
  have w1 : wr (A 62 k - 1) = A 62 k - 1 := wr_id (by omega) (by omega)
  have n1 : ¬ ((1 : Int) = 0) := by decide
  unfold M_runThread_207 M_runThread_237 M_runThread_262
  rw [zix_n ht, mD115, if_neg (by omega), m_isGlobal]
  by_cases hg : c = 114 ∨ c = 119 ∨ c = 97 ∨ c = 120
  · have ns : ¬ (c = 82 ∨ c = 87) := by omega
    rw [decide_eq_true hg, tb_t, if_neg n1, m_noCell]
    cases hz : zwi ce 0 63 with
    | false =>
      rw [Bool.not_false, tb_t, if_neg n1]
      exact (if_pos ⟨hg, rfl⟩).symm
    | true =>
      rw [Bool.not_true, tb_f, if_pos rfl, m_isShared, decide_eq_false ns, tb_f, if_pos rfl]
      exact ((if_neg (fun z => absurd z.2 (by decide))).trans (if_neg (fun z => ns z.1))).symm
  · rw [decide_eq_false hg, tb_f, if_pos rfl, if_neg (fun z => hg z.1), m_isShared]
    by_cases hs : c = 82 ∨ c = 87
    · rw [decide_eq_true hs, tb_t, if_neg n1, zix_n hk, mD62, w1, m_in]
      cases hz : zwi ce 0 (A 62 k - 1) with
      | false =>
        rw [tb_f, if_pos rfl]
        exact (if_pos ⟨hs, rfl⟩).symm
      | true =>
        rw [tb_t, if_neg n1]
        exact (if_neg (fun z => absurd z.2 (by decide))).symm
    · rw [decide_eq_false hs, tb_f, if_pos rfl, if_neg (fun z => hs z.1)]
theorem se_all {s : Nat → Int} (x : SQ (ard A 114 s) h k T bn) (y : IR A h k p r c a b d) (q : RS h) (qd : RD h) (ht : t < T) (t16 : T ≤ 16) (h113 : A 113 t = (p : Int)) (hw : w ≤ 200) (n1 : c ≠ 118) (n2 : c ≠ 115) (n3 : c ≠ 99) (g : zH) : SEf ρ g A h k t p r c a b d bn w ∨ ∃ (h1 : zH) (A2 : zA), SE ρ g A h k T t p r c a b d bn w s h1 A2 := by
  have ez : ∀ i : Int, zsr (ard A 114 s) t i = zsr A t i := fun i => by
    unfold zsr
    rw [ard_ne (by decide)]
  have ya : IR (ard A 114 s) h k p r c a b d := by
    unfold IR at y ⊢
    rw [ard_ne (show 65 ≠ 114 by decide), ard_ne (show 66 ≠ 114 by decide), ard_ne (show 67 ≠ 114 by decide), ard_ne (show 68 ≠ 114 by decide), ard_ne (show 61 ≠ 114 by decide), ard_ne (show 62 ≠ 114 by decide)]
    exact y
  have at9 : ∀ (i : Int) (kr : Int → zH → Option ρ), Th_at (t : Int) i h kr = kr (zsr A t i) h := fun i kr => by rw [sq_at x qd ht t16, ez]
  have R1 : ∀ {i : Nat} {v : Int}, i < 8 → SQ (ard (au A 112 (8 * t + i) v) 114 s) (zset h 32 t i v) k T bn := fun hi => by
    rw [ard_cm (by decide)]
    exact x.reg hi
  have R2 : ∀ {i : Nat} {v : Int}, SQ (ard (au A 110 i v) 114 s) (zset h 28 0 i v) k T bn := by
    intro i v
    rw [ard_cm (by decide)]
    exact x.mem
  have R3 : ∀ {i : Nat} {v : Int}, SQ (ard (au A 111 i v) 114 s) (zset h 29 0 i v) k T bn := by
    intro i v
    rw [ard_cm (by decide)]
    exact x.shr
  have R4 : ∀ {i j : Nat} {v v2 : Int}, i < 8 → SQ (ard (au (au A 110 j v2) 112 (8 * t + i) v) 114 s) (zset (zset h 28 0 j v2) 32 t i v) k T bn := fun hi => by
    rw [ard_cm (by decide), ard_cm (by decide)]
    exact x.mem.reg hi
  obtain ⟨h1, h2, h3⟩ := sq_th qd ht t16
  have y' := y
  obtain ⟨⟨i1, i2, i3, i4, i5⟩, ⟨j1, j2, j3, j4⟩, ok, ⟨m1, m2, m3, m4, m5⟩, k7, s7⟩ := y'
  obtain ⟨-, -, -, -, -, -, -, -, z2, z3⟩ := zone_all c
  have lt16 : t < 16 := by omega
  have pe : ((p + 1 : Nat) : Int) = (p : Int) + 1 := by omega
  have M2 : ∀ (kr : Int → zH → Option ρ) (r0 : Int → Int → Int → zH → Option ρ), M_runThread_207 kr r0 (k : Int) bn (t : Int) ((40 * k + p : Nat) : Int) c ((8 * t : Nat) : Int) (zsr A t b) (zsr A t d) (zsr A t a) (zcl9 c (zsr A t b) (zsr A t a)) (mh g (au A 115 t w)) = if (c = 114 ∨ c = 119 ∨ c = 97 ∨ c = 120) ∧ zwi (zcl9 c (zsr A t b) (zsr A t a)) 0 63 = false then kr 0 (mh g (au A 115 t w)) else if (c = 82 ∨ c = 87) ∧ zwi (zcl9 c (zsr A t b) (zsr A t a)) 0 (A 62 k - 1) = false then kr 0 (mh g (au A 115 t w)) else M_runThread_264 kr r0 (k : Int) bn (t : Int) ((40 * k + p : Nat) : Int) c ((8 * t : Nat) : Int) (zsr A t b) (zsr A t d) (zsr A t a) (zcl9 c (zsr A t b) (zsr A t a)) (mh g (au A 115 t w)) := fun kr r0 => by
    have e := m_207 (kr := kr) (r0 := r0) (A := au A 115 t w) (g := g) (bn := bn) (c := c) (x4 := ((40 * k + p : Nat) : Int)) (x6 := ((8 * t : Nat) : Int)) (x := zsr A t b) (x9 := zsr A t d) (z := zsr A t a) (ce := zcl9 c (zsr A t b) (zsr A t a)) lt16 m1 (by rw [au_ne (by decide)]; exact ⟨m4, m5⟩) (by rw [au_same]; exact hw)
    rw [au_ne (show 62 ≠ 115 by decide)] at e
    exact e
  have n0 : ¬ ((1 : Int) = 0) := by decide
  have C0 : ∀ kr : Int → zH → Option ρ, Re_carry 0 (t : Int) (r : Int) h kr = if ¬ (c = 114 ∨ c = 119 ∨ c = 97 ∨ c = 120) then (if ¬ (c = 82 ∨ c = 87) then Th_reckon (t : Int) (r : Int) h (fun _ h10 => kr 1 h10) else Re_carryShared 0 (t : Int) (r : Int) (zcl9 c (zsr A t b) (zsr A t a)) h (fun v11 h12 => znar 1 v11 fun x13 => kr x13 h12)) else Re_carryGlobal 0 (t : Int) (r : Int) (zcl9 c (zsr A t b) (zsr A t a)) h (fun v14 h15 => znar 1 v14 fun x16 => kr x16 h15) := fun kr => by
    have ce : (if c = 119 ∨ c = 87 then zhD h 8 r 1 else zhD h 8 r 2) = (if c = 119 ∨ c = 87 then a else b) := by rw [i3, i4]
    have ce2 : zsr A t (if c = 119 ∨ c = 87 then a else b) = zcl9 c (zsr A t b) (zsr A t a) := by
      unfold zcl9
      by_cases hz : c = 119 ∨ c = 87
      · rw [if_pos hz, if_pos hz]
      · rw [if_neg hz, if_neg hz]
    unfold Re_carry
    rw [zob_n i1, x_cellReg i1 i2, ce, zob_n h1, at9, ce2, zob_n i1, x_isOneOf (s := 2) rfl i1, i2, z2]
    by_cases hg : c = 114 ∨ c = 119 ∨ c = 97 ∨ c = 120
    · rw [decide_eq_true hg, tb_t, if_neg n0, if_neg (fun z => z hg), zob_0 q.N5]
    · rw [decide_eq_false hg, tb_f, if_pos rfl, if_pos hg, zob_n i1, x_isOneOf (s := 3) rfl i1, i2, z3]
      by_cases hs : c = 82 ∨ c = 87
      · rw [decide_eq_true hs, tb_t, if_neg n0, if_neg (fun z => z hs), zob_0 q.N5]
      · rw [decide_eq_false hs, tb_f, if_pos rfl, if_pos hs, zob_n h1]
  have e113 : au A 115 t w 113 t = (p : Int) := by rw [au_ne (by decide)]; exact h113
  rcases zb_cases ok.1 n1 n2 n3 with hc | hc | hc | hc | hc
  · -- numbers
    obtain ⟨an, ha, an8, xr⟩ := x_rk_all x ya qd ht t16 (Or.inl hc)
    simp only [ez] at xr
    have ng : ¬ (c = 114 ∨ c = 119 ∨ c = 97 ∨ c = 120) := by omega
    have ns : ¬ (c = 82 ∨ c = 87) := by omega
    refine Or.inr ⟨zset h 32 t an (zrv9 c (zsr A t b) (zsr A t d) b bn t), au A 112 (8 * t + an) (zrv9 c (zsr A t b) (zsr A t d) b bn t), fun kr => ?_, fun kr r0 => ?_, R1 an8, (SF.rf.au (by decide)).zs (srp_32 lt16), ⟨au_ne (by decide), au_ne (by decide), au_ne (by decide), au_ne (by decide)⟩, fun z => by omega⟩
    · rw [C0, if_pos ng, if_pos ns, xr]
    · rw [M2, if_neg (fun z => ng z.1), if_neg (fun z => ns z.1), m_rk_all (t := t) y.au115 e113 lt16 (Or.inl hc) ha an8]
      unfold zmg znx
      rw [if_neg (show ¬ c = 98 by omega), if_neg (show ¬ c = 101 by omega), if_neg (by omega), au_cm (show 115 ≠ 112 by decide), pe]
  · obtain ⟨an, ha, an8, xr⟩ := x_rk_all x ya qd ht t16 (Or.inr hc)
    simp only [ez] at xr
    have ng : ¬ (c = 114 ∨ c = 119 ∨ c = 97 ∨ c = 120) := by omega
    have ns : ¬ (c = 82 ∨ c = 87) := by omega
    refine Or.inr ⟨zset h 32 t an (zrv9 c (zsr A t b) (zsr A t d) b bn t), au A 112 (8 * t + an) (zrv9 c (zsr A t b) (zsr A t d) b bn t), fun kr => ?_, fun kr r0 => ?_, R1 an8, (SF.rf.au (by decide)).zs (srp_32 lt16), ⟨au_ne (by decide), au_ne (by decide), au_ne (by decide), au_ne (by decide)⟩, fun z => by omega⟩
    · rw [C0, if_pos ng, if_pos ns, xr]
    · rw [M2, if_neg (fun z => ng z.1), if_neg (fun z => ns z.1), m_rk_all (t := t) y.au115 e113 lt16 (Or.inr hc) ha an8]
      unfold zmg znx
      rw [if_neg (show ¬ c = 98 by omega), if_neg (show ¬ c = 101 by omega), if_neg (by omega), au_cm (show 115 ≠ 112 by decide), pe]
  · -- no effect
    have ng : ¬ (c = 114 ∨ c = 119 ∨ c = 97 ∨ c = 120) := by omega
    have ns : ¬ (c = 82 ∨ c = 87) := by omega
    refine Or.inr ⟨h, A, fun kr => ?_, fun kr r0 => ?_, x, SF.rf, ⟨rfl, rfl, rfl, rfl⟩, fun _ => rfl⟩
    · rw [C0, if_pos ng, if_pos ns, x_rk_no i1 (by rw [i2]; exact hc)]
    · rw [M2, if_neg (fun z => ng z.1), if_neg (fun z => ns z.1), m_no_all (t := t) y.au115 e113 lt16 hc]
  · -- the memory
    have ns : ¬ (c = 82 ∨ c = 87) := by omega
    cases hz : zwi (zcl9 c (zsr A t b) (zsr A t a)) 0 63 with
    | false =>
      refine Or.inl ⟨fun kr => ?_, fun kr r0 => ?_⟩
      · rw [C0, if_neg (fun z => z hc)]
        unfold Re_carryGlobal
        rw [x_isCell, hz, tb_f, if_pos rfl]; exact znar_0
      · rw [M2, if_pos ⟨hc, hz⟩]
    | true =>
      obtain ⟨l1, l2⟩ := zwi_t hz
      obtain ⟨ce, hce⟩ : ∃ ce : Nat, zcl9 c (zsr A t b) (zsr A t a) = (ce : Int) := ⟨(zcl9 c (zsr A t b) (zsr A t a)).toNat, by omega⟩
      have c64 : ce < 64 := by omega
      have d50 := q.D5_0_0
      have l28 := q.L28_0
      have e28 : zhD h 28 0 ce = A 110 ce := by
        have z := x.2.1 ce c64
        rw [ard_ne (by decide)] at z
        exact z
      have ng' : ¬ ((c = 114 ∨ c = 119 ∨ c = 97 ∨ c = 120) ∧ true = false) := fun z => absurd z.2 (by decide)
      by_cases h114 : c = 114
      · obtain ⟨an, ha, an8⟩ := y.za (Or.inr (Or.inl (by rw [h114]; decide)))
        refine Or.inr ⟨zset h 32 t an (A 110 ce), au A 112 (8 * t + an) (A 110 ce), fun kr => ?_, fun kr r0 => ?_, R1 an8, (SF.rf.au (by decide)).zs (srp_32 lt16), ⟨au_ne (by decide), au_ne (by decide), au_ne (by decide), au_ne (by decide)⟩, fun z => by omega⟩
        · rw [C0, if_neg (fun z => z hc)]
          unfold Re_carryGlobal Re_carryGlobal_71
          rw [x_isCell, hz, tb_t, if_neg n0, zob_n i1, i2, if_pos h114, zob_n i1, zob_0 q.N5, d50, zob_0 q.N28, l28, hce, zix_n c64, zob_n h1, i3, ha, e28, sq_set qd ht t16 an8]; exact znar_1
        · rw [M2, hz, if_neg ng', if_neg (fun z => ns z.1), hce, m_rd_all (t := t) y.au115 e113 lt16 ha an8 (Or.inl ⟨h114, c64⟩), if_pos h114]
          unfold zmg znx
          rw [if_neg (show ¬ c = 98 by omega), if_neg (show ¬ c = 101 by omega), if_neg (by omega), au_cm (show 115 ≠ 112 by decide), au_ne (show 110 ≠ 115 by decide), pe]
      · by_cases h119 : c = 119
        · obtain ⟨bq, hb, bn8⟩ := y.zb (Or.inr (by rw [h119]; decide))
          refine Or.inr ⟨zset h 28 0 ce (zsr A t b), au A 110 ce (zsr A t b), fun kr => ?_, fun kr r0 => ?_, R2, (SF.rf.au (by decide)).zs rfl, ⟨au_ne (by decide), au_ne (by decide), au_ne (by decide), au_ne (by decide)⟩, fun z => by omega⟩
          · rw [C0, if_neg (fun z => z hc)]
            unfold Re_carryGlobal Re_carryGlobal_71
            rw [x_isCell, hz, tb_t, if_neg n0, zob_n i1, i2, if_neg h114, zob_n i1, i2, if_pos h119, zob_0 q.N5, zob_n i1, zob_n h1, i4, at9, d50, zob_0 q.N28, l28, hce, zix_n c64, zlet_d]; exact znar_1
          · rw [M2, hz, if_neg ng', if_neg (fun z => ns z.1), hce, m_wr_all (t := t) y.au115 e113 lt16 (Or.inl ⟨h119, c64⟩), if_pos h119]
            unfold zmg znx
            rw [if_neg (show ¬ c = 98 by omega), if_neg (show ¬ c = 101 by omega), if_neg (by omega), au_cm (show 115 ≠ 110 by decide), pe]
        · have hx : c = 97 ∨ c = 120 := by omega
          have z7 : zbits c = 7 := by rcases hx with rfl | rfl <;> decide
          obtain ⟨an, ha, an8⟩ := y.za (Or.inl z7)
          refine Or.inr ⟨zset (zset h 28 0 ce (if c = 97 then wr (A 110 ce + zsr A t d) else zsr A t d)) 32 t an (A 110 ce), au (au A 110 ce (if c = 97 then wr (A 110 ce + zsr A t d) else zsr A t d)) 112 (8 * t + an) (A 110 ce), fun kr => ?_, fun kr r0 => ?_, R4 an8, (((SF.rf.au (by decide)).zs rfl).au (by decide)).zs (srp_32 lt16), ⟨by rw [au_ne (by decide), au_ne (by decide)], by rw [au_ne (by decide), au_ne (by decide)], by rw [au_ne (by decide), au_ne (by decide)], by rw [au_ne (by decide), au_ne (by decide)]⟩, fun z => by omega⟩
          · have fin : ∀ (v : Int) (kr2 : Int → zH → Option ρ), X_exchange_28_36 kr2 (t : Int) (r : Int) (A 110 ce) v (ce : Int) 0 h = kr2 0 (zset (zset h 28 0 ce v) 32 t an (A 110 ce)) := fun v kr2 => by
              have r8 : r < zhN (zset h 28 0 ce v) 8 := i1
              have t6 : t < zhN (zset h 28 0 ce v) 6 := h1
              unfold X_exchange_28_36
              rw [zob_0 q.N28, l28, zix_n c64, zlet_d, zob_n r8, zob_n t6, zD_ne (by decide), i3, ha, sq_set (qd.set rfl) ht t16 an8]
            rw [C0, if_neg (fun z => z hc)]
            unfold Re_carryGlobal Re_carryGlobal_71 X_exchange_28
            rw [x_isCell, hz, tb_t, if_neg n0, zob_n i1, i2, if_neg h114, zob_n i1, i2, if_neg h119, zob_0 q.N5, d50, zob_0 q.N28, l28, hce, zix_n c64, zob_n i1, zob_n h1, i5, at9, zob_n i1, i2, e28]
            by_cases h97 : c = 97
            · rw [if_pos h97, if_pos h97, fin]; exact znar_1
            · rw [if_neg h97, if_neg h97, fin]; exact znar_1
          · rw [M2, hz, if_neg ng', if_neg (fun z => ns z.1), hce, m_ex_all (t := t) y.au115 e113 lt16 ha an8 c64 hx]
            unfold zmg znx
            rw [if_neg (show ¬ c = 98 by omega), if_neg (show ¬ c = 101 by omega), if_neg (show ¬ (c = 106 ∨ c = 122 ∧ _) by omega), au_ne (show 110 ≠ 115 by decide), au_cm (show 115 ≠ 110 by decide), au_cm (show 115 ≠ 112 by decide), pe]
  · -- shared cells
    have ng : ¬ (c = 114 ∨ c = 119 ∨ c = 97 ∨ c = 120) := by omega
    have d54 := x.1.1
    have w1 : wr (A 62 k - 1) = A 62 k - 1 := wr_id (by omega) (by omega)
    cases hz : zwi (zcl9 c (zsr A t b) (zsr A t a)) 0 (A 62 k - 1) with
    | false =>
      refine Or.inl ⟨fun kr => ?_, fun kr r0 => ?_⟩
      · rw [C0, if_pos ng, if_neg (fun z => z hc)]
        unfold Re_carryShared
        rw [zob_0 q.N5, d54, zob_n k7, s7, w1, x_isWithin, hz, tb_f, if_pos rfl]; exact znar_0
      · rw [M2, if_neg (fun z => ng z.1), if_pos ⟨hc, hz⟩]
    | true =>
      obtain ⟨l1, l2⟩ := zwi_t hz
      obtain ⟨ce, hce⟩ : ∃ ce : Nat, zcl9 c (zsr A t b) (zsr A t a) = (ce : Int) := ⟨(zcl9 c (zsr A t b) (zsr A t a)).toNat, by clear w1; omega⟩
      have c16 : ce < 16 := by clear w1; omega
      have d51 := q.D5_0_1
      have l29 := q.L29_0
      have e29 : zhD h 29 0 ce = A 111 ce := by
        have z := x.2.2.1 ce c16
        rw [ard_ne (by decide)] at z
        exact z
      have ns' : ¬ ((c = 82 ∨ c = 87) ∧ true = false) := fun z => absurd z.2 (by decide)
      by_cases h82 : c = 82
      · obtain ⟨an, ha, an8⟩ := y.za (Or.inr (Or.inl (by rw [h82]; decide)))
        refine Or.inr ⟨zset h 32 t an (A 111 ce), au A 112 (8 * t + an) (A 111 ce), fun kr => ?_, fun kr r0 => ?_, R1 an8, (SF.rf.au (by decide)).zs (srp_32 lt16), ⟨au_ne (by decide), au_ne (by decide), au_ne (by decide), au_ne (by decide)⟩, fun z => by clear w1; omega⟩
        · rw [C0, if_pos ng, if_neg (fun z => z hc)]
          unfold Re_carryShared Re_carryShared_59
          rw [zob_0 q.N5, d54, zob_n k7, s7, w1, x_isWithin, hz, tb_t, if_neg n0, zob_n i1, i2, if_pos h82, zob_n i1, zob_0 q.N5, d51, zob_0 q.N29, l29, hce, zix_n c16, zob_n h1, i3, ha, e29, sq_set qd ht t16 an8]; exact znar_1
        · rw [M2, hz, if_neg (fun z => ng z.1), if_neg ns', hce, m_rd_all (t := t) y.au115 e113 lt16 ha an8 (Or.inr ⟨h82, c16⟩), if_neg (show ¬ c = 114 by clear w1; omega)]
          unfold zmg znx
          clear w1
          rw [if_neg (show ¬ c = 98 by omega), if_neg (show ¬ c = 101 by omega), if_neg (by omega), au_cm (show 115 ≠ 112 by decide), au_ne (show 111 ≠ 115 by decide), pe]
      · have h87 : c = 87 := by clear w1; omega
        refine Or.inr ⟨zset h 29 0 ce (zsr A t b), au A 111 ce (zsr A t b), fun kr => ?_, fun kr r0 => ?_, R3, (SF.rf.au (by decide)).zs rfl, ⟨au_ne (by decide), au_ne (by decide), au_ne (by decide), au_ne (by decide)⟩, fun z => by clear w1; omega⟩
        · rw [C0, if_pos ng, if_neg (fun z => z hc)]
          unfold Re_carryShared Re_carryShared_59
          rw [zob_0 q.N5, d54, zob_n k7, s7, w1, x_isWithin, hz, tb_t, if_neg n0, zob_n i1, i2, if_neg h82, zob_0 q.N5, zob_n i1, zob_n h1, i4, at9, d51, zob_0 q.N29, l29, hce, zix_n c16, zlet_d]; exact znar_1
        · rw [M2, hz, if_neg (fun z => ng z.1), if_neg ns', hce, m_wr_all (t := t) y.au115 e113 lt16 (Or.inr ⟨h87, c16⟩), if_neg (show ¬ c = 119 by clear w1; omega)]
          unfold zmg znx
          clear w1
          rw [if_neg (show ¬ c = 98 by omega), if_neg (show ¬ c = 101 by omega), if_neg (by omega), au_cm (show 115 ≠ 111 by decide), pe]
end
