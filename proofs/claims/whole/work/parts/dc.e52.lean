/-! LOOKING AHEAD -/
/-- what a thread has in a register; 0 for none -/
def zrg (A : zA) (k x : Nat) (v : Int) : Int := if zwi v 0 (A 61 k - 1) = true then A 91 (8 * x + v.toNat) else 0
def LQ (h0 h : zH) (Nf Tf : Nat → Int) (fv : Nat → Bool) (t : Nat) : Prop := (∀ c p j, ¬ (c = 24 ∨ c = 25 ∨ (c = 2 ∧ j = 9)) → zhD h c p j = zhD h0 c p j) ∧ (zhN h = zhN h0 ∧ zhL h = zhL h0 ∧ zhC h = zhC h0 ∧ zhS h = zhS h0) ∧ (∀ l, l < t → zhD h 24 0 l = Nf l ∧ zhD h 25 0 l = Tf l) ∧ zhD h 2 0 9 = zbs fv t
theorem LQ.step {h0 h : zH} {Nf Tf : Nat → Int} {fv : Nat → Bool} {t : Nat} (x : LQ h0 h Nf Tf fv t) : (fv t = true → LQ h0 (zset (zset (zset h 24 0 t (Nf t)) 25 0 t (Tf t)) 2 0 9 (zor (zhD h 2 0 9) (zshl 1 (t : Int)))) Nf Tf fv (t + 1)) ∧ (fv t = false → LQ h0 (zset (zset h 24 0 t (Nf t)) 25 0 t (Tf t)) Nf Tf fv (t + 1)) := by
  obtain ⟨x1, x2, x3, x4⟩ := x
  have e1 : zbs fv (t + 1) = if fv t = true then zor (zbs fv t) (zshl 1 (t : Int)) else zbs fv t := rfl
  have row : ∀ l, l < t + 1 → zhD (zset (zset h 24 0 t (Nf t)) 25 0 t (Tf t)) 24 0 l = Nf l ∧ zhD (zset (zset h 24 0 t (Nf t)) 25 0 t (Tf t)) 25 0 l = Tf l := fun l hl => by
    rw [zD_ne (show 24 ≠ 25 by decide), zD_set, zD_set, zD_ne (show 25 ≠ 24 by decide)]
    by_cases hlt : l = t
    · subst hlt
      rw [if_pos ⟨rfl, rfl, rfl⟩, if_pos ⟨rfl, rfl, rfl⟩]
      exact ⟨rfl, rfl⟩
    · rw [if_neg (fun z => hlt z.2.2), if_neg (fun z => hlt z.2.2)]
      exact x3 l (by omega)
  have fr : ∀ c p j, ¬ (c = 24 ∨ c = 25 ∨ (c = 2 ∧ j = 9)) → zhD (zset (zset h 24 0 t (Nf t)) 25 0 t (Tf t)) c p j = zhD h0 c p j := fun c p j hc => by
    rw [zD_ne (fun z => hc (Or.inr (Or.inl z))), zD_ne (fun z => hc (Or.inl z))]
    exact x1 c p j hc
  constructor
  · intro hf
    rw [if_pos hf] at e1
    refine ⟨fun c p j hc => ?_, x2, fun l hl => ?_, ?_⟩
    · rw [zD_set, if_neg (fun z => hc (Or.inr (Or.inr ⟨z.1, z.2.2⟩)))]
      exact fr c p j hc
    · rw [zD_ne (by decide), zD_ne (by decide)]
      exact row l hl
    · rw [zD_eq, x4, e1]
  · intro hf
    rw [if_neg (by rw [hf]; decide)] at e1
    refine ⟨fr, x2, row, ?_⟩
    rw [zD_ne (by decide), zD_ne (by decide), x4, e1]
section
variable {ρ : Type} {h h0 g : zH} {A B : zA} {kr : Int → zH → Option ρ} {K L n : Nat} {bc tc gc : Nat → Nat} {N M : Int} {b j k r : Nat} {c : Int}
theorem x_cellReg {r : Nat} (hr : r < zhN h 8) (hc : zhD h 8 r 0 = c) : In_cellRegister (r : Int) h kr = kr (if c = 119 ∨ c = 87 then zhD h 8 r 1 else zhD h 8 r 2) h := by
  obtain ⟨-, -, -, -, -, z9, -⟩ := zone_all c
  unfold In_cellRegister In_cellRegister_20
  rw [zob_n hr, x_isOneOf (s := 9) rfl hr, hc, z9]
  by_cases h9 : c = 119 ∨ c = 87
  · rw [decide_eq_true h9, tb_t, if_neg (by decide), zob_n hr, if_pos h9]
  · rw [decide_eq_false h9, tb_f, if_pos rfl, zob_n hr, if_neg h9]
theorem rr_at (q : RR A h K L bc tc gc n B N M) {t : Nat} {v : Int} (hb : b < 72) (hin : A 87 b = 1) (ht : (t : Int) < A 73 (b / 6)) (h70 : A 70 (b / 6) = (k : Int)) : tc (16 * b + t) < zhN h 6 ∧ ∀ kr : Int → zH → Option ρ, Th_at (tc (16 * b + t) : Int) v h kr = kr (zrg A k (16 * b + t) v) h := by
  obtain ⟨t1, t2, t3, t4, t5, t6⟩ := q.th.1 b hb hin t ht
  obtain ⟨d1, d2, d3, d4⟩ := q.td b hb hin t ht
  rw [h70, Int.toNat_natCast] at t6 d4
  refine ⟨t2, fun kr => ?_⟩
  rw [x_at q.rd t2, t6]
  unfold zrg
  cases hz : zwi v 0 (A 61 k - 1) with
  | false => rfl
  | true =>
    have := zwi_t hz
    rw [if_pos rfl, if_pos rfl, d4 v.toNat (by omega)]
theorem LQ.rr {Nf Tf : Nat → Int} {fv : Nat → Bool} {t : Nat} (q : RR A h0 K L bc tc gc n B N M) (x : LQ h0 h Nf Tf fv t) : RR A h K L bc tc gc n B N M := up_x q (fun _ _ _ => rfl) (fun c p j hz => x.1 c p j (fun z => by rcases z with rfl | rfl | ⟨rfl, rfl⟩ <;> cases hz)) x.2.1.1 x.2.1.2.1 x.2.1.2.2.1 x.2.1.2.2.2
theorem la_loop {F : Nat → Bool} {c1 c2 : Int} (q : RR A h0 K L bc tc gc n B N M) (hb : b < 72) (hin : A 87 b = 1) (hj : ((4 * j : Nat) : Int) < A 73 (b / 6)) (h70 : A 70 (b / 6) = (k : Int)) (hr : r < zhN h0 8) (r0 : zhD h0 8 r 0 = c) (r1 : (if c = 119 ∨ c = 87 then zhD h0 8 r 1 else zhD h0 8 r 2) = c1) (r2 : zhD h0 8 r 2 = c2) (hF : zhD h0 2 0 8 = zbs F 4) (hFp : ∀ m2 : Nat, m2 < 4 → F m2 = true → ((4 * j + m2 : Nat) : Int) < A 73 (b / 6)) : ∀ (f t : Nat) (h : zH), t ≤ 4 → 4 - t < f → LQ h0 h (fun l => if ((4 * j + l : Nat) : Int) < A 73 (b / 6) then zrg A k (16 * b + (4 * j + l)) c1 else 0) (fun l => if ((4 * j + l : Nat) : Int) < A 73 (b / 6) then zrg A k (16 * b + (4 * j + l)) c2 else 0) (fun l => F l && decide ((if ((4 * j + l : Nat) : Int) < A 73 (b / 6) then zrg A k (16 * b + (4 * j + l)) c2 else 0) ≠ 0)) t →
    ∃ h' : zH, (∀ kr : Int → zH → Option ρ, zit (fun _ _ _ _ _ => none) (Co_lookAhead_7b kr) f 0 (gc (4 * b + j) : Int) (r : Int) (t : Int) h = Co_lookAhead_7b kr (fun _ _ _ _ _ => none) 0 (gc (4 * b + j) : Int) (r : Int) 4 h') ∧ LQ h0 h' (fun l => if ((4 * j + l : Nat) : Int) < A 73 (b / 6) then zrg A k (16 * b + (4 * j + l)) c1 else 0) (fun l => if ((4 * j + l : Nat) : Int) < A 73 (b / 6) then zrg A k (16 * b + (4 * j + l)) c2 else 0) (fun l => F l && decide ((if ((4 * j + l : Nat) : Int) < A 73 (b / 6) then zrg A k (16 * b + (4 * j + l)) c2 else 0) ≠ 0)) 4
  | 0, t, _, _, hf, _ => absurd hf (Nat.not_lt_zero _)
  | f + 1, t, h, ht4, hf, x => by
    by_cases ht : t < 4
    · have hf2 : 4 - (t + 1) < f := by clear x q; omega
      have i4 : (t : Int) < 4 := Int.ofNat_lt.mpr ht
      have w1 : wr ((t : Int) + 1) = ((t + 1 : Nat) : Int) := wk1 (Nat.le_of_lt ht)
      have q1 := x.rr q
      obtain ⟨gw, -⟩ := q1.grp hb hin hj
      obtain ⟨-, -, -, -, g5⟩ := q1.gh.1 b hb hin j hj
      have hr1 : r < zhN h 8 := by rw [x.2.1.1]; exact hr
      have e0 : zhD h 8 r 0 = c := by rw [x.1 8 r 0 (by decide)]; exact r0
      have e1 : (if c = 119 ∨ c = 87 then zhD h 8 r 1 else zhD h 8 r 2) = c1 := by rw [x.1 8 r 1 (by decide), x.1 8 r 2 (by decide)]; exact r1
      have e2 : zhD h 8 r 2 = c2 := by rw [x.1 8 r 2 (by decide)]; exact r2
      have e8 : zhD h 2 0 8 = zbs F 4 := by rw [x.1 2 0 8 (by decide)]; exact hF
      obtain ⟨st, sf⟩ := x.step
      have e9 := x.2.2.2
      by_cases hlt : ((4 * j + t : Nat) : Int) < A 73 (b / 6)
      · rw [if_pos hlt, if_pos hlt] at st sf
        obtain ⟨t2, hat⟩ := rr_at (ρ := ρ) (v := c1) q1 hb hin hlt h70
        have q2 := rr_zs q1 (c := 24) (p := 0) (j := t) (v := zrg A k (16 * b + (4 * j + t)) c1) rfl
        obtain ⟨t22, hat2⟩ := rr_at (ρ := ρ) (v := c2) q2 hb hin hlt h70
        have stp : ∀ (kr : Int → zH → Option ρ) (r7 : Int → Int → Int → Int → zH → Option ρ), Co_lookAhead_7b kr r7 0 (gc (4 * b + j) : Int) (r : Int) (t : Int) h = if (F t && decide (zrg A k (16 * b + (4 * j + t)) c2 ≠ 0)) = true then r7 0 (gc (4 * b + j) : Int) (r : Int) ((t + 1 : Nat) : Int) (zset (zset (zset h 24 0 t (zrg A k (16 * b + (4 * j + t)) c1)) 25 0 t (zrg A k (16 * b + (4 * j + t)) c2)) 2 0 9 (zor (zhD h 2 0 9) (zshl 1 (t : Int)))) else r7 0 (gc (4 * b + j) : Int) (r : Int) ((t + 1 : Nat) : Int) (zset (zset h 24 0 t (zrg A k (16 * b + (4 * j + t)) c1)) 25 0 t (zrg A k (16 * b + (4 * j + t)) c2)) := fun kr r7 => by
          have q3 := rr_zs q2 (c := 25) (p := 0) (j := t) (v := zrg A k (16 * b + (4 * j + t)) c2) rfl
          have n8 : r < zhN (zset h 24 0 t (zrg A k (16 * b + (4 * j + t)) c1)) 8 := hr1
          have e92 : zhD (zset (zset h 24 0 t (zrg A k (16 * b + (4 * j + t)) c1)) 25 0 t (zrg A k (16 * b + (4 * j + t)) c2)) 2 0 9 = zhD h 2 0 9 := by rw [zD_ne (by decide), zD_ne (by decide)]
          have e82 : zhD (zset (zset h 24 0 t (zrg A k (16 * b + (4 * j + t)) c1)) 25 0 t (zrg A k (16 * b + (4 * j + t)) c2)) 2 0 8 = zbs F 4 := by rw [zD_ne (by decide), zD_ne (by decide), e8]
          unfold Co_lookAhead_7b Co_lookAhead_42 Co_lookAhead_66 Co_lookAhead_99
          rw [if_pos i4, zob_n gw.1, x_threadIn_n q1.rd gw ht, g5 t ht, if_pos hlt, zob_0 q1.rs.N2, if_neg (Int.not_lt.mpr (Int.natCast_nonneg _)), zob_n hr1, x_cellReg hr1 e0, e1, zob_n t2, hat, q1.rs.D2_0_6, zob_0 q1.rs.N24, q1.rs.L24_0, zix_n ht, zlet_d, zob_0 q2.rs.N2, if_neg (Int.not_lt.mpr (Int.natCast_nonneg _)), zob_n n8, zob_n t22, zD_ne (by decide), e2, hat2, zD_ne (by decide), q1.rs.D2_0_7, zob_0 q2.rs.N25, q2.rs.L25_0, zix_n ht, zlet_d, zob_0 q3.rs.N2, e82, x_isIn ht, w1]
          cases hFt : F t with
          | false => rw [tb_f, if_pos rfl, Bool.false_and, if_neg (by decide)]
          | true =>
            rw [tb_t, if_neg (by decide), Bool.true_and, zob_0 q3.rs.N2, q3.rs.D2_0_7, zob_0 q3.rs.N25, q3.rs.L25_0, zix_n ht, zD_eq]
            by_cases hz : zrg A k (16 * b + (4 * j + t)) c2 = 0
            · rw [if_pos hz, if_neg (by simp [hz])]
            · rw [if_neg hz, if_pos (decide_eq_true hz), zob_0 q3.rs.N2, zob_0 q3.rs.N2, zlet_d, e92]
        cases hv : (F t && decide (zrg A k (16 * b + (4 * j + t)) c2 ≠ 0)) with
        | true =>
          obtain ⟨h', y1, y2⟩ := la_loop q hb hin hj h70 hr r0 r1 r2 hF hFp f (t + 1) _ ht hf2 (st hv)
          exact ⟨h', fun kr => by rw [zit_s, stp, hv, if_pos rfl]; exact y1 kr, y2⟩
        | false =>
          obtain ⟨h', y1, y2⟩ := la_loop q hb hin hj h70 hr r0 r1 r2 hF hFp f (t + 1) _ ht hf2 (sf hv)
          exact ⟨h', fun kr => by rw [zit_s, stp, hv, if_neg (by decide)]; exact y1 kr, y2⟩
      · rw [if_neg hlt, if_neg hlt] at sf
        have hFt : F t = false := by
          cases hFt : F t with
          | false => rfl
          | true => exact absurd (hFp t ht hFt) hlt
        have q2 := rr_zs q1 (c := 24) (p := 0) (j := t) (v := 0) rfl
        have q3 := rr_zs q2 (c := 25) (p := 0) (j := t) (v := 0) rfl
        have stp : ∀ (kr : Int → zH → Option ρ) (r7 : Int → Int → Int → Int → zH → Option ρ), Co_lookAhead_7b kr r7 0 (gc (4 * b + j) : Int) (r : Int) (t : Int) h = r7 0 (gc (4 * b + j) : Int) (r : Int) ((t + 1 : Nat) : Int) (zset (zset h 24 0 t 0) 25 0 t 0) := fun kr r7 => by
          have e82 : zhD (zset (zset h 24 0 t 0) 25 0 t 0) 2 0 8 = zbs F 4 := by rw [zD_ne (by decide), zD_ne (by decide), e8]
          unfold Co_lookAhead_7b Co_lookAhead_42 Co_lookAhead_66 Co_lookAhead_99
          rw [if_pos i4, zob_n gw.1, x_threadIn_n q1.rd gw ht, g5 t ht, if_neg hlt, zob_0 q1.rs.N2, if_pos (by decide), q1.rs.D2_0_6, zob_0 q1.rs.N24, q1.rs.L24_0, zix_n ht, zlet_d, zob_0 q2.rs.N2, if_pos (by decide), zD_ne (by decide), q1.rs.D2_0_7, zob_0 q2.rs.N25, q2.rs.L25_0, zix_n ht, zlet_d, zob_0 q3.rs.N2, e82, x_isIn ht, hFt, tb_f, if_pos rfl, w1]
        obtain ⟨h', y1, y2⟩ := la_loop q hb hin hj h70 hr r0 r1 r2 hF hFp f (t + 1) _ ht hf2 (sf (by rw [hFt, Bool.false_and]))
        exact ⟨h', fun kr => by rw [zit_s, stp]; exact y1 kr, y2⟩
    · have : t = 4 := Nat.le_antisymm ht4 (Nat.le_of_not_lt ht)
      subst this
      refine ⟨h, fun kr => ?_, x⟩
      rw [zit_s]
      unfold Co_lookAhead_7b
      rw [if_neg (by decide), if_neg (by decide)]
/-! the model: registers as they were -/
def zwas (A : zA) (x n : Nat) : Nat → Int := fun q => if q < n then A 91 (8 * x + q) else A 109 q
theorem zwas_s {x n : Nat} : zup (zwas A x n) n (A 91 (8 * x + n)) = zwas A x (n + 1) := by
  funext q
  unfold zup zwas
  by_cases h1 : q = n
  · rw [if_pos h1, if_pos (by omega), h1]
  · rw [if_neg h1]
    by_cases h2 : q < n
    · rw [if_pos h2, if_pos (by omega)]
    · rw [if_neg h2, if_neg (by omega)]
theorem zwas_0 {x : Nat} : zwas A x 0 = A 109 := funext fun q => if_neg (Nat.not_lt_zero _)
theorem m_was8 {r64 : Int → Int → Int → Int → Int → Int → Int → Int → zH → Option ρ} {y l : Nat} {a1 a4 a5 a6 a7 a8 : Int} (gg : MG A y b j) (hl : l < 4) : ∀ f r : Nat, r ≤ 8 → 8 - r < f → zit (fun _ _ _ _ _ _ _ _ _ _ => none) (M_carryOut_73b kr r64) f a1 (y : Int) a4 a5 a6 a7 a8 (l : Int) (r : Int) (mh g (ard A 109 (zwas A (16 * b + 4 * j) (8 * l + r)))) = r64 a1 (y : Int) a4 a5 a6 a7 a8 ((l + 1 : Nat) : Int) (mh g (ard A 109 (zwas A (16 * b + 4 * j) (8 * (l + 1)))))
  | 0, r, _, hf => absurd hf (Nat.not_lt_zero _)
  | f + 1, r, hr, hf => by
    rw [zit_s]
    by_cases h8 : r < 8
    · have ih := m_was8 (r64 := r64) (a1 := a1) (a4 := a4) (a5 := a5) (a6 := a6) (a7 := a7) (a8 := a8) gg hl f (r + 1) h8 (by omega)
      have w1 : wr ((r : Int) + 1) = ((r + 1 : Nat) : Int) := by rw [wr_id (by omega) (by omega)]; rfl
      have w2 : wr (wr (8 * (l : Int)) + (r : Int)) = ((8 * l + r : Nat) : Int) := by
        rw [wr_id (x := 8 * (l : Int)) (by omega) (by omega), wr_id (by omega) (by omega)]
        omega
      have g2 : MG (ard A 109 (zwas A (16 * b + 4 * j) (8 * l + r))) y b j := by
        obtain ⟨y1, y2, y3, y4, y5, y6, y7⟩ := gg
        exact ⟨y1, y2, y3, by rw [ard_ne (by decide)]; exact y4, by rw [ard_ne (by decide)]; exact y5, by rw [ard_ne (by decide)]; exact y6, by rw [ard_ne (by decide)]; exact y7⟩
      have hb := gg.2.1
      have hj := gg.2.2.1
      have e9 : 8 * (16 * b + (4 * j + l)) + r = 8 * (16 * b + 4 * j) + (8 * l + r) := by omega
      generalize zit (fun _ _ _ _ _ _ _ _ _ _ => none) (M_carryOut_73b kr r64) f = r7 at ih ⊢
      unfold M_carryOut_73b
      rw [if_pos (show (r : Int) < 8 by omega), m_registerCell g2 hl h8, zix_n (show 8 * (16 * b + (4 * j + l)) + r < 9216 by omega), w2, zix_n (show 8 * l + r < 32 by omega), zlet_d, mD91, mS109, au_ard, ard_ne (by decide), e9, zwas_s, w1]
      exact ih
    · have : r = 8 := by omega
      subst this
      generalize zit (fun _ _ _ _ _ _ _ _ _ _ => none) (M_carryOut_73b kr r64) f = r7
      unfold M_carryOut_73b
      rw [if_neg (by decide), wk1 (Nat.le_of_lt hl)]
      rfl
theorem m_was {y : Nat} {a1 a4 a5 a6 a7 a8 : Int} (gg : MG A y b j) : ∀ f l : Nat, l ≤ 4 → 4 - l < f → zit (fun _ _ _ _ _ _ _ _ _ => none) (M_carryOut_64b kr) f a1 (y : Int) a4 a5 a6 a7 a8 (l : Int) (mh g (ard A 109 (zwas A (16 * b + 4 * j) (8 * l)))) = M_carryOut_64b kr (fun _ _ _ _ _ _ _ _ _ => none) a1 (y : Int) a4 a5 a6 a7 a8 4 (mh g (ard A 109 (zwas A (16 * b + 4 * j) 32)))
  | 0, l, _, hf => absurd hf (Nat.not_lt_zero _)
  | f + 1, l, hl, hf => by
    rw [zit_s]
    by_cases h4 : l < 4
    · have ih := m_was (a1 := a1) (a4 := a4) (a5 := a5) (a6 := a6) (a7 := a7) (a8 := a8) gg f (l + 1) h4 (by omega)
      generalize zit (fun _ _ _ _ _ _ _ _ _ => none) (M_carryOut_64b kr) f = r6 at ih ⊢
      generalize M_carryOut_64b kr (fun _ _ _ _ _ _ _ _ _ => none) a1 (y : Int) a4 a5 a6 a7 a8 4 (mh g (ard A 109 (zwas A (16 * b + 4 * j) 32))) = E at ih ⊢
      unfold M_carryOut_64b
      rw [if_pos (show (l : Int) < 4 by omega)]
      exact Eq.trans (m_was8 (r64 := r6) gg h4 zN 0 (by omega) (by show 8 - 0 < 5000; omega)) ih
    · have : l = 4 := by omega
      subst this
      unfold M_carryOut_64b
      rw [if_neg (by decide), if_neg (by decide)]
end
