/-! SERIAL: both sides -/
def nlb (A : zA) (k : Nat) : Nat → Bool
  | 0 => false
  | n + 1 => nlb A k n || decide (A 65 (40 * k + n) = 118 ∨ A 65 (40 * k + n) = 115 ∨ A 65 (40 * k + n) = 99)
theorem nlb_mono {A : zA} {k i : Nat} (h : nlb A k i = true) : ∀ d, nlb A k (i + d) = true
  | 0 => h
  | d + 1 => by
    show (nlb A k (i + d) || _) = true
    rw [nlb_mono h d, Bool.true_or]
theorem nlb_no {A : zA} {k : Nat} : ∀ n, nlb A k n = false → ∀ i, i < n → A 65 (40 * k + i) ≠ 118 ∧ A 65 (40 * k + i) ≠ 115 ∧ A 65 (40 * k + i) ≠ 99
  | 0, _, i, hi => absurd hi (Nat.not_lt_zero _)
  | n + 1, h, i, hi => by
    have h' : (nlb A k n || decide (A 65 (40 * k + n) = 118 ∨ A 65 (40 * k + n) = 115 ∨ A 65 (40 * k + n) = 99)) = false := h
    rw [Bool.or_eq_false_iff, decide_eq_false_iff_not] at h'
    by_cases e : i = n
    · rw [e]
      omega
    · exact nlb_no n h'.1 i (by omega)
section
variable {ρ : Type} {h h0 g : zH} {A A0 B : zA} {kr : Int → zH → Option ρ} {kt : Nat → zH → Option ρ} {K L n k T : Nat} {bc tc gc : Nat → Nat} {N M fl ce : Int}
theorem x_hl_loop (rk : RK A h K) (rd : RD h) (hk : k < K) {len : Nat} (hlen : A 63 k = (len : Int)) : ∀ f i : Nat, i ≤ len → len - i < f → nlb A k i = false → zit (fun _ _ _ _ => none) (Ke_hasLetterOf_2b kr) f (k : Int) 0 (i : Int) h = kr (tb (nlb A k len)) h
  | 0, _, _, hf, _ => absurd hf (Nat.not_lt_zero _)
  | f + 1, i, hi, hf, hn => by
    rw [zit_s]
    have kk := rk.2.2.2.2.1 k hk
    have k7 : k < zhN h 7 := by rw [rk.2.2.1]; exact hk
    have k33 : k < zhN h 33 := by rw [rd.1.1]; exact k7
    have l40 : len ≤ 40 := by have := kk.2.2.2.2.2.2.1; omega
    have d3 : zhD h 7 k 3 = (len : Int) := by rw [← hlen]; exact kk.2.2.2.2.2.2.2.2.2.2.1
    obtain ⟨d2, d33⟩ := rd.1.2 k k7
    by_cases h4 : i < len
    · have lt : (i : Int) < (len : Int) := by omega
      have i40 : i < 40 := by omega
      have i9 : i < 100000 := by omega
      obtain ⟨r, r1, ir⟩ := ir_of rk hk (p := i) (by rw [hlen]; exact lt)
      obtain ⟨i1, i2, -⟩ := ir.1
      obtain ⟨-, -, -, -, -, -, z0, -⟩ := zone_all (A 65 (40 * k + i))
      have e1 : nlb A k (i + 1) = decide (A 65 (40 * k + i) = 118 ∨ A 65 (40 * k + i) = 115 ∨ A 65 (40 * k + i) = 99) := by
        show (nlb A k i || _) = _
        rw [hn, Bool.false_or]
      have ih := x_hl_loop rk rd hk hlen f (i + 1) h4 (by omega)
      generalize zit (fun _ _ _ _ => none) (Ke_hasLetterOf_2b kr) f = r2 at ih ⊢
      unfold Ke_hasLetterOf_2b
      rw [zob_n k7, d3, if_pos lt, zob_n k7, d2, zob_n k33, d33, zix_n i40, r1, zob_n i1, x_isOneOf (s := 0) rfl i1, i2, z0]
      by_cases hc : A 65 (40 * k + i) = 118 ∨ A 65 (40 * k + i) = 115 ∨ A 65 (40 * k + i) = 99
      · rw [decide_eq_true hc] at e1
        have := nlb_mono e1 (len - (i + 1))
        rw [show i + 1 + (len - (i + 1)) = len by omega] at this
        rw [decide_eq_true hc, tb_t, if_neg (by decide), this, tb_t]
      · rw [decide_eq_false hc] at e1
        rw [decide_eq_false hc, tb_f, if_pos rfl, wr_s i9]
        exact ih e1
    · have : i = len := by omega
      subst this
      unfold Ke_hasLetterOf_2b
      rw [zob_n k7, d3, if_neg (Int.lt_irrefl _), hn, tb_f]
theorem m_hl_loop {nb T9 : Int} (hk : k < 4) {len : Nat} (hlen : A 63 k = (len : Int)) (l40 : len ≤ 40) : ∀ f i : Nat, i ≤ len → len - i < f → zit (fun _ _ _ _ _ _ _ _ => none) (M_serial_78b kr) f (k : Int) nb T9 fl ce (tb (nlb A k i)) ((40 * k + i : Nat) : Int) (mh g A) = M_fails (tb (nlb A k len)) 3 (mh g A) (fun v2 h3 => if v2 = 0 then M_serial_163 kr (k : Int) nb T9 fl ce 0 h3 else kr 0 h3)
  | 0, _, _, hf => absurd hf (Nat.not_lt_zero _)
  | f + 1, i, hi, hf => by
    rw [zit_s]
    have k1000 : k < 1000 := by omega
    have kl9 : 40 * k + len < 100000 := by omega
    by_cases h4 : i < len
    · have ih := m_hl_loop (nb := nb) (T9 := T9) hk hlen l40 f (i + 1) h4 (by omega)
      have lt : ((40 * k + i : Nat) : Int) < ((40 * k + len : Nat) : Int) := by omega
      have x160 : 40 * k + i < 160 := by omega
      have i9 : 40 * k + i < 100000 := by omega
      have e1 : nlb A k (i + 1) = (nlb A k i || decide (A 65 (40 * k + i) = 118 ∨ A 65 (40 * k + i) = 115 ∨ A 65 (40 * k + i) = 99)) := rfl
      rw [e1] at ih
      generalize zit (fun _ _ _ _ _ _ _ _ => none) (M_serial_78b kr) f = r2 at ih ⊢
      unfold M_serial_78b M_serial_135 M_serial_140
      rw [zix_n hk, mD63, hlen, wr_40 k1000, wr_nn kl9, if_pos lt, wr_s i9]
      cases hb : nlb A k i with
      | true =>
        rw [hb, Bool.true_or, tb_t] at ih
        rw [tb_t, if_neg (by decide)]
        exact ih
      | false =>
        rw [hb, Bool.false_or] at ih
        rw [tb_f, if_pos rfl, zix_n x160, mD65]
        by_cases h1 : A 65 (40 * k + i) = 118
        · rw [decide_eq_true (Or.inl h1), tb_t] at ih
          rw [if_pos h1]
          exact ih
        · rw [if_neg h1, zix_n x160, mD65]
          by_cases h2 : A 65 (40 * k + i) = 115
          · rw [decide_eq_true (Or.inr (Or.inl h2)), tb_t] at ih
            rw [if_pos h2]
            exact ih
          · rw [if_neg h2, zix_n x160, mD65]
            by_cases h3 : A 65 (40 * k + i) = 99
            · rw [decide_eq_true (Or.inr (Or.inr h3)), tb_t] at ih
              rw [if_pos h3]
              exact ih
            · rw [decide_eq_false (by omega), tb_f] at ih
              rw [if_neg h3]
              exact ih
    · have : i = len := by omega
      subst this
      unfold M_serial_78b
      rw [zix_n hk, mD63, hlen, wr_40 k1000, wr_nn kl9, if_neg (Int.lt_irrefl _)]
theorem x_cp_loop (q : RS h0) : ∀ (f i : Nat) (h : zH), i ≤ 64 → 64 - i < f → SF A A h0 h → (∀ j, j < i → zhD h 28 0 j = zhD h0 22 0 j) → ∃ h' : zH, (∀ kr : Int → zH → Option ρ, zit (fun _ _ _ _ => none) (Re_begin_23b kr) f 0 0 (i : Int) h = kr 0 h') ∧ SF A A h0 h' ∧ ∀ j, j < 64 → zhD h' 28 0 j = zhD h0 22 0 j
  | 0, _, _, _, hf, _, _ => absurd hf (Nat.not_lt_zero _)
  | f + 1, i, h, hi, hf, x, y => by
    have rs := x.rs q
    by_cases h4 : i < 64
    · have lt : (i : Int) < 64 := by omega
      have lt' : (i : Int) < ((64 : Nat) : Int) := by omega
      have i9 : i < 100000 := by omega
      have e22 : zhD h 22 0 i = zhD h0 22 0 i := x.2.2.2.2.2 22 0 i rfl
      obtain ⟨h', z1, z2, z3⟩ := x_cp_loop q f (i + 1) (zset h 28 0 i (zhD h0 22 0 i)) h4 (by omega) (x.zs rfl) (fun j hj => by
        rw [zD_set]
        by_cases e : j = i
        · rw [if_pos ⟨rfl, rfl, e⟩, e]
        · rw [if_neg (fun z => e z.2.2)]
          exact y j (by omega))
      refine ⟨h', fun kr => ?_, z2, z3⟩
      rw [zit_s, ← z1 kr]
      generalize zit (fun _ _ _ _ => none) (Re_begin_23b kr) f = r2
      unfold Re_begin_23b
      rw [if_pos lt, zob_0 rs.N22, rs.L22_0, if_pos lt', zob_0 rs.N5, zob_0 rs.N22, rs.L22_0, zix_n h4, rs.D5_0_0, zob_0 rs.N28, rs.L28_0, zix_n h4, e22, zlet_d, wr_s i9]
    · have : i = 64 := by omega
      subst this
      refine ⟨h, fun kr => ?_, x, y⟩
      rw [zit_s]
      unfold Re_begin_23b Re_begin_56
      rw [if_neg (by decide)]
theorem m_cp_loop {nb T9 x1 : Int} : ∀ (f i : Nat) (A : zA), i ≤ 64 → 64 - i < f → ∃ A' : zA, (∀ kr : Int → zH → Option ρ, zit (fun _ _ _ _ _ _ _ => none) (M_serial_163b kr) f x1 nb T9 fl ce (i : Int) (mh g A) = M_serial_196 kr x1 nb T9 fl ce 1 0 (mh g A')) ∧ (∀ c, c ≠ 110 → A' c = A c) ∧ (∀ j, A' 110 j = if i ≤ j ∧ j < 64 then A 60 j else A 110 j) := by
  intro f
  induction f with
  | zero => exact fun i A _ hf => absurd hf (Nat.not_lt_zero _)
  | succ f ih =>
    intro i A hi hf
    by_cases h4 : i < 64
    · have lt : (i : Int) < 64 := by omega
      have i9 : i < 100000 := by omega
      obtain ⟨A', z1, z2, z3⟩ := ih (i + 1) (au A 110 i (A 60 i)) h4 (by omega)
      refine ⟨A', fun kr => ?_, fun c hc => by rw [z2 c hc, au_ne hc], fun j => ?_⟩
      · rw [zit_s, ← z1 kr]
        generalize zit (fun _ _ _ _ _ _ _ => none) (M_serial_163b kr) f = r2
        unfold M_serial_163b
        rw [if_pos lt, zix_n h4, zix_n h4, mD60, mS110, zlet_d, wr_s i9]
      · rw [z3, au_j, au_ne (by decide)]
        by_cases hj : i + 1 ≤ j ∧ j < 64
        · rw [if_pos hj, if_pos ⟨by omega, hj.2⟩]
        · rw [if_neg hj]
          by_cases hj2 : j = i
          · rw [if_pos hj2, if_pos ⟨by omega, by omega⟩, hj2]
          · rw [if_neg hj2, if_neg (fun z => hj ⟨by omega, z.2⟩)]
    · have : i = 64 := by omega
      subst this
      refine ⟨A, fun kr => ?_, fun c _ => rfl, fun j => by rw [if_neg (fun z => by omega)]⟩
      rw [zit_s]
      unfold M_serial_163b
      rw [if_neg (by decide)]
/-- the codes of what is thrown, on both sides -/
def scod (e : Nat) (e' : Int) : Prop := (e = 3 ∧ e' = 1) ∨ (e = 1 ∧ e' = 2) ∨ (e = 4 ∧ e' = 3) ∨ (e = 2 ∧ e' = 4)
theorem serial_both (q : RR A h K L bc tc gc n B N M) {k nb T : Int} (hfl : fl = 0 ∨ fl = 1) (g : zH) : (∃ (h' : zH) (A' : zA) (v : Int), (∀ (kt : Nat → zH → Option ρ) (kr : Int → zH → Option ρ), X_serial 0 k nb T fl ce h kt kr = kr v h') ∧ (∀ kr : Int → zH → Option ρ, M_serial k nb T fl ce (mh g A) kr = kr v (mh g A')) ∧ RR A' h' K L bc tc gc n B N M ∧ ∀ c, c < 110 ∨ 115 < c → A' c = A c) ∨ (∃ (e : Nat) (e' : Int) (h' : zH) (A' : zA), scod e e' ∧ (∀ (kt : Nat → zH → Option ρ) (kr : Int → zH → Option ρ), X_serial 0 k nb T fl ce h kt kr = kt e (zthrown h')) ∧ (∀ kr : Int → zH → Option ρ, M_serial k nb T fl ce (mh g A) kr = kr 0 (mh g (au A' 12 0 e'))) ∧ RR A' h' K L bc tc gc n B N M ∧ ∀ c, c < 110 ∨ 115 < c → A' c = A c) := by
  have rs := q.rs
  have rd := q.rd
  have rk := q.rk
  have a0A := q.a0
  unfold a0 at a0A
  have t0 := q.rc.2 0 rfl
  have hK4 := rk.2.1
  have eK := rk.1
  have xk := fun (kt : Nat → zH → Option ρ) (kr : Int → zH → Option ρ) => x_kernelAt (kt := kt) (kr := kr) rs rk.2.2.2.1 hK4 (fun k hk => (rk.2.2.2.2.1 k hk).1) (k := k)
  have mk := fun kr : Int → zH → Option ρ => m_noKernel (kr := kr) (h := g) (A := A) (a := k) (by rw [eK]; omega)
  rw [eK] at mk
  have n1 : ¬ (1 : Int) = 0 := by decide
  -- kinds of refusal
  have M22 : ∀ kr : Int → zH → Option ρ, M_serial_22 kr k nb T fl ce (mh g A) = kr 0 (mh g (au A 12 0 1)) := fun kr => by
    unfold M_serial_22 M_serial_27 M_serial_67
    rw [m_fails1 t0 (by decide), if_neg n1]
  have M55 : ∀ kr : Int → zH → Option ρ, M_serial_55 kr k nb T fl ce (mh g A) = kr 0 (mh g (au A 12 0 2)) := fun kr => by
    unfold M_serial_55 M_serial_60 M_serial_67
    rw [m_fails1 t0 (by decide), if_neg n1]
  have M27 : ∀ kr : Int → zH → Option ρ, M_serial_27 kr k nb T fl ce 0 (mh g A) = if zwi nb 1 6 = false then M_serial_55 kr k nb T fl ce (mh g A) else if zwi T 1 16 = false then M_serial_55 kr k nb T fl ce (mh g A) else M_serial_60 kr k nb T fl ce 0 (mh g A) := fun kr => by
    unfold M_serial_27
    rw [m_fails0 t0 (by decide), if_pos rfl, m_in]
    cases hz : zwi nb 1 6 with
    | false => rw [tb_f, if_pos rfl, if_pos rfl]
    | true =>
      rw [tb_t, if_neg n1, if_neg (by decide), m_in]
      cases hy : zwi T 1 16 with
      | false => rw [tb_f, if_pos rfl, if_pos rfl]
      | true => rw [tb_t, if_neg n1, if_neg (by decide)]
  have MS : ∀ kr : Int → zH → Option ρ, M_serial k nb T fl ce (mh g A) kr = if zwi k 0 ((K : Int) - 1) = false then M_serial_22 kr k nb T fl ce (mh g A) else if zwi ce 0 63 = false then M_serial_22 kr k nb T fl ce (mh g A) else M_serial_27 kr k nb T fl ce 0 (mh g A) := fun kr => by
    unfold M_serial
    rw [zlet_d, mS12, a0A, mk]
    cases hz : zwi k 0 ((K : Int) - 1) with
    | false => rw [Bool.not_false, tb_t, if_neg n1, if_pos rfl]
    | true =>
      rw [Bool.not_true, tb_f, if_pos rfl, if_neg (by decide), m_noCell]
      cases hy : zwi ce 0 63 with
      | false => rw [Bool.not_false, tb_t, if_neg n1, if_pos rfl]
      | true => rw [Bool.not_true, tb_f, if_pos rfl, if_neg (by decide)]
  cases hzk : zwi k 0 ((K : Int) - 1) with
  | false =>
    refine Or.inr ⟨3, 1, h, A, Or.inl ⟨rfl, rfl⟩, fun kt kr => ?_, fun kr => ?_, q, fun c _ => rfl⟩
    · unfold X_serial
      rw [zob_0 rs.N0, xk, hzk, if_neg (by decide)]
    · rw [MS, hzk, if_pos rfl, M22]
  | true =>
    have nf : ¬ (true = false) := by decide
    obtain ⟨z1, z2⟩ := zwi_t hzk
    obtain ⟨k, rfl⟩ : ∃ k9 : Nat, k = (k9 : Int) := ⟨k.toNat, by omega⟩
    have hk : k < K := by omega
    have k4 : k < 4 := by omega
    have k7 : k < zhN h 7 := by rw [rk.2.2.1]; exact hk
    cases hzc : zwi ce 0 63 with
    | false =>
      refine Or.inr ⟨3, 1, h, A, Or.inl ⟨rfl, rfl⟩, fun kt kr => ?_, fun kr => ?_, q, fun c _ => rfl⟩
      · unfold X_serial
        rw [zob_0 rs.N0, xk, hzk, if_pos rfl, x_isCell, hzc, tb_f, if_pos rfl, zlet_d]
      · rw [MS, hzk, if_neg nf, hzc, if_pos rfl, M22]
    | true =>
      cases hzn : zwi nb 1 6 with
      | false =>
        refine Or.inr ⟨1, 2, h, A, Or.inr (Or.inl ⟨rfl, rfl⟩), fun kt kr => ?_, fun kr => ?_, q, fun c _ => rfl⟩
        · unfold X_serial X_serial_43
          rw [zob_0 rs.N0, xk, hzk, if_pos rfl, x_isCell, hzc, tb_t, if_neg n1, x_isWithin, hzn, tb_f, if_pos rfl, zlet_d]
        · rw [MS, hzk, if_neg nf, hzc, if_neg nf, M27, hzn, if_pos rfl, M55]
      | true =>
        cases hzt : zwi T 1 16 with
        | false =>
          refine Or.inr ⟨1, 2, h, A, Or.inr (Or.inl ⟨rfl, rfl⟩), fun kt kr => ?_, fun kr => ?_, q, fun c _ => rfl⟩
          · unfold X_serial X_serial_43
            rw [zob_0 rs.N0, xk, hzk, if_pos rfl, x_isCell, hzc, tb_t, if_neg n1, x_isWithin, hzn, tb_t, if_neg n1, x_isWithin, hzt, tb_f, if_pos rfl, zlet_d]
          · rw [MS, hzk, if_neg nf, hzc, if_neg nf, M27, hzn, if_neg nf, hzt, if_pos rfl, M55]
        | true =>
          obtain ⟨c1, c2⟩ := zwi_t hzc
          obtain ⟨nb1, nb2⟩ := zwi_t hzn
          obtain ⟨tt1, tt2⟩ := zwi_t hzt
          obtain ⟨ce, rfl⟩ : ∃ x9 : Nat, ce = (x9 : Int) := ⟨ce.toNat, by omega⟩
          obtain ⟨nb, rfl⟩ : ∃ x9 : Nat, nb = (x9 : Int) := ⟨nb.toNat, by omega⟩
          obtain ⟨T, rfl⟩ : ∃ x9 : Nat, T = (x9 : Int) := ⟨T.toNat, by omega⟩
          have c64 : ce < 64 := by omega
          have T1 : 1 ≤ T := by omega
          have T16 : T ≤ 16 := by omega
          have kk := rk.2.2.2.2.1 k hk
          obtain ⟨len, hlen⟩ : ∃ len : Nat, A 63 k = (len : Int) := ⟨(A 63 k).toNat, by have := kk.2.2.2.2.2.1; omega⟩
          have l40 : len ≤ 40 := by have := kk.2.2.2.2.2.2.1; omega
          have hl := fun kr : Int → zH → Option ρ => x_hl_loop (kr := kr) rk rd hk hlen zN 0 (Nat.zero_le _) (by show len - 0 < 5000; omega) rfl
          have ml := fun kr : Int → zH → Option ρ => m_hl_loop (kr := kr) (g := g) (nb := (nb : Int)) (T9 := (T : Int)) (fl := fl) (ce := (ce : Int)) k4 hlen l40 zN 0 (Nat.zero_le _) (by show len - 0 < 5000; omega)
          have CX : ∀ (kt : Nat → zH → Option ρ) (kr : Int → zH → Option ρ), X_serial 0 (k : Int) (nb : Int) (T : Int) fl (ce : Int) h kt kr = if nlb A k len = false then Re_begin 0 (k : Int) (T : Int) fl 0 h (fun _ h15 => zob h15 0 0 fun p16 => zob h15 5 (zhD h15 0 p16 2) fun _ => Re_runBlocks (zhD h15 0 p16 2) (nb : Int) h15 fun v17 h18 => if v17 = 0 then zlet (zthrown h18) fun h23 => kt 2 h23 else zob h18 0 0 fun p19 => zob h18 5 (zhD h18 0 p19 2) fun p20 => zob h18 28 (zhD h18 5 p20 0) fun p21 => zix (zhL h18 28 p21) (ce : Int) fun j22 => kr (zhD h18 28 p21 j22) h18) else kt 4 (zthrown h) := fun kt kr => by
            have hl' : ∀ kr : Int → zH → Option ρ, Ke_hasLetterOf (k : Int) 0 h kr = kr (tb (nlb A k len)) h := hl
            unfold X_serial
            rw [zob_0 rs.N0, xk, hzk, if_pos rfl, x_isCell, hzc, tb_t, if_neg n1, x_isWithin, hzn, tb_t, if_neg n1, x_isWithin, hzt, tb_t, if_neg n1, zob_n k7, hl']
            cases hb : nlb A k len with
            | true => rw [tb_t, if_neg n1, if_neg (by decide), zlet_d]
            | false => rw [tb_f, if_pos rfl, if_pos rfl, zob_0 rs.N0, zob_0 rs.N0, rs.D0_0_1, zob_0 rs.N2, rs.D0_0_2, zob_0 rs.N5, rs.D2_0_1]
          have MX : ∀ kr : Int → zH → Option ρ, M_serial (k : Int) (nb : Int) (T : Int) fl (ce : Int) (mh g A) kr = M_fails (tb (nlb A k len)) 3 (mh g A) (fun v2 h3 => if v2 = 0 then M_serial_163 kr (k : Int) (nb : Int) (T : Int) fl (ce : Int) 0 h3 else kr 0 h3) := fun kr => by
            rw [MS, hzk, if_neg nf, hzc, if_neg nf, M27, hzn, if_neg nf, hzt, if_neg nf]
            unfold M_serial_60
            rw [m_fails0 t0 (by decide), if_pos rfl, wr_40 (by omega)]
            exact ml kr
          cases hb : nlb A k len with
          | true =>
            refine Or.inr ⟨4, 3, h, A, Or.inr (Or.inr (Or.inl ⟨rfl, rfl⟩)), fun kt kr => ?_, fun kr => ?_, q, fun c _ => rfl⟩
            · rw [CX, hb, if_neg (by decide)]
            · rw [MX, hb, tb_t, m_fails1 t0 (by decide), if_neg n1]
          | false =>
            have nl : NL A k := fun i hi => nlb_no len hb i (by omega)
            -- it begins
            have q1 : RR A (zset (zset (zset h 5 0 4 (k : Int)) 5 0 5 (T : Int)) 5 0 6 fl) K L bc tc gc n B N M := rr_zs (rr_zs (rr_zs q rfl) rfl) rfl
            have r1 := q1.rs
            obtain ⟨h2, y1, y2, y3⟩ := x_cp_loop (ρ := ρ) (A := A) r1 zN 0 _ (Nat.zero_le _) (by decide) SF.rf (fun j hj => absurd hj (Nat.not_lt_zero _))
            obtain ⟨A2, w1, w2, w3⟩ := m_cp_loop (ρ := ρ) (g := g) (nb := (nb : Int)) (T9 := (T : Int)) (fl := fl) (ce := (ce : Int)) (x1 := (k : Int)) zN 0 A (Nat.zero_le _) (by decide)
            have x2 : SF A A2 (zset (zset (zset h 5 0 4 (k : Int)) 5 0 5 (T : Int)) 5 0 6 fl) h2 := ⟨fun c hc => w2 c (by omega), y2.2⟩
            obtain ⟨h3, A3, ok, v1, v2, v3, v4⟩ := blocks_loop (ρ := ρ) (fl := fl) (nb := nb) (ce := (ce : Int)) r1 q1.rd q1.rk hk nl T1 T16 (by rw [zD_nj (by decide), zD_nj (by decide), zD_eq]) (by rw [zD_nj (by decide), zD_eq]) zD_eq (by omega) g zN zN 0 h2 A2 (Nat.zero_le _) (by show nb - 0 < 5000; omega) (by show nb - 0 + 1 < 5000; omega) x2 (fun j hj => by
              rw [y3 j hj, w3, if_pos ⟨Nat.zero_le _, hj⟩, zD_ne (by decide), zD_ne (by decide), zD_ne (by decide)]
              exact q.rm.1 j hj)
            have q3 := v3.rr q1
            have BGN : ∀ kr : Int → zH → Option ρ, Re_begin 0 (k : Int) (T : Int) fl 0 h kr = kr 0 h2 := fun kr => by
              have N5a : zhN (zset h 5 0 4 (k : Int)) 5 = 1 := rs.N5
              have N5b : zhN (zset (zset h 5 0 4 (k : Int)) 5 0 5 (T : Int)) 5 = 1 := rs.N5
              have mn : (if (T : Int) < 16 then (T : Int) else 16) = (T : Int) := by
                by_cases hz : (T : Int) < 16
                · rw [if_pos hz]
                · rw [if_neg hz]
                  omega
              unfold Re_begin
              rw [zob_0 rs.N5, zlet_d, ma_min, mn, zob_0 N5a, zlet_d, zob_0 N5b, znar_b hfl, zlet_d]
              exact y1 kr
            have C2 : ∀ (kt : Nat → zH → Option ρ) (kr : Int → zH → Option ρ), X_serial 0 (k : Int) (nb : Int) (T : Int) fl (ce : Int) h kt kr = if ok = true then kr (zhD h3 28 0 ce) h3 else kt 2 (zthrown h3) := fun kt kr => by
              have rs2 := y2.rs r1
              have rs3 := q3.rs
              have RB : ∀ kr2 : Int → zH → Option ρ, Re_runBlocks 0 (nb : Int) h2 kr2 = kr2 (tb ok) h3 := v1
              rw [CX, hb, if_pos rfl, BGN, zob_0 rs2.N0, rs2.D0_0_2, zob_0 rs2.N5, RB]
              cases ok with
              | false => rw [tb_f, if_pos rfl, if_neg (by decide), zlet_d]
              | true => rw [tb_t, if_neg n1, if_pos rfl, zob_0 rs3.N0, rs3.D0_0_2, zob_0 rs3.N5, rs3.D5_0_0, zob_0 rs3.N28, rs3.L28_0, zix_n c64]
            have M2 : ∀ kr : Int → zH → Option ρ, M_serial (k : Int) (nb : Int) (T : Int) fl (ce : Int) (mh g A) kr = M_serial_239 kr (ce : Int) (tb ok) (mh g A3) := fun kr => by
              rw [MX, hb, tb_f, m_fails0 t0 (by decide), if_pos rfl]
              refine Eq.trans (w1 kr) ?_
              exact v2 kr
            have t3 : A3 12 0 = 0 := q3.rc.2 0 rfl
            cases ok with
            | false =>
              refine Or.inr ⟨2, 4, h3, A3, Or.inr (Or.inr (Or.inr ⟨rfl, rfl⟩)), fun kt kr => ?_, fun kr => ?_, q3, v3.1⟩
              · rw [C2, if_neg (by decide)]
              · rw [M2, tb_f]
                unfold M_serial_239 M_serial_250 M_serial_268
                rw [if_pos rfl, m_fails1 t3 (by decide), if_neg n1]
            | true =>
              refine Or.inl ⟨h3, A3, zhD h3 28 0 ce, fun kt kr => ?_, fun kr => ?_, q3, v3.1⟩
              · rw [C2, if_pos rfl]
              · rw [M2, tb_t]
                unfold M_serial_239 M_serial_250 M_serial_268
                rw [if_neg n1, m_fails0 t3 (by decide), if_pos rfl, zix_n c64, mD110, v4 rfl ce c64]
end
