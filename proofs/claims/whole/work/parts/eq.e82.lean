/-! A NEW BLOCK: its groups, and the unit that takes it -/
def hBi (h : zH) (Q l T : Nat) (a : Int) : zH := zset (znew (zset (zset (zset (znew (znew h 10 0 (znf zPP 10) (fun k => zdef (zft zPP 10 k))) 39 64 64 (fun _ => 0)) 10 Q 5 (Q : Int)) 10 Q 0 (l : Int)) 10 Q 1 a) 36 T T (fun _ => -1)) 10 Q 2 (Q : Int)
def hGi (h : zH) (g Q : Nat) (b : Int) : zH := zset (znew (zset (zset (zset (znew (zset (znew (znew h 11 0 (znf zPP 11) (fun k => zdef (zft zPP 11 k))) 43 4 4 (fun _ => 0)) 11 g 3 (g : Int)) 44 4 4 (fun _ => 0)) 11 g 4 (g : Int)) 11 g 0 (Q : Int)) 11 g 1 b) 42 4 4 (fun _ => -1)) 11 g 2 (g : Int)
/-- a group's threads, k of them looked at -/
def zgk (m T b k : Nat) : Nat → Int := fun j => if j < k ∧ b + j < T then ((m + (b + j) : Nat) : Int) else -1
def hGn (h : zH) (g Q i m T : Nat) : zH := zset (hrw (hGi h g Q ((4 * i : Nat) : Int)) 42 g (zgk m T (4 * i) 4)) 37 Q i (g : Int)
section
variable {ρ : Type} {h h0 g : zH} {A B : zA} {kr : Int → zH → Option ρ} {Q m G l T R S nG : Nat} {a st len : Int}
theorem zgk_0 {b : Nat} : zgk m T b 0 = fun _ => -1 := funext fun j => if_neg (fun z => absurd z.1 (Nat.not_lt_zero _))
theorem zgk_s {b k : Nat} (hk : b + k < T) : zup (zgk m T b k) k ((m + (b + k) : Nat) : Int) = zgk m T b (k + 1) := by
  funext j
  unfold zup zgk
  by_cases hj : j = k
  · subst hj
    rw [if_pos rfl, if_pos ⟨Nat.lt_succ_self _, hk⟩]
  · rw [if_neg hj]
    by_cases h1 : j < k ∧ b + j < T
    · rw [if_pos h1, if_pos ⟨by omega, h1.2⟩]
    · rw [if_neg h1, if_neg (fun z => h1 ⟨by omega, z.2⟩)]
theorem zgk_stop {b k : Nat} (hk4 : k ≤ 4) (hk : k = 4 ∨ T ≤ b + k) : zgk m T b k = zgk m T b 4 := by
  funext j
  unfold zgk
  by_cases h1 : j < k ∧ b + j < T
  · rw [if_pos h1, if_pos ⟨by omega, h1.2⟩]
  · rw [if_neg h1, if_neg (fun z => h1 ⟨by omega, z.2⟩)]
theorem wr_nn {a b : Nat} (h : a + b < 100000) : wr ((a : Int) + (b : Int)) = ((a + b : Nat) : Int) := by
  rw [wr_id (by omega) (by omega)]
  rfl
theorem wr_4 {i : Nat} (h : i < 1000) : wr (4 * (i : Int)) = ((4 * i : Nat) : Int) := by
  rw [wr_id (by omega) (by omega)]
  omega
theorem x_gr_loop {gn b : Nat} (q10 : Q < zhN h 10) (q36 : Q < zhN h 36) (d2 : zhD h 10 Q 2 = (Q : Int)) (l36 : zhL h 36 Q = T) (t16 : T ≤ 16) (b16 : b ≤ 16) (q11 : gn < zhN h 11) (q42 : gn < zhN h 42) (e2 : zhD h 11 gn 2 = (gn : Int)) (l42 : zhL h 42 gn = 4) (ht : ∀ t, t < T → zhD h 36 Q t = ((m + t : Nat) : Int)) (h6 : m + T ≤ zhN h 6) : ∀ f k : Nat, k ≤ 4 → 4 - k < f → zit (fun _ _ _ _ _ => none) (Gr_init_38b kr) f (gn : Int) (Q : Int) (b : Int) (k : Int) (hrw h 42 gn (zgk m T b k)) = kr 0 (hrw h 42 gn (zgk m T b 4))
  | 0, _, _, hf => absurd hf (Nat.not_lt_zero _)
  | f + 1, k, hk, hf => by
    rw [zit_s]
    have p10 : Q < zhN (hrw h 42 gn (zgk m T b k)) 10 := q10
    have p36 : Q < zhN (hrw h 42 gn (zgk m T b k)) 36 := q36
    have p11 : gn < zhN (hrw h 42 gn (zgk m T b k)) 11 := q11
    have p42 : gn < zhN (hrw h 42 gn (zgk m T b k)) 42 := q42
    have D : ∀ c p j, c ≠ 42 → zhD (hrw h 42 gn (zgk m T b k)) c p j = zhD h c p j := fun c p j hc => by rw [hrw_D, if_neg (fun z => hc z.1)]
    have pl : zhL (hrw h 42 gn (zgk m T b k)) 36 Q = T := l36
    have pl2 : zhL (hrw h 42 gn (zgk m T b k)) 42 gn = 4 := l42
    have bk9 : b + k < 100000 := by omega
    have k9 : k < 100000 := by omega
    by_cases h4 : k < 4
    · have hlt : (k : Int) < 4 := by omega
      by_cases hT : b + k < T
      · have ih := x_gr_loop q10 q36 d2 l36 t16 b16 q11 q42 e2 l42 ht h6 f (k + 1) h4 (by omega)
        have hT' : ((b + k : Nat) : Int) < (T : Int) := by omega
        have p6 : m + (b + k) < zhN (hrw h 42 gn (zgk m T b k)) 6 := by
          show m + (b + k) < zhN h 6
          omega
        generalize zit (fun _ _ _ _ _ => none) (Gr_init_38b kr) f = r2 at ih ⊢
        unfold Gr_init_38b
        rw [if_pos hlt, zob_n p10, D 10 _ _ (by decide), d2, zob_n p36, pl, wr_nn bk9, if_pos hT', zob_n p11, zob_n p10, D 10 _ _ (by decide), d2, zob_n p36, pl, zix_n hT, D 11 _ _ (by decide), e2, zob_n p42, pl2, zix_n h4, D 36 _ _ (by decide), ht _ hT, zorn_n p6, hrw_set, zlet_d, zgk_s hT, wr_s k9]
        exact ih
      · have hT' : ¬ ((b + k : Nat) : Int) < (T : Int) := by omega
        have hT2 : T ≤ b + k := by omega
        unfold Gr_init_38b Gr_init_74
        rw [if_pos hlt, zob_n p10, D 10 _ _ (by decide), d2, zob_n p36, pl, wr_nn bk9, if_neg hT', zgk_stop hk (Or.inr hT2)]
    · have : k = 4 := by omega
      subst this
      unfold Gr_init_38b Gr_init_74
      rw [if_neg (by decide)]
theorem hGi_D {gn c p j : Nat} {b : Int} (n11 : zhN h 11 = gn) (n42 : zhN h 42 = gn) (n43 : zhN h 43 = gn) (n44 : zhN h 44 = gn) (h11 : ¬ (c = 11 ∧ p = gn)) (h42 : ¬ (c = 42 ∧ p = gn)) (h43 : ¬ (c = 43 ∧ p = gn)) (h44 : ¬ (c = 44 ∧ p = gn)) : zhD (hGi h gn Q b) c p j = zhD h c p j ∧ zhL (hGi h gn Q b) c p = zhL h c p := by
  have m43 : zhN (znew h 11 0 (znf zPP 11) (fun k => zdef (zft zPP 11 k))) 43 = gn := by rw [zN_newne (by decide)]; exact n43
  have m44 : zhN (zset (znew (znew h 11 0 (znf zPP 11) (fun k => zdef (zft zPP 11 k))) 43 4 4 (fun _ => 0)) 11 gn 3 (gn : Int)) 44 = gn := by rw [zN_set, zN_newne (by decide), zN_newne (by decide)]; exact n44
  have m42 : zhN (zset (zset (zset (znew (zset (znew (znew h 11 0 (znf zPP 11) (fun k => zdef (zft zPP 11 k))) 43 4 4 (fun _ => 0)) 11 gn 3 (gn : Int)) 44 4 4 (fun _ => 0)) 11 gn 4 (gn : Int)) 11 gn 0 (Q : Int)) 11 gn 1 b) 42 = gn := by rw [zN_set, zN_set, zN_set, zN_newne (by decide), zN_set, zN_newne (by decide), zN_newne (by decide)]; exact n42
  have k : ∀ x : Nat, ¬ (c = 11 ∧ p = gn ∧ j = x) := fun x z => h11 ⟨z.1, z.2.1⟩
  unfold hGi
  refine ⟨?_, ?_⟩
  · rw [zD_set, if_neg (k 2), zD_new, m42, if_neg h42, zD_set, if_neg (k 1), zD_set, if_neg (k 0), zD_set, if_neg (k 4), zD_new, m44, if_neg h44, zD_set, if_neg (k 3), zD_new, m43, if_neg h43, zD_new, n11, if_neg h11]
  · rw [zL_set, zL_new, m42, if_neg h42, zL_set, zL_set, zL_set, zL_new, m44, if_neg h44, zL_set, zL_new, m43, if_neg h43, zL_new, n11, if_neg h11]
theorem hGi_n {gn : Nat} {b : Int} (n11 : zhN h 11 = gn) (n42 : zhN h 42 = gn) (n43 : zhN h 43 = gn) (n44 : zhN h 44 = gn) : zhD (hGi h gn Q b) 11 gn 0 = (Q : Int) ∧ zhD (hGi h gn Q b) 11 gn 1 = b ∧ zhD (hGi h gn Q b) 11 gn 2 = (gn : Int) ∧ zhD (hGi h gn Q b) 11 gn 3 = (gn : Int) ∧ zhD (hGi h gn Q b) 11 gn 4 = (gn : Int) ∧ zhD (hGi h gn Q b) 11 gn 5 = 0 ∧ zhD (hGi h gn Q b) 11 gn 6 = 0 ∧ zhL (hGi h gn Q b) 42 gn = 4 ∧ zhL (hGi h gn Q b) 43 gn = 4 ∧ zhL (hGi h gn Q b) 44 gn = 4 ∧ zhD (hGi h gn Q b) 42 gn = fun _ => -1 := by
  have z5 : zdef (zft zPP 11 5) = 0 := rfl
  have z6 : zdef (zft zPP 11 6) = 0 := rfl
  unfold hGi
  refine ⟨?_, ?_, ?_, ?_, ?_, ?_, ?_, ?_, ?_, ?_, funext fun j => ?_⟩ <;> simp [zD_set, zD_new, zL_set, zL_new, zN_set, zN_new, n11, n42, n43, n44, z5, z6]
theorem hGi_N {gn c : Nat} {b : Int} : zhN (hGi h gn Q b) c = if c = 11 ∨ c = 42 ∨ c = 43 ∨ c = 44 then zhN h c + 1 else zhN h c := by
  unfold hGi
  by_cases h1 : c = 11
  · subst h1; rfl
  · by_cases h2 : c = 42
    · subst h2; rfl
    · by_cases h3 : c = 43
      · subst h3; rfl
      · by_cases h4 : c = 44
        · subst h4; rfl
        · rw [if_neg (by omega), zN_set, zN_newne h2, zN_set, zN_set, zN_set, zN_newne h4, zN_set, zN_newne h3, zN_newne h1]
theorem hGi_C {gn : Nat} {b : Int} : zhC (hGi h gn Q b) = zhC h + 4 ∧ zhS (hGi h gn Q b) = zhS h + 7 + 4 + 4 + 4 := ⟨rfl, rfl⟩
theorem x_grInit {gn b : Nat} (n11 : zhN h 11 = gn) (n42 : zhN h 42 = gn) (n43 : zhN h 43 = gn) (n44 : zhN h 44 = gn) (q10 : Q < zhN h 10) (q36 : Q < zhN h 36) (d2 : zhD h 10 Q 2 = (Q : Int)) (l36 : zhL h 36 Q = T) (t16 : T ≤ 16) (b16 : b ≤ 16) (ht : ∀ t, t < T → zhD h 36 Q t = ((m + t : Nat) : Int)) (h6 : m + T ≤ zhN h 6) : Gr_init (gn : Int) (Q : Int) (b : Int) (znew h 11 0 (znf zPP 11) (fun k => zdef (zft zPP 11 k))) kr = kr 0 (hrw (hGi h gn Q (b : Int)) 42 gn (zgk m T b 4)) := by
  have z4 : ∀ kk : Nat → Option ρ, zix 100000 4 kk = kk 4 := fun kk => zix_n (i := 4) (by decide)
  obtain ⟨-, -, e2, -, -, -, -, l42, -, -, r42⟩ := hGi_n (h := h) (Q := Q) (b := (b : Int)) n11 n42 n43 n44
  have N := fun c => hGi_N (h := h) (gn := gn) (Q := Q) (c := c) (b := (b : Int))
  have D := fun c p j k1 k2 k3 k4 => hGi_D (h := h) (gn := gn) (Q := Q) (b := (b : Int)) (c := c) (p := p) (j := j) n11 n42 n43 n44 k1 k2 k3 k4
  have lp := x_gr_loop (kr := kr) (h := hGi h gn Q (b : Int)) (m := m) (T := T) (gn := gn) (b := b) (Q := Q) (by rw [N, if_neg (by decide)]; exact q10) (by rw [N, if_neg (by decide)]; exact q36) (by rw [(D 10 Q 2 (fun z => absurd z.1 (by decide)) (fun z => absurd z.1 (by decide)) (fun z => absurd z.1 (by decide)) (fun z => absurd z.1 (by decide))).1]; exact d2) (by rw [(D 36 Q 2 (fun z => absurd z.1 (by decide)) (fun z => absurd z.1 (by decide)) (fun z => absurd z.1 (by decide)) (fun z => absurd z.1 (by decide))).2]; exact l36) t16 b16 (by rw [N, if_pos (by decide), n11]; exact Nat.lt_succ_self _) (by rw [N, if_pos (by decide), n42]; exact Nat.lt_succ_self _) e2 l42 (fun t hh => by rw [(D 36 Q t (fun z => absurd z.1 (by decide)) (fun z => absurd z.1 (by decide)) (fun z => absurd z.1 (by decide)) (fun z => absurd z.1 (by decide))).1]; exact ht t hh) (by rw [N, if_neg (by decide)]; exact h6) zN 0 (Nat.zero_le _) (by decide)
  rw [zgk_0, ← r42, hrw_id] at lp
  rw [← lp]
  have e11 : ∀ kk : Nat → Option ρ, zob (znew h 11 0 (znf zPP 11) (fun k => zdef (zft zPP 11 k))) 11 (gn : Int) kk = kk gn := fun kk => zob_n (by rw [zN_new1, n11]; exact Nat.lt_succ_self _)
  unfold Gr_init
  simp only [zlet_d, z4, e11, zob_set, zob_newne (show 11 ≠ 42 by decide), zob_newne (show 11 ≠ 43 by decide), zob_newne (show 11 ≠ 44 by decide), zN_set, zN_newne (show 43 ≠ 11 by decide), zN_newne (show 44 ≠ 11 by decide), zN_newne (show 42 ≠ 11 by decide), zN_newne (show 44 ≠ 43 by decide), zN_newne (show 42 ≠ 43 by decide), zN_newne (show 42 ≠ 44 by decide), n42, n43, n44]
  rfl
theorem GT.step {i : Nat} (x : GT h0 h Q m G l T R S nG a st i) : GT h0 (hGn h (G + i) Q i m T) Q m G l T R S nG a st (i + 1) := by
  obtain ⟨x1, ⟨n6, n32, n10, n11, nn⟩, ⟨b0, b1, b2, l36, l37, l38, l39, l40, l41, zz⟩, xt, xg, xc, xs⟩ := x
  have m11 := n11 11 (by decide)
  have m42 := n11 42 (by decide)
  have m43 := n11 43 (by decide)
  have m44 := n11 44 (by decide)
  obtain ⟨w0, w1, w2, w3, w4, w5, w6, w42, w43, w44, -⟩ := hGi_n (h := h) (Q := Q) (b := ((4 * i : Nat) : Int)) m11 m42 m43 m44
  have N : ∀ c, zhN (hGn h (G + i) Q i m T) c = if c = 11 ∨ c = 42 ∨ c = 43 ∨ c = 44 then zhN h c + 1 else zhN h c := fun c => hGi_N (h := h) (gn := G + i) (Q := Q) (c := c) (b := ((4 * i : Nat) : Int))
  have D : ∀ c p j, ¬ (c = 11 ∧ p = G + i) → ¬ (c = 42 ∧ p = G + i) → ¬ (c = 43 ∧ p = G + i) → ¬ (c = 44 ∧ p = G + i) → ¬ (c = 37 ∧ p = Q ∧ j = i) → zhD (hGn h (G + i) Q i m T) c p j = zhD h c p j := fun c p j k1 k2 k3 k4 k5 => by
    unfold hGn
    rw [zD_set, if_neg k5, hrw_D, if_neg k2]
    exact (hGi_D (h := h) (gn := G + i) (Q := Q) (b := ((4 * i : Nat) : Int)) (c := c) (p := p) (j := j) m11 m42 m43 m44 k1 k2 k3 k4).1
  have Lh : ∀ c p, ¬ (c = 11 ∧ p = G + i) → ¬ (c = 42 ∧ p = G + i) → ¬ (c = 43 ∧ p = G + i) → ¬ (c = 44 ∧ p = G + i) → zhL (hGn h (G + i) Q i m T) c p = zhL h c p := fun c p k1 k2 k3 k4 => (hGi_D (h := h) (gn := G + i) (Q := Q) (b := ((4 * i : Nat) : Int)) (c := c) (p := p) (j := 0) m11 m42 m43 m44 k1 k2 k3 k4).2
  have D11 : ∀ j, zhD (hGn h (G + i) Q i m T) 11 (G + i) j = zhD (hGi h (G + i) Q ((4 * i : Nat) : Int)) 11 (G + i) j := fun j => by
    unfold hGn
    rw [zD_ne (by decide), hrw_D, if_neg (fun z => absurd z.1 (by decide))]
  have D42 : ∀ j, zhD (hGn h (G + i) Q i m T) 42 (G + i) j = zgk m T (4 * i) 4 j := fun j => by
    unfold hGn
    rw [zD_ne (by decide), hrw_D, if_pos ⟨rfl, rfl⟩]
  have D37 : zhD (hGn h (G + i) Q i m T) 37 Q i = ((G + i : Nat) : Int) := by
    unfold hGn
    exact zD_eq
  rw [← D11] at w0 w1 w2 w3 w4 w5 w6
  have w42' : zhL (hGn h (G + i) Q i m T) 42 (G + i) = 4 := w42
  have w43' : zhL (hGn h (G + i) Q i m T) 43 (G + i) = 4 := w43
  have w44' : zhL (hGn h (G + i) Q i m T) 44 (G + i) = 4 := w44
  have C1 : zhC (hGn h (G + i) Q i m T) = zhC h + 4 := rfl
  have C2 : zhS (hGn h (G + i) Q i m T) = zhS h + 7 + 4 + 4 + 4 := rfl
  generalize hGn h (G + i) Q i m T = h' at *
  have ff : ∀ c, c = 11 ∨ c = 42 ∨ c = 43 ∨ c = 44 → zold Q m G c (G + i) = false := fun c hc => by rcases hc with rfl | rfl | rfl | rfl <;> exact blt_f (Nat.le_add_right _ _)
  have ff2 : zold Q m G 37 Q = false := blt_f (Nat.le_refl _)
  have Do : ∀ c p j, c ≠ 11 → c ≠ 42 → c ≠ 43 → c ≠ 44 → c ≠ 37 → zhD h' c p j = zhD h c p j := fun c p j k1 k2 k3 k4 k5 => D c p j (fun z => k1 z.1) (fun z => k2 z.1) (fun z => k3 z.1) (fun z => k4 z.1) (fun z => k5 z.1)
  have Lo : ∀ c p, c ≠ 11 → c ≠ 42 → c ≠ 43 → c ≠ 44 → zhL h' c p = zhL h c p := fun c p k1 k2 k3 k4 => Lh c p (fun z => k1 z.1) (fun z => k2 z.1) (fun z => k3 z.1) (fun z => k4 z.1)
  refine ⟨fun c p hz => ?_, ⟨?_, ?_, fun c hc => ?_, fun c hc => ?_, fun c c1 c2 c3 c4 c5 => ?_⟩, ⟨?_, ?_, fun j j1 j2 => ?_, ?_, ?_, ?_, ?_, ?_, ?_, fun c => ⟨?_, ?_, ?_, ?_⟩⟩, fun t ht => ?_, fun g hg => ?_, by rw [C1, xc]; omega, by rw [C2]; omega⟩
  · obtain ⟨y1, y2⟩ := x1 c p hz
    have K : ∀ x, (x = 11 ∨ x = 42 ∨ x = 43 ∨ x = 44) → ¬ (c = x ∧ p = G + i) := fun x hx z => by rw [z.1, z.2, ff x hx] at hz; cases hz
    have k1 := K 11 (by decide)
    have k2 := K 42 (by decide)
    have k3 := K 43 (by decide)
    have k4 := K 44 (by decide)
    have k5 : ∀ j, ¬ (c = 37 ∧ p = Q ∧ j = i) := fun j z => by rw [z.1, z.2.1, ff2] at hz; cases hz
    exact ⟨by rw [← y1]; exact funext fun j => D c p j k1 k2 k3 k4 (k5 j), by rw [Lh c p k1 k2 k3 k4]; exact y2⟩
  · rw [N, if_neg (by decide)]; exact n6
  · rw [N, if_neg (by decide)]; exact n32
  · rw [N, if_neg (by omega)]; exact n10 c hc
  · rw [N, if_pos (by omega), n11 c hc]; omega
  · rw [N, if_neg (by omega)]; exact nn c c1 c2 c3 c4 c5
  · rw [Do _ _ _ (by decide) (by decide) (by decide) (by decide) (by decide)]; exact b0
  · rw [Do _ _ _ (by decide) (by decide) (by decide) (by decide) (by decide)]; exact b1
  · rw [Do _ _ _ (by decide) (by decide) (by decide) (by decide) (by decide)]; exact b2 j j1 j2
  · rw [Lo _ _ (by decide) (by decide) (by decide) (by decide)]; exact l36
  · rw [Lo _ _ (by decide) (by decide) (by decide) (by decide)]; exact l37
  · rw [Lo _ _ (by decide) (by decide) (by decide) (by decide)]; exact l38
  · rw [Lo _ _ (by decide) (by decide) (by decide) (by decide)]; exact l39
  · rw [Lo _ _ (by decide) (by decide) (by decide) (by decide)]; exact l40
  · rw [Lo _ _ (by decide) (by decide) (by decide) (by decide)]; exact l41
  · rw [Do _ _ _ (by decide) (by decide) (by decide) (by decide) (by decide)]; exact (zz c).1
  · rw [Do _ _ _ (by decide) (by decide) (by decide) (by decide) (by decide)]; exact (zz c).2.1
  · rw [Do _ _ _ (by decide) (by decide) (by decide) (by decide) (by decide)]; exact (zz c).2.2.1
  · rw [Do _ _ _ (by decide) (by decide) (by decide) (by decide) (by decide)]; exact (zz c).2.2.2
  · obtain ⟨v1, v2, v3, v4, v5, v6, v7, v8⟩ := xt t ht
    have q6 : ∀ j, zhD h' 6 (m + t) j = zhD h 6 (m + t) j := fun j => Do _ _ _ (by decide) (by decide) (by decide) (by decide) (by decide)
    exact ⟨by rw [Do _ _ _ (by decide) (by decide) (by decide) (by decide) (by decide)]; exact v1, by rw [q6]; exact v2, by rw [q6]; exact v3, by rw [q6]; exact v4, by rw [q6]; exact v5, by rw [q6]; exact v6, by rw [Lo _ _ (by decide) (by decide) (by decide) (by decide)]; exact v7, fun r hr => by rw [Do _ _ _ (by decide) (by decide) (by decide) (by decide) (by decide)]; exact v8 r hr⟩
  · by_cases hgi : g = i
    · subst hgi
      refine ⟨D37, w0, w1, fun j j1 j2 => ?_, w5, w6, w42', w43', w44', fun k hk => ?_⟩
      · rcases (show j = 2 ∨ j = 3 ∨ j = 4 by omega) with rfl | rfl | rfl
        · exact w2
        · exact w3
        · exact w4
      · rw [D42]
        unfold zgk
        by_cases hkT : 4 * g + k < T
        · rw [if_pos ⟨hk, hkT⟩, if_pos hkT]
        · rw [if_neg (fun z => hkT z.2), if_neg hkT]
    · obtain ⟨v1, v2, v3, v4, v5, v6, v7, v8, v9, v10⟩ := xg g (by omega)
      have q11 : ∀ j, zhD h' 11 (G + g) j = zhD h 11 (G + g) j := fun j => D _ _ _ (fun z => by omega) (fun z => absurd z.1 (by decide)) (fun z => absurd z.1 (by decide)) (fun z => absurd z.1 (by decide)) (fun z => absurd z.1 (by decide))
      have q42 : ∀ j, zhD h' 42 (G + g) j = zhD h 42 (G + g) j := fun j => D _ _ _ (fun z => absurd z.1 (by decide)) (fun z => by omega) (fun z => absurd z.1 (by decide)) (fun z => absurd z.1 (by decide)) (fun z => absurd z.1 (by decide))
      have q37 : zhD h' 37 Q g = zhD h 37 Q g := D _ _ _ (fun z => absurd z.1 (by decide)) (fun z => absurd z.1 (by decide)) (fun z => absurd z.1 (by decide)) (fun z => absurd z.1 (by decide)) (fun z => hgi z.2.2)
      have ql : ∀ c, zhL h' c (G + g) = zhL h c (G + g) := fun c => Lh c _ (fun z => by omega) (fun z => by omega) (fun z => by omega) (fun z => by omega)
      exact ⟨by rw [q37]; exact v1, by rw [q11]; exact v2, by rw [q11]; exact v3, fun j j1 j2 => by rw [q11]; exact v4 j j1 j2, by rw [q11]; exact v5, by rw [q11]; exact v6, by rw [ql]; exact v7, by rw [ql]; exact v8, by rw [ql]; exact v9, fun k hk => by rw [q42]; exact v10 k hk⟩
theorem x_nx_loop (t16 : T ≤ 16) (g4 : nG ≤ 4) (hl : l < zhN h0 9) {gv : Int} (hgv : zhD h0 9 l 8 = gv) (w8 : 0 ≤ gv ∧ gv < 1000) : ∀ (f i : Nat) (h : zH), i ≤ nG → nG - i < f → GT h0 h Q m G l T R S nG a st i → ∃ h' : zH, (∀ kr : Int → zH → Option ρ, zit (fun _ _ _ _ => none) (Bl_nextOf_15b kr) f (l : Int) (Q : Int) (i : Int) h = kr (Q : Int) (zset h' 9 l 8 (gv + 1))) ∧ GT h0 h' Q m G l T R S nG a st nG
  | 0, _, _, _, hf, _ => absurd hf (Nat.not_lt_zero _)
  | f + 1, i, h, hi, hf, x => by
    have x' := x
    obtain ⟨x1, ⟨n6, n32, n10, n11, nn⟩, ⟨b0, b1, b2, l36, l37, l38, l39, l40, l41, zz⟩, xt, xg, xc, xs⟩ := x'
    have q10 : Q < zhN h 10 := by rw [n10 10 (by decide)]; exact Nat.lt_succ_self _
    have q36 : Q < zhN h 36 := by rw [n10 36 (by decide)]; exact Nat.lt_succ_self _
    have q37 : Q < zhN h 37 := by rw [n10 37 (by decide)]; exact Nat.lt_succ_self _
    have m11 := n11 11 (by decide)
    have m42 := n11 42 (by decide)
    have m43 := n11 43 (by decide)
    have m44 := n11 44 (by decide)
    by_cases h4 : i < nG
    · obtain ⟨h', z1, z2⟩ := x_nx_loop t16 g4 hl hgv w8 f (i + 1) (hGn h (G + i) Q i m T) h4 (by omega) x.step
      refine ⟨h', fun kr => ?_, z2⟩
      have hlt : (i : Int) < (nG : Int) := by omega
      have i9 : i < 100000 := by omega
      have b16 : 4 * i ≤ 16 := by omega
      have i1000 : i < 1000 := by omega
      have mT6 : m + T ≤ zhN h 6 := by omega
      have e11 : ∀ kk : Nat → Option ρ, zob (znew h 11 0 (znf zPP 11) (fun k => zdef (zft zPP 11 k))) 11 ((G + i : Nat) : Int) kk = kk (G + i) := fun kk => zob_n (by rw [zN_new1, m11]; exact Nat.lt_succ_self _)
      have N := fun c => hGi_N (h := h) (gn := G + i) (Q := Q) (c := c) (b := ((4 * i : Nat) : Int))
      have g37 : Q < zhN (hrw (hGi h (G + i) Q ((4 * i : Nat) : Int)) 42 (G + i) (zgk m T (4 * i) 4)) 37 := by
        show Q < zhN (hGi h (G + i) Q ((4 * i : Nat) : Int)) 37
        rw [N, if_neg (by decide)]
        exact q37
      have gl37 : zhL (hrw (hGi h (G + i) Q ((4 * i : Nat) : Int)) 42 (G + i) (zgk m T (4 * i) 4)) 37 Q = nG := by
        show zhL (hGi h (G + i) Q ((4 * i : Nat) : Int)) 37 Q = nG
        rw [(hGi_D (h := h) (gn := G + i) (Q := Q) (b := ((4 * i : Nat) : Int)) (c := 37) (p := Q) (j := 0) m11 m42 m43 m44 (fun z => absurd z.1 (by decide)) (fun z => absurd z.1 (by decide)) (fun z => absurd z.1 (by decide)) (fun z => absurd z.1 (by decide))).2]
        exact l37
      have g11 : G + i < zhN (hrw (hGi h (G + i) Q ((4 * i : Nat) : Int)) 42 (G + i) (zgk m T (4 * i) 4)) 11 := by
        show G + i < zhN (hGi h (G + i) Q ((4 * i : Nat) : Int)) 11
        rw [N, if_pos (by decide), m11]
        exact Nat.lt_succ_self _
      rw [zit_s, ← z1 kr]
      generalize zit (fun _ _ _ _ => none) (Bl_nextOf_15b kr) f = r2
      unfold Bl_nextOf_15b
      rw [zob_n q10, b2 3 (by decide) (by decide), zob_n q37, l37, if_pos hlt, zob_n q10, zlet_d, m11, e11, wr_4 i1000, x_grInit m11 m42 m43 m44 q10 q36 (b2 2 (by decide) (by decide)) l36 t16 b16 (fun t ht => (xt t ht).1) mT6]
      rw [b2 3 (by decide) (by decide), zob_n g37, gl37, zix_n h4, zorn_n g11, zlet_d, wr_s i9]
      rfl
    · have hT : i = nG := by omega
      subst hT
      have l9 : l < zhN h 9 := by rw [nn 9 (by decide) (by decide) (by decide) (by omega) (by decide)]; exact hl
      refine ⟨h, fun kr => ?_, x⟩
      rw [zit_s]
      unfold Bl_nextOf_15b
      rw [zob_n q10, b2 3 (by decide) (by decide), zob_n q37, l37, if_neg (Int.lt_irrefl _), zob_n l9, zob_n l9, (x1 9 l rfl).1, hgv, wr_id (x := gv + 1) (by omega) (by omega), zlet_d]
theorem hBi_BT (n10 : zhN h 10 = Q) (n36 : zhN h 36 = Q) (n39 : zhN h 39 = Q) (n6 : zhN h 6 = m) (n32 : zhN h 32 = m) (t16 : T ≤ 16) : BT h (hBi h Q l T a) Q m G l T R a st 0 := by
  have m39 : zhN (znew h 10 0 (znf zPP 10) (fun k => zdef (zft zPP 10 k))) 39 = Q := by rw [zN_newne (by decide)]; exact n39
  have m36 : zhN (zset (zset (zset (znew (znew h 10 0 (znf zPP 10) (fun k => zdef (zft zPP 10 k))) 39 64 64 (fun _ => 0)) 10 Q 5 (Q : Int)) 10 Q 0 (l : Int)) 10 Q 1 a) 36 = Q := by rw [zN_set, zN_set, zN_set, zN_newne (by decide), zN_newne (by decide)]; exact n36
  have f10 : zold Q m G 10 Q = false := blt_f (Nat.le_refl _)
  have f36 : zold Q m G 36 Q = false := blt_f (Nat.le_refl _)
  have f39 : zold Q m G 39 Q = false := blt_f (Nat.le_refl _)
  refine ⟨?_, ⟨?_, ?_, ?_, ?_, ?_, fun c c1 c2 c3 c4 c5 => ?_⟩, ⟨?_, ?_, ?_, ?_, ?_, ?_, fun c => ?_⟩, fun t ht => absurd ht (Nat.not_lt_zero _), rfl, ?_⟩
  · exact (((((((FE.rf (h := h)).new (by rw [n10]; exact f10)).new (by rw [m39]; exact f39)).set f10).set f10).set f10).new (by rw [m36]; exact f36)).set f10
  · unfold hBi
    rw [zN_set, zN_newne (by decide), zN_set, zN_set, zN_set, zN_newne (by decide), zN_newne (by decide)]; omega
  · unfold hBi
    rw [zN_set, zN_newne (by decide), zN_set, zN_set, zN_set, zN_newne (by decide), zN_newne (by decide)]; omega
  · unfold hBi
    rw [zN_set, zN_newne (by decide), zN_set, zN_set, zN_set, zN_newne (by decide), zN_new1, n10]
  · unfold hBi
    rw [zN_set, zN_new1, m36]
  · unfold hBi
    rw [zN_set, zN_newne (by decide), zN_set, zN_set, zN_set, zN_new1, m39]
  · unfold hBi
    rw [zN_set, zN_newne c4, zN_set, zN_set, zN_set, zN_newne c5, zN_newne c3]
  · unfold hBi
    simp [zD_set, zD_new]
  · unfold hBi
    simp [zD_set, zD_new]
  · unfold hBi
    simp [zD_set, zD_new]
  · unfold hBi
    simp [zD_set, zD_new]
  · unfold hBi
    rw [zL_set, zL_new, m36, if_pos ⟨rfl, rfl⟩]
  · unfold hBi
    rw [zL_set, zL_newne (by decide), zL_set, zL_set, zL_set, zL_new, m39, if_pos ⟨rfl, rfl⟩]
  · unfold hBi
    rw [zD_ne (by decide), zD_newne (by decide), zD_ne (by decide), zD_ne (by decide), zD_ne (by decide), zD_new, m39, if_pos ⟨rfl, rfl⟩]
  · show zhS h + 8 + 64 + T ≤ zhS h + 100 + 20 * 0
    omega
theorem x_nextOf {k : Nat} (y : LKF h l k T R S len) (t1 : 1 ≤ T) (t2 : T ≤ 16) (r8 : R ≤ 8) (s16 : S ≤ 16) (hnG : Int.tdiv ((T : Int) + 3) 4 = (nG : Int)) (n10 : ∀ c, c = 10 ∨ (36 ≤ c ∧ c ≤ 41) → zhN h c = Q) (n6 : zhN h 6 = m) (n32 : zhN h 32 = m) (n11 : ∀ c, c = 11 ∨ (42 ≤ c ∧ c ≤ 44) → zhN h c = G) (hgv : zhD h 9 l 8 = a) (w8 : 0 ≤ a ∧ a < 1000) : ∃ h' : zH, (∀ kr : Int → zH → Option ρ, Bl_nextOf (l : Int) h kr = kr (Q : Int) (zset h' 9 l 8 (a + 1))) ∧ GT h h' Q m G l T R S nG a (if 0 < len then 114 else 101) nG := by
  have m10 := n10 10 (by decide)
  have m36 := n10 36 (by decide)
  have m39 := n10 39 (by decide)
  obtain ⟨h1, z1, z2⟩ := x_bi_loop (ρ := ρ) (a := a) y t1 t2 r8 s16 hnG (n10 37 (by decide)) (n10 38 (by decide)) (n10 40 (by decide)) (n10 41 (by decide)) n11 zN 0 (hBi h Q l T a) (Nat.zero_le _) (by show T - 0 < 5000; omega) (hBi_BT m10 m36 m39 n6 n32 t2)
  have t1' : (1 : Int) ≤ (T : Int) := by omega
  have t2' : (T : Int) ≤ 16 := by omega
  obtain ⟨-, -, gg⟩ := zgroups t1' t2'
  rw [hnG] at gg
  have g4 : nG ≤ 4 := by omega
  obtain ⟨h2, z3, z4⟩ := x_nx_loop (ρ := ρ) t2 g4 y.1 hgv w8 zN 0 h1 (Nat.zero_le _) (by show nG - 0 < 5000; omega) z2
  refine ⟨h2, fun kr => ?_, z4⟩
  have l9 := y.1
  have T9 : T < 100000 := by omega
  have zT : ∀ kk : Nat → Option ρ, zix 100000 (T : Int) kk = kk T := fun kk => zix_n T9
  have z64 : ∀ kk : Nat → Option ρ, zix 100000 64 kk = kk 64 := fun kk => zix_n (i := 64) (by decide)
  have e10 : ∀ kk : Nat → Option ρ, zob (znew h 10 0 (znf zPP 10) (fun k => zdef (zft zPP 10 k))) 10 (Q : Int) kk = kk Q := fun kk => zob_n (by rw [zN_new1, m10]; exact Nat.lt_succ_self _)
  have e9 : ∀ kk : Nat → Option ρ, zob h 9 (l : Int) kk = kk l := fun kk => zob_n l9
  have y4 := y.2.2.2.1
  have bi : ∀ kr : Int → zH → Option ρ, Bl_init (Q : Int) (l : Int) a (znew h 10 0 (znf zPP 10) (fun k => zdef (zft zPP 10 k))) kr = kr 0 h1 := fun kr => by
    refine Eq.trans ?_ (z1 kr)
    unfold Bl_init
    simp only [zlet_d, z64, zT, e10, e9, zob_set, zob_newne (show 10 ≠ 39 by decide), zob_newne (show 10 ≠ 36 by decide), zob_newne (show 9 ≠ 39 by decide), zob_newne (show 9 ≠ 10 by decide), zD_ne (show 9 ≠ 10 by decide), zD_newne (show 9 ≠ 39 by decide), zD_newne (show 9 ≠ 10 by decide), y4, zN_set, zN_newne (show 39 ≠ 10 by decide), zN_newne (show 36 ≠ 39 by decide), zN_newne (show 36 ≠ 10 by decide), m39, m36]
    rfl
  unfold Bl_nextOf
  rw [zlet_d, zob_newne (show 9 ≠ 10 by decide), e9, m10, e10, zD_newne (show 9 ≠ 10 by decide), hgv, bi]
  exact z3 kr
end
