/-! THE UNIT TAKES A BLOCK: the class; the model gives a block -/
def ztk (r : Nat → Int) (m0 G i : Nat) : Nat → Int := fun j => if m0 ≤ j ∧ j < m0 + i then ((G + (j - m0) : Nat) : Int) else r j
def hTk (h : zH) (u m0 G i : Nat) : zH := zset (hrw h 26 u (ztk (zhD h 26 u) m0 G i)) 3 u 2 ((m0 + i : Nat) : Int)
section
variable {ρ : Type} {h h0 g : zH} {A B : zA} {kr : Int → zH → Option ρ} {K L n : Nat} {bc tc gc : Nat → Nat} {N M : Int} {Q m G l T R S nG k u m0 kn b : Nat} {a st len : Int}
theorem ztk_s {r : Nat → Int} {i : Nat} : zup (ztk r m0 G i) (m0 + i) ((G + i : Nat) : Int) = ztk r m0 G (i + 1) := by
  funext j
  unfold zup ztk
  by_cases hj : j = m0 + i
  · subst hj
    rw [if_pos rfl, if_pos ⟨by omega, by omega⟩, show m0 + i - m0 = i by omega]
  · rw [if_neg hj]
    by_cases h1 : m0 ≤ j ∧ j < m0 + i
    · rw [if_pos h1, if_pos ⟨h1.1, by omega⟩]
    · rw [if_neg h1, if_neg (fun z => h1 ⟨z.1, by omega⟩)]
theorem hTk_s {i : Nat} : zset (zset (hTk h u m0 G i) 26 u (m0 + i) ((G + i : Nat) : Int)) 3 u 2 ((m0 + (i + 1) : Nat) : Int) = hTk h u m0 G (i + 1) := by
  unfold hTk
  rw [← ztk_s]
  refine congrArg (fun f => (h.1, h.2.1, f, h.2.2.2)) (funext fun c' => funext fun p' => funext fun j' => ?_)
  show (if c' = 3 ∧ p' = u ∧ j' = 2 then ((m0 + (i + 1) : Nat) : Int) else if c' = 26 ∧ p' = u ∧ j' = m0 + i then ((G + i : Nat) : Int) else if c' = 3 ∧ p' = u ∧ j' = 2 then ((m0 + i : Nat) : Int) else if c' = 26 ∧ p' = u then ztk (zhD h 26 u) m0 G i j' else h.2.2.1 c' p' j') = (if c' = 3 ∧ p' = u ∧ j' = 2 then ((m0 + (i + 1) : Nat) : Int) else if c' = 26 ∧ p' = u then (if j' = m0 + i then ((G + i : Nat) : Int) else ztk (zhD h 26 u) m0 G i j') else h.2.2.1 c' p' j')
  by_cases h1 : c' = 3 ∧ p' = u ∧ j' = 2
  · rw [if_pos h1, if_pos h1]
  · rw [if_neg h1, if_neg h1, if_neg h1]
    by_cases h2 : c' = 26 ∧ p' = u
    · by_cases h3 : j' = m0 + i
      · rw [if_pos ⟨h2.1, h2.2, h3⟩, if_pos h2, if_pos h3]
      · rw [if_neg (fun z => h3 z.2.2), if_pos h2, if_pos h2, if_neg h3]
    · rw [if_neg (fun z => h2 ⟨z.1, z.2.1⟩), if_neg h2, if_neg h2]
theorem hTk_0 (e : zhD h 3 u 2 = (m0 : Int)) : hTk h u m0 G 0 = h := by
  have r : ztk (zhD h 26 u) m0 G 0 = zhD h 26 u := funext fun j => if_neg (fun z => by omega)
  unfold hTk
  rw [r, hrw_id]
  obtain ⟨a, b, f, d⟩ := h
  refine congrArg (fun f => (a, b, f, d)) (funext fun c' => funext fun p' => funext fun j' => ?_)
  show (if c' = 3 ∧ p' = u ∧ j' = 2 then ((m0 + 0 : Nat) : Int) else f c' p' j') = f c' p' j'
  by_cases h1 : c' = 3 ∧ p' = u ∧ j' = 2
  · rw [if_pos h1, h1.1, h1.2.1, h1.2.2]
    exact e.symm
  · rw [if_neg h1]
theorem hTk_D {i c p j : Nat} : zhD (hTk h u m0 G i) c p j = if c = 3 ∧ p = u ∧ j = 2 then ((m0 + i : Nat) : Int) else if c = 26 ∧ p = u then ztk (zhD h 26 u) m0 G i j else zhD h c p j := rfl
theorem hTk_N {i : Nat} : zhN (hTk h u m0 G i) = zhN h ∧ zhL (hTk h u m0 G i) = zhL h ∧ zhC (hTk h u m0 G i) = zhC h ∧ zhS (hTk h u m0 G i) = zhS h := ⟨rfl, rfl, rfl, rfl⟩
theorem x_tk_loop (hu : u < zhN h 3) (e0 : zhD h 3 u 0 = (u : Int)) (u26 : u < zhN h 26) (l26 : zhL h 26 u = 4) (q10 : Q < zhN h 10) (d3 : zhD h 10 Q 3 = (Q : Int)) (q37 : Q < zhN h 37) (l37 : zhL h 37 Q = nG) (hg : ∀ g, g < nG → zhD h 37 Q g = ((G + g : Nat) : Int)) (h11 : G + nG ≤ zhN h 11) (hm : m0 + nG ≤ 4) : ∀ f i : Nat, i ≤ nG → nG - i < f → zit (fun _ _ _ _ => none) (Un_take_2b kr) f (u : Int) (Q : Int) (i : Int) (hTk h u m0 G i) = kr 0 (hTk h u m0 G nG)
  | 0, _, _, hf => absurd hf (Nat.not_lt_zero _)
  | f + 1, i, hi, hf => by
    rw [zit_s]
    have p3 : u < zhN (hTk h u m0 G i) 3 := hu
    have p26 : u < zhN (hTk h u m0 G i) 26 := u26
    have pl : zhL (hTk h u m0 G i) 26 u = 4 := l26
    have p10 : Q < zhN (hTk h u m0 G i) 10 := q10
    have p37 : Q < zhN (hTk h u m0 G i) 37 := q37
    have pl7 : zhL (hTk h u m0 G i) 37 Q = nG := l37
    have f0 : zhD (hTk h u m0 G i) 3 u 0 = (u : Int) := by rw [hTk_D, if_neg (fun z => absurd z.2.2 (by decide)), if_neg (fun z => absurd z.1 (by decide))]; exact e0
    have f2 : zhD (hTk h u m0 G i) 3 u 2 = ((m0 + i : Nat) : Int) := by rw [hTk_D, if_pos ⟨rfl, rfl, rfl⟩]
    have f3 : zhD (hTk h u m0 G i) 10 Q 3 = (Q : Int) := by rw [hTk_D, if_neg (fun z => absurd z.1 (by decide)), if_neg (fun z => absurd z.1 (by decide))]; exact d3
    by_cases h4 : i < nG
    · have ih := x_tk_loop hu e0 u26 l26 q10 d3 q37 l37 hg h11 hm f (i + 1) h4 (by omega)
      have hlt : (i : Int) < (nG : Int) := by omega
      have hm4 : ((m0 + i : Nat) : Int) < ((4 : Nat) : Int) := by omega
      have i4 : m0 + i < 4 := by omega
      have i9 : i < 100000 := by omega
      have m9 : m0 + i < 100000 := by omega
      have g11 : G + i < zhN (hTk h u m0 G i) 11 := by
        show G + i < zhN h 11
        omega
      have fg : zhD (hTk h u m0 G i) 37 Q i = ((G + i : Nat) : Int) := by rw [hTk_D, if_neg (fun z => absurd z.1 (by decide)), if_neg (fun z => absurd z.1 (by decide))]; exact hg i h4
      have k3 : u < zhN (zset (hTk h u m0 G i) 26 u (m0 + i) ((G + i : Nat) : Int)) 3 := hu
      have k2 : zhD (zset (hTk h u m0 G i) 26 u (m0 + i) ((G + i : Nat) : Int)) 3 u 2 = ((m0 + i : Nat) : Int) := by rw [zD_ne (by decide)]; exact f2
      generalize zit (fun _ _ _ _ => none) (Un_take_2b kr) f = r2 at ih ⊢
      unfold Un_take_2b
      rw [zob_n p10, f3, zob_n p37, pl7, if_pos hlt, zob_n p3, zob_n p3, f0, zob_n p26, f2, pl, if_pos hm4, zob_n p3, zob_n p3, zob_n p10, f3, zob_n p37, pl7, zix_n h4, f0, zob_n p26, pl, f2, zix_n i4, fg, zorn_n g11, zlet_d, zob_n k3, zob_n k3, k2, wr_s m9, zlet_d, wr_s i9]
      rw [show m0 + i + 1 = m0 + (i + 1) by omega, hTk_s]
      exact ih
    · have : i = nG := by omega
      subst this
      unfold Un_take_2b Un_take_54
      rw [zob_n p10, f3, zob_n p37, pl7, if_neg (Int.lt_irrefl _)]
/-- the heap with a block more -/
def HW (h H : zH) (l u Q m G T R S nG kn m0 : Nat) (st : Int) : Prop :=
  (∀ c p, zold Q m G c p = true → (c ≠ 9 → c ≠ 3 → c ≠ 26 → zhD H c p = zhD h c p) ∧ zhL H c p = zhL h c p) ∧
  ((∀ p j, zhD H 9 p j = if p = l ∧ j = 8 then (kn : Int) + 1 else zhD h 9 p j) ∧ (∀ p j, zhD H 3 p j = if p = u ∧ j = 2 then ((m0 + nG : Nat) : Int) else zhD h 3 p j) ∧ (∀ p j, zhD H 26 p j = if p = u ∧ (m0 ≤ j ∧ j < m0 + nG) then ((G + (j - m0) : Nat) : Int) else zhD h 26 p j)) ∧
  (zhN H 6 = m + T ∧ zhN H 32 = m + T ∧ (∀ c, c = 10 ∨ (36 ≤ c ∧ c ≤ 41) → zhN H c = Q + 1) ∧ (∀ c, c = 11 ∨ (42 ≤ c ∧ c ≤ 44) → zhN H c = G + nG) ∧ ∀ c, c ≠ 6 → c ≠ 32 → c ≠ 10 → ¬ (36 ≤ c ∧ c ≤ 44) → c ≠ 11 → zhN H c = zhN h c) ∧
  (zhD H 10 Q 0 = (l : Int) ∧ zhD H 10 Q 1 = (kn : Int) ∧ (∀ j, 2 ≤ j → j ≤ 7 → zhD H 10 Q j = (Q : Int)) ∧ zhL H 36 Q = T ∧ zhL H 37 Q = nG ∧ zhL H 38 Q = S ∧ zhL H 39 Q = 64 ∧ zhL H 40 Q = S ∧ zhL H 41 Q = S ∧ ∀ c, zhD H 38 Q c = 0 ∧ zhD H 39 Q c = 0 ∧ zhD H 40 Q c = 0 ∧ zhD H 41 Q c = 0) ∧
  (∀ t, t < T → zhD H 36 Q t = ((m + t : Nat) : Int) ∧ zhD H 6 (m + t) 0 = (t : Int) ∧ zhD H 6 (m + t) 1 = ((m + t : Nat) : Int) ∧ zhD H 6 (m + t) 2 = (kn : Int) ∧ zhD H 6 (m + t) 3 = 0 ∧ zhD H 6 (m + t) 4 = st ∧ zhL H 32 (m + t) = R ∧ ∀ r, r < R → zhD H 32 (m + t) r = 0) ∧
  (∀ g, g < nG → zhD H 37 Q g = ((G + g : Nat) : Int) ∧ zhD H 11 (G + g) 0 = (Q : Int) ∧ zhD H 11 (G + g) 1 = ((4 * g : Nat) : Int) ∧ (∀ j, 2 ≤ j → j ≤ 4 → zhD H 11 (G + g) j = ((G + g : Nat) : Int)) ∧ zhD H 11 (G + g) 5 = 0 ∧ zhD H 11 (G + g) 6 = 0 ∧ zhL H 42 (G + g) = 4 ∧ zhL H 43 (G + g) = 4 ∧ zhL H 44 (G + g) = 4 ∧ ∀ k, k < 4 → zhD H 42 (G + g) k = if 4 * g + k < T then ((m + (4 * g + k) : Nat) : Int) else -1) ∧
  zhC H = zhC h + 7 + 2 * T + 4 * nG ∧ zhS H ≤ zhS h + 160 + 20 * T + 20 * nG
theorem GT.hw {h' : zH} (x : GT h h' Q m G l T R S nG (kn : Int) st nG) : HW h (hTk (zset h' 9 l 8 ((kn : Int) + 1)) u m0 G nG) l u Q m G T R S nG kn m0 st := by
  obtain ⟨x1, x2, x3, x4, x5, x6, x7⟩ := x
  have D : ∀ c p j, c ≠ 9 → c ≠ 3 → c ≠ 26 → zhD (hTk (zset h' 9 l 8 ((kn : Int) + 1)) u m0 G nG) c p j = zhD h' c p j := fun c p j h1 h2 h3 => by rw [hTk_D, if_neg (fun z => h2 z.1), if_neg (fun z => h3 z.1), zD_ne h1]
  have D9 : ∀ p j, zhD (hTk (zset h' 9 l 8 ((kn : Int) + 1)) u m0 G nG) 9 p j = if p = l ∧ j = 8 then (kn : Int) + 1 else zhD h' 9 p j := fun p j => by
    rw [hTk_D, if_neg (fun z => absurd z.1 (by decide)), if_neg (fun z => absurd z.1 (by decide)), zD_set]
    simp
  have D3 : ∀ p j, zhD (hTk (zset h' 9 l 8 ((kn : Int) + 1)) u m0 G nG) 3 p j = if p = u ∧ j = 2 then ((m0 + nG : Nat) : Int) else zhD h' 3 p j := fun p j => by
    rw [hTk_D, if_neg (c := 3 = 26 ∧ p = u) (fun z => absurd z.1 (by decide)), zD_ne (by decide)]
    simp
  have D26 : ∀ p j, zhD (hTk (zset h' 9 l 8 ((kn : Int) + 1)) u m0 G nG) 26 p j = if p = u ∧ (m0 ≤ j ∧ j < m0 + nG) then ((G + (j - m0) : Nat) : Int) else zhD h' 26 p j := fun p j => by
    rw [hTk_D, if_neg (fun z => absurd z.1 (by decide)), zD_ne (by decide)]
    by_cases hp : p = u
    · rw [if_pos ⟨rfl, hp⟩]
      unfold ztk
      by_cases hj : m0 ≤ j ∧ j < m0 + nG
      · rw [if_pos hj, if_pos ⟨hp, hj⟩]
      · rw [if_neg hj, if_neg (fun z => hj z.2), hp]
    · rw [if_neg (fun z => hp z.2), if_neg (fun z => hp z.1)]
  have hN : zhN (hTk (zset h' 9 l 8 ((kn : Int) + 1)) u m0 G nG) = zhN h' := rfl
  have hL : zhL (hTk (zset h' 9 l 8 ((kn : Int) + 1)) u m0 G nG) = zhL h' := rfl
  have hC : zhC (hTk (zset h' 9 l 8 ((kn : Int) + 1)) u m0 G nG) = zhC h' := rfl
  have hS : zhS (hTk (zset h' 9 l 8 ((kn : Int) + 1)) u m0 G nG) = zhS h' := rfl
  generalize hTk (zset h' 9 l 8 ((kn : Int) + 1)) u m0 G nG = H at *
  refine ⟨fun c p hz => ⟨fun c1 c2 c3 => ?_, ?_⟩, ⟨fun p j => ?_, fun p j => ?_, fun p j => ?_⟩, by rw [hN]; exact x2, ?_, fun t ht => ?_, fun g hg => ?_, by rw [hC]; exact x6, by rw [hS]; exact x7⟩
  · rw [← (x1 c p hz).1]
    exact funext fun j => D c p j c1 c2 c3
  · rw [hL]
    exact (x1 c p hz).2
  · rw [D9, (x1 9 p rfl).1]
  · rw [D3, (x1 3 p rfl).1]
  · rw [D26, (x1 26 p rfl).1]
  · rw [hL]
    simp only [D 10 _ _ (by decide) (by decide) (by decide), D 38 _ _ (by decide) (by decide) (by decide), D 39 _ _ (by decide) (by decide) (by decide), D 40 _ _ (by decide) (by decide) (by decide), D 41 _ _ (by decide) (by decide) (by decide)]
    exact x3
  · rw [hL]
    simp only [D 36 _ _ (by decide) (by decide) (by decide), D 6 _ _ (by decide) (by decide) (by decide), D 32 _ _ (by decide) (by decide) (by decide)]
    exact x4 t ht
  · rw [hL]
    simp only [D 37 _ _ (by decide) (by decide) (by decide), D 11 _ _ (by decide) (by decide) (by decide), D 42 _ _ (by decide) (by decide) (by decide)]
    exact x5 g hg
/-- the class gives a block -/
theorem x_give (q : RR A h K L bc tc gc n B N M) (hl : l < L) (hk : A 70 l = (k : Int)) (hT : A 73 l = (T : Int)) (hR : A 61 k = (R : Int)) (hS : A 62 k = (S : Int)) (hkn : A 78 l = (kn : Int)) (hG : Int.tdiv ((T : Int) + 3) 4 = (nG : Int)) (hu : u < 2) (h93 : A 93 u = (m0 : Int)) (hm : m0 + nG ≤ 4) : ∃ H : zH, (∀ kr : Int → zH → Option ρ, Co_give 0 (u : Int) (l : Int) h kr = Co_endIfEnded 0 (zhN h 10 : Int) H (fun _ h6 => kr 0 h6)) ∧ HW h H l u (zhN h 10) (zhN h 6) (zhN h 11) T R S nG kn m0 (if 0 < A 63 k then 114 else 101) := by
  have h70 : A 70 l ≠ -1 := by omega
  obtain ⟨k9, k1, k2, ⟨k3, k4, k5, k6⟩, ⟨t1, t2, t3, t4, t5, t6, t7⟩, ⟨r1, r2, r3, r4, r5, r6⟩, ⟨f1, f2, f3, f4, f5⟩, ⟨g1, g2, g3⟩⟩ := q.lnk hl h70
  have : k9 = k := by omega
  subst this
  obtain ⟨⟨-, -⟩, -, ⟨n32, -⟩, ⟨n36, n37, n38, n39, n40, n41, -⟩, ⟨n42, n43, n44, -⟩⟩ := q.rd
  have y : LKF h l k9 T R S (A 63 k9) := ⟨k4, k3, f1, by rw [f3, hT], by rw [g1, hR], by rw [g2, hS], g3⟩
  obtain ⟨h', z1, z2⟩ := x_nextOf (ρ := ρ) (m := zhN h 6) (G := zhN h 11) (Q := zhN h 10) (nG := nG) (a := (kn : Int)) y (by omega) (by omega) (by omega) (by omega) hG (fun c hc => by
    rcases hc with rfl | hc
    · rfl
    · rcases (show c = 36 ∨ c = 37 ∨ c = 38 ∨ c = 39 ∨ c = 40 ∨ c = 41 by omega) with rfl | rfl | rfl | rfl | rfl | rfl
      · exact n36
      · exact n37
      · exact n38
      · exact n39
      · exact n40
      · exact n41) rfl n32 (fun c hc => by
    rcases hc with rfl | hc
    · rfl
    · rcases (show c = 42 ∨ c = 43 ∨ c = 44 by omega) with rfl | rfl | rfl
      · exact n42
      · exact n43
      · exact n44) (by rw [f4, hkn]) (by omega)
  obtain ⟨u1, u2, u3, u4, u5, -⟩ := q.rs.u0 hu
  have un := (q.un hu).2.2
  have z2' := z2
  obtain ⟨x1, ⟨v6, v32, v10, v11, vn⟩, ⟨b0, b1, b2, l36, l37, -⟩, -, xg, -⟩ := z2'
  refine ⟨hTk (zset h' 9 l 8 ((kn : Int) + 1)) u m0 (zhN h 11) nG, fun kr => ?_, z2.hw⟩
  have w3 : u < zhN (zset h' 9 l 8 ((kn : Int) + 1)) 3 := by rw [zN_set, vn 3 (by decide) (by decide) (by decide) (by omega) (by decide)]; exact u1
  have w26 : u < zhN (zset h' 9 l 8 ((kn : Int) + 1)) 26 := by rw [zN_set, vn 26 (by decide) (by decide) (by decide) (by omega) (by decide)]; exact u4
  have w10 : zhN h 10 < zhN (zset h' 9 l 8 ((kn : Int) + 1)) 10 := by rw [zN_set, v10 10 (by decide)]; exact Nat.lt_succ_self _
  have w37 : zhN h 10 < zhN (zset h' 9 l 8 ((kn : Int) + 1)) 37 := by rw [zN_set, v10 37 (by decide)]; exact Nat.lt_succ_self _
  have w2 : 0 < zhN (hTk (zset h' 9 l 8 ((kn : Int) + 1)) u m0 (zhN h 11) nG) 2 := by
    show 0 < zhN h' 2
    rw [vn 2 (by decide) (by decide) (by decide) (by omega) (by decide), q.rs.N2]
    decide
  have c3 : zhD (zset h' 9 l 8 ((kn : Int) + 1)) 3 u 2 = (m0 : Int) := by rw [zD_ne (by decide), (x1 3 u rfl).1, un, h93]
  have lp : ∀ kr : Int → zH → Option ρ, Un_take (u : Int) (zhN h 10 : Int) (zset h' 9 l 8 ((kn : Int) + 1)) kr = kr 0 (hTk (zset h' 9 l 8 ((kn : Int) + 1)) u m0 (zhN h 11) nG) := fun kr => by
    have := x_tk_loop (kr := kr) (h := zset h' 9 l 8 ((kn : Int) + 1)) (u := u) (m0 := m0) (G := zhN h 11) (Q := zhN h 10) (nG := nG) w3 (by rw [zD_ne (by decide), (x1 3 u rfl).1]; exact u2) w26 (by rw [zL_set, (x1 26 u rfl).2]; exact u5) w10 (by rw [zD_ne (by decide)]; exact b2 3 (by decide) (by decide)) w37 l37 (fun g hg => by rw [zD_ne (by decide)]; exact (xg g hg).1) (by rw [zN_set, v11 11 (by decide)]; exact Nat.le_refl _) hm zN 0 (Nat.zero_le _) (by show nG - 0 < 5000; omega)
    rw [hTk_0 c3] at this
    exact this
  unfold Co_give
  rw [z1, zob_n w3, lp]
  have w2' : ∀ kk : Nat → Option ρ, zob (hTk (zset h' 9 l 8 ((kn : Int) + 1)) u m0 (zhN h 11) nG) 2 0 kk = kk 0 := fun kk => zob_n (i := 0) w2
  rw [w2']
end
