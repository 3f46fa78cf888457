/-! A BLOCK IS GIVEN: the relation, its first parts -/
def nbc (b Q : Nat) (bc : Nat → Nat) : Nat → Nat := fun x => if x = b then Q else bc x
def ntc (b m : Nat) (tc : Nat → Nat) : Nat → Nat := fun x => if x / 16 = b then m + x % 16 else tc x
def ngc (b G : Nat) (gc : Nat → Nat) : Nat → Nat := fun x => if x / 4 = b then G + x % 4 else gc x
theorem nbc_n {b Q : Nat} {bc : Nat → Nat} : nbc b Q bc b = Q := if_pos rfl
theorem nbc_o {b b2 Q : Nat} {bc : Nat → Nat} (hb : b2 ≠ b) : nbc b Q bc b2 = bc b2 := if_neg hb
theorem ntc_n {b m t : Nat} {tc : Nat → Nat} (ht : t < 16) : ntc b m tc (16 * b + t) = m + t := by
  unfold ntc
  rw [if_pos (by omega)]
  omega
theorem ntc_o {b b2 m t : Nat} {tc : Nat → Nat} (hb : b2 ≠ b) (ht : t < 16) : ntc b m tc (16 * b2 + t) = tc (16 * b2 + t) := if_neg (by omega)
theorem ngc_n {b G t : Nat} {gc : Nat → Nat} (ht : t < 4) : ngc b G gc (4 * b + t) = G + t := by
  unfold ngc
  rw [if_pos (by omega)]
  omega
theorem ngc_o {b b2 G t : Nat} {gc : Nat → Nat} (hb : b2 ≠ b) (ht : t < 4) : ngc b G gc (4 * b2 + t) = gc (4 * b2 + t) := if_neg (by omega)
def GS (A : zA) (L l k T R S nG u m0 kn : Nat) (st : Int) : Prop := (l < L ∧ A 70 l = (k : Int) ∧ A 73 l = (T : Int) ∧ A 61 k = (R : Int) ∧ A 62 k = (S : Int) ∧ A 78 l = (kn : Int)) ∧ (Int.tdiv ((T : Int) + 3) 4 = (nG : Int) ∧ u < 2 ∧ A 93 u = (m0 : Int) ∧ m0 + nG ≤ 4) ∧ A 69 l = 114 ∧ (kn : Int) < A 72 l ∧ (zsrm A u 72 + A 73 l * A 61 k ≤ 64 ∧ zssm A u 72 + A 62 k ≤ 32) ∧ st = if 0 < A 63 k then 114 else 101
section
variable {ρ : Type} {h H : zH} {A A' B : zA} {K L n : Nat} {bc tc gc : Nat → Nat} {N M : Int} {l k T R S nG u m0 kn : Nat} {st : Int} {Q m G : Nat}
theorem gs_f (q : RR A h K L bc tc gc n B N M) (c : GS A L l k T R S nG u m0 kn st) : (k < K ∧ k < 4 ∧ l < 12 ∧ kn < 6 ∧ 1 ≤ T ∧ T ≤ 16 ∧ 1 ≤ R ∧ R ≤ 8 ∧ S ≤ 16 ∧ 0 ≤ A 63 k ∧ A 63 k ≤ 40 ∧ 1 ≤ nG ∧ nG ≤ 4 ∧ A 70 l ≠ -1) ∧ (∀ g : Nat, 4 * g < T ↔ g < nG) ∧ (A 87 (6 * l + kn) = 0 ∧ (6 * l + kn) / 6 = l ∧ (6 * l + kn) % 6 = kn ∧ 6 * l + kn < 72) := by
  obtain ⟨⟨c1, c2, c3, c4, c5, c6⟩, ⟨c7, c8, c9, c10⟩, c11, c12, -⟩ := c
  have h70 : A 70 l ≠ -1 := by omega
  obtain ⟨k9, k1, k2, ⟨k3, k4, k5, k6⟩, ⟨t1, t2, t3, t4, t5, t6, t7⟩, ⟨r1, r2, r3, r4, r5, r6⟩, -⟩ := q.lnk c1 h70
  have : k9 = k := by omega
  subst this
  have td : Int.tdiv ((T : Int) + 3) 4 = ((T : Int) + 3) / 4 := Int.tdiv_eq_ediv_of_nonneg (by omega)
  rw [td] at c7
  have kn6 : kn < 6 := by omega
  have d6 : (6 * l + kn) / 6 = l := by omega
  have m6 : (6 * l + kn) % 6 = kn := by omega
  have b72 : 6 * l + kn < 72 := by omega
  refine ⟨⟨k1, k5, k6, kn6, by omega, by omega, by omega, by omega, by omega, r5, r6, by omega, by omega, h70⟩, fun g => by omega, ?_, d6, m6, b72⟩
  rcases q.bi.1 _ b72 with z | z
  · exact z
  · have := (q.bi.2.1 _ b72 z).2.2.1
    rw [d6, m6, c6] at this
    omega
/-- the same kernels and launches, with the heap's own fields -/
def hcx (h H : zH) : zH := (h.1, h.2.1, H.2.2)
theorem HW.D (w : HW h H l u Q m G T R S nG kn m0 st) {c : Nat} (hz : ∀ p, zold Q m G c p = true) (h9 : c ≠ 9) (h3 : c ≠ 3) (h26 : c ≠ 26) (p j : Nat) : zhD H c p j = zhD h c p j := by
  rw [(w.1 c p (hz p)).1 h9 h3 h26]
theorem HW.D9 (w : HW h H l u Q m G T R S nG kn m0 st) {p j : Nat} (hj : j ≠ 8 ∨ p ≠ l) : zhD H 9 p j = zhD h 9 p j := by
  rw [w.2.1.1, if_neg (by omega)]
theorem HW.D3 (w : HW h H l u Q m G T R S nG kn m0 st) {p j : Nat} (hj : j ≠ 2 ∨ p ≠ u) : zhD H 3 p j = zhD h 3 p j := by
  rw [w.2.1.2.1, if_neg (by omega)]
theorem HW.cn (w : HW h H l u Q m G T R S nG kn m0 st) {c : Nat} (h6 : c ≠ 6) (h32 : c ≠ 32) (h10 : c ≠ 10) (h36 : ¬ (36 ≤ c ∧ c ≤ 44)) (h11 : c ≠ 11) : zhN H c = zhN h c := w.2.2.1.2.2.2.2 c h6 h32 h10 h36 h11
/-- a row of an old object -/
theorem HW.o (w : HW h H l u Q m G T R S nG kn m0 st) {c p : Nat} (hz : zold Q m G c p = true) (h9 : c ≠ 9) (h3 : c ≠ 3) (h26 : c ≠ 26) (j : Nat) : zhD H c p j = zhD h c p j := by
  rw [(w.1 c p hz).1 h9 h3 h26]
theorem hw_rs (q : RS h) (w : HW h H l u Q m G T R S nG kn m0 st) : RS H := by
  have hN : ∀ c, rsn c = false → zhN H c = zhN h c := fun c hc => by
    refine w.cn ?_ ?_ ?_ (fun z => ?_) ?_
    · exact fun z => by rw [z] at hc; cases hc
    · exact fun z => by rw [z] at hc; cases hc
    · exact fun z => by rw [z] at hc; cases hc
    · rcases (show c = 36 ∨ c = 37 ∨ c = 38 ∨ c = 39 ∨ c = 40 ∨ c = 41 ∨ c = 42 ∨ c = 43 ∨ c = 44 by omega) with rfl | rfl | rfl | rfl | rfl | rfl | rfl | rfl | rfl <;> cases hc
    · exact fun z => by rw [z] at hc; cases hc
  have hL : ∀ c p, zold Q m G c p = true → zhL H c p = zhL h c p := fun c p hz => (w.1 c p hz).2
  have hD : ∀ c p j, rsf c j = true → zhD H c p j = zhD h c p j := fun c p j hc => by
    by_cases h9 : c = 9
    · subst h9
      exact w.D9 (Or.inl (fun z => by rw [z] at hc; cases hc))
    · by_cases h3 : c = 3
      · subst h3
        exact w.D3 (Or.inl (fun z => by rw [z] at hc; cases hc))
      · have nn : c ≠ 26 ∧ ∀ p, zold Q m G c p = true := by
          refine ⟨(fun z => by rw [z] at hc; cases hc), fun p => ?_⟩
          unfold zold
          split
          all_goals first | rfl | (exfalso; cases hc)
        exact w.D nn.2 h9 h3 nn.1 p j
  exact ⟨by rw [hN 0 rfl]; exact q.N0, by rw [hN 1 rfl]; exact q.N1, by rw [hN 20 rfl]; exact q.N20, by rw [hN 21 rfl]; exact q.N21, by rw [hN 2 rfl]; exact q.N2, by rw [hN 22 rfl]; exact q.N22, by rw [hN 23 rfl]; exact q.N23, by rw [hN 24 rfl]; exact q.N24, by rw [hN 25 rfl]; exact q.N25, by rw [hN 3 rfl]; exact q.N3, by rw [hN 26 rfl]; exact q.N26, by rw [hN 27 rfl]; exact q.N27, by rw [hN 4 rfl]; exact q.N4, by rw [hN 5 rfl]; exact q.N5, by rw [hN 28 rfl]; exact q.N28, by rw [hN 29 rfl]; exact q.N29, by rw [hN 30 rfl]; exact q.N30, by rw [hN 31 rfl]; exact q.N31, by rw [hN 51 rfl]; exact q.N51, by rw [hN 52 rfl]; exact q.N52, by rw [hL 20 0 rfl]; exact q.L20_0, by rw [hL 21 0 rfl]; exact q.L21_0, by rw [hL 22 0 rfl]; exact q.L22_0, by rw [hL 23 0 rfl]; exact q.L23_0, by rw [hL 24 0 rfl]; exact q.L24_0, by rw [hL 25 0 rfl]; exact q.L25_0, by rw [hL 26 0 rfl]; exact q.L26_0, by rw [hL 26 1 rfl]; exact q.L26_1, by rw [hL 27 0 rfl]; exact q.L27_0, by rw [hL 27 1 rfl]; exact q.L27_1, by rw [hL 28 0 rfl]; exact q.L28_0, by rw [hL 29 0 rfl]; exact q.L29_0, by rw [hL 30 0 rfl]; exact q.L30_0, by rw [hL 31 0 rfl]; exact q.L31_0, by rw [hL 51 0 rfl]; exact q.L51_0, by rw [hL 52 0 rfl]; exact q.L52_0, (hD 0 0 0 rfl).trans q.D0_0_0, (hD 0 0 1 rfl).trans q.D0_0_1, (hD 0 0 2 rfl).trans q.D0_0_2, (hD 1 0 0 rfl).trans q.D1_0_0, (hD 1 0 1 rfl).trans q.D1_0_1, (hD 2 0 0 rfl).trans q.D2_0_0, (hD 2 0 1 rfl).trans q.D2_0_1, (hD 2 0 2 rfl).trans q.D2_0_2, (hD 2 0 3 rfl).trans q.D2_0_3, (hD 2 0 6 rfl).trans q.D2_0_6, (hD 2 0 7 rfl).trans q.D2_0_7, (hD 23 0 0 rfl).trans q.D23_0_0, (hD 23 0 1 rfl).trans q.D23_0_1, (hD 3 0 0 rfl).trans q.D3_0_0, (hD 3 0 1 rfl).trans q.D3_0_1, (hD 3 1 0 rfl).trans q.D3_1_0, (hD 3 1 1 rfl).trans q.D3_1_1, (hD 5 0 0 rfl).trans q.D5_0_0, (hD 5 0 1 rfl).trans q.D5_0_1, (hD 5 0 2 rfl).trans q.D5_0_2, (hD 5 0 3 rfl).trans q.D5_0_3, fun i hi => (hD 30 0 i rfl).trans (q.T i hi)⟩
theorem hw_rd (q : RD h) (w : HW h H l u (zhN h 10) (zhN h 6) (zhN h 11) T R S nG kn m0 st) : RD H := by
  obtain ⟨⟨a1, a2⟩, ⟨b1, b2, b3⟩, ⟨c1, c2, c3, c4⟩, ⟨d36, d37, d38, d39, d40, d41, d⟩, ⟨e42, e43, e44, e⟩⟩ := q
  have w' := w
  obtain ⟨x1, -, ⟨n6, n32, n10, n11, nn⟩, ⟨y0, y1, y2, l36, l37, l38, l39, l40, l41, -⟩, xt, xg, -⟩ := w'
  refine ⟨⟨?_, fun k hk => ?_⟩, ⟨?_, ?_, fun l2 hl2 => ?_⟩, ⟨by rw [n6, n32], by rw [n6]; omega, fun t ht => ?_, fun t ht => ?_⟩, ⟨by rw [n10 36 (by decide), n10 10 (by decide)], by rw [n10 37 (by decide), n10 10 (by decide)], by rw [n10 38 (by decide), n10 10 (by decide)], by rw [n10 39 (by decide), n10 10 (by decide)], by rw [n10 40 (by decide), n10 10 (by decide)], by rw [n10 41 (by decide), n10 10 (by decide)], fun b hb => ?_⟩, ⟨by rw [n11 42 (by decide), n11 11 (by decide)], by rw [n11 43 (by decide), n11 11 (by decide)], by rw [n11 44 (by decide), n11 11 (by decide)], fun g hg => ?_⟩⟩
  · rw [w.cn (by decide) (by decide) (by decide) (by omega) (by decide), w.cn (by decide) (by decide) (by decide) (by omega) (by decide)]
    exact a1
  · rw [w.cn (by decide) (by decide) (by decide) (by omega) (by decide)] at hk
    rw [w.D (c := 7) (fun _ => rfl) (by decide) (by decide) (by decide), (x1 33 k rfl).2]
    exact a2 k hk
  · rw [w.cn (by decide) (by decide) (by decide) (by omega) (by decide), w.cn (by decide) (by decide) (by decide) (by omega) (by decide)]
    exact b1
  · rw [w.cn (by decide) (by decide) (by decide) (by omega) (by decide), w.cn (by decide) (by decide) (by decide) (by omega) (by decide)]
    exact b2
  · rw [w.cn (by decide) (by decide) (by decide) (by omega) (by decide)] at hl2
    rw [w.D9 (Or.inl (by decide)), w.D9 (Or.inl (by decide)), (x1 34 l2 rfl).2, (x1 35 l2 rfl).2]
    exact b3 l2 hl2
  · rw [n6] at ht
    by_cases h6 : t < zhN h 6
    · rw [w.o (c := 6) (blt_t h6) (by decide) (by decide) (by decide)]
      exact c3 t h6
    · have := (xt (t - zhN h 6) (by omega)).2.2.1
      rw [show zhN h 6 + (t - zhN h 6) = t by omega] at this
      exact this
  · have h6 : t < zhN h 6 := by omega
    rw [(x1 32 t (blt_t h6)).2, w.o (c := 6) (blt_t h6) (by decide) (by decide) (by decide)]
    exact c4 t ht
  · rw [n10 10 (by decide)] at hb
    by_cases hQ : b < zhN h 10
    · rw [w.o (c := 10) (blt_t hQ) (by decide) (by decide) (by decide), w.o (c := 10) (blt_t hQ) (by decide) (by decide) (by decide), w.o (c := 10) (blt_t hQ) (by decide) (by decide) (by decide), w.o (c := 10) (blt_t hQ) (by decide) (by decide) (by decide), w.o (c := 10) (blt_t hQ) (by decide) (by decide) (by decide), w.o (c := 10) (blt_t hQ) (by decide) (by decide) (by decide), (x1 38 b (blt_t hQ)).2, (x1 39 b (blt_t hQ)).2, (x1 40 b (blt_t hQ)).2, (x1 41 b (blt_t hQ)).2]
      exact d b hQ
    · have : b = zhN h 10 := by omega
      subst this
      exact ⟨y2 2 (by decide) (by decide), y2 3 (by decide) (by decide), y2 4 (by decide) (by decide), y2 5 (by decide) (by decide), y2 6 (by decide) (by decide), y2 7 (by decide) (by decide), l39, by rw [l40, l38], by rw [l41, l38]⟩
  · rw [n11 11 (by decide)] at hg
    by_cases hG : g < zhN h 11
    · rw [w.o (c := 11) (blt_t hG) (by decide) (by decide) (by decide), w.o (c := 11) (blt_t hG) (by decide) (by decide) (by decide), w.o (c := 11) (blt_t hG) (by decide) (by decide) (by decide), (x1 42 g (blt_t hG)).2, (x1 43 g (blt_t hG)).2, (x1 44 g (blt_t hG)).2]
      exact e g hG
    · obtain ⟨z1, z2, z3, z4, z5, z6, z7, z8, z9, -⟩ := xg (g - zhN h 11) (by omega)
      rw [show zhN h 11 + (g - zhN h 11) = g by omega] at z4 z7 z8 z9
      exact ⟨z4 2 (by decide) (by decide), z4 3 (by decide) (by decide), z4 4 (by decide) (by decide), z7, z8, z9⟩
theorem hw_rk (q : RK A h K) (w : HW h H l u Q m G T R S nG kn m0 st) (v : MW A A' l u (6 * l + kn) T nG kn m0 st) : RK A' H K := by
  have e : ∀ c, c < 78 → A' c = A c := fun c hc => v.1 c (by omega) (by omega)
  have d : ∀ c, (∀ p, zold Q m G c p = true) → c ≠ 9 → c ≠ 3 → c ≠ 26 → zhD H c = zhD h c := fun c hz h9 h3 h26 => funext fun p => funext fun j => w.D hz h9 h3 h26 p j
  refine q.frame ⟨by rw [e 12 (by decide)], e 61 (by decide), e 62 (by decide), e 63 (by decide), e 64 (by decide), e 65 (by decide), e 66 (by decide), e 67 (by decide), e 68 (by decide)⟩ (w.cn (by decide) (by decide) (by decide) (by omega) (by decide)) ?_ (w.D (c := 1) (fun _ => rfl) (by decide) (by decide) (by decide) _ _) (d 7 (fun _ => rfl) (by decide) (by decide) (by decide)) (fun r _ => by rw [d 8 (fun _ => rfl) (by decide) (by decide) (by decide)]) (d 20 (fun _ => rfl) (by decide) (by decide) (by decide)) (d 33 (fun _ => rfl) (by decide) (by decide) (by decide))
  rw [w.cn (c := 8) (by decide) (by decide) (by decide) (by omega) (by decide)]
  exact Nat.le_refl _
theorem hw_rm (q : RM A h) (w : HW h H l u Q m G T R S nG kn m0 st) (v : MW A A' l u (6 * l + kn) T nG kn m0 st) : RM A' H := by
  have e : ∀ c, c < 78 → A' c = A c := fun c hc => v.1 c (by omega) (by omega)
  have d : ∀ c, (∀ p, zold Q m G c p = true) → c ≠ 9 → c ≠ 3 → c ≠ 26 → zhD H c = zhD h c := fun c hz h9 h3 h26 => funext fun p => funext fun j => w.D hz h9 h3 h26 p j
  exact q.frame (e 60 (by decide)) (fun j _ => by rw [e 12 (by decide)]) (d 22 (fun _ => rfl) (by decide) (by decide) (by decide)) (d 2 (fun _ => rfl) (by decide) (by decide) (by decide)) (d 4 (fun _ => rfl) (by decide) (by decide) (by decide))
theorem hw_rl (q : RR A h K L bc tc gc n B N M) (c : GS A L l k T R S nG u m0 kn st) (w : HW h H l u Q m G T R S nG kn m0 st) (v : MW A A' l u (6 * l + kn) T nG kn m0 st) : RL A' H K L := by
  obtain ⟨⟨f1, f2, f3, f4, f5, f6, f7, f8, f9, f10, f11, f12, f13, f14⟩, -, -⟩ := gs_f q c
  obtain ⟨⟨c1, c2, c3, c4, c5, c6⟩, ⟨c7, c8, c9, c10⟩, c11, c12, -⟩ := c
  have e : ∀ c, c ≠ 78 → c < 86 → A' c = A c := fun c h1 h2 => v.1 c h1 (by omega)
  have e78 := v.2.1.1
  have nl : RLn A' (hcx h H) K l := by
    obtain ⟨b1, b2, b3, b4, b5, b6, b7, b8, b9, b10, b11, b12, b13, b14⟩ := q.rl.l c1
    have D : ∀ j, j ≠ 8 → zhD (hcx h H) 9 l j = zhD h 9 l j := fun j hj => w.D9 (Or.inl hj)
    have D21 : zhD (hcx h H) 21 0 l = zhD h 21 0 l := w.D (c := 21) (fun _ => rfl) (by decide) (by decide) (by decide) _ _
    have D8 : zhD (hcx h H) 9 l 8 = (kn : Int) + 1 := by
      show zhD H 9 l 8 = _
      rw [w.2.1.1, if_pos ⟨rfl, rfl⟩]
    unfold RLn
    rw [D21, D 0 (by decide), D 1 (by decide), D 2 (by decide), D 3 (by decide), D 4 (by decide), D 5 (by decide), D 6 (by decide), D 7 (by decide), D8, D 9 (by decide), D 10 (by decide), D 11 (by decide), D 12 (by decide), D 13 (by decide), D 14 (by decide), D 15 (by decide), e 69 (by decide) (by decide), e 70 (by decide) (by decide), e 71 (by decide) (by decide), e 72 (by decide) (by decide), e 73 (by decide) (by decide), e 74 (by decide) (by decide), e 75 (by decide) (by decide), e 76 (by decide) (by decide), e 77 (by decide) (by decide), e 79 (by decide) (by decide), e 80 (by decide) (by decide), e 81 (by decide) (by decide), e 82 (by decide) (by decide), e 83 (by decide) (by decide), e 84 (by decide) (by decide), e 85 (by decide) (by decide), e 61 (by decide) (by decide), e 62 (by decide) (by decide), e 64 (by decide) (by decide), e78, if_pos rfl]
    refine ⟨b1, b2, b3, b4, b5, b6, b7, ⟨b8.1, b8.2.1, rfl, b8.2.2.2⟩, b9, b10, b11, fun z => ?_, fun z => absurd z f14, b14⟩
    obtain ⟨g1, g2, g3, g4, g5, g6, g7, g8, g9, g10⟩ := b12 z
    exact ⟨g1, g2, g3, g4, g5, g6, g7, by omega, by omega, g10⟩
  have r := RL.one (h' := hcx h H) (A' := A') q.rl c1 (fun c j hc h2 => by
    by_cases h78 : c = 78
    · subst h78
      rw [e78, if_neg (by omega)]
    · by_cases h86 : c < 86
      · rw [e c h78 h86]
      · exfalso
        unfold RLa at hc
        split at hc
        all_goals first | omega | cases hc) (e 77 (by decide) (by decide)) (fun c p j hc h2 => by
    by_cases h9 : c = 9
    · subst h9
      exact w.D9 (Or.inr (fun z => h2 ⟨rfl, z⟩))
    · have hh : c = 1 ∨ c = 21 := by
        unfold RLd at hc
        split at hc
        · exact Or.inl rfl
        · exact absurd rfl h9
        · exact Or.inr rfl
        · cases hc
      rcases hh with rfl | rfl
      · exact w.D (c := 1) (fun _ => rfl) (by decide) (by decide) (by decide) p j
      · exact w.D (c := 21) (fun _ => rfl) (by decide) (by decide) (by decide) p j) rfl nl
  exact ⟨r.1, r.2.1, (w.cn (by decide) (by decide) (by decide) (by omega) (by decide)).trans r.2.2.1, r.2.2.2.1, r.2.2.2.2.1, r.2.2.2.2.2⟩
theorem hw_bi (q : RR A h K L bc tc gc n B N M) (c : GS A L l k T R S nG u m0 kn st) (v : MW A A' l u (6 * l + kn) T nG kn m0 st) : BI A' L := by
  obtain ⟨⟨f1, f2, f3, f4, f5, f6, f7, f8, f9, f10, f11, f12, f13, f14⟩, -, ⟨p1, p2, p3, p4⟩⟩ := gs_f q c
  obtain ⟨⟨c1, c2, c3, c4, c5, c6⟩, ⟨c7, c8, c9, c10⟩, c11, c12, -⟩ := c
  obtain ⟨v1, ⟨v78, v87, v88, v86⟩, -, -⟩ := v
  obtain ⟨i1, i2, i3⟩ := q.bi
  have e70 := v1 70 (by decide) (by decide)
  have e69 := v1 69 (by decide) (by decide)
  have e79 := v1 79 (by decide) (by decide)
  refine ⟨fun b hb => ?_, fun b hb hin => ?_, fun l2 hl2 h1 h2 => ?_⟩
  · rw [v87]
    by_cases hz : b = 6 * l + kn
    · rw [if_pos hz]; exact Or.inr rfl
    · rw [if_neg hz]; exact i1 b hb
  · rw [v87] at hin
    rw [e70, e69, v78, v88, v86]
    by_cases hz : b = 6 * l + kn
    · rw [if_pos hz, if_pos hz, hz, p2, p3, if_pos rfl]
      exact ⟨c1, f14, by omega, c11, by omega, Int.le_refl _⟩
    · rw [if_neg hz] at hin
      obtain ⟨z1, z2, z3, z4, z5, z6⟩ := i2 b hb hin
      rw [if_neg hz, if_neg hz]
      refine ⟨z1, z2, ?_, z4, z5, z6⟩
      by_cases hl : b / 6 = l
      · rw [if_pos hl]
        rw [hl, c6] at z3
        omega
      · rw [if_neg hl]
        exact z3
  · rw [e70] at h1
    rw [e69] at h2
    have s := i3 l2 hl2 h1 h2
    rw [e79, v78, v87, v87, v87, v87, v87, v87]
    by_cases hl : l2 = l
    · subst hl
      rw [if_pos rfl, ← c6]
      rcases (show kn = 0 ∨ kn = 1 ∨ kn = 2 ∨ kn = 3 ∨ kn = 4 ∨ kn = 5 by omega) with rfl | rfl | rfl | rfl | rfl | rfl
      · rw [if_pos (by omega), if_neg (by omega), if_neg (by omega), if_neg (by omega), if_neg (by omega), if_neg (by omega)]
        rw [Nat.add_zero] at p1
        omega
      · rw [if_neg (by omega), if_pos (by omega), if_neg (by omega), if_neg (by omega), if_neg (by omega), if_neg (by omega)]
        omega
      · rw [if_neg (by omega), if_neg (by omega), if_pos (by omega), if_neg (by omega), if_neg (by omega), if_neg (by omega)]
        omega
      · rw [if_neg (by omega), if_neg (by omega), if_neg (by omega), if_pos (by omega), if_neg (by omega), if_neg (by omega)]
        omega
      · rw [if_neg (by omega), if_neg (by omega), if_neg (by omega), if_neg (by omega), if_pos (by omega), if_neg (by omega)]
        omega
      · rw [if_neg (by omega), if_neg (by omega), if_neg (by omega), if_neg (by omega), if_neg (by omega), if_pos (by omega)]
        omega
    · rw [if_neg hl, if_neg (by omega), if_neg (by omega), if_neg (by omega), if_neg (by omega), if_neg (by omega), if_neg (by omega)]
      exact s
/-- an old block -/
theorem MW.old (v : MW A A' l u (6 * l + kn) T nG kn m0 st) {b : Nat} (hin : A' 87 b = 1) : b = 6 * l + kn ∨ (b ≠ 6 * l + kn ∧ A 87 b = 1) := by
  rw [v.2.1.2.1] at hin
  by_cases hz : b = 6 * l + kn
  · exact Or.inl hz
  · rw [if_neg hz] at hin
    exact Or.inr ⟨hz, hin⟩
theorem hw_bh (q : RR A h K L bc tc gc n B N M) (c : GS A L l k T R S nG u m0 kn st) (w : HW h H l u (zhN h 10) (zhN h 6) (zhN h 11) T R S nG kn m0 st) (v : MW A A' l u (6 * l + kn) T nG kn m0 st) : BH A' H (nbc (6 * l + kn) (zhN h 10) bc) := by
  obtain ⟨⟨f1, f2, f3, f4, f5, f6, f7, f8, f9, f10, f11, f12, f13, f14⟩, -, ⟨p1, p2, p3, p4⟩⟩ := gs_f q c
  obtain ⟨⟨c1, c2, c3, c4, c5, c6⟩, ⟨c7, c8, c9, c10⟩, c11, c12, -⟩ := c
  have v1 := v.1
  obtain ⟨b1, b2⟩ := q.bh
  have w' := w
  obtain ⟨x1, -, ⟨n6, n32, n10, n11, nn⟩, ⟨y0, y1, y2, l36, l37, l38, l39, l40, l41, -⟩, xt, xg, -⟩ := w'
  have e73 := v1 73 (by decide) (by decide)
  have e62 := v1 62 (by decide) (by decide)
  have e70 := v1 70 (by decide) (by decide)
  refine ⟨fun b hb hin => ?_, fun b b3 hb hb3 h1 h2 he => ?_⟩
  · rw [e73, e62, e70, n10 10 (by decide)]
    rcases v.old hin with rfl | ⟨hne, hin0⟩
    · rw [nbc_n, p2, p3]
      exact ⟨Nat.lt_succ_self _, y0, y1, by rw [l36, c3], by rw [l37, c3, c7], by rw [l38, c2, Int.toNat_natCast, c5]⟩
    · rw [nbc_o hne]
      obtain ⟨z1, z2, z3, z4, z5, z6⟩ := b1 b hb hin0
      rw [w.o (c := 10) (blt_t z1) (by decide) (by decide) (by decide), w.o (c := 10) (blt_t z1) (by decide) (by decide) (by decide), (x1 36 _ (blt_t z1)).2, (x1 37 _ (blt_t z1)).2, (x1 38 _ (blt_t z1)).2]
      exact ⟨by omega, z2, z3, z4, z5, z6⟩
  · rcases v.old h1 with rfl | ⟨hne, hin0⟩
    · rcases v.old h2 with rfl | ⟨hne3, hin3⟩
      · rfl
      · rw [nbc_n, nbc_o hne3] at he
        have := (b1 b3 hb3 hin3).1
        omega
    · rcases v.old h2 with rfl | ⟨hne3, hin3⟩
      · rw [nbc_n, nbc_o hne] at he
        have := (b1 b hb hin0).1
        omega
      · rw [nbc_o hne, nbc_o hne3] at he
        exact b2 b b3 hb hb3 hin0 hin3 he
theorem hw_th (q : RR A h K L bc tc gc n B N M) (c : GS A L l k T R S nG u m0 kn st) (w : HW h H l u (zhN h 10) (zhN h 6) (zhN h 11) T R S nG kn m0 st) (v : MW A A' l u (6 * l + kn) T nG kn m0 st) : TH A' H (nbc (6 * l + kn) (zhN h 10) bc) (ntc (6 * l + kn) (zhN h 6) tc) := by
  obtain ⟨⟨f1, f2, f3, f4, f5, f6, f7, f8, f9, f10, f11, f12, f13, f14⟩, -, ⟨p1, p2, p3, p4⟩⟩ := gs_f q c
  obtain ⟨⟨c1, c2, c3, c4, c5, c6⟩, ⟨c7, c8, c9, c10⟩, c11, c12, -⟩ := c
  have v1 := v.1
  obtain ⟨b1, b2⟩ := q.th
  have w' := w
  obtain ⟨x1, -, ⟨n6, n32, n10, n11, nn⟩, -, xt, xg, -⟩ := w'
  have e73 := v1 73 (by decide) (by decide)
  have e61 := v1 61 (by decide) (by decide)
  have e70 := v1 70 (by decide) (by decide)
  have m16 := q.rd.2.2.1.2.1
  have T16 : ∀ b, b < 72 → A 87 b = 1 → A 73 (b / 6) ≤ 16 := fun b hb hin => by
    obtain ⟨k9, -, -, -, z, -⟩ := q.blk hb hin
    exact z.2
  refine ⟨fun b hb hin t ht => ?_, fun b b3 hb hb3 h1 h2 t t2 ht ht2 he => ?_⟩
  · rw [e73] at ht
    rw [e61, e70, n6]
    rcases v.old hin with rfl | ⟨hne, hin0⟩
    · rw [p2] at ht ⊢
      have ht' : t < T := by omega
      obtain ⟨z1, z2, z3, z4, z5, z6, z7, z8⟩ := xt t ht'
      rw [nbc_n, ntc_n (by omega), p3]
      exact ⟨by omega, by omega, z1, z2, z4, by rw [z7, c2, Int.toNat_natCast, c4]⟩
    · have := T16 b hb hin0
      rw [nbc_o hne, ntc_o hne (by omega)]
      obtain ⟨z1, z2, z3, z4, z5, z6⟩ := b1 b hb hin0 t ht
      have hQ := (q.bh.1 b hb hin0).1
      rw [w.o (c := 36) (blt_t hQ) (by decide) (by decide) (by decide), w.o (c := 6) (blt_t z2) (by decide) (by decide) (by decide), w.o (c := 6) (blt_t z2) (by decide) (by decide) (by decide), (x1 32 _ (blt_t z2)).2]
      exact ⟨z1, by omega, z3, z4, z5, z6⟩
  · rw [e73] at ht ht2
    rcases v.old h1 with rfl | ⟨hne, hin0⟩
    · rw [p2, c3] at ht
      rw [ntc_n (by omega)] at he
      rcases v.old h2 with rfl | ⟨hne3, hin3⟩
      · rw [p2, c3] at ht2
        rw [ntc_n (by omega)] at he
        exact ⟨rfl, by omega⟩
      · have := T16 b3 hb3 hin3
        rw [ntc_o hne3 (by omega)] at he
        have := (b1 b3 hb3 hin3 t2 ht2).2.1
        omega
    · have := T16 b hb hin0
      rw [ntc_o hne (by omega)] at he
      rcases v.old h2 with rfl | ⟨hne3, hin3⟩
      · rw [p2, c3] at ht2
        rw [ntc_n (by omega)] at he
        have := (b1 b hb hin0 t ht).2.1
        omega
      · have := T16 b3 hb3 hin3
        rw [ntc_o hne3 (by omega)] at he
        exact b2 b b3 hb hb3 hin0 hin3 t t2 ht ht2 he
end
