/-! A NEW BLOCK: its rows -/
def hBf (h : zH) (Q nG S : Nat) : zH := zset (znew (zset (znew (zset (znew (zset (znew h 37 nG nG (fun _ => -1)) 10 Q 3 (Q : Int)) 38 S S (fun _ => 0)) 10 Q 4 (Q : Int)) 40 S S (fun _ => 0)) 10 Q 6 (Q : Int)) 41 S S (fun _ => 0)) 10 Q 7 (Q : Int)
def GT (h0 h : zH) (Q m G l T R S nG : Nat) (a st : Int) (i : Nat) : Prop := FE h0 h Q m G ∧
  (zhN h 6 = m + T ∧ zhN h 32 = m + T ∧ (∀ c, c = 10 ∨ (36 ≤ c ∧ c ≤ 41) → zhN h c = Q + 1) ∧ (∀ c, c = 11 ∨ (42 ≤ c ∧ c ≤ 44) → zhN h c = G + i) ∧ ∀ c, c ≠ 6 → c ≠ 32 → c ≠ 10 → ¬ (36 ≤ c ∧ c ≤ 44) → c ≠ 11 → zhN h c = zhN h0 c) ∧
  (zhD h 10 Q 0 = (l : Int) ∧ zhD h 10 Q 1 = a ∧ (∀ j, 2 ≤ j → j ≤ 7 → zhD h 10 Q j = (Q : Int)) ∧ zhL h 36 Q = T ∧ zhL h 37 Q = nG ∧ zhL h 38 Q = S ∧ zhL h 39 Q = 64 ∧ zhL h 40 Q = S ∧ zhL h 41 Q = S ∧ ∀ c, zhD h 38 Q c = 0 ∧ zhD h 39 Q c = 0 ∧ zhD h 40 Q c = 0 ∧ zhD h 41 Q c = 0) ∧
  (∀ t, t < T → zhD h 36 Q t = ((m + t : Nat) : Int) ∧ zhD h 6 (m + t) 0 = (t : Int) ∧ zhD h 6 (m + t) 1 = ((m + t : Nat) : Int) ∧ zhD h 6 (m + t) 2 = a ∧ zhD h 6 (m + t) 3 = 0 ∧ zhD h 6 (m + t) 4 = st ∧ zhL h 32 (m + t) = R ∧ ∀ r, r < R → zhD h 32 (m + t) r = 0) ∧
  (∀ g, g < i → zhD h 37 Q g = ((G + g : Nat) : Int) ∧ zhD h 11 (G + g) 0 = (Q : Int) ∧ zhD h 11 (G + g) 1 = ((4 * g : Nat) : Int) ∧ (∀ j, 2 ≤ j → j ≤ 4 → zhD h 11 (G + g) j = ((G + g : Nat) : Int)) ∧ zhD h 11 (G + g) 5 = 0 ∧ zhD h 11 (G + g) 6 = 0 ∧ zhL h 42 (G + g) = 4 ∧ zhL h 43 (G + g) = 4 ∧ zhL h 44 (G + g) = 4 ∧ ∀ k, k < 4 → zhD h 42 (G + g) k = if 4 * g + k < T then ((m + (4 * g + k) : Nat) : Int) else -1) ∧
  zhC h = zhC h0 + 7 + 2 * T + 4 * i ∧ zhS h ≤ zhS h0 + 160 + 20 * T + 20 * i
section
variable {ρ : Type} {h h0 g : zH} {A B : zA} {kr : Int → zH → Option ρ} {Q m G l T R S nG : Nat} {a st len : Int}
theorem hBf_D {c p j : Nat} (h37 : ¬ (c = 37 ∧ p = Q)) (h38 : ¬ (c = 38 ∧ p = Q)) (h40 : ¬ (c = 40 ∧ p = Q)) (h41 : ¬ (c = 41 ∧ p = Q)) (h10 : ¬ (c = 10 ∧ p = Q ∧ (j = 3 ∨ j = 4 ∨ j = 6 ∨ j = 7))) (n37 : zhN h 37 = Q) (n38 : zhN h 38 = Q) (n40 : zhN h 40 = Q) (n41 : zhN h 41 = Q) : zhD (hBf h Q nG S) c p j = zhD h c p j := by
  have e38 : zhN (zset (znew h 37 nG nG (fun _ => -1)) 10 Q 3 (Q : Int)) 38 = Q := by rw [zN_set, zN_newne (by decide)]; exact n38
  have e40 : zhN (zset (znew (zset (znew h 37 nG nG (fun _ => -1)) 10 Q 3 (Q : Int)) 38 S S (fun _ => 0)) 10 Q 4 (Q : Int)) 40 = Q := by rw [zN_set, zN_newne (by decide), zN_set, zN_newne (by decide)]; exact n40
  have e41 : zhN (zset (znew (zset (znew (zset (znew h 37 nG nG (fun _ => -1)) 10 Q 3 (Q : Int)) 38 S S (fun _ => 0)) 10 Q 4 (Q : Int)) 40 S S (fun _ => 0)) 10 Q 6 (Q : Int)) 41 = Q := by rw [zN_set, zN_newne (by decide), zN_set, zN_newne (by decide), zN_set, zN_newne (by decide)]; exact n41
  unfold hBf
  rw [zD_set, if_neg (fun z => h10 ⟨z.1, z.2.1, by omega⟩), zD_new, e41, if_neg h41, zD_set, if_neg (fun z => h10 ⟨z.1, z.2.1, by omega⟩), zD_new, e40, if_neg h40, zD_set, if_neg (fun z => h10 ⟨z.1, z.2.1, by omega⟩), zD_new, e38, if_neg h38, zD_set, if_neg (fun z => h10 ⟨z.1, z.2.1, by omega⟩), zD_new, n37, if_neg h37]
theorem hBf_n (n37 : zhN h 37 = Q) (n38 : zhN h 38 = Q) (n40 : zhN h 40 = Q) (n41 : zhN h 41 = Q) : zhD (hBf h Q nG S) 10 Q 3 = (Q : Int) ∧ zhD (hBf h Q nG S) 10 Q 4 = (Q : Int) ∧ zhD (hBf h Q nG S) 10 Q 6 = (Q : Int) ∧ zhD (hBf h Q nG S) 10 Q 7 = (Q : Int) ∧ (∀ c, zhD (hBf h Q nG S) 38 Q c = 0 ∧ zhD (hBf h Q nG S) 40 Q c = 0 ∧ zhD (hBf h Q nG S) 41 Q c = 0) ∧ zhL (hBf h Q nG S) 37 Q = nG ∧ zhL (hBf h Q nG S) 38 Q = S ∧ zhL (hBf h Q nG S) 40 Q = S ∧ zhL (hBf h Q nG S) 41 Q = S := by
  unfold hBf
  refine ⟨?_, ?_, ?_, ?_, fun c => ⟨?_, ?_, ?_⟩, ?_, ?_, ?_, ?_⟩ <;> simp [zD_set, zD_new, zL_set, zL_new, zN_set, zN_new, n37, n38, n40, n41]
theorem hBf_N {c : Nat} : zhN (hBf h Q nG S) c = if c = 37 ∨ c = 38 ∨ c = 40 ∨ c = 41 then zhN h c + 1 else zhN h c := by
  unfold hBf
  by_cases h1 : c = 37
  · subst h1; rfl
  · by_cases h2 : c = 38
    · subst h2; rfl
    · by_cases h3 : c = 40
      · subst h3; rfl
      · by_cases h4 : c = 41
        · subst h4; rfl
        · rw [if_neg (by omega), zN_set, zN_newne h4, zN_set, zN_newne h3, zN_set, zN_newne h2, zN_set, zN_newne h1]
theorem hBf_L {c p : Nat} (h37 : ¬ (c = 37 ∧ p = Q)) (h38 : ¬ (c = 38 ∧ p = Q)) (h40 : ¬ (c = 40 ∧ p = Q)) (h41 : ¬ (c = 41 ∧ p = Q)) (n37 : zhN h 37 = Q) (n38 : zhN h 38 = Q) (n40 : zhN h 40 = Q) (n41 : zhN h 41 = Q) : zhL (hBf h Q nG S) c p = zhL h c p := by
  have e38 : zhN (zset (znew h 37 nG nG (fun _ => -1)) 10 Q 3 (Q : Int)) 38 = Q := by rw [zN_set, zN_newne (by decide)]; exact n38
  have e40 : zhN (zset (znew (zset (znew h 37 nG nG (fun _ => -1)) 10 Q 3 (Q : Int)) 38 S S (fun _ => 0)) 10 Q 4 (Q : Int)) 40 = Q := by rw [zN_set, zN_newne (by decide), zN_set, zN_newne (by decide)]; exact n40
  have e41 : zhN (zset (znew (zset (znew (zset (znew h 37 nG nG (fun _ => -1)) 10 Q 3 (Q : Int)) 38 S S (fun _ => 0)) 10 Q 4 (Q : Int)) 40 S S (fun _ => 0)) 10 Q 6 (Q : Int)) 41 = Q := by rw [zN_set, zN_newne (by decide), zN_set, zN_newne (by decide), zN_set, zN_newne (by decide)]; exact n41
  unfold hBf
  rw [zL_set, zL_new, e41, if_neg h41, zL_set, zL_new, e40, if_neg h40, zL_set, zL_new, e38, if_neg h38, zL_set, zL_new, n37, if_neg h37]
theorem hBf_C : zhC (hBf h Q nG S) = zhC h + 4 ∧ zhS (hBf h Q nG S) = zhS h + nG + S + S + S := ⟨rfl, rfl⟩
/-- what the program reads of the launch and its kernel -/
def LKF (h : zH) (l k T R S : Nat) (len : Int) : Prop := l < zhN h 9 ∧ k < zhN h 7 ∧ zhD h 9 l 5 = (k : Int) ∧ zhD h 9 l 7 = (T : Int) ∧ zhD h 7 k 0 = (R : Int) ∧ zhD h 7 k 1 = (S : Int) ∧ zhD h 7 k 3 = len
theorem LKF.bt {k i : Nat} (y : LKF h0 l k T R S len) (x : BT h0 h Q m G l T R a st i) : LKF h l k T R S len := by
  obtain ⟨y1, y2, y3, y4, y5, y6, y7⟩ := y
  obtain ⟨x1, ⟨-, -, -, -, -, nn⟩, -⟩ := x
  have f9 : ∀ j, zhD h 9 l j = zhD h0 9 l j := fun j => by rw [(x1 9 l rfl).1]
  have f7 : ∀ j, zhD h 7 k j = zhD h0 7 k j := fun j => by rw [(x1 7 k rfl).1]
  exact ⟨by rw [nn 9 (by decide) (by decide) (by decide) (by decide) (by decide)]; exact y1, by rw [nn 7 (by decide) (by decide) (by decide) (by decide) (by decide)]; exact y2, by rw [f9]; exact y3, by rw [f9]; exact y4, by rw [f7]; exact y5, by rw [f7]; exact y6, by rw [f7]; exact y7⟩
theorem BT.full (x : BT h0 h Q m G l T R a st T) (n37 : zhN h0 37 = Q) (n38 : zhN h0 38 = Q) (n40 : zhN h0 40 = Q) (n41 : zhN h0 41 = Q) (n11 : ∀ c, c = 11 ∨ (42 ≤ c ∧ c ≤ 44) → zhN h0 c = G) (hnG : nG ≤ 4) (hS : S ≤ 16) : GT h0 (hBf h Q nG S) Q m G l T R S nG a st 0 := by
  obtain ⟨x1, ⟨n6, n32, n10, n36, n39, nn⟩, ⟨b0, b1, b2, b5, l36, l39, z39⟩, xt, xc, xs⟩ := x
  have m37 : zhN h 37 = Q := by rw [nn 37 (by decide) (by decide) (by decide) (by decide) (by decide)]; exact n37
  have m38 : zhN h 38 = Q := by rw [nn 38 (by decide) (by decide) (by decide) (by decide) (by decide)]; exact n38
  have m40 : zhN h 40 = Q := by rw [nn 40 (by decide) (by decide) (by decide) (by decide) (by decide)]; exact n40
  have m41 : zhN h 41 = Q := by rw [nn 41 (by decide) (by decide) (by decide) (by decide) (by decide)]; exact n41
  have D := fun c p j k1 k2 k3 k4 k5 => hBf_D (h := h) (Q := Q) (nG := nG) (S := S) (c := c) (p := p) (j := j) k1 k2 k3 k4 k5 m37 m38 m40 m41
  have Lh := fun c p k1 k2 k3 k4 => hBf_L (h := h) (Q := Q) (nG := nG) (S := S) (c := c) (p := p) k1 k2 k3 k4 m37 m38 m40 m41
  have N := fun c => hBf_N (h := h) (Q := Q) (nG := nG) (S := S) (c := c)
  obtain ⟨v3, v4, v6, v7, vz, w37, w38, w40, w41⟩ := hBf_n (h := h) (Q := Q) (nG := nG) (S := S) m37 m38 m40 m41
  have C := hBf_C (h := h) (Q := Q) (nG := nG) (S := S)
  generalize hBf h Q nG S = h' at *
  have D6 : ∀ p j, zhD h' 6 p j = zhD h 6 p j := fun p j => D 6 p j (fun z => absurd z.1 (by decide)) (fun z => absurd z.1 (by decide)) (fun z => absurd z.1 (by decide)) (fun z => absurd z.1 (by decide)) (fun z => absurd z.1 (by decide))
  have D32 : ∀ p j, zhD h' 32 p j = zhD h 32 p j := fun p j => D 32 p j (fun z => absurd z.1 (by decide)) (fun z => absurd z.1 (by decide)) (fun z => absurd z.1 (by decide)) (fun z => absurd z.1 (by decide)) (fun z => absurd z.1 (by decide))
  have D36 : ∀ p j, zhD h' 36 p j = zhD h 36 p j := fun p j => D 36 p j (fun z => absurd z.1 (by decide)) (fun z => absurd z.1 (by decide)) (fun z => absurd z.1 (by decide)) (fun z => absurd z.1 (by decide)) (fun z => absurd z.1 (by decide))
  have D39 : ∀ p j, zhD h' 39 p j = zhD h 39 p j := fun p j => D 39 p j (fun z => absurd z.1 (by decide)) (fun z => absurd z.1 (by decide)) (fun z => absurd z.1 (by decide)) (fun z => absurd z.1 (by decide)) (fun z => absurd z.1 (by decide))
  have D10 : ∀ j, ¬ (j = 3 ∨ j = 4 ∨ j = 6 ∨ j = 7) → zhD h' 10 Q j = zhD h 10 Q j := fun j hj => D 10 Q j (fun z => absurd z.1 (by decide)) (fun z => absurd z.1 (by decide)) (fun z => absurd z.1 (by decide)) (fun z => absurd z.1 (by decide)) (fun z => hj z.2.2)
  have ff : ∀ c, c = 10 ∨ c = 37 ∨ c = 38 ∨ c = 40 ∨ c = 41 → zold Q m G c Q = false := fun c hc => by rcases hc with rfl | rfl | rfl | rfl | rfl <;> exact blt_f (Nat.le_refl _)
  refine ⟨fun c p hz => ?_, ⟨?_, ?_, fun c hc => ?_, fun c hc => ?_, fun c c1 c2 c3 c4 c5 => ?_⟩, ⟨?_, ?_, fun j j1 j2 => ?_, ?_, w37, w38, ?_, w40, w41, fun c => ⟨(vz c).1, by rw [D39]; exact z39 c, (vz c).2.1, (vz c).2.2⟩⟩, fun t ht => ?_, fun g hg => absurd hg (Nat.not_lt_zero _), by rw [C.1, xc]; omega, by rw [C.2]; omega⟩
  · obtain ⟨y1, y2⟩ := x1 c p hz
    have K : ∀ x, (x = 10 ∨ x = 37 ∨ x = 38 ∨ x = 40 ∨ x = 41) → ¬ (c = x ∧ p = Q) := fun x hx z => by rw [z.1, z.2, ff x hx] at hz; cases hz
    have k1 := K 37 (by decide)
    have k2 := K 38 (by decide)
    have k3 := K 40 (by decide)
    have k4 := K 41 (by decide)
    have k5 : ∀ j, ¬ (c = 10 ∧ p = Q ∧ (j = 3 ∨ j = 4 ∨ j = 6 ∨ j = 7)) := fun j z => K 10 (by decide) ⟨z.1, z.2.1⟩
    exact ⟨by rw [← y1]; exact funext fun j => D c p j k1 k2 k3 k4 (k5 j), by rw [Lh c p k1 k2 k3 k4]; exact y2⟩
  · rw [N, if_neg (by decide)]; exact n6
  · rw [N, if_neg (by decide)]; exact n32
  · rw [N]
    rcases hc with rfl | hc
    · rw [if_neg (by decide)]; exact n10
    · rcases (show c = 36 ∨ c = 37 ∨ c = 38 ∨ c = 39 ∨ c = 40 ∨ c = 41 by omega) with rfl | rfl | rfl | rfl | rfl | rfl
      · rw [if_neg (by decide)]; exact n36
      · rw [if_pos (by decide), m37]
      · rw [if_pos (by decide), m38]
      · rw [if_neg (by decide)]; exact n39
      · rw [if_pos (by decide), m40]
      · rw [if_pos (by decide), m41]
  · rw [N, if_neg (by omega), nn c (by omega) (by omega) (by omega) (by omega) (by omega)]
    exact n11 c hc
  · rw [N, if_neg (by omega)]
    exact nn c c1 c2 c3 (by omega) (by omega)
  · rw [D10 _ (by decide)]; exact b0
  · rw [D10 _ (by decide)]; exact b1
  · rcases (show j = 2 ∨ j = 3 ∨ j = 4 ∨ j = 5 ∨ j = 6 ∨ j = 7 by omega) with rfl | rfl | rfl | rfl | rfl | rfl
    · rw [D10 _ (by decide)]; exact b2
    · exact v3
    · exact v4
    · rw [D10 _ (by decide)]; exact b5
    · exact v6
    · exact v7
  · rw [Lh _ _ (fun z => absurd z.1 (by decide)) (fun z => absurd z.1 (by decide)) (fun z => absurd z.1 (by decide)) (fun z => absurd z.1 (by decide))]; exact l36
  · rw [Lh _ _ (fun z => absurd z.1 (by decide)) (fun z => absurd z.1 (by decide)) (fun z => absurd z.1 (by decide)) (fun z => absurd z.1 (by decide))]; exact l39
  · obtain ⟨y1, y2, y3, y4, y5, y6, y7, y8⟩ := xt t ht
    exact ⟨by rw [D36]; exact y1, by rw [D6]; exact y2, by rw [D6]; exact y3, by rw [D6]; exact y4, by rw [D6]; exact y5, by rw [D6]; exact y6, by rw [Lh _ _ (fun z => absurd z.1 (by decide)) (fun z => absurd z.1 (by decide)) (fun z => absurd z.1 (by decide)) (fun z => absurd z.1 (by decide))]; exact y7, fun r hr => by rw [D32]; exact y8 r hr⟩
theorem x_bi_loop {k : Nat} (y : LKF h0 l k T R S len) (t1 : 1 ≤ T) (t2 : T ≤ 16) (r8 : R ≤ 8) (s16 : S ≤ 16) (hnG : Int.tdiv ((T : Int) + 3) 4 = (nG : Int)) (n37 : zhN h0 37 = Q) (n38 : zhN h0 38 = Q) (n40 : zhN h0 40 = Q) (n41 : zhN h0 41 = Q) (n11 : ∀ c, c = 11 ∨ (42 ≤ c ∧ c ≤ 44) → zhN h0 c = G) : ∀ (f i : Nat) (h : zH), i ≤ T → T - i < f → BT h0 h Q m G l T R a (if 0 < len then 114 else 101) i → ∃ h' : zH, (∀ kr : Int → zH → Option ρ, zit (fun _ _ _ _ _ => none) (Bl_init_35b kr) f (Q : Int) (l : Int) a (i : Int) h = kr 0 h') ∧ GT h0 h' Q m G l T R S nG a (if 0 < len then 114 else 101) 0
  | 0, _, _, _, hf, _ => absurd hf (Nat.not_lt_zero _)
  | f + 1, i, h, hi, hf, x => by
    have y' := y.bt x
    obtain ⟨y1, y2, y3, y4, y5, y6, y7⟩ := y'
    have x' := x
    obtain ⟨x1, ⟨n6, n32, n10, n36, n39, nn⟩, ⟨b0, b1, b2, b5, l36, l39, z39⟩, xt, xc, xs⟩ := x'
    have q10 : Q < zhN h 10 := by omega
    have q36 : Q < zhN h 36 := by omega
    have ne : zhN h 32 = zhN h 6 := by omega
    by_cases h4 : i < T
    · obtain ⟨h', z1, z2⟩ := x_bi_loop y t1 t2 r8 s16 hnG n37 n38 n40 n41 n11 f (i + 1) (hTn h Q i R a len) h4 (by omega) (x.step r8)
      refine ⟨h', fun kr => ?_, z2⟩
      have hlt : (i : Int) < (T : Int) := by omega
      have i9 : i < 100000 := by omega
      have hi0 : (0 : Int) ≤ (i : Int) := by omega
      have r9 : R < 100000 := by omega
      have r1000 : R ≤ 1000 := by omega
      -- the heaps
      have a9 : ∀ kk : Nat → Option ρ, zob (znew h 6 0 (znf zPP 6) (fun k => zdef (zft zPP 6 k))) 9 (l : Int) kk = kk l := fun kk => by rw [zob_newne (by decide)]; exact zob_n y1
      have a7 : ∀ kk : Nat → Option ρ, zob (znew h 6 0 (znf zPP 6) (fun k => zdef (zft zPP 6 k))) 7 (k : Int) kk = kk k := fun kk => by rw [zob_newne (by decide)]; exact zob_n y2
      have N3 := fun c => hTi_N (h := h) (t := (i : Int)) (R := R) (c := c)
      have L3 := fun c p => hTi_L (h := h) (t := (i : Int)) (R := R) (c := c) (p := p)
      have D3 := fun c p j => hTi_D (h := h) (t := (i : Int)) (R := R) (c := c) (p := p) (j := j)
      have c36 : Q < zhN (hTi h (i : Int) R) 36 := by rw [N3, if_neg (by decide), if_neg (by decide)]; exact q36
      have cl36 : zhL (hTi h (i : Int) R) 36 Q = T := by rw [L3, if_neg (fun z => absurd z.1 (by decide)), if_neg (fun z => absurd z.1 (by decide))]; exact l36
      have c6 : zhN h 6 < zhN (hTi h (i : Int) R) 6 := by rw [N3, if_pos rfl]; exact Nat.lt_succ_self _
      have g10 : Q < zhN (zset (hTi h (i : Int) R) 36 Q i (zhN h 6 : Int)) 10 := by rw [zN_set, N3, if_neg (by decide), if_neg (by decide)]; exact q10
      have g36 : Q < zhN (zset (hTi h (i : Int) R) 36 Q i (zhN h 6 : Int)) 36 := c36
      have g9 : l < zhN (zset (hTi h (i : Int) R) 36 Q i (zhN h 6 : Int)) 9 := by rw [zN_set, N3, if_neg (by decide), if_neg (by decide)]; exact y1
      have g7 : k < zhN (zset (hTi h (i : Int) R) 36 Q i (zhN h 6 : Int)) 7 := by rw [zN_set, N3, if_neg (by decide), if_neg (by decide)]; exact y2
      have g6 : zhN h 6 < zhN (zset (hTi h (i : Int) R) 36 Q i (zhN h 6 : Int)) 6 := c6
      have g32 : zhN h 6 < zhN (zset (hTi h (i : Int) R) 36 Q i (zhN h 6 : Int)) 32 := by rw [zN_set, N3, if_neg (by decide), if_pos rfl, ne]; exact Nat.lt_succ_self _
      have gD10 : zhD (zset (hTi h (i : Int) R) 36 Q i (zhN h 6 : Int)) 10 Q 2 = (Q : Int) := by rw [zD_ne (by decide), D3, if_neg (fun z => absurd z.1 (by decide)), if_neg (fun z => absurd z.1 (by decide)), if_neg (fun z => absurd z.1 (by decide)), if_neg (fun z => absurd z.1 (by decide))]; exact b2
      have gD9 : zhD (zset (hTi h (i : Int) R) 36 Q i (zhN h 6 : Int)) 9 l 5 = (k : Int) := by rw [zD_ne (by decide), D3, if_neg (fun z => absurd z.1 (by decide)), if_neg (fun z => absurd z.1 (by decide)), if_neg (fun z => absurd z.1 (by decide)), if_neg (fun z => absurd z.1 (by decide))]; exact y3
      have gD7 : zhD (zset (hTi h (i : Int) R) 36 Q i (zhN h 6 : Int)) 7 k 3 = len := by rw [zD_ne (by decide), D3, if_neg (fun z => absurd z.1 (by decide)), if_neg (fun z => absurd z.1 (by decide)), if_neg (fun z => absurd z.1 (by decide)), if_neg (fun z => absurd z.1 (by decide))]; exact y7
      have gL36 : zhL (zset (hTi h (i : Int) R) 36 Q i (zhN h 6 : Int)) 36 Q = T := cl36
      have gD36 : zhD (zset (hTi h (i : Int) R) 36 Q i (zhN h 6 : Int)) 36 Q i = (zhN h 6 : Int) := zD_eq
      have gD6 : zhD (zset (hTi h (i : Int) R) 36 Q i (zhN h 6 : Int)) 6 (zhN h 6) 1 = (zhN h 6 : Int) := by rw [zD_ne (by decide), D3, if_pos ⟨rfl, rfl, rfl⟩, ne]
      have gL32 : zhL (zset (hTi h (i : Int) R) 36 Q i (zhN h 6 : Int)) 32 (zhN h 6) = R := by rw [zL_set, L3, ne, if_pos ⟨rfl, rfl⟩]
      rw [zit_s, ← z1 kr]
      generalize zit (fun _ _ _ _ _ => none) (Bl_init_35b kr) f = r2
      unfold Bl_init_35b
      rw [zob_n q10, b2, zob_n q36, l36, if_pos hlt, zob_n q10, zlet_d, a9, zD_newne (show 9 ≠ 6 by decide), y3, a7, zob_new1, zD_newne (show 7 ≠ 6 by decide), y5, x_thInit hi0 r9]
      rw [b2, zob_n c36, cl36, zix_n h4, zorn_n c6, zlet_d, zob_n g10, gD10, zob_n g36, gL36, zix_n h4, zob_n g9, gD9, zob_n g7, gD36, zob_n g6, gD7, x_begin g6 gD6 g32 gL32 r1000, wr_s i9]
      rfl
    · have hT : i = T := by omega
      subst hT
      have t1' : (1 : Int) ≤ (i : Int) := by omega
      have t2' : (i : Int) ≤ 16 := by omega
      obtain ⟨-, -, gg⟩ := zgroups t1' t2'
      rw [hnG] at gg
      have g4 : nG ≤ 4 := by omega
      have g9 : nG < 100000 := by omega
      have s9 : S < 100000 := by omega
      refine ⟨hBf h Q nG S, fun kr => ?_, x.full n37 n38 n40 n41 n11 g4 s16⟩
      have m37 : zhN h 37 = Q := by rw [nn 37 (by decide) (by decide) (by decide) (by decide) (by decide)]; exact n37
      have m38 : zhN h 38 = Q := by rw [nn 38 (by decide) (by decide) (by decide) (by decide) (by decide)]; exact n38
      have m40 : zhN h 40 = Q := by rw [nn 40 (by decide) (by decide) (by decide) (by decide) (by decide)]; exact n40
      have m41 : zhN h 41 = Q := by rw [nn 41 (by decide) (by decide) (by decide) (by decide) (by decide)]; exact n41
      have zG : ∀ kk : Nat → Option ρ, zix 100000 (nG : Int) kk = kk nG := fun kk => zix_n g9
      have zS : ∀ kk : Nat → Option ρ, zix 100000 (S : Int) kk = kk S := fun kk => zix_n s9
      have e9 : ∀ kk : Nat → Option ρ, zob h 9 (l : Int) kk = kk l := fun kk => zob_n y1
      have e7 : ∀ kk : Nat → Option ρ, zob h 7 (k : Int) kk = kk k := fun kk => zob_n y2
      have e10 : ∀ kk : Nat → Option ρ, zob h 10 (Q : Int) kk = kk Q := fun kk => zob_n q10
      have gf : ∀ kr : Int → zH → Option ρ, X_groupsFor (i : Int) h kr = kr (nG : Int) h := fun kr => by rw [x_groupsFor t1' t2', hnG]
      rw [zit_s]
      unfold Bl_init_35b hBf
      rw [zob_n q10, b2, zob_n q36, l36, if_neg (Int.lt_irrefl _), zob_n y1, y4, gf]
      simp only [zlet_d, zG, zS, e9, e7, e10, zob_set, zob_newne (show 9 ≠ 37 by decide), zob_newne (show 9 ≠ 38 by decide), zob_newne (show 9 ≠ 40 by decide), zob_newne (show 9 ≠ 41 by decide), zob_newne (show 7 ≠ 37 by decide), zob_newne (show 7 ≠ 38 by decide), zob_newne (show 7 ≠ 40 by decide), zob_newne (show 7 ≠ 41 by decide), zob_newne (show 10 ≠ 37 by decide), zob_newne (show 10 ≠ 38 by decide), zob_newne (show 10 ≠ 40 by decide), zob_newne (show 10 ≠ 41 by decide), zD_ne (show 9 ≠ 10 by decide), zD_ne (show 7 ≠ 10 by decide), zD_newne (show 9 ≠ 37 by decide), zD_newne (show 9 ≠ 38 by decide), zD_newne (show 9 ≠ 40 by decide), zD_newne (show 9 ≠ 41 by decide), zD_newne (show 7 ≠ 37 by decide), zD_newne (show 7 ≠ 38 by decide), zD_newne (show 7 ≠ 40 by decide), zD_newne (show 7 ≠ 41 by decide), y3, y6, zN_set, zN_newne (show 38 ≠ 37 by decide), zN_newne (show 40 ≠ 37 by decide), zN_newne (show 41 ≠ 37 by decide), zN_newne (show 40 ≠ 38 by decide), zN_newne (show 41 ≠ 38 by decide), zN_newne (show 41 ≠ 40 by decide), m37, m38, m40, m41]
end
