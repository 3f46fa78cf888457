/-! A LAUNCH FAILS: both sides -/
section
variable {ρ : Type} {h h' g : zH} {A A' B : zA} {kr : Int → zH → Option ρ} {K L n : Nat} {bc tc gc : Nat → Nat} {N M : Int} {s : Nat → Int}
/-- the class's launch, failed -/
def hfl (h : zH) (l : Nat) (f w : Int) : zH := zset (zset (zset h 9 l 10 102) 9 l 11 f) 9 l 12 w
theorem hfl_D {l : Nat} {f w : Int} {c p j : Nat} (hc : ¬ (c = 9 ∧ p = l ∧ 10 ≤ j ∧ j ≤ 12)) : zhD (hfl h l f w) c p j = zhD h c p j := by
  unfold hfl
  rw [zD_set, if_neg (fun z => hc ⟨z.1, z.2.1, by omega, by omega⟩), zD_set, if_neg (fun z => hc ⟨z.1, z.2.1, by omega, by omega⟩), zD_set, if_neg (fun z => hc ⟨z.1, z.2.1, by omega, by omega⟩)]
/-- the model's launch, failed -/
def afl (A : zA) (l : Nat) (f w : Int) : zA := au (au (au A 69 l 102) 84 l f) 85 l w
theorem afl_c {l : Nat} {f w : Int} {c : Nat} (h1 : c ≠ 69) (h2 : c ≠ 84) (h3 : c ≠ 85) : afl A l f w c = A c := by
  unfold afl
  rw [au_ne h3, au_ne h2, au_ne h1]
theorem afl_r {l : Nat} {f w : Int} : afl A l f w 69 = zup (A 69) l 102 ∧ afl A l f w 84 = zup (A 84) l f ∧ afl A l f w 85 = zup (A 85) l w := by
  unfold afl
  refine ⟨by rw [au_ne (by decide), au_ne (by decide), au_zup], by rw [au_ne (by decide), au_zup, au_ne (by decide)], by rw [au_zup, au_ne (by decide), au_ne (by decide)]⟩
theorem RR.fbs (q : RR A h K L bc tc gc n B N M) : FBs A := by
  refine ⟨fun u hu => ⟨(q.un hu).1, (q.un hu).2.1⟩, fun b hb => ?_, fun u i hu hi => ?_, fun u hu => ?_⟩
  · rcases q.bi.1 b hb with z | z
    · exact Or.inl z
    · rcases (q.bi.2.1 b hb z).2.2.2.2.1 with y | y
      · exact Or.inr ⟨z, 0, by decide, y⟩
      · exact Or.inr ⟨z, 1, by decide, y⟩
  · obtain ⟨b, j, e1, e2, e3, e4, e5, e6, e7⟩ := (q.us u hu).2.1 i (by omega)
    exact ⟨b, e2, e1, e5, e6⟩
  · obtain ⟨-, -, w, -⟩ := q.ul u hu
    rcases w with w | ⟨b, w1, w2, w3, w4⟩
    · exact Or.inl w
    · exact Or.inr ⟨b, w2, w1, w3, w4⟩
theorem fail_both (x : PF A h K L bc tc gc n B N M) {b : Nat} (hb : b < 72) (hin : A 87 b = 1) {f t p : Int} (hf : 0 ≤ f ∧ f < 65536) (g : zH) : ∃ (h' : zH) (A' : zA), (∀ kr : Int → zH → Option ρ, Co_fail 0 (bc b : Int) t p f h kr = kr 0 h') ∧ (∀ kr : Int → zH → Option ρ, M_fail ((b / 6 : Nat) : Int) f ((b % 6 : Nat) : Int) t p (mh g A) kr = kr 0 (mh g A')) ∧ PF A' h' K L bc tc gc n B N M ∧ A' 87 b = 0 ∧ (∀ c, c ≠ 69 → c ≠ 84 → c ≠ 85 → c ≠ 87 → c < 93 ∨ 100 < c → A' c = A c) ∧ (∀ c p j, c ≠ 9 → c ≠ 3 → c ≠ 26 → zhD h' c p j = zhD h c p j) ∧ zhN h' = zhN h ∧ zhL h' = zhL h := by
  obtain ⟨s, q, m, cl, cp, cq, c7, wl⟩ := x
  have E : ∀ c, c ≠ 69 → ard A 69 s c = A c := fun c hc => ard_ne hc
  have hinq : ard A 69 s 87 b = 1 := by rw [E 87 (by decide)]; exact hin
  have hL12 := q.rl.2.1
  obtain ⟨bi1, bi2, bi3⟩ := q.bi
  rw [E 87 (by decide)] at bi1
  obtain ⟨i1, i2, i3, i4, i5, i6⟩ := bi2 b hb hinq
  rw [E 70 (by decide)] at i2
  rw [E 78 (by decide)] at i3
  rw [ard_same] at i4
  have h69 : A 69 (b / 6) = 114 := by
    rcases m.1 (b / 6) with z | ⟨-, z, -⟩
    · rw [← z]
      exact i4
    · exact z
  obtain ⟨rl1, rl2, rl3, rl4, rl5, rl6, rl7, rl8, rl9, rl10, rl11, rl12, rl13, rl14⟩ := q.rl.l i1
  have r12' := rl12 (by rw [E 70 (by decide)]; exact i2)
  rw [E 79 (by decide), E 78 (by decide), E 72 (by decide)] at r12'
  obtain ⟨r72a, r72, -, -, -, -, r79a, r79, r78, -⟩ := r12'
  have hl12 : b / 6 < 12 := by omega
  obtain ⟨nb, hnb⟩ : ∃ nb : Nat, A 72 (b / 6) = (nb : Int) := ⟨(A 72 (b / 6)).toNat, by omega⟩
  have nb6 : nb ≤ 6 := by omega
  obtain ⟨w, hw⟩ : ∃ w : Int, w = wr (wr (wr (10000 * ((b % 6 : Nat) : Int)) + wr (100 * t)) + p) := ⟨_, rfl⟩
  have fbq := q.fbs
  have fb : FBs (afl A (b / 6) f w) := by
    unfold FBs at fbq ⊢
    rw [afl_c (c := 93) (by decide) (by decide) (by decide), afl_c (c := 87) (by decide) (by decide) (by decide), afl_c (c := 88) (by decide) (by decide) (by decide), afl_c (c := 94) (by decide) (by decide) (by decide), afl_c (c := 100) (by decide) (by decide) (by decide)]
    rw [E 93 (by decide), E 87 (by decide), E 88 (by decide), E 94 (by decide), E 100 (by decide)] at fbq
    exact fbq
  -- the model
  obtain ⟨A3, m3, d⟩ := m_fail_loop (ρ := ρ) (A := afl A (b / 6) f w) hl12 nb6 (by rw [afl_c (by decide) (by decide) (by decide)]; exact hnb) fb g zN 0 _ (Nat.zero_le _) (by show nb - 0 < 5000; omega) (DP.nil (fun u hu => (fb.1 u hu).1))
  obtain ⟨d1, d2, d3, d4, d5⟩ := d
  have V : ∀ c, c ≠ 69 → c ≠ 84 → c ≠ 85 → c ≠ 87 → c < 93 ∨ 100 < c → A3 c = A c := fun c c1 c2 c3 c4 c5 => by rw [d1 c c4 c5, afl_c c1 c2 c3]
  have v69 : A3 69 = zup (A 69) (b / 6) 102 := by rw [d1 69 (by decide) (Or.inl (by decide))]; exact afl_r.1
  have v84 : A3 84 = zup (A 84) (b / 6) f := by rw [d1 84 (by decide) (Or.inl (by decide))]; exact afl_r.2.1
  have v85 : A3 85 = zup (A 85) (b / 6) w := by rw [d1 85 (by decide) (Or.inl (by decide))]; exact afl_r.2.2
  rw [afl_c (c := 87) (by decide) (by decide) (by decide)] at d2
  rw [afl_c (c := 93) (by decide) (by decide) (by decide), afl_c (c := 94) (by decide) (by decide) (by decide)] at d3
  rw [afl_c (c := 100) (by decide) (by decide) (by decide)] at d4
  rw [afl_c (c := 99) (by decide) (by decide) (by decide)] at d5
  -- the class
  have DF : ∀ c p j, c ≠ 9 → zhD (hfl h (b / 6) f w) c p j = zhD h c p j := fun c p j hc => hfl_D (fun z => hc z.1)
  have uo0 := (q.uo (u := 0) (by decide)).fr DF rfl rfl
  have uo1 := (q.uo (u := 1) (by decide)).fr DF rfl rfl
  rw [E 93 (by decide)] at uo0 uo1
  obtain ⟨r0, r1, k0, k1, s0, s1, z1, z2, z3, z4, z5, z6⟩ := x_drop2L (ρ := ρ) (bb := b / 6) uo0 uo1
  have KP : ∀ u2, u2 < 2 → ∀ i, i < (A 93 u2).toNat → ((zhD (hfl h (b / 6) f w) 10 (zhD (hfl h (b / 6) f w) 11 (zhD (hfl h (b / 6) f w) 26 u2 i).toNat 0).toNat 0 ≠ ((b / 6 : Nat) : Int)) ↔ (dpn (b / 6) nb (A 94 (4 * u2 + i)).toNat = false)) := fun u2 hu2 i hi => by
    obtain ⟨-, p1⟩ := q.slb (i := i) hu2 (by rw [E 93 (by decide)]; exact hi) hb hinq
    rw [E 94 (by decide)] at p1
    obtain ⟨b', j', e1, e2, -, -, e5, -⟩ := (q.us u2 hu2).2.1 i (by rw [E 93 (by decide)]; omega)
    rw [E 94 (by decide)] at e1
    obtain ⟨-, -, y3, -⟩ := bi2 b' e2 e5
    rw [E 78 (by decide)] at y3
    rw [DF 10 _ _ (by decide), DF 11 _ _ (by decide), DF 26 _ _ (by decide), Ne, p1, e1, Int.toNat_natCast]
    constructor
    · intro y
      cases hd : dpn (b / 6) nb b' with
      | false => rfl
      | true =>
        have := (dpn_i nb).mp hd
        exact absurd (by rw [show b' / 6 = b / 6 by omega]) y
    · intro y z
      have e : b' / 6 = b / 6 := Int.ofNat.inj z
      rw [e] at y3
      have : dpn (b / 6) nb b' = true := (dpn_i nb).mpr (by omega)
      rw [this] at y
      cases y
  have F : ∀ c, c ≠ 69 → ard A3 69 (zup s (b / 6) 102) c = A3 c := fun c hc => ard_ne hc
  have hU : ∀ u2, u2 < 2 → ∃ (m' : Nat) (ss : Nat → Nat), ard A3 69 (zup s (b / 6) 102) 93 u2 = (m' : Int) ∧ SEL (fun i => dpn (b / 6) nb (ard A 69 s 94 (4 * u2 + i)).toNat = false) (ard A 69 s 93 u2).toNat m' ss ∧ URW (ard A 69 s) (ard A3 69 (zup s (b / 6) 102)) u2 ss m' ∧ zhD (hD2 (hfl h (b / 6) f w) r0 r1 k0 k1) 3 u2 2 = (m' : Int) ∧ ∀ i, i < m' → zhD (hD2 (hfl h (b / 6) f w) r0 r1 k0 k1) 26 u2 i = zhD h 26 u2 (ss i) := fun u2 hu2 => by
    obtain ⟨kk, sk, c1, c2, c3⟩ : ∃ (kk : Nat) (sk : Nat → Nat), SEL (fun i => dpn (b / 6) nb (A 94 (4 * u2 + i)).toNat = false) (A 93 u2).toNat kk sk ∧ zhD (hD2 (hfl h (b / 6) f w) r0 r1 k0 k1) 3 u2 2 = (kk : Int) ∧ ∀ i, i < kk → zhD (hD2 (hfl h (b / 6) f w) r0 r1 k0 k1) 26 u2 i = zhD h 26 u2 (sk i) := by
      rw [hD2_3 hu2]
      rcases (show u2 = 0 ∨ u2 = 1 by omega) with rfl | rfl
      · refine ⟨k0, s0, z3.congr (fun i hi => KP 0 hu2 i hi), if_pos rfl, fun i hi => ?_⟩
        rw [hD2_26 hu2, if_pos rfl, ← DF 26 _ _ (by decide)]
        exact z4 i hi
      · refine ⟨k1, s1, z5.congr (fun i hi => KP 1 hu2 i hi), if_neg (by decide), fun i hi => ?_⟩
        rw [hD2_26 hu2, if_neg (by decide), ← DF 26 _ _ (by decide)]
        exact z6 i hi
    obtain ⟨m', s', e1, e2, e3⟩ := d3 u2 hu2
    obtain ⟨g1, g2⟩ := c1.uniq e2
    refine ⟨kk, sk, by rw [F 93 (by decide), e1, g1], by rw [E 94 (by decide), E 93 (by decide)]; exact c1, fun i hi => ?_, c2, c3⟩
    rw [F 94 (by decide), F 95 (by decide), F 96 (by decide), F 97 (by decide), F 98 (by decide), F 99 (by decide), E 94 (by decide), E 95 (by decide), E 96 (by decide), E 97 (by decide), E 98 (by decide), E 99 (by decide), g2 i hi]
    have := e3 i (by rw [← g1]; exact hi)
    rw [afl_c (c := 94) (by decide) (by decide) (by decide), afl_c (c := 95) (by decide) (by decide) (by decide), afl_c (c := 96) (by decide) (by decide) (by decide), afl_c (c := 97) (by decide) (by decide) (by decide), afl_c (c := 98) (by decide) (by decide) (by decide), afl_c (c := 99) (by decide) (by decide) (by decide)] at this
    exact this
  have HD : ∀ c p j, c ≠ 26 → ¬ (c = 3 ∧ j = 2) → ¬ (c = 9 ∧ p = b / 6 ∧ 10 ≤ j ∧ j ≤ 12) → zhD (hD2 (hfl h (b / 6) f w) r0 r1 k0 k1) c p j = zhD h c p j := fun c p j c1 c2 c3 => by rw [hD2_D c1 c2, hfl_D c3]
  have rl' : RL (ard A3 69 (zup s (b / 6) 102)) (hD2 (hfl h (b / 6) f w) r0 r1 k0 k1) K L := by
    refine q.rl.one i1 (fun c j hz hc => ?_) (by rw [F 77 (by decide), E 77 (by decide), V 77 (by decide) (by decide) (by decide) (by decide) (Or.inl (by decide))]) (fun c p j hz hc => HD c p j (fun z => by subst z; cases hz) (fun z => by rw [z.1] at hz; cases hz) (fun z => hc ⟨z.1, z.2.1⟩)) rfl ?_
    · by_cases e69 : c = 69
      · subst e69
        rw [ard_same, ard_same, zup_ne (by omega)]
      · have rg : c < 93 ∨ 100 < c := by
          by_cases hc1 : c < 93
          · exact Or.inl hc1
          · by_cases hc2 : 100 < c
            · exact Or.inr hc2
            · exfalso
              rcases (show c = 93 ∨ c = 94 ∨ c = 95 ∨ c = 96 ∨ c = 97 ∨ c = 98 ∨ c = 99 ∨ c = 100 by omega) with rfl | rfl | rfl | rfl | rfl | rfl | rfl | rfl <;> cases hz
        rw [F c e69, E c e69]
        by_cases e84 : c = 84
        · subst e84
          rw [v84, zup_ne (by omega)]
        · by_cases e85 : c = 85
          · subst e85
            rw [v85, zup_ne (by omega)]
          · rw [V c e69 e84 e85 (fun z => by subst z; cases hz) rg]
    · have n0 : ∀ j, ¬ (10 ≤ j ∧ j ≤ 12) → zhD (hD2 (hfl h (b / 6) f w) r0 r1 k0 k1) 9 (b / 6) j = zhD h 9 (b / 6) j := fun j hj => HD 9 (b / 6) j (by decide) (fun z => absurd z.1 (by decide)) (fun z => hj z.2.2)
      have n10 : zhD (hD2 (hfl h (b / 6) f w) r0 r1 k0 k1) 9 (b / 6) 10 = 102 := by
        rw [hD2_D (by decide) (fun z => absurd z.1 (by decide))]
        unfold hfl
        rw [zD_nj (by decide), zD_nj (by decide), zD_eq]
      have n11 : zhD (hD2 (hfl h (b / 6) f w) r0 r1 k0 k1) 9 (b / 6) 11 = f := by
        rw [hD2_D (by decide) (fun z => absurd z.1 (by decide))]
        unfold hfl
        rw [zD_nj (by decide), zD_eq]
      have n12 : zhD (hD2 (hfl h (b / 6) f w) r0 r1 k0 k1) 9 (b / 6) 12 = w := by
        rw [hD2_D (by decide) (fun z => absurd z.1 (by decide))]
        unfold hfl
        rw [zD_eq]
      have W : ∀ c, c ≠ 69 → c ≠ 84 → c ≠ 85 → c < 87 → ard A3 69 (zup s (b / 6) 102) c = ard A 69 s c := fun c c1 c2 c3 c4 => by rw [F c c1, E c c1, V c c1 c2 c3 (by omega) (Or.inl (by omega))]
      unfold RLn
      rw [HD 21 0 (b / 6) (by decide) (fun z => absurd z.1 (by decide)) (fun z => absurd z.1 (by decide)), n0 0 (by decide), n0 1 (by decide), n0 2 (by decide), n0 3 (by decide), n0 4 (by decide), n0 5 (by decide), n0 6 (by decide), n0 7 (by decide), n0 8 (by decide), n0 9 (by decide), n10, n11, n12, n0 13 (by decide), n0 14 (by decide), n0 15 (by decide), show ard A3 69 (zup s (b / 6) 102) 69 (b / 6) = 102 by rw [ard_same, zup_same], show ard A3 69 (zup s (b / 6) 102) 84 (b / 6) = f by rw [F 84 (by decide), v84, zup_same], show ard A3 69 (zup s (b / 6) 102) 85 (b / 6) = w by rw [F 85 (by decide), v85, zup_same], W 70 (by decide) (by decide) (by decide) (by decide), W 71 (by decide) (by decide) (by decide) (by decide), W 72 (by decide) (by decide) (by decide) (by decide), W 73 (by decide) (by decide) (by decide) (by decide), W 74 (by decide) (by decide) (by decide) (by decide), W 75 (by decide) (by decide) (by decide) (by decide), W 76 (by decide) (by decide) (by decide) (by decide), W 77 (by decide) (by decide) (by decide) (by decide), W 78 (by decide) (by decide) (by decide) (by decide), W 79 (by decide) (by decide) (by decide) (by decide), W 80 (by decide) (by decide) (by decide) (by decide), W 81 (by decide) (by decide) (by decide) (by decide), W 82 (by decide) (by decide) (by decide) (by decide), W 83 (by decide) (by decide) (by decide) (by decide), W 61 (by decide) (by decide) (by decide) (by decide), W 62 (by decide) (by decide) (by decide) (by decide), W 64 (by decide) (by decide) (by decide) (by decide)]
      exact ⟨rl1, rl2, rl3, rl4, rl5, rl6, rl7, rl8, ⟨rfl, Or.inr (Or.inr (Or.inr (Or.inl rfl)))⟩, fun _ => ⟨rfl, rfl, hf.1, hf.2⟩, rl11, rl12, rl13, rl14⟩
  have bi' : BI (ard A3 69 (zup s (b / 6) 102)) L := by
    unfold BI
    rw [F 87 (by decide), F 70 (by decide), F 78 (by decide), F 88 (by decide), F 86 (by decide), F 79 (by decide), ard_same, V 70 (by decide) (by decide) (by decide) (by decide) (Or.inl (by decide)), V 78 (by decide) (by decide) (by decide) (by decide) (Or.inl (by decide)), V 88 (by decide) (by decide) (by decide) (by decide) (Or.inl (by decide)), V 86 (by decide) (by decide) (by decide) (by decide) (Or.inl (by decide)), V 79 (by decide) (by decide) (by decide) (by decide) (Or.inl (by decide))]
    refine ⟨fun b2 hb2 => ?_, fun b2 hb2 h1 => ?_, fun l2 hl2 h1 h2 => ?_⟩
    · rw [d2]
      split
      · exact Or.inl rfl
      · exact bi1 b2 hb2
    · rw [d2] at h1
      cases hd : dpn (b / 6) nb b2 with
      | true =>
        rw [hd, if_pos rfl] at h1
        exact absurd h1 (by decide)
      | false =>
        rw [hd, if_neg (by decide)] at h1
        obtain ⟨y1, y2, y3, y4, y5, y6⟩ := bi2 b2 hb2 (by rw [E 87 (by decide)]; exact h1)
        rw [E 78 (by decide)] at y3
        have nl : b2 / 6 ≠ b / 6 := fun e => by
          rw [e] at y3
          have : dpn (b / 6) nb b2 = true := (dpn_i nb).mpr (by omega)
          rw [this] at hd
          cases hd
        rw [E 70 (by decide)] at y2
        rw [E 88 (by decide)] at y5
        rw [E 86 (by decide)] at y6
        rw [ard_same] at y4
        exact ⟨y1, y2, y3, by rw [zup_ne nl]; exact y4, y5, y6⟩
    · have nl : l2 ≠ b / 6 := fun e => h2 (by rw [e, zup_same])
      rw [zup_ne nl] at h2
      have := bi3 l2 hl2 (by rw [E 70 (by decide)]; exact h1) (by rw [ard_same]; exact h2)
      rw [E 79 (by decide), E 87 (by decide), E 78 (by decide)] at this
      have k : ∀ i, i < 6 → A3 87 (6 * l2 + i) = A 87 (6 * l2 + i) := fun i hi => by
        rw [d2, if_neg (fun z => by have := (dpn_i nb).mp z; omega)]
      rw [show A3 87 (6 * l2) = A 87 (6 * l2) from k 0 (by decide), k 1 (by decide), k 2 (by decide), k 3 (by decide), k 4 (by decide), k 5 (by decide)]
      exact this
  have rc' : RC (ard A3 69 (zup s (b / 6) 102)) L := by
    refine ⟨fun l2 hl2 h1 h2 => ?_, fun j hj => by have z := q.rc.2 j hj; rw [E 12 (by decide)] at z; rw [F 12 (by decide), V 12 (by decide) (by decide) (by decide) (by decide) (Or.inl (by decide))]; exact z⟩
    rw [F 70 (by decide), V 70 (by decide) (by decide) (by decide) (by decide) (Or.inl (by decide))] at h1
    have nl : l2 ≠ b / 6 := fun e => i2 (by rw [← e]; exact h1)
    rw [ard_same, zup_ne nl] at h2
    have := q.rc.1 l2 hl2 (by rw [E 70 (by decide)]; exact h1) (by rw [ard_same]; exact h2)
    rw [F 82 (by decide), F 83 (by decide), V 82 (by decide) (by decide) (by decide) (by decide) (Or.inl (by decide)), V 83 (by decide) (by decide) (by decide) (by decide) (Or.inl (by decide))]
    rw [E 82 (by decide), E 83 (by decide)] at this
    exact this
  have q4 : RR (ard A3 69 (zup s (b / 6) 102)) (hD2 (hfl h (b / 6) f w) r0 r1 k0 k1) K L bc tc gc n B N M := by
    refine rr_drop (dp := dpn (b / 6) nb) q (fun c c1 c2 c3 c4 c5 c6 => by rw [F c c1, E c c1, V c c1 c3 c4 c5 c6]) (fun b2 hb2 => by rw [F 87 (by decide), E 87 (by decide)]; exact d2 b2) hU (fun u2 hu2 => by rw [F 100 (by decide), E 100 (by decide)]; exact d4 u2 hu2) (fun j => by rw [F 99 (by decide), E 99 (by decide)]; exact d5 j) (fun c p j c1 c2 c3 => HD c p j c1 c2 (fun z => c3 ⟨z.1, by omega, by omega⟩)) rfl rfl rfl rfl rl' rc' bi'
  have r70 : A3 70 = A 70 := V 70 (by decide) (by decide) (by decide) (by decide) (Or.inl (by decide))
  have r72 : A3 72 = A 72 := V 72 (by decide) (by decide) (by decide) (by decide) (Or.inl (by decide))
  have r76 : A3 76 = A 76 := V 76 (by decide) (by decide) (by decide) (by decide) (Or.inl (by decide))
  have r79 : A3 79 = A 79 := V 79 (by decide) (by decide) (by decide) (by decide) (Or.inl (by decide))
  have wl' : WL A3 := wl_ard.mp (wl_drop (wl_ard.mpr wl) (A' := ard A3 69 (zup s (b / 6) 102)) (A := ard A 69 s) (by rw [F 63 (by decide), E 63 (by decide), V 63 (by decide) (by decide) (by decide) (by decide) (Or.inl (by decide))]) (by rw [F 70 (by decide), E 70 (by decide), V 70 (by decide) (by decide) (by decide) (by decide) (Or.inl (by decide))]) (by rw [F 73 (by decide), E 73 (by decide), V 73 (by decide) (by decide) (by decide) (by decide) (Or.inl (by decide))]) (by rw [F 89 (by decide), E 89 (by decide), V 89 (by decide) (by decide) (by decide) (by decide) (Or.inl (by decide))]) (by rw [F 90 (by decide), E 90 (by decide), V 90 (by decide) (by decide) (by decide) (by decide) (Or.inl (by decide))]) (fun u2 hu2 => by
    obtain ⟨m', ss, a1, a2, a3, -⟩ := hU u2 hu2
    exact ⟨m', ss, a1, fun i hi => (a2.1 i hi).1, a3⟩))
  have rl6' := rl6
  rw [E 76 (by decide)] at rl6'
  obtain ⟨s', e1, pf⟩ := PF.end (ρ := ρ) (c := A 76 (b / 6)) q4 (by rw [v69]; exact m.fail r70 r72 r76 r79) (fun l2 h1 h2 => by
    rw [r76] at h2 ⊢
    rw [r70]
    exact cp l2 h1 h2) (fun l2 h1 h2 h3 => by
    have ne : l2 ≠ b / 6 := fun e => by
      rw [v69, e, zup_same] at h2
      exact absurd h2 (by decide)
    rw [v69, zup_ne ne] at h2
    rw [r70] at h3
    rw [r79, r72]
    exact cq l2 h1 h2 h3) (fun l2 h1 h2 => by
    rw [r76] at h2
    rw [V 71 (by decide) (by decide) (by decide) (by decide) (Or.inl (by decide))]
    exact c7 l2 h1 h2) wl' (fun l2 h1 h2 => by
    rcases zenb_fail r70 r72 r76 r79 h2 with z | z
    · exact absurd z (cl l2 h1)
    · exact z.symm) (by
    by_cases e : A 76 (b / 6) = -1
    · exact Or.inl e
    · have y := cp (b / 6) i1 e
      refine Or.inr ⟨(A 76 (b / 6)).toNat, by omega, by omega, ?_⟩
      rw [r70]
      exact y.1)
  have a87 : A3 87 b = 0 := by
    rw [d2, if_pos ((dpn_i nb).mpr (by omega))]
  refine ⟨_, A3, fun kr => ?_, fun kr => ?_, pf, a87, V, fun c p j c1 c2 c3 => by rw [hfd_D, if_neg (fun z => c1 z.1), HD c p j c3 (fun z => c2 z.1) (fun z => c1 z.1)], rfl, rfl⟩
  · obtain ⟨-, bh2, bh3, -⟩ := q.bh.1 b hb hinq
    obtain ⟨b1, -⟩ := q.bh.1 b hb hinq
    have n9 : b / 6 < zhN h 9 := by
      rw [q.rl.2.2.1]
      exact i1
    have u1 : zhN h 3 = 2 := q.rs.N3
    have rs0 : RS (hfl h (b / 6) f w) := q.rs.fr (fun c p j hz => hfl_D (fun z => by
      obtain ⟨rfl, -, z3, z4⟩ := z
      rcases (show j = 10 ∨ j = 11 ∨ j = 12 by omega) with rfl | rfl | rfl <;> cases hz)) rfl rfl
    have rs1 : RS (zset (hrw (hfl h (b / 6) f w) 26 0 r0) 3 0 2 (k0 : Int)) := rs0.fr (fun c p j hz => by rw [zD_set, if_neg (fun z => by rw [z.1, z.2.2] at hz; cases hz), hrw_D, if_neg (fun z => by rw [z.1] at hz; cases hz)]) rfl rfl
    have un : ∀ (kr : Int → zH → Option ρ) (hh : zH), Co_fail_43 kr 0 ((b / 6 : Nat) : Int) 0 hh = Co_fail_43b kr (Co_fail_43b kr (Co_fail_43b kr (zit (fun _ _ _ _ => none) (Co_fail_43b kr) 4997))) 0 ((b / 6 : Nat) : Int) 0 hh := fun kr hh => rfl
    have d9 : zhD h 10 (bc b) 0 = ((b / 6 : Nat) : Int) := bh2
    have d10 : zhD h 10 (bc b) 1 = ((b % 6 : Nat) : Int) := bh3
    unfold Co_fail
    rw [zob_n b1, d9, zob_n n9, zlet_d, zob_n (h := zset h 9 (b / 6) 10 102) n9, znar_c hf, zlet_d, zob_n (h := zset (zset h 9 (b / 6) 10 102) 9 (b / 6) 11 f) b1, zob_n (h := zset (zset h 9 (b / 6) 10 102) 9 (b / 6) 11 f) n9, zlet_d, zD_ne (show 10 ≠ 9 by decide), zD_ne (show 10 ≠ 9 by decide), d10, ← hw]
    show Co_fail_43 kr 0 ((b / 6 : Nat) : Int) 0 (hfl h (b / 6) f w) = _
    rw [un]
    have st0 : ∀ r10 : Int → Int → Int → zH → Option ρ, Co_fail_43b kr r10 0 ((b / 6 : Nat) : Int) 0 (hfl h (b / 6) f w) = r10 0 ((b / 6 : Nat) : Int) 1 (zset (hrw (hfl h (b / 6) f w) 26 0 r0) 3 0 2 (k0 : Int)) := fun r10 => by
      unfold Co_fail_43b
      have ix : ∀ kk : Nat → Option ρ, zix 2 0 kk = kk 0 := fun kk => zix_n (i := 0) (by decide)
      have zb : ∀ kk : Nat → Option ρ, zob (hfl h (b / 6) f w) 3 0 kk = kk 0 := fun kk => zob_n (i := 0) (by rw [rs0.N3]; decide)
      rw [if_pos (by decide), zob_0 rs0.N2, rs0.D2_0_2, zob_0 rs0.N23, rs0.L23_0, ix, rs0.D23_0_0, zb, z1]
      rfl
    have st1 : ∀ r10 : Int → Int → Int → zH → Option ρ, Co_fail_43b kr r10 0 ((b / 6 : Nat) : Int) 1 (zset (hrw (hfl h (b / 6) f w) 26 0 r0) 3 0 2 (k0 : Int)) = r10 0 ((b / 6 : Nat) : Int) 2 (hD2 (hfl h (b / 6) f w) r0 r1 k0 k1) := fun r10 => by
      unfold Co_fail_43b
      have ix : ∀ kk : Nat → Option ρ, zix 2 1 kk = kk 1 := fun kk => zix_n (i := 1) (by decide)
      have zb : ∀ kk : Nat → Option ρ, zob (zset (hrw (hfl h (b / 6) f w) 26 0 r0) 3 0 2 (k0 : Int)) 3 1 kk = kk 1 := fun kk => zob_n (i := 1) (by rw [rs1.N3]; decide)
      rw [if_pos (by decide), zob_0 rs1.N2, rs1.D2_0_2, zob_0 rs1.N23, rs1.L23_0, ix, rs1.D23_0_1, zb, z2]
      rfl
    have e94 : zhD (hD2 (hfl h (b / 6) f w) r0 r1 k0 k1) 9 (b / 6) 4 = A 76 (b / 6) := by
      rw [HD 9 _ _ (by decide) (fun z => absurd z.1 (by decide)) (fun z => absurd z.2.2.1 (by decide))]
      exact rl6'.1
    have n9' : b / 6 < zhN (hD2 (hfl h (b / 6) f w) r0 r1 k0 k1) 9 := n9
    rw [st0, st1]
    unfold Co_fail_43b
    rw [if_neg (by decide), zob_0 q4.rs.N2, zob_n n9', q4.rs.D2_0_0, zob_0 q4.rs.N1, e94, e1]
  · unfold M_fail
    rw [zix_n hl12, mD69, if_pos h69, zix_n hl12, mS69, zlet_d, zix_n hl12, znar_c hf, mS84, zlet_d, zix_n hl12, mS85, zlet_d, ← hw]
    exact m3 kr
end
