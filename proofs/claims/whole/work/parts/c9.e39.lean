/-! ONE LAUNCH MORE -/
/-- what a new launch changes: the model's rows -/
def NA (A A' : zA) (L : Nat) : Prop := (∀ c j, c ≠ 12 → c ≠ 64 → (c < 69 ∨ 85 < c ∨ j ≠ L) → A' c j = A c j) ∧ (∀ j, j ≠ 0 → j ≠ 13 → A' 12 j = A 12 j) ∧ A' 78 L = 0 ∧ A' 79 L = 0
/-- .. and the class's heap -/
def NH (h h' : zH) (L : Nat) : Prop := (∀ c p j, c ≠ 9 → c ≠ 34 → c ≠ 35 → c ≠ 21 → c ≠ 1 → c ≠ 7 → zhD h' c p j = zhD h c p j) ∧ (∀ c p j, c = 9 ∨ c = 34 ∨ c = 35 → p ≠ L → zhD h' c p j = zhD h c p j) ∧ (∀ j, zhD h' 34 L j = 0 ∧ zhD h' 35 L j = 0) ∧ zhD h' 9 L 18 = 0 ∧
  (∀ c, c ≠ 9 → c ≠ 34 → c ≠ 35 → zhN h' c = zhN h c) ∧ (∀ c, c ≠ 34 → c ≠ 35 → c ≠ 9 → zhL h' c = zhL h c) ∧ zhC h' = zhC h + 3 ∧ zhS h' = zhS h + 147
theorem zsum_0 {s : Nat → Int} {b : Nat} : ∀ n : Nat, (∀ k, k < n → s (b + k) = 0) → zsum s b n = 0
  | 0, _ => rfl
  | n + 1, h => by
    show zsum s b n + s (b + n) = 0
    rw [zsum_0 n (fun k hk => h k (by omega)), h n (by omega)]
    rfl
theorem zsum_congr {s t : Nat → Int} {b : Nat} : ∀ n : Nat, (∀ k, k < n → s (b + k) = t (b + k)) → zsum s b n = zsum t b n
  | 0, _ => rfl
  | n + 1, h => by
    show zsum s b n + s (b + n) = zsum t b n + t (b + n)
    rw [zsum_congr n (fun k hk => h k (by omega)), h n (by omega)]
section
variable {h h' : zH} {A A' B : zA} {K L n : Nat} {bc tc gc : Nat → Nat} {N M : Int}
theorem NA.r (x : NA A A' L) {c : Nat} (h1 : c < 69 ∨ 85 < c) (h2 : c ≠ 12) (h3 : c ≠ 64) : A' c = A c := funext fun j => x.1 c j h2 h3 (by omega)
theorem rr_nl (q : RR A h K L bc tc gc n B N M) (hL : L < 12) (x : NA A A' L) (y : NH h h' L) (rs : RS h') (rd : RD h') (rk : RK A' h' K) (rl : RL A' h' K (L + 1)) (rc : RC A' (L + 1)) : RR A' h' K (L + 1) bc tc gc n B N M := by
  obtain ⟨bi1, bi2, bi3⟩ := q.bi
  obtain ⟨x1, x2, x3, x4⟩ := id x
  obtain ⟨y1, y2, y3, y4, y5, y6, y7, y8⟩ := y
  have e60 := x.r (c := 60) (by omega) (by decide) (by decide)
  have e61 := x.r (c := 61) (by omega) (by decide) (by decide)
  have e62 := x.r (c := 62) (by omega) (by decide) (by decide)
  have e63 := x.r (c := 63) (by omega) (by decide) (by decide)
  have e86 := x.r (c := 86) (by omega) (by decide) (by decide)
  have e87 := x.r (c := 87) (by omega) (by decide) (by decide)
  have e88 := x.r (c := 88) (by omega) (by decide) (by decide)
  have e89 := x.r (c := 89) (by omega) (by decide) (by decide)
  have e90 := x.r (c := 90) (by omega) (by decide) (by decide)
  have e91 := x.r (c := 91) (by omega) (by decide) (by decide)
  have e92 := x.r (c := 92) (by omega) (by decide) (by decide)
  have e93 := x.r (c := 93) (by omega) (by decide) (by decide)
  have e94 := x.r (c := 94) (by omega) (by decide) (by decide)
  have e95 := x.r (c := 95) (by omega) (by decide) (by decide)
  have e96 := x.r (c := 96) (by omega) (by decide) (by decide)
  have e97 := x.r (c := 97) (by omega) (by decide) (by decide)
  have e98 := x.r (c := 98) (by omega) (by decide) (by decide)
  have e99 := x.r (c := 99) (by omega) (by decide) (by decide)
  have e100 := x.r (c := 100) (by omega) (by decide) (by decide)
  have e101 := x.r (c := 101) (by omega) (by decide) (by decide)
  have e102 := x.r (c := 102) (by omega) (by decide) (by decide)
  have e103 := x.r (c := 103) (by omega) (by decide) (by decide)
  have e104 := x.r (c := 104) (by omega) (by decide) (by decide)
  have e105 := x.r (c := 105) (by omega) (by decide) (by decide)
  have e106 := x.r (c := 106) (by omega) (by decide) (by decide)
  have e107 := x.r (c := 107) (by omega) (by decide) (by decide)
  have e108 := x.r (c := 108) (by omega) (by decide) (by decide)
  have lb : ∀ b : Nat, b < 72 → A 87 b = 1 → b / 6 ≠ L := fun b hb hin => by
    have := (bi2 b hb hin).1
    omega
  have ln : ∀ c b : Nat, c ≠ 12 → c ≠ 64 → b < 72 → A 87 b = 1 → A' c (b / 6) = A c (b / 6) := fun c b h1 h2 hb hin => x1 c _ h1 h2 (Or.inr (Or.inr (lb b hb hin)))
  have ll : ∀ c l : Nat, c ≠ 12 → c ≠ 64 → l ≠ L → A' c l = A c l := fun c l h1 h2 hl => x1 c l h1 h2 (Or.inr (Or.inr hl))
  have z87 : ∀ b : Nat, b < 72 → b / 6 = L → A 87 b = 0 := fun b hb hbL => by
    rcases bi1 b hb with z | z
    · exact z
    · exact absurd hbL (lb b hb z)
  have d10 : ∀ p j, zhD h' 10 p j = zhD h 10 p j := fun p j => y1 10 p j (by decide) (by decide) (by decide) (by decide) (by decide) (by decide)
  have dd : ∀ c, c ≠ 9 → c ≠ 34 → c ≠ 35 → c ≠ 21 → c ≠ 1 → c ≠ 7 → zhD h' c = zhD h c := fun c h1 h2 h3 h4 h5 h6 => funext fun p => funext fun j => y1 c p j h1 h2 h3 h4 h5 h6
  refine ⟨rs, rd, rk, rl, ?_, rc, ?_, ?_, ?_, ?_, ?_, ?_, ?_, ?_, ?_, ?_, ?_, ?_, ?_, ?_, ?_, ?_, ?_⟩
  · exact q.rm.frame e60 (fun j hj => x2 j (by omega) (by omega)) (dd 22 (by decide) (by decide) (by decide) (by decide) (by decide) (by decide)) (dd 2 (by decide) (by decide) (by decide) (by decide) (by decide) (by decide)) (dd 4 (by decide) (by decide) (by decide) (by decide) (by decide) (by decide))
  · unfold BI
    rw [e86, e87, e88]
    refine ⟨bi1, fun b hb hin => ?_, fun l hl h70 h69 => ?_⟩
    · rw [ln 70 b (by decide) (by decide) hb hin, ln 78 b (by decide) (by decide) hb hin, ln 69 b (by decide) (by decide) hb hin]
      obtain ⟨z1, z2⟩ := bi2 b hb hin
      exact ⟨by omega, z2⟩
    · by_cases hlL : l = L
      · subst hlL
        rw [x3, x4, z87 (6 * l) (by omega) (by omega), z87 (6 * l + 1) (by omega) (by omega), z87 (6 * l + 2) (by omega) (by omega), z87 (6 * l + 3) (by omega) (by omega), z87 (6 * l + 4) (by omega) (by omega), z87 (6 * l + 5) (by omega) (by omega)]
        rfl
      · rw [ll 70 l (by decide) (by decide) hlL] at h70
        rw [ll 69 l (by decide) (by decide) hlL] at h69
        rw [ll 79 l (by decide) (by decide) hlL, ll 78 l (by decide) (by decide) hlL]
        exact bi3 l (by omega) h70 h69
  · unfold BH
    rw [e62, e87, y5 10 (by decide) (by decide) (by decide), y6 36 (by decide) (by decide) (by decide), y6 37 (by decide) (by decide) (by decide), y6 38 (by decide) (by decide) (by decide), dd 10 (by decide) (by decide) (by decide) (by decide) (by decide) (by decide)]
    refine ⟨fun b hb hin => ?_, q.bh.2⟩
    rw [ln 70 b (by decide) (by decide) hb hin, ln 73 b (by decide) (by decide) hb hin]
    exact q.bh.1 b hb hin
  · unfold TH
    rw [e61, e87, y5 6 (by decide) (by decide) (by decide), y6 32 (by decide) (by decide) (by decide), dd 36 (by decide) (by decide) (by decide) (by decide) (by decide) (by decide), dd 6 (by decide) (by decide) (by decide) (by decide) (by decide) (by decide)]
    refine ⟨fun b hb hin t ht => ?_, fun b b2 hb hb2 hin hin2 t t2 ht ht2 => ?_⟩
    · rw [ln 73 b (by decide) (by decide) hb hin] at ht
      rw [ln 70 b (by decide) (by decide) hb hin]
      exact q.th.1 b hb hin t ht
    · rw [ln 73 b (by decide) (by decide) hb hin] at ht
      rw [ln 73 b2 (by decide) (by decide) hb2 hin2] at ht2
      exact q.th.2 b b2 hb hb2 hin hin2 t t2 ht ht2
  · unfold TD
    rw [e61, e63, e87, e89, e90, e91, dd 32 (by decide) (by decide) (by decide) (by decide) (by decide) (by decide), dd 6 (by decide) (by decide) (by decide) (by decide) (by decide) (by decide)]
    intro b hb hin t ht
    rw [ln 73 b (by decide) (by decide) hb hin] at ht
    rw [ln 70 b (by decide) (by decide) hb hin]
    exact q.td b hb hin t ht
  · unfold GH
    rw [e87, y5 11 (by decide) (by decide) (by decide), dd 37 (by decide) (by decide) (by decide) (by decide) (by decide) (by decide), dd 11 (by decide) (by decide) (by decide) (by decide) (by decide) (by decide), dd 42 (by decide) (by decide) (by decide) (by decide) (by decide) (by decide)]
    refine ⟨fun b hb hin t ht => ?_, fun b b2 hb hb2 hin hin2 t t2 ht ht2 => ?_⟩
    · rw [ln 73 b (by decide) (by decide) hb hin] at ht ⊢
      exact q.gh.1 b hb hin t ht
    · rw [ln 73 b (by decide) (by decide) hb hin] at ht
      rw [ln 73 b2 (by decide) (by decide) hb2 hin2] at ht2
      exact q.gh.2 b b2 hb hb2 hin hin2 t t2 ht ht2
  · unfold SH
    rw [e62, e87, e92, dd 38 (by decide) (by decide) (by decide) (by decide) (by decide) (by decide)]
    intro b hb hin c hc
    rw [ln 70 b (by decide) (by decide) hb hin] at hc
    exact q.sh b hb hin c hc
  · unfold US
    rw [e87, e88, e93, e94, e95, dd 3 (by decide) (by decide) (by decide) (by decide) (by decide) (by decide), dd 26 (by decide) (by decide) (by decide) (by decide) (by decide) (by decide)]
    intro u hu
    obtain ⟨u1, u2, u3, u4, u5⟩ := q.us u hu
    refine ⟨u1, fun i hi => ?_, u3, fun b j hb hin h88 hj => ?_, u5⟩
    · obtain ⟨b, j, s1, s2, s3, s4, s5, s6, s7⟩ := u2 i hi
      refine ⟨b, j, s1, s2, s3, ?_, s5, s6, s7⟩
      rw [ln 73 b (by decide) (by decide) s2 s5]
      exact s4
    · rw [ln 73 b (by decide) (by decide) hb hin] at hj
      exact u4 b j hb hin h88 hj
  · unfold UG
    rw [e93, e94, e95, e96, e97, e98, e99, x2 1 (by decide) (by decide), dd 11 (by decide) (by decide) (by decide) (by decide) (by decide) (by decide), dd 43 (by decide) (by decide) (by decide) (by decide) (by decide) (by decide), dd 44 (by decide) (by decide) (by decide) (by decide) (by decide) (by decide)]
    exact q.ug
  · unfold UL
    rw [e87, e88, e93, e94, e95, e100, e101, e102, y5 11 (by decide) (by decide) (by decide), dd 3 (by decide) (by decide) (by decide) (by decide) (by decide) (by decide), dd 26 (by decide) (by decide) (by decide) (by decide) (by decide) (by decide), dd 27 (by decide) (by decide) (by decide) (by decide) (by decide) (by decide)]
    exact q.ul
  · unfold SU
    rw [e93]
    intro u hu
    obtain ⟨s1, s2, s3, s4⟩ := q.su u hu
    have m1 : ∀ n, n ≤ 72 → zsrm A' u n = zsrm A u n := by
      intro n
      induction n with
      | zero => exact fun _ => rfl
      | succ n ih =>
        intro hn
        show zsrm A' u n + _ = zsrm A u n + _
        rw [ih (by omega), e87, e88, e61]
        by_cases hz : A 87 n = 1 ∧ A 88 n = (u : Int)
        · rw [if_pos hz, if_pos hz, ln 73 n (by decide) (by decide) (by omega) hz.1, ln 70 n (by decide) (by decide) (by omega) hz.1]
        · rw [if_neg hz, if_neg hz]
    have m2 : ∀ n, n ≤ 72 → zssm A' u n = zssm A u n := by
      intro n
      induction n with
      | zero => exact fun _ => rfl
      | succ n ih =>
        intro hn
        show zssm A' u n + _ = zssm A u n + _
        rw [ih (by omega), e87, e88, e62]
        by_cases hz : A 87 n = 1 ∧ A 88 n = (u : Int)
        · rw [if_pos hz, if_pos hz, ln 70 n (by decide) (by decide) (by omega) hz.1]
        · rw [if_neg hz, if_neg hz]
    have m3 : ∀ n : Nat, (n : Int) ≤ A 93 u → zsrc A' u n = zsrc A u n := by
      intro n
      induction n with
      | zero => exact fun _ => rfl
      | succ n ih =>
        intro hn
        show zsrc A' u n + _ = zsrc A u n + _
        obtain ⟨b, j, t1, t2, t3, t4, t5, t6, t7⟩ := (q.us u hu).2.1 n (by omega)
        rw [ih (by omega), e94, e95, e61, t1, Int.toNat_natCast, ln 73 b (by decide) (by decide) t2 t5, ln 70 b (by decide) (by decide) t2 t5]
    have m4 : ∀ n : Nat, (n : Int) ≤ A 93 u → zssc A' u n = zssc A u n := by
      intro n
      induction n with
      | zero => exact fun _ => rfl
      | succ n ih =>
        intro hn
        show zssc A' u n + _ = zssc A u n + _
        obtain ⟨b, j, t1, t2, t3, t4, t5, t6, t7⟩ := (q.us u hu).2.1 n (by omega)
        rw [ih (by omega), e94, e95, e62, t1, Int.toNat_natCast, ln 70 b (by decide) (by decide) t2 t5]
    have h0 := (q.un hu).1
    rw [m1 72 (Nat.le_refl _), m2 72 (Nat.le_refl _), m3 _ (by omega), m4 _ (by omega)]
    exact ⟨s1, s2, s3, s4⟩
  · obtain ⟨ta1, ta2, ta3, ta4, ta5, ta6, ta7, ta8⟩ := q.ta
    unfold TA
    rw [e86, e87, e103, e104, e105, e106, e107, e108]
    refine ⟨fun l cell k t hl hcell hk ht hz => ta1 l cell k t hl hcell hk ht (fun z => hz ?_), fun b c t hb hc ht hz => ta2 b c t hb hc ht (fun z => hz ?_), fun b c hb hc hz => ta3 b c hb hc (fun z => hz ?_), ta4, ta5, fun l cell hl hl2 hcell => ta6 l cell (by omega) hl2 hcell, ta7, ta8⟩
    · rw [ll 78 l (by decide) (by decide) (by omega), ll 73 l (by decide) (by decide) (by omega)]
      exact ⟨by omega, z.2⟩
    · rw [ll 78 (b / 6) (by decide) (by decide) (by omega), ll 73 (b / 6) (by decide) (by decide) (by omega)]
      exact ⟨by omega, z.2⟩
    · rw [ll 78 (b / 6) (by decide) (by decide) (by omega)]
      exact ⟨by omega, z.2⟩
  · unfold TB
    rw [e62, e86, e87, e103, e104, e106, e107, e108, dd 39 (by decide) (by decide) (by decide) (by decide) (by decide) (by decide), dd 40 (by decide) (by decide) (by decide) (by decide) (by decide) (by decide), dd 41 (by decide) (by decide) (by decide) (by decide) (by decide) (by decide)]
    refine ⟨q.tb.1, fun b c hb hin hc => ?_⟩
    rw [ln 70 b (by decide) (by decide) hb hin] at hc
    exact q.tb.2 b c hb hin hc
  · obtain ⟨ta1, ta2, ta3, ta4, ta5, ta6, ta7, ta8⟩ := q.ta
    unfold TL
    rw [e103, e104, e105, e108]
    intro l hl
    by_cases hlL : l = L
    · subst hlL
      refine ⟨fun cell hcell => ⟨?_, fun k hk => ?_, fun k hk hk2 => ?_⟩, ?_⟩
      · rw [(y3 cell).2, ta6 l cell (Nat.le_refl _) hL hcell]
      · rw [(y3 cell).1, zbt_0, zbt_0]
        have zz := fun t ht => ta1 l cell k t hL hcell hk ht (fun z => by omega)
        refine ⟨⟨fun z => (by cases z), fun ⟨t, ht, z⟩ => ?_⟩, ⟨fun z => (by cases z), fun ⟨t, ht, z⟩ => ?_⟩⟩
        · rw [(zz t ht).1] at z
          omega
        · rw [(zz t ht).2] at z
          omega
      · rw [(y3 cell).1, zbt_0, zbt_0]
        exact ⟨rfl, rfl⟩
      · rw [y4, zsum_0 64 (fun k hk => ta6 l k (Nat.le_refl _) hL hk), zsum_0 96 (fun k hk => ?_)]
        · rfl
        · have e : 96 * l + k = 16 * (6 * l + k / 16) + k % 16 := by omega
          rw [e]
          exact ta3 (6 * l + k / 16) (k % 16) (by omega) (by omega) (fun z => by omega)
    · have e9 : zhD h' 9 l 18 = zhD h 9 l 18 := y2 9 l 18 (Or.inl rfl) hlL
      have e34 : ∀ j, zhD h' 34 l j = zhD h 34 l j := fun j => y2 34 l j (Or.inr (Or.inl rfl)) hlL
      have e35 : ∀ j, zhD h' 35 l j = zhD h 35 l j := fun j => y2 35 l j (Or.inr (Or.inr rfl)) hlL
      simp only [e9, e34, e35]
      exact q.tl l (by omega)
  · refine ⟨fun j hj => ?_, fun b hb => ?_⟩
    · rw [x2 j (by omega) (by omega)]
      exact q.bd.1 j hj
    · rw [e86]
      exact q.bd.2 b hb
  · have hmz : ∀ c, zmk5 c = true → c ≠ 9 ∧ c ≠ 34 ∧ c ≠ 35 := fun c hc => by
      refine ⟨?_, ?_, ?_⟩ <;> (intro e; subst e; cases hc)
    refine ⟨fun c j hc => ?_, fun c hc => by rw [y5 c (hmz c hc).1 (hmz c hc).2.1 (hmz c hc).2.2, y6 c (hmz c hc).2.1 (hmz c hc).2.2 (hmz c hc).1]; exact q.rh.2 c hc⟩
    have hm : c ≠ 9 ∧ c ≠ 34 ∧ c ≠ 35 ∧ c ≠ 21 ∧ c ≠ 1 ∧ c ≠ 7 := by
      refine ⟨?_, ?_, ?_, ?_, ?_, ?_⟩ <;> (intro e; subst e; cases hc)
    rw [y1 c 0 j hm.1 hm.2.1 hm.2.2.1 hm.2.2.2.1 hm.2.2.2.2.1 hm.2.2.2.2.2]
    exact q.rh.1 c j hc
  · intro j
    rw [e60, e91, e92, e99, x.r (c := 67) (by omega) (by decide) (by decide)]
    exact q.iv j
  · obtain ⟨r1, r2⟩ := q.rn
    have e : zsum (A' 78) 0 12 = zsum (A 78) 0 12 := zsum_congr 12 (fun k hk => by
      by_cases hkL : 0 + k = L
      · rw [hkL, x3]
        exact (q.rl.2.2.2.2.2 L (Nat.le_refl _) hL).2.2.2.1.symm
      · exact ll 78 _ (by decide) (by decide) hkL)
    refine ⟨?_, ?_⟩
    · rw [e, y7]
      omega
    · rw [e, y8]
      omega
end
