/-! BLOCKS HAVE LEFT -/
theorem SEL.comp {kp kq kr : Nat → Prop} {m m1 m2 : Nat} {s t : Nat → Nat} (x : SEL kp m m1 s) (y : SEL kq m1 m2 t) (h : ∀ i, i < m1 → (kq i ↔ kr (s i))) : SEL (fun i => kp i ∧ kr i) m m2 (fun i => s (t i)) := by
  refine ⟨fun i hi => ?_, fun i i2 h1 h2 => ?_, fun i hi hk => ?_⟩
  · obtain ⟨y1, y2⟩ := y.1 i hi
    obtain ⟨x1, x2⟩ := x.1 _ y1
    exact ⟨x1, x2, (h _ y1).mp y2⟩
  · exact x.2.1 _ _ (y.2.1 i i2 h1 h2) (y.1 i2 h2).1
  · obtain ⟨k, k1, k2⟩ := x.2.2 i hi hk.1
    obtain ⟨k3, k4, k5⟩ := y.2.2 k k1 ((h k k1).mpr (by rw [k2]; exact hk.2))
    exact ⟨k3, k4, by show s (t k3) = i; rw [k5]; exact k2⟩
/-- the rows of a unit's groups, chosen -/
def URW (A A' : zA) (u : Nat) (s : Nat → Nat) (m : Nat) : Prop := ∀ i, i < m → A' 94 (4 * u + i) = A 94 (4 * u + s i) ∧ A' 95 (4 * u + i) = A 95 (4 * u + s i) ∧ A' 96 (4 * u + i) = A 96 (4 * u + s i) ∧ A' 97 (4 * u + i) = A 97 (4 * u + s i) ∧ ∀ k, k < 4 → A' 98 (4 * (4 * u + i) + k) = A 98 (4 * (4 * u + s i) + k) ∧ A' 99 (4 * (4 * u + i) + k) = A 99 (4 * (4 * u + s i) + k)
def DP (A A' : zA) (dp : Nat → Bool) : Prop := (∀ c, c ≠ 87 → c < 93 ∨ 100 < c → A' c = A c) ∧ (∀ b, A' 87 b = if dp b = true then 0 else A 87 b) ∧ (∀ u, u < 2 → ∃ (m' : Nat) (s : Nat → Nat), A' 93 u = (m' : Int) ∧ SEL (fun i => dp (A 94 (4 * u + i)).toNat = false) (A 93 u).toNat m' s ∧ URW A A' u s m') ∧ (∀ u, u < 2 → A' 100 u = if 0 ≤ A 100 u ∧ dp (A 100 u).toNat = true then -1 else A 100 u) ∧ (∀ j, ∃ j', A' 99 j = A 99 j')
theorem DP.nil {A : zA} (h93 : ∀ u, u < 2 → 0 ≤ A 93 u) : DP A A (fun _ => false) := ⟨fun _ _ _ => rfl, fun b => by rw [if_neg (fun z => by cases z)], fun u hu => ⟨(A 93 u).toNat, fun i => i, by have := h93 u hu; omega, SEL.id (fun _ _ => rfl), fun i _ => ⟨rfl, rfl, rfl, rfl, fun _ _ => ⟨rfl, rfl⟩⟩⟩, fun u _ => by rw [if_neg (fun z => by cases z.2)], fun j => ⟨j, rfl⟩⟩
def dpo (dp : Nat → Bool) (b c : Nat) : Bool := dp c || decide (c = b)
theorem DP.step {A A1 A2 : zA} {dp : Nat → Bool} {b u m' : Nat} {s : Nat → Nat} (x : DP A A1 dp) (hu : u < 2) (y : LVb A1 A2 b u s m') (z : SEL (fun i => A1 94 (4 * u + i) ≠ (b : Int)) (A1 93 u).toNat m' s) (h94 : ∀ u2 i, u2 < 2 → i < (A 93 u2).toNat → 0 ≤ A 94 (4 * u2 + i) ∧ (A 94 (4 * u2 + i) = (b : Int) → u2 = u)) (h4 : ∀ u2, u2 < 2 → (A 93 u2).toNat ≤ 4) (h100 : ∀ u2, u2 < 2 → A 100 u2 = -1 ∨ (0 ≤ A 100 u2 ∧ (A 100 u2 = (b : Int) → u2 = u))) : DP A A2 (dpo dp b) := by
  obtain ⟨x1, x2, x3, x4, x5⟩ := x
  obtain ⟨y1, y2, y3, y4, y5, y6, y7⟩ := y
  refine ⟨fun c h1 h2 => (y1 c h1 h2).trans (x1 c h1 h2), fun c => ?_, fun u2 hu2 => ?_, fun u2 hu2 => ?_, fun j => ?_⟩
  · rw [y2]
    unfold zup
    by_cases hcb : c = b
    · rw [if_pos hcb, if_pos (show dpo dp b c = true by unfold dpo; rw [decide_eq_true hcb, Bool.or_true])]
    · rw [if_neg hcb, x2 c]
      unfold dpo
      rw [decide_eq_false hcb, Bool.or_false]
  · obtain ⟨m1, s1, e1, e2, e3⟩ := x3 u2 hu2
    by_cases huu : u2 = u
    · subst huu
      rw [e1, Int.toNat_natCast] at z
      have c := e2.comp (kr := fun i => A 94 (4 * u2 + i) ≠ (b : Int)) z (fun i hi => by rw [(e3 i hi).1])
      refine ⟨m', fun i => s1 (s i), by rw [y3, zup_same], c.congr (fun i hi => ?_), fun i hi => ?_⟩
      · have h0 := (h94 u2 i hu2 hi).1
        constructor
        · rintro ⟨z1, z2⟩
          show (dp _ || _) = false
          rw [z1, decide_eq_false (fun z => z2 (by omega))]
          rfl
        · intro z1
          have z1' : (dp (A 94 (4 * u2 + i)).toNat || decide ((A 94 (4 * u2 + i)).toNat = b)) = false := z1
          cases hd : dp (A 94 (4 * u2 + i)).toNat with
          | true => rw [hd] at z1'; cases z1'
          | false =>
            rw [hd, Bool.false_or] at z1'
            refine ⟨rfl, fun z => ?_⟩
            have := of_decide_eq_false z1'
            rw [z, Int.toNat_natCast] at this
            exact this rfl
      · obtain ⟨w1, -⟩ := z.1 i hi
        obtain ⟨p1, p2, p3, p4, p5⟩ := y4 i hi
        obtain ⟨q1, q2, q3, q4, q5⟩ := e3 _ w1
        exact ⟨p1.trans q1, p2.trans q2, p3.trans q3, p4.trans q4, fun k hk => ⟨(p5 k hk).1.trans (q5 k hk).1, (p5 k hk).2.trans (q5 k hk).2⟩⟩
    · refine ⟨m1, s1, by rw [y3, zup_ne huu, e1], e2.congr (fun i hi => ?_), fun i hi => ?_⟩
      · have h0 := h94 u2 i hu2 hi
        show _ ↔ (dp _ || _) = false
        rw [decide_eq_false (fun z => huu (h0.2 (by omega))), Bool.or_false]
      · have im : i < 4 ∨ ¬ i < 4 := by omega
        obtain ⟨q1, q2, q3, q4, q5⟩ := e3 i hi
        have hy : 4 * u2 + i < 4 * u ∨ 4 * u + 4 ≤ 4 * u2 + i ∨ ¬ i < 4 := by omega
        rcases hy with hy | hy | hy
        · obtain ⟨p1, p2, p3, p4, p5⟩ := y5 (4 * u2 + i) (Or.inl hy)
          exact ⟨p1.trans q1, p2.trans q2, p3.trans q3, p4.trans q4, fun k hk => ⟨(p5 k hk).1.trans (q5 k hk).1, (p5 k hk).2.trans (q5 k hk).2⟩⟩
        · obtain ⟨p1, p2, p3, p4, p5⟩ := y5 (4 * u2 + i) (Or.inr hy)
          exact ⟨p1.trans q1, p2.trans q2, p3.trans q3, p4.trans q4, fun k hk => ⟨(p5 k hk).1.trans (q5 k hk).1, (p5 k hk).2.trans (q5 k hk).2⟩⟩
        · exact absurd hi (fun hi => hy (Nat.lt_of_lt_of_le hi (Nat.le_trans e2.cnt (h4 u2 hu2))))
  · rw [y7]
    have h0 := h100 u2 hu2
    have h1 := x4 u2 hu2
    by_cases h2 : A1 100 u = (b : Int)
    · rw [if_pos h2]
      by_cases huu : u2 = u
      · subst huu
        rw [zup_same]
        have : A1 100 u2 = A 100 u2 := by
          rw [h1]
          by_cases h3 : 0 ≤ A 100 u2 ∧ dp (A 100 u2).toNat = true
          · rw [if_pos h3] at h1
            omega
          · rw [if_neg h3]
        rw [this] at h2
        rw [if_pos ⟨by omega, by unfold dpo; rw [h2, Int.toNat_natCast, decide_eq_true rfl, Bool.or_true]⟩]
      · rw [zup_ne huu, h1]
        rcases h0 with h0 | ⟨h0, h3⟩
        · rw [if_neg (fun z => by omega), if_neg (fun z => by omega)]
        · unfold dpo
          rw [show decide ((A 100 u2).toNat = b) = false from decide_eq_false (fun z => huu (h3 (by omega))), Bool.or_false]
    · rw [if_neg h2, h1]
      rcases h0 with h0 | ⟨h0, h3⟩
      · rw [if_neg (fun z => by omega), if_neg (fun z => by omega)]
      · by_cases hb4 : A 100 u2 = (b : Int)
        · have huu := h3 hb4
          subst huu
          have hd : dp (A 100 u2).toNat = true := by
            cases hd : dp (A 100 u2).toNat with
            | true => rfl
            | false =>
              rw [if_neg (fun z => by rw [hd] at z; cases z.2)] at h1
              exact absurd (h1.trans hb4) h2
          rw [if_pos ⟨h0, hd⟩, if_pos ⟨h0, by unfold dpo; rw [hd]; rfl⟩]
        · unfold dpo
          rw [show decide ((A 100 u2).toNat = b) = false from decide_eq_false (fun z => hb4 (by omega)), Bool.or_false]
  · obtain ⟨j1, e1⟩ := y6 j
    obtain ⟨j2, e2⟩ := x5 j1
    exact ⟨j2, e1.trans e2⟩
section
variable {A A' B : zA} {h h' : zH} {K L n : Nat} {bc tc gc : Nat → Nat} {N M : Int} {dp : Nat → Bool}
/-- the relation when blocks have left -/
theorem rr_drop (q : RR A h K L bc tc gc n B N M) (hA : ∀ c, c ≠ 69 → c ≠ 79 → c ≠ 84 → c ≠ 85 → c ≠ 87 → c < 93 ∨ 100 < c → A' c = A c) (h87 : ∀ b, b < 72 → A' 87 b = if dp b = true then 0 else A 87 b) (hU : ∀ u, u < 2 → ∃ (m' : Nat) (s : Nat → Nat), A' 93 u = (m' : Int) ∧ SEL (fun i => dp (A 94 (4 * u + i)).toNat = false) (A 93 u).toNat m' s ∧ URW A A' u s m' ∧ zhD h' 3 u 2 = (m' : Int) ∧ ∀ i, i < m' → zhD h' 26 u i = zhD h 26 u (s i)) (h100 : ∀ u, u < 2 → A' 100 u = if 0 ≤ A 100 u ∧ dp (A 100 u).toNat = true then -1 else A 100 u) (h99 : ∀ j, ∃ j', A' 99 j = A 99 j')
    (hD : ∀ c p j, c ≠ 26 → ¬ (c = 3 ∧ j = 2) → ¬ (c = 9 ∧ 9 ≤ j ∧ j ≤ 12) → zhD h' c p j = zhD h c p j) (hN : zhN h' = zhN h) (hL : zhL h' = zhL h) (hC : zhC h' = zhC h) (hS : zhS h' = zhS h) (rl : RL A' h' K L) (rc : RC A' L) (bi : BI A' L) : RR A' h' K L bc tc gc n B N M := by
  have k1 : ∀ b, b < 72 → A' 87 b = 1 → A 87 b = 1 ∧ dp b = false := fun b hb h1 => by
    rw [h87 b hb] at h1
    cases hd : dp b with
    | true =>
      rw [if_pos hd] at h1
      omega
    | false =>
      rw [if_neg (by rw [hd]; decide)] at h1
      exact ⟨h1, rfl⟩
  have d : ∀ c, c ≠ 26 → c ≠ 3 → c ≠ 9 → zhD h' c = zhD h c := fun c c1 c2 c3 => funext fun p => funext fun j => hD c p j c1 (fun z => c2 z.1) (fun z => c3 z.1)
  have R : ∀ c, (c ≠ 69 ∧ c ≠ 79 ∧ c ≠ 84 ∧ c ≠ 85 ∧ c ≠ 87 ∧ (c < 93 ∨ 100 < c)) → A' c = A c := fun c hc => hA c hc.1 hc.2.1 hc.2.2.1 hc.2.2.2.1 hc.2.2.2.2.1 hc.2.2.2.2.2
  have rka : ∀ c j, RKa c j = true → A' c j = A c j := fun c j hz => by
    have rg : c < 93 ∨ 100 < c := by
      by_cases hc : c < 93
      · exact Or.inl hc
      · by_cases hc2 : 100 < c
        · exact Or.inr hc2
        · exfalso
          rcases (show c = 93 ∨ c = 94 ∨ c = 95 ∨ c = 96 ∨ c = 97 ∨ c = 98 ∨ c = 99 ∨ c = 100 by omega) with rfl | rfl | rfl | rfl | rfl | rfl | rfl | rfl <;> cases hz
    rw [R c ⟨fun z => (by subst z; cases hz), fun z => (by subst z; cases hz), fun z => (by subst z; cases hz), fun z => (by subst z; cases hz), fun z => (by subst z; cases hz), rg⟩]
  have tla : ∀ c j, TLa c j = true → A' c j = A c j := fun c j hz => by
    have rg : c < 93 ∨ 100 < c := by
      by_cases hc : c < 93
      · exact Or.inl hc
      · by_cases hc2 : 100 < c
        · exact Or.inr hc2
        · exfalso
          rcases (show c = 93 ∨ c = 94 ∨ c = 95 ∨ c = 96 ∨ c = 97 ∨ c = 98 ∨ c = 99 ∨ c = 100 by omega) with rfl | rfl | rfl | rfl | rfl | rfl | rfl | rfl <;> cases hz
    rw [R c ⟨fun z => (by subst z; cases hz), fun z => (by subst z; cases hz), fun z => (by subst z; cases hz), fun z => (by subst z; cases hz), fun z => (by subst z; cases hz), rg⟩]
  have hus : US A' h' gc := fun u hu => by
    obtain ⟨m', s, e1, e2, e3, e4, e5⟩ := hU u hu
    obtain ⟨⟨s0, s1, s2⟩, t1, t2, t3, t4⟩ := q.us u hu
    have hcnt := e2.cnt
    have ci : ∀ i : Nat, (i : Int) < A' 93 u → i < m' := fun i hi => by rw [e1] at hi; omega
    have ci2 : ∀ i, i < m' → ((s i : Nat) : Int) < A 93 u := fun i hi => by
      have := (e2.1 i hi).1
      omega
    refine ⟨⟨by rw [e1]; omega, by rw [e1]; omega, by rw [e4, e1]⟩, fun i hi => ?_, fun i i2 hi hi2 w1 w2 => ?_, fun b j hb hin h88 hj => ?_, fun i i2 h12 hi2 w1 => ?_⟩
    · have him := ci i hi
      obtain ⟨b, j, y1, y2, y3, y4, y5, y6, y7⟩ := t1 (s i) (ci2 i him)
      obtain ⟨z1, z2, -⟩ := e3 i him
      have hk := (e2.1 i him).2
      dsimp only at hk
      rw [y1, Int.toNat_natCast] at hk
      refine ⟨b, j, z1.trans y1, y2, z2.trans y3, ?_, ?_, ?_, ?_⟩
      · rw [R 73 (by decide)]
        exact y4
      · rw [h87 b y2, if_neg (by rw [hk]; decide)]
        exact y5
      · rw [R 88 (by decide)]
        exact y6
      · rw [e5 i him]
        exact y7
    · have a1 := ci i hi
      have a2 := ci i2 hi2
      rw [(e3 i a1).1, (e3 i2 a2).1] at w1
      rw [(e3 i a1).2.1, (e3 i2 a2).2.1] at w2
      exact e2.inj a1 a2 (t2 _ _ (ci2 i a1) (ci2 i2 a2) w1 w2)
    · obtain ⟨p1, p2⟩ := k1 b hb hin
      rw [R 88 (by decide)] at h88
      rw [R 73 (by decide)] at hj
      obtain ⟨i, i1, i2, i3⟩ := t3 b j hb p1 h88 hj
      obtain ⟨k, k1', k2⟩ := e2.2.2 i (by omega) (by dsimp only; rw [i2, Int.toNat_natCast]; exact p2)
      obtain ⟨z1, z2, -⟩ := e3 k k1'
      exact ⟨k, by rw [e1]; omega, by rw [z1, k2]; exact i2, by rw [z2, k2]; exact i3⟩
    · have a2 := ci i2 hi2
      have a1 : i < m' := Nat.lt_trans h12 a2
      rw [(e3 i a1).1, (e3 i2 a2).1] at w1
      rw [(e3 i a1).2.1, (e3 i2 a2).2.1]
      exact t4 (s i) (s i2) (e2.2.1 i i2 h12 a2) (ci2 i2 a2) w1
  refine ⟨q.rs.fr (fun c p j hz => hD c p j (fun z => by subst z; cases hz) (fun z => by rw [z.1, z.2] at hz; cases hz) (fun z => by rw [z.1] at hz; cases hz)) hN hL, q.rd.fr (fun c p j hz => hD c p j (fun z => by subst z; cases hz) (fun z => by rw [z.1, z.2] at hz; cases hz) (fun z => by
    rcases (show j = 9 ∨ j = 10 ∨ j = 11 ∨ j = 12 by omega) with hj | hj | hj | hj <;> (rw [z.1, hj] at hz; cases hz))) hN hL, q.rk.fr rka (fun c p j hz => hD c p j (fun z => by subst z; cases hz) (fun z => by rw [z.1] at hz; cases hz) (fun z => by rw [z.1] at hz; cases hz)) hN, rl, ?_, ?_, bi, ⟨fun b hb hin => ?_, fun b b2 hb hb2 h1 h2 => q.bh.2 b b2 hb hb2 (k1 b hb h1).1 (k1 b2 hb2 h2).1⟩, ⟨fun b hb hin t ht => ?_, fun b b2 hb hb2 h1 h2 t t2 ht ht2 => ?_⟩, fun b hb hin t ht => ?_, ⟨fun b hb hin i hi => ?_, fun b b2 hb hb2 h1 h2 i i2 hi hi2 => ?_⟩, fun b hb hin c hc => ?_, hus, fun u i hu hi b j w1 w2 => ?_, fun u hu => ?_, fun u hu => ?_, ?_, ⟨fun b cell t hb hin hc ht => ?_, fun b c hb hin hc => ?_⟩, ?_, ?_, ⟨fun c j hz => ?_, fun c hz => by rw [hN, hL]; exact q.rh.2 c hz⟩, fun j => ?_, ?_⟩
  · exact q.rm.frame (R 60 (by decide)) (fun j _ => by rw [R 12 (by decide)]) (d 22 (by decide) (by decide) (by decide)) (d 2 (by decide) (by decide) (by decide)) (d 4 (by decide) (by decide) (by decide))
  · exact rc
  · obtain ⟨y1, y2, y3, y4, y5, y6⟩ := q.bh.1 b hb (k1 b hb hin).1
    rw [R 73 (by decide), R 62 (by decide), R 70 (by decide), hN, hL, d 10 (by decide) (by decide) (by decide)]
    exact ⟨y1, y2, y3, y4, y5, y6⟩
  · rw [R 73 (by decide)] at ht
    rw [R 61 (by decide), R 70 (by decide), hN, hL, d 36 (by decide) (by decide) (by decide), d 6 (by decide) (by decide) (by decide)]
    exact q.th.1 b hb (k1 b hb hin).1 t ht
  · rw [R 73 (by decide)] at ht ht2
    exact q.th.2 b b2 hb hb2 (k1 b hb h1).1 (k1 b2 hb2 h2).1 t t2 ht ht2
  · rw [R 73 (by decide)] at ht
    rw [R 89 (by decide), R 90 (by decide), R 91 (by decide), R 61 (by decide), R 63 (by decide), R 70 (by decide), d 6 (by decide) (by decide) (by decide), d 32 (by decide) (by decide) (by decide)]
    exact q.td b hb (k1 b hb hin).1 t ht
  · rw [R 73 (by decide)] at hi ⊢
    rw [hN, d 37 (by decide) (by decide) (by decide), d 11 (by decide) (by decide) (by decide), d 42 (by decide) (by decide) (by decide)]
    exact q.gh.1 b hb (k1 b hb hin).1 i hi
  · rw [R 73 (by decide)] at hi hi2
    exact q.gh.2 b b2 hb hb2 (k1 b hb h1).1 (k1 b2 hb2 h2).1 i i2 hi hi2
  · rw [R 62 (by decide), R 70 (by decide)] at hc
    rw [R 92 (by decide), d 38 (by decide) (by decide) (by decide)]
    exact q.sh b hb (k1 b hb hin).1 c hc
  · obtain ⟨m', s, e1, e2, e3, e4, e5⟩ := hU u hu
    have him : i < m' := by rw [e1] at hi; omega
    obtain ⟨z1, z2, z3, z4, z5⟩ := e3 i him
    have hs := (e2.1 i him).1
    rw [z1] at w1
    rw [z2] at w2
    have ho := q.ug u (s i) hu (by omega) b j w1 w2
    rw [z3, z4, R 12 (by decide), d 11 (by decide) (by decide) (by decide), d 43 (by decide) (by decide) (by decide), d 44 (by decide) (by decide) (by decide)]
    refine ⟨ho.1, ho.2.1, ho.2.2.1, ho.2.2.2.1, fun k hk => ?_⟩
    have h4 := ho.2.2.2.1
    rw [(z5 k (by omega)).1, (z5 k (by omega)).2]
    exact ho.2.2.2.2 k hk
  · obtain ⟨m', s, e1, e2, e3, e4, e5⟩ := hU u hu
    obtain ⟨y1, y2, y3, y4⟩ := q.ul u hu
    have e33 : zhD h' 3 u 3 = zhD h 3 u 3 := hD 3 u 3 (by decide) (by decide) (by decide)
    refine ⟨fun p hp => ?_, ?_, ?_, fun i hi => ?_⟩
    · rw [R 102 (by decide), d 27 (by decide) (by decide) (by decide)]
      exact y1 p hp
    · rw [e33, hN]
      exact y2
    · rw [h100 u hu]
      by_cases hc : 0 ≤ A 100 u ∧ dp (A 100 u).toNat = true
      · rw [if_pos hc]
        exact Or.inl rfl
      · rw [if_neg hc]
        rcases y3 with y3 | ⟨b, b1, b2, b3, b4⟩
        · exact Or.inl y3
        · refine Or.inr ⟨b, b1, b2, ?_, by rw [R 88 (by decide)]; exact b4⟩
          rw [h87 b b2, if_neg (fun z => hc ⟨by omega, by rw [b1, Int.toNat_natCast]; exact z⟩)]
          exact b3
    · have him : i < m' := by rw [e1] at hi; omega
      obtain ⟨z1, z2, -⟩ := e3 i him
      obtain ⟨hs, hk⟩ := e2.1 i him
      rw [e5 i him, e33, z1, z2, R 101 (by decide), y4 (s i) (by omega), h100 u hu]
      by_cases hc : 0 ≤ A 100 u ∧ dp (A 100 u).toNat = true
      · rw [if_pos hc]
        obtain ⟨b, j, w1, -⟩ := (q.us u hu).2.1 (s i) (by omega)
        constructor
        · rintro ⟨v1, -⟩
          rw [v1, hc.2] at hk
          cases hk
        · rintro ⟨v1, -⟩
          omega
      · rw [if_neg hc]
  · obtain ⟨w1, w2, w3, w4⟩ := q.su u hu
    have h73 : ∀ b : Nat, b < 72 → A' 87 b = 1 → 0 < A' 73 (b / 6) := fun b hb h1 => by
      obtain ⟨k, -, -, -, ⟨f1, -⟩, -⟩ := q.blk hb (k1 b hb h1).1
      rw [R 73 (by decide)]
      omega
    obtain ⟨v1, v2⟩ := us_su hus h73 hu
    have P : ∀ b, b < 72 → A 87 b = 1 → 0 ≤ A 73 (b / 6) * A 61 (A 70 (b / 6)).toNat ∧ 0 ≤ A 62 (A 70 (b / 6)).toNat := fun b hb h1 => by
      obtain ⟨k, hk, e70, hbL, ⟨f1, f2⟩, ⟨g1, g2, g3, g4, -⟩, -⟩ := q.blk hb h1
      rw [e70, Int.toNat_natCast]
      exact ⟨Int.mul_nonneg (by omega) (by omega), g3⟩
    refine ⟨v1, v2, ?_, ?_⟩
    · rw [zsrm_g] at w3 ⊢
      refine Int.le_trans (zsg_le 72 (fun b hb h1 h2 => ⟨(k1 b hb h1).1, by rw [R 88 (by decide)] at h2; exact h2, ?_⟩) (fun b hb h1 => (P b hb h1).1)) w3
      rw [R 73 (by decide), R 61 (by decide), R 70 (by decide)]
    · rw [zssm_g] at w4 ⊢
      refine Int.le_trans (zsg_le 72 (fun b hb h1 h2 => ⟨(k1 b hb h1).1, by rw [R 88 (by decide)] at h2; exact h2, ?_⟩) (fun b hb h1 => (P b hb h1).2)) w4
      rw [R 62 (by decide), R 70 (by decide)]
  · obtain ⟨t1, t2, t3, t4, t5, t6, t7, t8⟩ := q.ta
    unfold TA
    rw [R 73 (by decide), R 78 (by decide), R 86 (by decide), R 103 (by decide), R 104 (by decide), R 105 (by decide), R 106 (by decide), R 107 (by decide), R 108 (by decide)]
    exact ⟨t1, t2, t3, t4, t5, t6, fun b cell t hb hin => t7 b cell t hb (k1 b hb hin).1, fun b c t hb hin => t8 b c t hb (k1 b hb hin).1⟩
  · rw [R 86 (by decide), R 103 (by decide), R 104 (by decide), d 39 (by decide) (by decide) (by decide)]
    exact q.tb.1 b cell t hb (k1 b hb hin).1 hc ht
  · rw [R 62 (by decide), R 70 (by decide)] at hc
    rw [R 86 (by decide), R 106 (by decide), R 107 (by decide), R 108 (by decide), d 41 (by decide) (by decide) (by decide), d 40 (by decide) (by decide) (by decide)]
    exact q.tb.2 b c hb (k1 b hb hin).1 hc
  · refine q.tl.fr tla (fun c p j hz => hD c p j (fun z => by subst z; cases hz) (fun z => by rw [z.1] at hz; cases hz) (fun z => by
      rcases (show j = 9 ∨ j = 10 ∨ j = 11 ∨ j = 12 by omega) with hj | hj | hj | hj <;> (rw [z.1, hj] at hz; cases hz))) hN hL
  · unfold BD
    rw [R 12 (by decide), R 86 (by decide)]
    exact q.bd
  · rw [d c (fun z => by subst z; cases hz) (fun z => by subst z; cases hz) (fun z => by subst z; cases hz)]
    exact q.rh.1 c j hz
  · obtain ⟨y1, y2, y3, y4, -⟩ := q.iv j
    obtain ⟨j', e⟩ := h99 j
    rw [R 60 (by decide), R 67 (by decide), R 91 (by decide), R 92 (by decide), e]
    exact ⟨y1, y2, y3, y4, (q.iv j').2.2.2.2⟩
  · unfold RN
    rw [R 78 (by decide), hC, hS]
    exact q.rn
end
