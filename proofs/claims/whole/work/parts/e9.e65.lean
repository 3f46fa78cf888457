/-! A BLOCK ENDS: both sides -/
section
variable {ρ : Type} {h h' g : zH} {A A' B : zA} {kr : Int → zH → Option ρ} {K L n : Nat} {bc tc gc : Nat → Nat} {N M : Int} {s : Nat → Int}
theorem RL.one {l : Nat} (r : RL A h K L) (hl : l < L) (hA : ∀ c j, RLa c j = true → (c < 69 ∨ 85 < c ∨ j ≠ l) → A' c j = A c j) (h77 : A' 77 = A 77) (hD : ∀ c p j, RLd c j = true → ¬ (c = 9 ∧ p = l) → zhD h' c p j = zhD h c p j) (hN : zhN h' = zhN h) (nl : RLn A' h' K l) : RL A' h' K L := by
  obtain ⟨a1, a2, a3, a4, a5, a6⟩ := r
  refine ⟨by rw [hA 12 13 rfl (Or.inl (by decide))]; exact a1, a2, by rw [hN]; exact a3, by rw [hD 1 0 3 rfl (fun z => absurd z.1 (by decide))]; exact a4, fun l2 hl2 => ?_, fun l2 h1 h2 => ?_⟩
  · by_cases e : l2 = l
    · rw [e]
      exact nl
    · have n1 : ¬ ((9 : Nat) = 9 ∧ l2 = l) := fun z => e z.2
      have A9 : ∀ c, RLa c l2 = true → A' c l2 = A c l2 := fun c hc => hA c l2 hc (Or.inr (Or.inr e))
      have K9 : ∀ c, (c = 61 ∨ c = 62 ∨ c = 64) → A' c = A c := fun c hc => funext fun j => hA c j (by rcases hc with rfl | rfl | rfl <;> rfl) (Or.inl (by omega))
      have := a5 l2 hl2
      unfold RLn at this ⊢
      rw [A9 69 rfl, A9 70 rfl, A9 71 rfl, A9 72 rfl, A9 73 rfl, A9 74 rfl, A9 75 rfl, A9 76 rfl, h77, A9 78 rfl, A9 79 rfl, A9 80 rfl, A9 81 rfl, A9 82 rfl, A9 83 rfl, A9 84 rfl, A9 85 rfl, K9 61 (by decide), K9 62 (by decide), K9 64 (by decide), hD 21 0 l2 rfl (by omega), hD 9 l2 0 rfl n1, hD 9 l2 1 rfl n1, hD 9 l2 2 rfl n1, hD 9 l2 3 rfl n1, hD 9 l2 4 rfl n1, hD 9 l2 5 rfl n1, hD 9 l2 6 rfl n1, hD 9 l2 7 rfl n1, hD 9 l2 8 rfl n1, hD 9 l2 9 rfl n1, hD 9 l2 10 rfl n1, hD 9 l2 11 rfl n1, hD 9 l2 12 rfl n1, hD 9 l2 13 rfl n1, hD 9 l2 14 rfl n1, hD 9 l2 15 rfl n1]
      exact this
  · have e : l2 ≠ l := by omega
    have A9 : ∀ c, RLa c l2 = true → A' c l2 = A c l2 := fun c hc => hA c l2 hc (Or.inr (Or.inr e))
    rw [A9 72 rfl, A9 73 rfl, h77, A9 78 rfl, A9 79 rfl, A9 80 rfl, A9 81 rfl, A9 82 rfl, A9 83 rfl]
    exact a6 l2 h1 h2
theorem MKS.tr {s0 s1 s2 : Nat → Int} (x : MKS A L s0 s1) (y : MKS A L s1 s2) : MKS A L s0 s2 := by
  refine ⟨fun l => ?_, fun T hT l hl => ?_⟩
  · rcases y.1 l with e | ⟨e1, e2, e3⟩
    · rw [e]
      exact x.1 l
    · rcases x.1 l with z | ⟨z1, z2, z3⟩
      · exact Or.inr ⟨e1, z.symm.trans e2, e3⟩
      · rw [z3] at e2
        exact absurd e2 (by decide)
  · by_cases e : s1 l = s0 l
    · refine y.2 T (fun l2 h1 h2 h3 h4 h5 => ?_) l (fun z => hl (z.trans e))
      have e2 : s0 l2 = 114 := by
        rcases x.1 l2 with z | ⟨-, z, -⟩
        · exact z.symm.trans h2
        · exact z
      refine hT l2 h1 e2 h3 h4 (fun k hk ek => ?_)
      rcases h5 k hk ek with w | w
      · by_cases ek2 : s1 k = s0 k
        · rw [ek2] at w
          exact Or.inl w
        · exact Or.inr (x.2 T hT k ek2)
      · exact Or.inr w
    · exact x.2 T hT l e
/-- nothing is left to mark, and who waits at a last place is as it should be -/
def CW (A : zA) (L : Nat) : Prop := CL A L ∧ WL A
theorem wl_ard : WL (ard A 69 s) ↔ WL A := ⟨fun x => x.fr (ard_ne (by decide)).symm (ard_ne (by decide)).symm (ard_ne (by decide)).symm (ard_ne (by decide)).symm (ard_ne (by decide)).symm (ard_ne (by decide)).symm (ard_ne (by decide)).symm (ard_ne (by decide)).symm (ard_ne (by decide)).symm, fun x => x.fr (ard_ne (by decide)) (ard_ne (by decide)) (ard_ne (by decide)) (ard_ne (by decide)) (ard_ne (by decide)) (ard_ne (by decide)) (ard_ne (by decide)) (ard_ne (by decide)) (ard_ne (by decide))⟩
theorem WL.lo (x : WL A) (h63 : A' 63 = A 63) (h70 : A' 70 = A 70) (h73 : A' 73 = A 73) (h89 : A' 89 = A 89) (h90 : A' 90 = A 90) (h93 : A' 93 = A 93) (h94 : A' 94 = A 94) (h95 : A' 95 = A 95) (h97 : ∀ y, A 97 y = 0 → A' 97 y = 0) : WL A' := by
  unfold WL
  rw [h63, h70, h73, h89, h90, h93, h94, h95]
  intro u i b j k hu hi e94 e95 hk hlt hw hp
  obtain ⟨x1, x2⟩ := x u i b j k hu hi e94 e95 hk hlt hw hp
  exact ⟨h97 _ x1, x2⟩
theorem wl_drop (x : WL A) (h63 : A' 63 = A 63) (h70 : A' 70 = A 70) (h73 : A' 73 = A 73) (h89 : A' 89 = A 89) (h90 : A' 90 = A 90) (hU : ∀ u2, u2 < 2 → ∃ (m' : Nat) (ss : Nat → Nat), A' 93 u2 = (m' : Int) ∧ (∀ i, i < m' → ss i < (A 93 u2).toNat) ∧ URW A A' u2 ss m') : WL A' := by
  intro u i b j k hu hi e94 e95 hk hlt hw hp
  obtain ⟨m', ss, e1, e2, e3⟩ := hU u hu
  rw [e1] at hi
  have hi' : i < m' := by omega
  have p1 := e2 i hi'
  obtain ⟨y1, y2, -, y4, -⟩ := e3 i hi'
  rw [y1] at e94
  rw [y2] at e95
  rw [h73] at hlt
  rw [h89] at hw
  rw [h63, h70, h90] at hp
  rw [y4, h73, h89]
  exact x u (ss i) b j k hu (by omega) e94 e95 hk hlt hw hp
/-- the relation while launches wait to be marked done by the model -/
def PF (A : zA) (h : zH) (K L : Nat) (bc tc gc : Nat → Nat) (n : Nat) (B : zA) (N M : Int) : Prop := ∃ s : Nat → Int, RR (ard A 69 s) h K L bc tc gc n B N M ∧ MKS A L (A 69) s ∧ (∀ l, l < L → ¬ zenb A L s l) ∧ (∀ l, l < L → A 76 l ≠ -1 → A 70 (A 76 l).toNat ≠ -1 ∧ (A 76 l).toNat < l) ∧ (∀ l, l < L → A 69 l = 113 → A 70 l ≠ -1 → A 79 l ≠ A 72 l) ∧ (∀ l, l < L → A 76 l ≠ -1 → A 71 l = -1) ∧ WL A
theorem PF.of (q : RR A h K L bc tc gc n B N M) (cl : CW A L) : PF A h K L bc tc gc n B N M := ⟨A 69, by rw [ard_id]; exact q, MKS.id, cl.1.1, cl.1.2.1, cl.1.2.2.1, cl.1.2.2.2, cl.2⟩
theorem zenb_row {s : Nat → Int} {l : Nat} (h70 : A' 70 = A 70) (h72 : A' 72 = A 72) (h76 : A' 76 = A 76) (h79 : A' 79 l = A 79 l) : zenb A' L s l ↔ zenb A L s l := by
  unfold zenb
  rw [h70, h72, h76, h79]
theorem MKS.row {s0 s1 : Nat → Int} {l : Nat} (x : MKS A L s0 s1) (h70 : A' 70 = A 70) (h72 : A' 72 = A 72) (h76 : A' 76 = A 76) (h79 : ∀ l2, l2 ≠ l → A' 79 l2 = A 79 l2) (hl : A 79 l ≠ A 72 l) : MKS A' L s0 s1 := by
  refine ⟨x.1, fun T hT => x.2 T (fun l2 h1 h2 h3 h4 h5 => ?_)⟩
  by_cases e : l2 = l
  · rw [e] at h4
    exact absurd h4 hl
  · exact hT l2 h1 h2 (by rw [h70]; exact h3) (by rw [h79 l2 e, h72]; exact h4) (fun k hk ek => h5 k hk (by rw [← h76]; exact ek))
/-- a block in a unit counts -/
theorem bi_count (q : BI A L) {b : Nat} (hb : b < 72) (hin : A 87 b = 1) (hL : L ≤ 12) : A 79 (b / 6) + 1 ≤ A 78 (b / 6) := by
  obtain ⟨y1, y2, y3, y4, -⟩ := q.2.1 b hb hin
  have h3 := q.2.2 (b / 6) y1 y2 (by rw [y4]; decide)
  have p := fun k : Nat => q.1 (6 * (b / 6) + k)
  have p0 := p 0 (by omega)
  have p1 := p 1 (by omega)
  have p2 := p 2 (by omega)
  have p3 := p 3 (by omega)
  have p4 := p 4 (by omega)
  have p5 := p 5 (by omega)
  rw [Nat.add_zero] at p0
  rcases (show b = 6 * (b / 6) ∨ b = 6 * (b / 6) + 1 ∨ b = 6 * (b / 6) + 2 ∨ b = 6 * (b / 6) + 3 ∨ b = 6 * (b / 6) + 4 ∨ b = 6 * (b / 6) + 5 by omega) with w | w | w | w | w | w
  · rw [← w] at h3 p1 p2 p3 p4 p5
    omega
  all_goals (rw [← w] at h3; omega)
theorem end_both (x : PF A h K L bc tc gc n B N M) {b th : Nat} (hb : b < 72) (hin : A 87 b = 1) (h73 : A 73 (b / 6) = (th : Int)) (hr : zan (fun t => decide (A 89 (16 * b + t) = 114)) th = false) (hw : zlw A b 0 th = -1) (g : zH) : ∃ (h' : zH) (A' : zA), (∀ kr : Int → zH → Option ρ, Co_endIfEnded 0 (bc b : Int) h kr = kr 0 h') ∧ (∀ kr : Int → zH → Option ρ, M_leave (b : Int) (mh g (au A 79 (b / 6) (A 79 (b / 6) + 1))) kr = kr 0 (mh g A')) ∧ PF A' h' K L bc tc gc n B N M ∧ A' 87 b = 0 ∧ (∀ c, c ≠ 79 → c ≠ 87 → c < 93 ∨ 100 < c → A' c = A c) := by
  obtain ⟨s, q, m, cl, cp, cq, c7, wl⟩ := x
  have E : ∀ c, c ≠ 69 → ard A 69 s c = A c := fun c hc => ard_ne hc
  have hinq : ard A 69 s 87 b = 1 := by rw [E 87 (by decide)]; exact hin
  have h73q : ard A 69 s 73 (b / 6) = (th : Int) := by rw [E 73 (by decide)]; exact h73
  have hrq : zan (fun t => decide (ard A 69 s 89 (16 * b + t) = 114)) th = false := by rw [E 89 (by decide)]; exact hr
  have ewq : ∀ nn i, zlw (ard A 69 s) b i nn = zlw A b i nn := fun nn => by
    induction nn with
    | zero => intro i; rfl
    | succ nn ih =>
      intro i
      unfold zlw
      rw [E 89 (by decide), ih]
  have hL12 := q.rl.2.1
  obtain ⟨bi1, bi2, bi3⟩ := q.bi
  rw [E 87 (by decide)] at bi1
  obtain ⟨i1, i2, i3, i4, i5, i6⟩ := bi2 b hb hinq
  rw [E 70 (by decide)] at i2
  rw [E 78 (by decide)] at i3
  rw [ard_same] at i4
  rw [E 88 (by decide)] at i5
  obtain ⟨u, hu, h88⟩ : ∃ u : Nat, u < 2 ∧ A 88 b = (u : Int) := by
    rcases i5 with z | z
    · exact ⟨0, by decide, z⟩
    · exact ⟨1, by decide, z⟩
  have hcnt := bi_count q.bi hb hinq hL12
  rw [E 79 (by decide), E 78 (by decide)] at hcnt
  obtain ⟨rl1, -, -, -, -, -, -, rl8, -, -, -, r12, -⟩ := q.rl.l i1
  have r12' := r12 (by rw [E 70 (by decide)]; exact i2)
  rw [E 79 (by decide), E 78 (by decide), E 72 (by decide)] at r12'
  obtain ⟨-, r72, -, -, -, -, r79, -, r78, -⟩ := r12'
  have w79 : wr (A 79 (b / 6) + 1) = A 79 (b / 6) + 1 := wr_id (by omega) (by omega)
  have hl12 : b / 6 < 12 := by clear w79; omega
  -- the model
  obtain ⟨u0, u4, -⟩ := q.un hu
  rw [E 93 (by decide)] at u0 u4
  obtain ⟨A3, m3, s3, y1, y2, y3⟩ := m_leave (ρ := ρ) (A := au A 79 (b / 6) (A 79 (b / 6) + 1)) (m0 := (A 93 u).toNat) hb hu (by clear w79; omega) (by rw [au_ne (by decide)]; exact h88) (by rw [au_ne (by decide)]; clear w79; omega) g
  obtain ⟨v1, v2, v3, v4, v5, v6, v7⟩ := y2
  have V : ∀ c, c ≠ 79 → c ≠ 87 → c < 93 ∨ 100 < c → A3 c = A c := fun c c1 c2 c3 => by rw [v1 c c2 c3, au_ne c1]
  have v79 : A3 79 = zup (A 79) (b / 6) (A 79 (b / 6) + 1) := by rw [v1 79 (by decide) (by decide), au_zup]
  rw [au_ne (by decide)] at v2 v3
  rw [au_ne (by decide)] at y3
  rw [au_ne (c' := 100) (by decide)] at v7
  -- the class
  have uo0 := q.uo (u := 0) (by decide)
  have uo1 := q.uo (u := 1) (by decide)
  rw [E 93 (by decide)] at uo0 uo1
  obtain ⟨r0, r1, k0, k1, s0, s1, z1, z2, z3, z4, z5, z6⟩ := x_drop2 (ρ := ρ) (bb := bc b) uo0 uo1
  have KP : ∀ u2, u2 < 2 → ∀ i, i < (A 93 u2).toNat → ((zhD h 11 (zhD h 26 u2 i).toNat 0 ≠ (bc b : Int)) ↔ (decide ((A 94 (4 * u2 + i)).toNat = b) = false)) := fun u2 hu2 i hi => by
    obtain ⟨p1, -⟩ := q.slb (i := i) hu2 (by rw [E 93 (by decide)]; exact hi) hb hinq
    rw [E 94 (by decide)] at p1
    obtain ⟨b', j', e1, -⟩ := (q.us u2 hu2).2.1 i (by rw [E 93 (by decide)]; clear w79; omega)
    rw [E 94 (by decide)] at e1
    rw [Ne, p1, e1, Int.toNat_natCast, decide_eq_false_iff_not]
    constructor
    · intro z w
      exact z (by rw [w])
    · intro z w
      exact z (Int.ofNat.inj w)
  have inu : ∀ u2 i, u2 < 2 → i < (A 93 u2).toNat → A 94 (4 * u2 + i) = (b : Int) → u2 = u := fun u2 i hu2 hi e => by
    obtain ⟨b', j', e1, -, -, -, -, e6, -⟩ := (q.us u2 hu2).2.1 i (by rw [E 93 (by decide)]; clear w79; omega)
    rw [E 94 (by decide), e] at e1
    rw [E 88 (by decide), ← Int.ofNat.inj e1, h88] at e6
    exact (Int.ofNat.inj e6).symm
  have hU : ∀ u2, u2 < 2 → ∃ (m' : Nat) (ss : Nat → Nat), ard A3 69 s 93 u2 = (m' : Int) ∧ SEL (fun i => decide ((ard A 69 s 94 (4 * u2 + i)).toNat = b) = false) (ard A 69 s 93 u2).toNat m' ss ∧ URW (ard A 69 s) (ard A3 69 s) u2 ss m' ∧ zhD (zset (hD2 h r0 r1 k0 k1) 9 (b / 6) 9 (A 79 (b / 6) + 1)) 3 u2 2 = (m' : Int) ∧ ∀ i, i < m' → zhD (zset (hD2 h r0 r1 k0 k1) 9 (b / 6) 9 (A 79 (b / 6) + 1)) 26 u2 i = zhD h 26 u2 (ss i) := fun u2 hu2 => by
    obtain ⟨kk, sk, c1, c2, c3⟩ : ∃ (kk : Nat) (sk : Nat → Nat), SEL (fun i => decide ((A 94 (4 * u2 + i)).toNat = b) = false) (A 93 u2).toNat kk sk ∧ zhD (hD2 h r0 r1 k0 k1) 3 u2 2 = (kk : Int) ∧ ∀ i, i < kk → zhD (hD2 h r0 r1 k0 k1) 26 u2 i = zhD h 26 u2 (sk i) := by
      rw [hD2_3 hu2]
      rcases (show u2 = 0 ∨ u2 = 1 by clear w79; omega) with rfl | rfl
      · refine ⟨k0, s0, z3.congr (fun i hi => KP 0 hu2 i hi), if_pos rfl, fun i hi => ?_⟩
        rw [hD2_26 hu2, if_pos rfl]
        exact z4 i hi
      · refine ⟨k1, s1, z5.congr (fun i hi => KP 1 hu2 i hi), if_neg (by decide), fun i hi => ?_⟩
        rw [hD2_26 hu2, if_neg (by decide)]
        exact z6 i hi
    have F : ∀ c, c ≠ 69 → ard A3 69 s c = A3 c := fun c hc => ard_ne hc
    have S3 : zhD (zset (hD2 h r0 r1 k0 k1) 9 (b / 6) 9 (A 79 (b / 6) + 1)) 3 u2 2 = (kk : Int) := by rw [zD_ne (by decide)]; exact c2
    have S26 : ∀ i, i < kk → zhD (zset (hD2 h r0 r1 k0 k1) 9 (b / 6) 9 (A 79 (b / 6) + 1)) 26 u2 i = zhD h 26 u2 (sk i) := fun i hi => by rw [zD_ne (by decide)]; exact c3 i hi
    have h0 : ∀ i, i < (A 93 u2).toNat → 0 ≤ A 94 (4 * u2 + i) := fun i hi => by
      obtain ⟨b', j', e1, -⟩ := (q.us u2 hu2).2.1 i (by rw [E 93 (by decide)]; clear w79; omega)
      rw [E 94 (by decide)] at e1
      rw [e1]
      exact Int.natCast_nonneg _
    refine ⟨kk, sk, ?_, by rw [E 94 (by decide), E 93 (by decide)]; exact c1, fun i hi => ?_, S3, S26⟩
    · rw [F 93 (by decide), v3]
      by_cases e : u2 = u
      · subst e
        have := (c1.uniq (y3.congr (kq := fun i => decide ((A 94 (4 * u2 + i)).toNat = b) = false) (fun i hi => by
          have := h0 i hi
          show _ ↔ decide ((A 94 (4 * u2 + i)).toNat = b) = false
          rw [decide_eq_false_iff_not]
          clear w79
          omega))).1
        rw [zup_same, this]
      · rw [zup_ne e]
        have := (c1.uniq (SEL.id (kp := fun i => decide ((A 94 (4 * u2 + i)).toNat = b) = false) (fun i hi => by
          have h1 := h0 i hi
          have h2 := inu u2 i hu2 hi
          refine decide_eq_false (fun z => e (h2 ?_))
          clear w79
          omega))).1
        obtain ⟨w0, -⟩ := q.un hu2
        rw [E 93 (by decide)] at w0
        rw [this]
        clear w79
        omega
    · rw [F 94 (by decide), F 95 (by decide), F 96 (by decide), F 97 (by decide), F 98 (by decide), F 99 (by decide), E 94 (by decide), E 95 (by decide), E 96 (by decide), E 97 (by decide), E 98 (by decide), E 99 (by decide)]
      by_cases e : u2 = u
      · subst e
        obtain ⟨g1, g2⟩ := c1.uniq (y3.congr (kq := fun i => decide ((A 94 (4 * u2 + i)).toNat = b) = false) (fun i hi => by
          have := h0 i hi
          show _ ↔ decide ((A 94 (4 * u2 + i)).toNat = b) = false
          rw [decide_eq_false_iff_not]
          clear w79
          omega))
        rw [g2 i hi]
        have := v4 i (by rw [← g1]; exact hi)
        simp only [au_ne (show 94 ≠ 79 by decide), au_ne (show 95 ≠ 79 by decide), au_ne (show 96 ≠ 79 by decide), au_ne (show 97 ≠ 79 by decide), au_ne (show 98 ≠ 79 by decide), au_ne (show 99 ≠ 79 by decide)] at this
        exact this
      · obtain ⟨g1, g2⟩ := c1.uniq (SEL.id (kp := fun i => decide ((A 94 (4 * u2 + i)).toNat = b) = false) (fun i hi => by
          have h1 := h0 i hi
          have h2 := inu u2 i hu2 hi
          refine decide_eq_false (fun z => e (h2 ?_))
          clear w79
          omega))
        rw [g2 i hi]
        have i4' : i < 4 := by
          obtain ⟨-, w4, -⟩ := q.un hu2
          rw [E 93 (by decide)] at w4
          clear w79
          omega
        have := v5 (4 * u2 + i) (by clear w79; omega)
        simp only [au_ne (show 94 ≠ 79 by decide), au_ne (show 95 ≠ 79 by decide), au_ne (show 96 ≠ 79 by decide), au_ne (show 97 ≠ 79 by decide), au_ne (show 98 ≠ 79 by decide), au_ne (show 99 ≠ 79 by decide)] at this
        exact this
  have F : ∀ c, c ≠ 69 → ard A3 69 s c = A3 c := fun c hc => ard_ne hc
  have HD : ∀ c p j, c ≠ 26 → ¬ (c = 3 ∧ j = 2) → ¬ (c = 9 ∧ p = b / 6 ∧ j = 9) → zhD (zset (hD2 h r0 r1 k0 k1) 9 (b / 6) 9 (A 79 (b / 6) + 1)) c p j = zhD h c p j := fun c p j c1 c2 c3 => by rw [zD_set, if_neg c3, hD2_D c1 c2]
  have rl' : RL (ard A3 69 s) (zset (hD2 h r0 r1 k0 k1) 9 (b / 6) 9 (A 79 (b / 6) + 1)) K L := by
    refine q.rl.one i1 (fun c j hz hc => ?_) (by rw [F 77 (by decide), E 77 (by decide), V 77 (by decide) (by decide) (by decide)]) (fun c p j hz hc => HD c p j (fun z => by subst z; cases hz) (fun z => by rw [z.1] at hz; cases hz) (fun z => hc ⟨z.1, z.2.1⟩)) rfl ?_
    · by_cases e69 : c = 69
      · subst e69
        rw [ard_same, ard_same]
      · have rg : c < 93 ∨ 100 < c := by
          by_cases hc1 : c < 93
          · exact Or.inl hc1
          · by_cases hc2 : 100 < c
            · exact Or.inr hc2
            · exfalso
              rcases (show c = 93 ∨ c = 94 ∨ c = 95 ∨ c = 96 ∨ c = 97 ∨ c = 98 ∨ c = 99 ∨ c = 100 by clear w79; omega) with rfl | rfl | rfl | rfl | rfl | rfl | rfl | rfl <;> cases hz
        rw [F c e69, E c e69]
        by_cases e79 : c = 79
        · subst e79
          rw [v79, zup_ne (by clear w79; omega)]
        · rw [V c e79 (fun z => by subst z; cases hz) rg]
    · have n0 : ∀ j, j ≠ 9 → zhD (zset (hD2 h r0 r1 k0 k1) 9 (b / 6) 9 (A 79 (b / 6) + 1)) 9 (b / 6) j = zhD h 9 (b / 6) j := fun j hj => HD 9 (b / 6) j (by decide) (fun z => absurd z.1 (by decide)) (fun z => hj z.2.2)
      have n9 : zhD (zset (hD2 h r0 r1 k0 k1) 9 (b / 6) 9 (A 79 (b / 6) + 1)) 9 (b / 6) 9 = A 79 (b / 6) + 1 := zD_eq
      have W : ∀ c, c ≠ 69 → c ≠ 79 → c < 87 → ard A3 69 s c = ard A 69 s c := fun c c1 c2 c3 => by rw [F c c1, E c c1, V c c2 (by clear w79; omega) (Or.inl (by clear w79; omega))]
      have old := q.rl.l i1
      unfold RLn at old ⊢
      rw [HD 21 0 (b / 6) (by decide) (fun z => absurd z.1 (by decide)) (fun z => absurd z.1 (by decide)), n0 0 (by decide), n0 1 (by decide), n0 2 (by decide), n0 3 (by decide), n0 4 (by decide), n0 5 (by decide), n0 6 (by decide), n0 7 (by decide), n0 8 (by decide), n9, n0 10 (by decide), n0 11 (by decide), n0 12 (by decide), n0 13 (by decide), n0 14 (by decide), n0 15 (by decide), show ard A3 69 s 69 = ard A 69 s 69 by rw [ard_same, ard_same], W 70 (by decide) (by decide) (by decide), W 71 (by decide) (by decide) (by decide), W 72 (by decide) (by decide) (by decide), W 73 (by decide) (by decide) (by decide), W 74 (by decide) (by decide) (by decide), W 75 (by decide) (by decide) (by decide), W 76 (by decide) (by decide) (by decide), W 77 (by decide) (by decide) (by decide), W 78 (by decide) (by decide) (by decide), F 79 (by decide), v79, zup_same, W 80 (by decide) (by decide) (by decide), W 81 (by decide) (by decide) (by decide), W 82 (by decide) (by decide) (by decide), W 83 (by decide) (by decide) (by decide), W 84 (by decide) (by decide) (by decide), W 85 (by decide) (by decide) (by decide), W 61 (by decide) (by decide) (by decide), W 62 (by decide) (by decide) (by decide), W 64 (by decide) (by decide) (by decide)]
      obtain ⟨o1, o2, o3, o4, o5, o6, o7, ⟨o8a, o8b, o8c, -⟩, o9, o10, o11, o12, o13, o14⟩ := old
      refine ⟨o1, o2, o3, o4, o5, o6, o7, ⟨o8a, o8b, o8c, rfl⟩, o9, o10, o11, fun hz => ?_, fun hz => absurd hz (by rw [E 70 (by decide)]; exact i2), o14⟩
      obtain ⟨p1, p2, p3, p4, p5, p6, p7, p8, p9, p10, p11⟩ := o12 hz
      rw [E 78 (by decide)] at p8 p9 ⊢
      exact ⟨p1, p2, p3, p4, p5, p6, by clear w79; omega, by clear w79; omega, p9, p10, p11⟩
  have rc' : RC (ard A3 69 s) L := by
    refine ⟨fun l2 hl2 h1 h2 => ?_, fun j hj => by have z := q.rc.2 j hj; rw [E 12 (by decide)] at z; rw [F 12 (by decide), V 12 (by decide) (by decide) (by decide)]; exact z⟩
    rw [F 70 (by decide), V 70 (by decide) (by decide) (by decide)] at h1
    rw [ard_same] at h2
    have := q.rc.1 l2 hl2 (by rw [E 70 (by decide)]; exact h1) (by rw [ard_same]; exact h2)
    rw [F 82 (by decide), F 83 (by decide), V 82 (by decide) (by decide) (by decide), V 83 (by decide) (by decide) (by decide)]
    rw [E 82 (by decide), E 83 (by decide)] at this
    exact this
  have bi' : BI (ard A3 69 s) L := by
    unfold BI
    rw [F 87 (by decide), F 70 (by decide), F 78 (by decide), F 88 (by decide), F 86 (by decide), F 79 (by decide), ard_same, V 70 (by decide) (by decide) (by decide), V 78 (by decide) (by decide) (by decide), V 88 (by decide) (by decide) (by decide), V 86 (by decide) (by decide) (by decide), v79, v2]
    refine ⟨fun b2 hb2 => ?_, fun b2 hb2 h1 => ?_, fun l2 hl2 h1 h2 => ?_⟩
    · unfold zup
      split
      · exact Or.inl rfl
      · exact bi1 b2 hb2
    · unfold zup at h1
      by_cases e : b2 = b
      · rw [if_pos e] at h1
        exact absurd h1 (by decide)
      · rw [if_neg e] at h1
        have := bi2 b2 hb2 (by rw [E 87 (by decide)]; exact h1)
        rw [E 70 (by decide), E 78 (by decide), E 88 (by decide), E 86 (by decide), ard_same] at this
        exact this
    · have := bi3 l2 hl2 (by rw [E 70 (by decide)]; exact h1) (by rw [ard_same]; exact h2)
      rw [E 79 (by decide), E 87 (by decide), E 78 (by decide)] at this
      unfold zup
      by_cases e : l2 = b / 6
      · rw [if_pos e]
        subst e
        rcases (show b = 6 * (b / 6) ∨ b = 6 * (b / 6) + 1 ∨ b = 6 * (b / 6) + 2 ∨ b = 6 * (b / 6) + 3 ∨ b = 6 * (b / 6) + 4 ∨ b = 6 * (b / 6) + 5 by clear w79; omega) with w | w | w | w | w | w
        · rw [if_pos w.symm, if_neg (by clear w79; omega), if_neg (by clear w79; omega), if_neg (by clear w79; omega), if_neg (by clear w79; omega), if_neg (by clear w79; omega)]
          have e6 : A 87 (6 * (b / 6)) = 1 := by rw [← w]; exact hin
          clear w79
          omega
        · rw [if_neg (by clear w79; omega), if_pos w.symm, if_neg (by clear w79; omega), if_neg (by clear w79; omega), if_neg (by clear w79; omega), if_neg (by clear w79; omega)]
          have e6 : A 87 (6 * (b / 6) + 1) = 1 := by rw [← w]; exact hin
          clear w79
          omega
        · rw [if_neg (by clear w79; omega), if_neg (by clear w79; omega), if_pos w.symm, if_neg (by clear w79; omega), if_neg (by clear w79; omega), if_neg (by clear w79; omega)]
          have e6 : A 87 (6 * (b / 6) + 2) = 1 := by rw [← w]; exact hin
          clear w79
          omega
        · rw [if_neg (by clear w79; omega), if_neg (by clear w79; omega), if_neg (by clear w79; omega), if_pos w.symm, if_neg (by clear w79; omega), if_neg (by clear w79; omega)]
          have e6 : A 87 (6 * (b / 6) + 3) = 1 := by rw [← w]; exact hin
          clear w79
          omega
        · rw [if_neg (by clear w79; omega), if_neg (by clear w79; omega), if_neg (by clear w79; omega), if_neg (by clear w79; omega), if_pos w.symm, if_neg (by clear w79; omega)]
          have e6 : A 87 (6 * (b / 6) + 4) = 1 := by rw [← w]; exact hin
          clear w79
          omega
        · rw [if_neg (by clear w79; omega), if_neg (by clear w79; omega), if_neg (by clear w79; omega), if_neg (by clear w79; omega), if_neg (by clear w79; omega), if_pos w.symm]
          have e6 : A 87 (6 * (b / 6) + 5) = 1 := by rw [← w]; exact hin
          clear w79
          omega
      · rw [if_neg e, if_neg (by clear w79; omega), if_neg (by clear w79; omega), if_neg (by clear w79; omega), if_neg (by clear w79; omega), if_neg (by clear w79; omega), if_neg (by clear w79; omega)]
        exact this
  have q4 : RR (ard A3 69 s) (zset (hD2 h r0 r1 k0 k1) 9 (b / 6) 9 (A 79 (b / 6) + 1)) K L bc tc gc n B N M := by
    refine rr_drop (dp := fun c => decide (c = b)) q (fun c c1 c2 c3 c4 c5 c6 => by rw [F c c1, E c c1, V c c2 c5 c6]) (fun b2 hb2 => ?_) hU (fun u2 hu2 => ?_) (fun j => ?_) (fun c p j c1 c2 c3 => HD c p j c1 c2 (fun z => c3 ⟨z.1, by clear w79; omega, by clear w79; omega⟩)) rfl rfl rfl rfl rl' rc' bi'
    · rw [F 87 (by decide), E 87 (by decide), v2]
      unfold zup
      by_cases e : b2 = b
      · rw [if_pos e, if_pos (decide_eq_true e)]
      · rw [if_neg e, if_neg (by rw [decide_eq_false e]; decide)]
    · rw [F 100 (by decide), E 100 (by decide), v7]
      obtain ⟨-, -, w3, -⟩ := q.ul u2 hu2
      rw [E 100 (by decide)] at w3
      have hlast : A 100 u2 = (b : Int) → u2 = u := fun z => by
        rcases w3 with w3 | ⟨b9, p1, p2, p3, p4⟩
        · exfalso
          clear w79
          omega
        · rw [E 88 (by decide)] at p4
          have : b9 = b := Int.ofNat.inj (p1.symm.trans z)
          rw [this, h88] at p4
          exact (Int.ofNat.inj p4).symm
      by_cases e : A 100 u2 = (b : Int)
      · have := hlast e
        subst this
        rw [if_pos e, zup_same, if_pos ⟨by rw [e]; exact Int.natCast_nonneg _, decide_eq_true (by rw [e, Int.toNat_natCast])⟩]
      · have hc : ¬ (0 ≤ A 100 u2 ∧ decide ((A 100 u2).toNat = b) = true) := fun z => e (by
          have h1 := of_decide_eq_true z.2
          have h2 := z.1
          clear w79
          omega)
        rw [if_neg hc]
        by_cases hub : A 100 u = (b : Int)
        · rw [if_pos hub, zup_ne (fun z => e (by rw [z]; exact hub))]
        · rw [if_neg hub]
    · obtain ⟨j', e⟩ := v6 j
      rw [au_ne (by decide)] at e
      exact ⟨j', by rw [F 99 (by decide), E 99 (by decide)]; exact e⟩
  have wl' : WL A3 := wl_ard.mp (wl_drop (wl_ard.mpr wl) (A' := ard A3 69 s) (A := ard A 69 s) (by rw [F 63 (by decide), E 63 (by decide), V 63 (by decide) (by decide) (by decide)]) (by rw [F 70 (by decide), E 70 (by decide), V 70 (by decide) (by decide) (by decide)]) (by rw [F 73 (by decide), E 73 (by decide), V 73 (by decide) (by decide) (by decide)]) (by rw [F 89 (by decide), E 89 (by decide), V 89 (by decide) (by decide) (by decide)]) (by rw [F 90 (by decide), E 90 (by decide), V 90 (by decide) (by decide) (by decide)]) (fun u2 hu2 => by
    obtain ⟨m', ss, a1, a2, a3, -⟩ := hU u2 hu2
    exact ⟨m', ss, a1, fun i hi => (a2.1 i hi).1, a3⟩))
  have n79 : A 79 (b / 6) ≠ A 72 (b / 6) := by clear w79; omega
  have r70 : A3 70 = A 70 := V 70 (by decide) (by decide) (by decide)
  have r72 : A3 72 = A 72 := V 72 (by decide) (by decide) (by decide)
  have r76 : A3 76 = A 76 := V 76 (by decide) (by decide) (by decide)
  have o79 : ∀ l2, l2 ≠ b / 6 → A3 79 l2 = A 79 l2 := fun l2 e => by rw [v79, zup_ne e]
  have cpq : ∀ l2, l2 < L → ard A3 69 s 76 l2 ≠ -1 → ard A3 69 s 70 (ard A3 69 s 76 l2).toNat ≠ -1 := fun l2 h1 h2 => by
    rw [F 76 (by decide), r76] at h2 ⊢
    rw [F 70 (by decide), r70]
    exact (cp l2 h1 h2).1
  have zrow : ∀ (ss : Nat → Int) (l2 : Nat), zenb (ard A3 69 s) L ss l2 ↔ zenb A3 L ss l2 := fun ss l2 => zenb_row (F 70 (by decide)) (F 72 (by decide)) (F 76 (by decide)) (by rw [F 79 (by decide)])
  obtain ⟨s', e1, e2, e3⟩ := x_endIfDone (ρ := ρ) (s := s) (c := ((b / 6 : Nat) : Int)) q4.rs q4.rl cpq (fun l2 h1 h2 => by
    by_cases e : l2 = b / 6
    · rw [e]
    · exact absurd ((zenb_row r70 r72 r76 (o79 l2 e)).mp ((zrow s l2).mp h2)) (cl l2 h1)) (Or.inr ⟨b / 6, i1, rfl, by rw [F 70 (by decide), r70]; exact i2⟩)
  have hid : hfd (zset (hD2 h r0 r1 k0 k1) 9 (b / 6) 9 (A 79 (b / 6) + 1)) 9 10 L s = zset (hD2 h r0 r1 k0 k1) 9 (b / 6) 9 (A 79 (b / 6) + 1) := hfd_id (fun p hp => by
    have := (q4.rl.l hp).2.2.2.2.2.2.2.2.1.1
    rw [ard_same] at this
    exact this)
  rw [hid] at e1
  have m3' : MKS A3 L s s' := by
    refine ⟨e2.1, fun T hT => e2.2 T (fun l2 h1 h2 h3 h4 h5 => hT l2 h1 h2 (by rw [← F 70 (by decide)]; exact h3) (by rw [← F 79 (by decide), ← F 72 (by decide)]; exact h4) (fun k hk ek => h5 k hk (by rw [F 76 (by decide)]; exact ek)))⟩
  have q5 := rr_mark (s := s') q4 (by rw [ard_same]; exact e2) (fun l2 h1 _ => by
    rw [ard_same] at h1
    have := m3'.2 (fun l2 => A3 79 l2 = A3 72 l2 ∧ A3 70 l2 ≠ -1) (fun l3 _ _ w3 w4 _ => ⟨w4, w3⟩) l2 h1
    rw [F 79 (by decide), F 72 (by decide), F 70 (by decide)]
    exact this)
  have eard : ard (ard A3 69 s) 69 s' = ard A3 69 s' := by
    refine zA_ext (fun c => ?_)
    by_cases e : c = 69
    · rw [e, ard_same, ard_same]
    · rw [ard_ne e, ard_ne e, ard_ne e]
  rw [eard] at q5
  refine ⟨_, A3, fun kr => ?_, y1, ⟨s', q5, ?_, fun l2 h1 h2 => e3 l2 h1 ((zrow s' l2).mpr h2), fun l2 h1 h2 => ?_, fun l2 h1 h2 h3 => ?_, fun l2 h1 h2 => by rw [r76] at h2; rw [V 71 (by decide) (by decide) (by decide)]; exact c7 l2 h1 h2, wl'⟩, by rw [v2, zup_same], V⟩
  · obtain ⟨b1, b2, b3, b4, b5, b6, b7⟩ := (q.thr9 hb hinq h73q)
    obtain ⟨-, bh2, -⟩ := q.bh.1 b hb hinq
    have rs1 : RS (zset (hrw h 26 0 r0) 3 0 2 (k0 : Int)) := q.rs.fr (fun c p j hz => by rw [zD_set, if_neg (fun z => by rw [z.1, z.2.2] at hz; cases hz), hrw_D, if_neg (fun z => by rw [z.1] at hz; cases hz)]) rfl rfl
    have rs2 : RS (hD2 h r0 r1 k0 k1) := q.rs.fr (fun c p j hz => hD2_D (fun z => by subst z; cases hz) (fun z => by rw [z.1, z.2] at hz; cases hz)) rfl rfl
    have d10 : zhD (hD2 h r0 r1 k0 k1) 10 (bc b) 0 = ((b / 6 : Nat) : Int) := by rw [hD2_D (by decide) (by decide)]; exact bh2
    have d9 : zhD (hD2 h r0 r1 k0 k1) 9 (b / 6) 9 = A 79 (b / 6) := by
      rw [hD2_D (by decide) (by decide)]
      have := rl8.2.2.2
      rw [E 79 (by decide)] at this
      exact this
    have n9 : b / 6 < zhN (hD2 h r0 r1 k0 k1) 9 := by
      show b / 6 < zhN h 9
      rw [q.rl.2.2.1]
      exact i1
    have n10 : bc b < zhN (hD2 h r0 r1 k0 k1) 10 := b1
    have n10' : bc b < zhN (zset (hD2 h r0 r1 k0 k1) 9 (b / 6) 9 (A 79 (b / 6) + 1)) 10 := b1
    have u1 : zhN h 3 = 2 := q.rs.N3
    have un : ∀ kr : Int → zH → Option ρ, Co_endIfEnded_10 kr 0 (bc b : Int) 0 h = Co_endIfEnded_10b kr (Co_endIfEnded_10b kr (Co_endIfEnded_10b kr (zit (fun _ _ _ _ => none) (Co_endIfEnded_10b kr) 4997))) 0 (bc b : Int) 0 h := fun kr => rfl
    unfold Co_endIfEnded
    rw [zob_n b1, x_isAllEnded (q.thr9 hb hinq h73q), hrq, ewq, hw, decide_eq_true rfl, Bool.not_false, Bool.and_true, tb_t, if_neg (by decide), un]
    have st0 : ∀ r10 : Int → Int → Int → zH → Option ρ, Co_endIfEnded_10b kr r10 0 (bc b : Int) 0 h = r10 0 (bc b : Int) 1 (zset (hrw h 26 0 r0) 3 0 2 (k0 : Int)) := fun r10 => by
      unfold Co_endIfEnded_10b
      have ix : ∀ kk : Nat → Option ρ, zix 2 0 kk = kk 0 := fun kk => zix_n (i := 0) (by decide)
      have zb : ∀ kk : Nat → Option ρ, zob h 3 0 kk = kk 0 := fun kk => zob_n (i := 0) (by rw [u1]; decide)
      rw [if_pos (by decide), zob_0 q.rs.N2, q.rs.D2_0_2, zob_0 q.rs.N23, q.rs.L23_0, ix, q.rs.D23_0_0, zb, z1]
      rfl
    have st1 : ∀ r10 : Int → Int → Int → zH → Option ρ, Co_endIfEnded_10b kr r10 0 (bc b : Int) 1 (zset (hrw h 26 0 r0) 3 0 2 (k0 : Int)) = r10 0 (bc b : Int) 2 (hD2 h r0 r1 k0 k1) := fun r10 => by
      unfold Co_endIfEnded_10b
      have ix : ∀ kk : Nat → Option ρ, zix 2 1 kk = kk 1 := fun kk => zix_n (i := 1) (by decide)
      have zb : ∀ kk : Nat → Option ρ, zob (zset (hrw h 26 0 r0) 3 0 2 (k0 : Int)) 3 1 kk = kk 1 := fun kk => zob_n (i := 1) (by rw [rs1.N3]; decide)
      rw [if_pos (by decide), zob_0 rs1.N2, rs1.D2_0_2, zob_0 rs1.N23, rs1.L23_0, ix, rs1.D23_0_1, zb, z2]
      rfl
    rw [st0, st1]
    unfold Co_endIfEnded_10b
    rw [if_neg (by decide), zob_n n10, d10, zob_n n9, d9, w79, zob_n n9, zlet_d, zob_0 q4.rs.N2, zob_n n10', q4.rs.D2_0_0, zob_0 q4.rs.N1, zD_ne (by decide), d10, e1]
  · have : A3 69 = A 69 := V 69 (by decide) (by decide) (by decide)
    rw [this]
    exact (m.row r70 r72 r76 o79 n79).tr m3'
  · rw [r76] at h2 ⊢
    rw [r70]
    exact cp l2 h1 h2
  · rw [V 69 (by decide) (by decide) (by decide)] at h2
    rw [r70] at h3
    have ne : l2 ≠ b / 6 := fun e => by
      rw [e] at h2
      rcases m.1 (b / 6) with z | ⟨-, z, -⟩
      · rw [← z, i4] at h2
        exact absurd h2 (by decide)
      · rw [z] at h2
        exact absurd h2 (by decide)
    rw [r72, o79 l2 ne]
    exact cq l2 h1 h2 h3
end
