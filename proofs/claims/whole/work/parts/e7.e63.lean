/-! LAUNCHES ARE DONE -/
def zenb (A : zA) (L : Nat) (s : Nat → Int) (l : Nat) : Prop := s l = 114 ∧ A 70 l ≠ -1 ∧ A 79 l = A 72 l ∧ ∀ k, k < L → A 76 k = (l : Int) → zover (s k) = true
/-- marked soundly -/
def MKS (A : zA) (L : Nat) (s s' : Nat → Int) : Prop := (∀ l, s' l = s l ∨ (l < L ∧ s l = 114 ∧ s' l = 100)) ∧ (∀ T : Nat → Prop, (∀ l, l < L → s l = 114 → A 70 l ≠ -1 → A 79 l = A 72 l → (∀ k, k < L → A 76 k = (l : Int) → zover (s k) = true ∨ T k) → T l) → ∀ l, s' l ≠ s l → T l)
theorem MKS.id {A : zA} {L : Nat} {s : Nat → Int} : MKS A L s s := ⟨fun l => Or.inl rfl, fun T _ l h => absurd rfl h⟩
theorem MKS.step {A : zA} {L l : Nat} {s s' : Nat → Int} (x : MKS A L s s') (hl : l < L) (h : zenb A L s' l) : MKS A L s (zup s' l 100) := by
  obtain ⟨h1, h2, h3, h4⟩ := h
  have hs : s l = 114 := by
    rcases x.1 l with e | ⟨-, e, -⟩
    · exact e ▸ h1
    · exact e
  have over : ∀ k, zover (s' k) = true → zover (s k) = true ∨ s' k ≠ s k := fun k hk => by
    by_cases e : s' k = s k
    · rw [e] at hk
      exact Or.inl hk
    · exact Or.inr e
  refine ⟨fun k => ?_, fun T hT k hk => ?_⟩
  · by_cases hkl : k = l
    · subst hkl
      rw [zup_same]
      exact Or.inr ⟨hl, hs, rfl⟩
    · rw [zup_ne hkl]
      exact x.1 k
  · by_cases hkl : k = l
    · subst hkl
      refine hT k hl hs h2 h3 (fun k2 hk2 e => ?_)
      rcases over k2 (h4 k2 hk2 e) with z | z
      · exact Or.inl z
      · exact Or.inr (x.2 T hT k2 z)
    · rw [zup_ne hkl] at hk
      exact x.2 T hT k hk
theorem MKS.uniq {A : zA} {L : Nat} {s s1 s2 : Nat → Int} (x : MKS A L s s1) (y : MKS A L s s2) (hx : ∀ l, l < L → ¬ zenb A L s1 l) (hy : ∀ l, l < L → ¬ zenb A L s2 l) : s1 = s2 := by
  have key : ∀ (sa sb : Nat → Int), MKS A L s sa → MKS A L s sb → (∀ l, l < L → ¬ zenb A L sb l) → ∀ l, sa l ≠ s l → sb l ≠ s l := fun sa sb xa xb hb l hl => by
    refine xa.2 (fun l => sb l ≠ s l) (fun l hlL h1 h2 h3 h4 z => hb l hlL ⟨z.trans h1, h2, h3, fun k hk e => ?_⟩) l hl
    rcases h4 k hk e with w | w
    · by_cases e2 : sb k = s k
      · rw [e2]
        exact w
      · rcases xb.1 k with e3 | ⟨-, -, e3⟩
        · exact absurd e3 e2
        · rw [e3]
          rfl
    · rcases xb.1 k with e3 | ⟨-, -, e3⟩
      · exact absurd e3 w
      · rw [e3]
        rfl
  funext l
  by_cases e1 : s1 l = s l
  · by_cases e2 : s2 l = s l
    · rw [e1, e2]
    · exact absurd e1 (key s2 s1 y x hx l e2)
  · have e2 := key s1 s2 x y hy l e1
    rcases x.1 l with z | ⟨-, -, z⟩
    · exact absurd z e1
    · rcases y.1 l with z2 | ⟨-, -, z2⟩
      · exact absurd z2 e2
      · rw [z, z2]
/-- what a mark enables -/
theorem zenb_mark {A : zA} {L l k : Nat} {s : Nat → Int} (hl : l < L) (h : zenb A L (zup s l 100) k) : k ≠ l ∧ (zenb A L s k ∨ A 76 l = (k : Int)) := by
  obtain ⟨h1, h2, h3, h4⟩ := h
  have hkl : k ≠ l := fun z => by
    subst z
    rw [zup_same] at h1
    exact absurd h1 (by decide)
  rw [zup_ne hkl] at h1
  refine ⟨hkl, ?_⟩
  by_cases e : A 76 l = (k : Int)
  · exact Or.inr e
  · refine Or.inl ⟨h1, h2, h3, fun k2 hk2 e2 => ?_⟩
    have := h4 k2 hk2 e2
    rw [zup_ne (fun z => e (by rw [← z]; exact e2))] at this
    exact this
section
variable {ρ : Type} {h g : zH} {A : zA} {kr : Int → zH → Option ρ} {K L : Nat} {s : Nat → Int}
theorem x_isRunning_s {l : Nat} (hl : l < zhN h 9) (hL : l < L) : La_isRunning (l : Int) (hfd h 9 10 L s) kr = kr (tb (decide (s l = 114))) (hfd h 9 10 L s) := by
  unfold La_isRunning La_isRunning_14
  rw [zob_hfd, zob_n hl, hfd_eq hL]
  by_cases e : s l = 114
  · rw [if_pos e, znar_1, decide_eq_true e, tb_t]
  · rw [if_neg e, znar_0, decide_eq_false e, tb_f]
/-- all children of n launches from i on are over -/
def zch9 (A : zA) (s : Nat → Int) (l : Nat) : Nat → Nat → Bool
  | _, 0 => true
  | i, n + 1 => (!(decide (A 76 i = (l : Int))) || zover (s i)) && zch9 A s l (i + 1) n
theorem zch9_iff {l : Nat} : ∀ n i, zch9 A s l i n = true ↔ ∀ k, i ≤ k → k < i + n → A 76 k = (l : Int) → zover (s k) = true
  | 0, i => ⟨fun _ k h1 h2 => absurd h2 (by omega), fun _ => rfl⟩
  | n + 1, i => by
    unfold zch9
    rw [Bool.and_eq_true, zch9_iff n (i + 1)]
    constructor
    · rintro ⟨h1, h2⟩ k k1 k2 e
      by_cases hk : k = i
      · subst hk
        rw [decide_eq_true e] at h1
        exact h1
      · exact h2 k (by omega) (by omega) e
    · intro h1
      refine ⟨?_, fun k k1 k2 => h1 k (by omega) (by omega)⟩
      by_cases e : A 76 i = (l : Int)
      · rw [decide_eq_true e, h1 i (Nat.le_refl _) (by omega) e]
        rfl
      · rw [decide_eq_false e]
        rfl
theorem x_hoc_loop (q : RS h) (r : RL A h K L) {l : Nat} : ∀ (f i n : Nat), i + n = L → n < f → zit (fun _ _ _ _ => none) (Le_hasOpenChild_2b kr) f 0 (l : Int) (i : Int) (hfd h 9 10 L s) = kr (tb (!(zch9 A s l i n))) (hfd h 9 10 L s)
  | 0, i, n, _, hf => absurd hf (Nat.not_lt_zero _)
  | f + 1, i, n, hn, hf => by
    obtain ⟨a1, a2, a3, a4⟩ := r.at
    rw [zit_s]
    have D : ∀ c p j, ¬ (c = 9 ∧ j = 10) → zhD (hfd h 9 10 L s) c p j = zhD h c p j := fun c p j hc => by rw [hfd_D, if_neg (fun z => hc ⟨z.1, z.2.1⟩)]
    have n1 : zhN (hfd h 9 10 L s) 1 = 1 := q.N1
    have n21 : zhN (hfd h 9 10 L s) 21 = 1 := q.N21
    have l21 : zhL (hfd h 9 10 L s) 21 0 = 12 := q.L21_0
    have d3 : zhD (hfd h 9 10 L s) 1 0 3 = (L : Int) := by rw [D 1 0 3 (by decide)]; exact a4
    have d1 : zhD (hfd h 9 10 L s) 1 0 1 = 0 := by rw [D 1 0 1 (by decide)]; exact q.D1_0_1
    cases n with
    | zero =>
      have : i = L := by omega
      subst this
      unfold Le_hasOpenChild_2b
      rw [zob_0 n1, d3, if_neg (Int.lt_irrefl _)]
      rfl
    | succ n =>
      have hi : i < L := by omega
      have hi12 : i < 12 := by omega
      have n9 : i < zhN (hfd h 9 10 L s) 9 := by
        show i < zhN h 9
        omega
      have hlt : (i : Int) < (L : Int) := by omega
      obtain ⟨f1, -, -, -, -, ⟨f6, -⟩, -⟩ := r.l hi
      have e21 : zhD (hfd h 9 10 L s) 21 0 i = (i : Int) := by rw [D 21 0 i (fun z => absurd z.1 (by decide))]; exact f1
      have e4 : zhD (hfd h 9 10 L s) 9 i 4 = A 76 i := by rw [D 9 i 4 (by decide)]; exact f6
      have ih := x_hoc_loop q r (l := l) f (i + 1) n (by omega) (by omega)
      have w1 : wr ((i : Int) + 1) = ((i + 1 : Nat) : Int) := by
        rw [wr_id (by omega) (by omega)]
        rfl
      generalize zit (fun _ _ _ _ => none) (Le_hasOpenChild_2b kr) f = r9 at ih ⊢
      unfold Le_hasOpenChild_2b Le_hasOpenChild_37 zch9
      rw [zob_0 n1, d3, if_pos hlt, zob_0 n1, d1, zob_0 n21, l21, zix_n hi12, e21, zob_n n9, e4]
      by_cases e : A 76 i = (l : Int)
      · rw [if_pos e, zob_0 n1, d1, zob_0 n21, l21, zix_n hi12, e21, zob_n n9, x_isOver_s (show i < zhN h 9 from n9) hi, decide_eq_true e]
        cases ho : zover (s i) with
        | true =>
          rw [tb_t, if_neg (by decide), w1, ih]
          rfl
        | false =>
          rw [tb_f, if_pos rfl]
          rfl
      · rw [if_neg e, w1, ih, decide_eq_false e]
        rfl
theorem x_hasOpenChild (q : RS h) (r : RL A h K L) {l : Nat} : Le_hasOpenChild 0 (l : Int) (hfd h 9 10 L s) kr = kr (tb (!(zch9 A s l 0 L))) (hfd h 9 10 L s) := by
  obtain ⟨a1, a2, a3, a4⟩ := r.at
  unfold Le_hasOpenChild
  exact x_hoc_loop q r zN 0 L (Nat.zero_add L) (by show L < 5000; omega)
theorem x_eid_loop (q : RS h) (r : RL A h K L) (cp : ∀ l, l < L → A 76 l ≠ -1 → A 70 (A 76 l).toNat ≠ -1) (s0 : Nat → Int) : ∀ (f i : Nat) (c : Int) (s : Nat → Int), 3 - i < f → MKS A L s0 s → (∀ l, l < L → zenb A L s l → (l : Int) = c) → (c = -1 ∨ ∃ l, l < L ∧ c = (l : Int) ∧ A 70 l ≠ -1 ∧ (i : Int) + A 77 l ≤ 2) → i ≤ 3 → ∃ s' : Nat → Int, (∀ kr : Int → zH → Option ρ, zit (fun _ _ _ _ => none) (Le_endIfDone_4b kr) f 0 c (i : Int) (hfd h 9 10 L s) = kr 0 (hfd h 9 10 L s')) ∧ MKS A L s0 s' ∧ (∀ l, l < L → ¬ zenb A L s' l)
  | 0, i, _, _, hf, _, _, _, _ => absurd hf (Nat.not_lt_zero _)
  | f + 1, i, c, s, hf, m, hu, hc, hi => by
    obtain ⟨a1, a2, a3, a4⟩ := r.at
    have i12 : (i : Int) < 12 := by omega
    rcases hc with rfl | ⟨l, hl, rfl, hk, hd⟩
    · refine ⟨s, fun kr => ?_, m, fun l hl z => ?_⟩
      · rw [zit_s]
        unfold Le_endIfDone_4b Le_endIfDone_58
        rw [if_pos i12, if_pos (by decide)]
      · have := hu l hl z
        omega
    · obtain ⟨-, -, -, -, -, ⟨f6, f7, f8⟩, -, ⟨b6, -, -, b9⟩, -, -, -, r12, -, ⟨g1, g2, g3, g4⟩⟩ := r.l hl
      obtain ⟨-, -, -, -, -, -, -, k8, k9, -⟩ := r12 hk
      have n9 : l < zhN (hfd h 9 10 L s) 9 := by
        show l < zhN h 9
        omega
      have D : ∀ j, j ≠ 10 → zhD (hfd h 9 10 L s) 9 l j = zhD h 9 l j := fun j hj => by rw [hfd_D, if_neg (fun z => hj z.2.1)]
      have n1 : zhN (hfd h 9 10 L s) 1 = 1 := q.N1
      have e9 : zhD (hfd h 9 10 L s) 9 l 9 = A 79 l := by rw [D 9 (by decide)]; exact b9
      have e6 : zhD (hfd h 9 10 L s) 9 l 6 = A 72 l := by rw [D 6 (by decide)]; exact b6
      have no : (∀ kr : Int → zH → Option ρ, zit (fun _ _ _ _ => none) (Le_endIfDone_4b kr) (f + 1) 0 (l : Int) (i : Int) (hfd h 9 10 L s) = kr 0 (hfd h 9 10 L s)) → ¬ zenb A L s l → ∃ s' : Nat → Int, (∀ kr : Int → zH → Option ρ, zit (fun _ _ _ _ => none) (Le_endIfDone_4b kr) (f + 1) 0 (l : Int) (i : Int) (hfd h 9 10 L s) = kr 0 (hfd h 9 10 L s')) ∧ MKS A L s0 s' ∧ (∀ l, l < L → ¬ zenb A L s' l) := fun h1 h2 => ⟨s, h1, m, fun l2 hl2 z => by
        have := hu l2 hl2 z
        have e : l2 = l := by omega
        subst e
        exact h2 z⟩
      have neg : ¬ ((l : Int) < 0) := by omega
      by_cases e114 : s l = 114
      · by_cases eb : A 79 l < A 72 l
        · refine no (fun kr => ?_) (fun z => by have := z.2.2.1; omega)
          rw [zit_s]
          unfold Le_endIfDone_4b Le_endIfDone_40
          rw [if_pos i12, if_neg neg, zob_n n9, x_isRunning_s (show l < zhN h 9 from n9) hl, decide_eq_true e114, tb_t, if_neg (by decide), zob_n n9, zob_n n9, e9, e6, if_pos eb]
        · cases hz : zch9 A s l 0 L with
          | false =>
            refine no (fun kr => ?_) (fun z => ?_)
            · rw [zit_s]
              unfold Le_endIfDone_4b Le_endIfDone_40
              rw [if_pos i12, if_neg neg, zob_n n9, x_isRunning_s (show l < zhN h 9 from n9) hl, decide_eq_true e114, tb_t, if_neg (by decide), zob_n n9, zob_n n9, e9, e6, if_neg eb, zob_0 n1, x_hasOpenChild q r, hz, Bool.not_false, tb_t, if_neg (by decide)]
            · have := (zch9_iff L 0).mpr (fun k _ k2 e => z.2.2.2 k (by omega) e)
              rw [hz] at this
              cases this
          | true =>
            have hzes : zenb A L s l := ⟨e114, hk, by omega, fun k hk e => (zch9_iff L 0).mp hz k (Nat.zero_le _) (by omega) e⟩
            have hf2 : 3 - (i + 1) < f := by omega
            have hi3 : i + 1 ≤ 3 := by omega
            have hc2 : A 76 l = -1 ∨ ∃ l2, l2 < L ∧ A 76 l = (l2 : Int) ∧ A 70 l2 ≠ -1 ∧ ((i + 1 : Nat) : Int) + A 77 l2 ≤ 2 := by
              by_cases ep : A 76 l = -1
              · exact Or.inl ep
              · refine Or.inr ⟨(A 76 l).toNat, by omega, by omega, cp l hl ep, ?_⟩
                have := g4 ep
                omega
            have hu2 : ∀ l2, l2 < L → zenb A L (zup s l 100) l2 → (l2 : Int) = A 76 l := fun l2 hl2 z => by
              obtain ⟨z1, z2⟩ := zenb_mark hl z
              rcases z2 with z2 | z2
              · have := hu l2 hl2 z2
                omega
              · exact z2.symm
            have w1 : wr ((i : Int) + 1) = ((i + 1 : Nat) : Int) := by
              rw [wr_id (by omega) (by omega)]
              rfl
            obtain ⟨s', y1, y2, y3⟩ := x_eid_loop q r cp s0 f (i + 1) (A 76 l) (zup s l 100) hf2 (m.step hl hzes) hu2 hc2 hi3
            refine ⟨s', fun kr => ?_, y2, y3⟩
            have n9' : l < zhN (hfd h 9 10 L (zup s l 100)) 9 := n9
            have e4' : zhD (hfd h 9 10 L (zup s l 100)) 9 l 4 = A 76 l := by rw [hfd_D, if_neg (fun z => absurd z.2.1 (by decide))]; exact f6
            rw [zit_s, ← y1 kr]
            generalize zit (fun _ _ _ _ => none) (Le_endIfDone_4b kr) f = r9
            unfold Le_endIfDone_4b Le_endIfDone_40
            rw [if_pos i12, if_neg neg, zob_n n9, x_isRunning_s (show l < zhN h 9 from n9) hl, decide_eq_true e114, tb_t, if_neg (by decide), zob_n n9, zob_n n9, e9, e6, if_neg eb, zob_0 n1, x_hasOpenChild q r, hz, Bool.not_true, tb_f, if_pos rfl, zob_n n9, hfd_set hl, zlet_d, zob_n n9', e4', w1]
      · refine no (fun kr => ?_) (fun z => e114 z.1)
        rw [zit_s]
        unfold Le_endIfDone_4b Le_endIfDone_40
        rw [if_pos i12, if_neg neg, zob_n n9, x_isRunning_s (show l < zhN h 9 from n9) hl, decide_eq_false e114, tb_f, if_pos rfl]
theorem x_endIfDone (q : RS h) (r : RL A h K L) (cp : ∀ l, l < L → A 76 l ≠ -1 → A 70 (A 76 l).toNat ≠ -1) {c : Int} (hu : ∀ l, l < L → zenb A L s l → (l : Int) = c) (hc : c = -1 ∨ ∃ l, l < L ∧ c = (l : Int) ∧ A 70 l ≠ -1) : ∃ s' : Nat → Int, (∀ kr : Int → zH → Option ρ, Le_endIfDone 0 c (hfd h 9 10 L s) kr = kr 0 (hfd h 9 10 L s')) ∧ MKS A L s s' ∧ (∀ l, l < L → ¬ zenb A L s' l) := by
  obtain ⟨s', y1, y2, y3⟩ := x_eid_loop (ρ := ρ) q r cp s zN 0 c s (by show 3 - 0 < 5000; decide) MKS.id hu (by
    rcases hc with hc | ⟨l, l1, l2, l3⟩
    · exact Or.inl hc
    · obtain ⟨-, -, -, -, -, -, -, -, -, -, -, -, -, ⟨g1, g2, -⟩⟩ := r.l l1
      exact Or.inr ⟨l, l1, l2, l3, by omega⟩) (by decide)
  exact ⟨s', fun kr => by unfold Le_endIfDone; exact y1 kr, y2, y3⟩
/-! the model -/
theorem m_fin62 (r : RL A h K L) {r2 : Int → zH → Option ρ} {r9 : Int → Int → zH → Option ρ} {a1 : Int} {l : Nat} (hl : l < L) (hz : zst (s l)) : ∀ (f i n : Nat) (v : Bool), i + n = L → n < f → zit (fun _ _ _ _ _ => none) (M_finish_62b kr r2 r9) f a1 (l : Int) (tb v) (i : Int) (mh g (ard A 69 s)) = r9 a1 ((l + 1 : Nat) : Int) (mh g (ard A 69 (if (v && zch9 A s l i n) = true then zup s l 100 else s)))
  | 0, i, n, _, _, hf => absurd hf (Nat.not_lt_zero _)
  | f + 1, i, n, v, hn, hf => by
    obtain ⟨a1', a2, a3, a4⟩ := r.at
    rw [zit_s]
    have hl12 : l < 12 := by omega
    have e13 : ard A 69 s 12 13 = (L : Int) := by rw [ard_ne (by decide)]; exact a1'
    cases n with
    | zero =>
      have : i = L := by omega
      subst this
      have w1 : wr ((l : Int) + 1) = ((l + 1 : Nat) : Int) := by
        rw [wr_id (by omega) (by omega)]
        rfl
      unfold M_finish_62b M_finish_127
      rw [mD12, e13, if_neg (Int.lt_irrefl _)]
      cases v with
      | false =>
        have hzr := zst_rng hz
        rw [tb_f, if_pos rfl, zix_n hl12, mRD (by decide), zix_n hl12, znar_c hzr, mS69, zlet_d, au_ard, zup_id rfl, w1, Bool.false_and, if_neg (by decide)]
      | true =>
        rw [tb_t, if_neg (by decide), zix_n hl12, znar_c (by decide), mS69, zlet_d, au_ard, w1]
        rfl
    | succ n =>
      have hi : i < L := by omega
      have hi12 : i < 12 := by omega
      have hlt : (i : Int) < (L : Int) := by omega
      have ih := fun v2 => m_fin62 r (r2 := r2) (r9 := r9) (a1 := a1) hl hz f (i + 1) n v2 (by omega) (by omega)
      have e76 : ard A 69 s 76 i = A 76 i := by rw [ard_ne (by decide)]
      have w1 : wr ((i : Int) + 1) = ((i + 1 : Nat) : Int) := by
        rw [wr_id (by omega) (by omega)]
        rfl
      generalize zit (fun _ _ _ _ _ => none) (M_finish_62b kr r2 r9) f = r7 at ih ⊢
      have ihf := ih false
      have iht := ih true
      rw [tb_f, Bool.false_and, if_neg (by decide)] at ihf
      rw [tb_t, Bool.true_and] at iht
      unfold M_finish_62b M_finish_99 M_finish_95 M_finish_100 zch9
      rw [mD12, e13, if_pos hlt]
      cases v with
      | false =>
        rw [tb_f, if_pos rfl, w1, ihf, Bool.false_and, if_neg (by decide)]
      | true =>
        rw [tb_t, if_neg (by decide), zix_n hi12, mD76, e76, Bool.true_and]
        by_cases e : A 76 i = (l : Int)
        · rw [if_pos e, m_isOver_s hi12, decide_eq_true e]
          cases ho : zover (s i) with
          | true =>
            rw [tb_t, if_neg (by decide), w1, iht]
            rfl
          | false =>
            rw [tb_f, if_pos rfl, w1, ihf]
            rfl
        · rw [if_neg e, w1, iht, decide_eq_false e]
          rfl
def znx9 (A : zA) (L : Nat) (s : Nat → Int) (l : Nat) : Nat → Int := if (decide (s l = 114) && decide (A 70 l ≠ -1) && decide (A 79 l = A 72 l) && zch9 A s l 0 L) = true then zup s l 100 else s
theorem znx9_t {l : Nat} (h : zenb A L s l) : znx9 A L s l = zup s l 100 := by
  obtain ⟨h1, h2, h3, h4⟩ := h
  unfold znx9
  rw [if_pos (by rw [decide_eq_true h1, decide_eq_true h2, decide_eq_true h3, (zch9_iff L 0).mpr (fun k _ k2 e => h4 k (by omega) e)]; rfl)]
theorem znx9_f {l : Nat} (h : ¬ zenb A L s l) : znx9 A L s l = s := by
  unfold znx9
  refine if_neg (fun z => h ?_)
  obtain ⟨z, z4⟩ := zand_t z
  obtain ⟨z, z3⟩ := zand_t z
  obtain ⟨z1, z2⟩ := zand_t z
  exact ⟨of_decide_eq_true z1, of_decide_eq_true z2, of_decide_eq_true z3, fun k hk e => (zch9_iff L 0).mp z4 k (Nat.zero_le _) (by omega) e⟩
theorem m_fin9b (r : RL A h K L) {r2 : Int → zH → Option ρ} {r9 : Int → Int → zH → Option ρ} {a1 : Int} {l : Nat} (hl : l < L) (hz : zst (s l)) : M_finish_9b kr r2 r9 a1 (l : Int) (mh g (ard A 69 s)) = r9 a1 ((l + 1 : Nat) : Int) (mh g (ard A 69 (znx9 A L s l))) := by
  obtain ⟨a1', a2, a3, a4⟩ := r.at
  have hl12 : l < 12 := by omega
  have hlt : (l : Int) < (L : Int) := by omega
  have e13 : ard A 69 s 12 13 = (L : Int) := by rw [ard_ne (by decide)]; exact a1'
  have hf : L < zN := by
    show L < 5000
    omega
  have f0 := m_fin62 (kr := kr) (g := g) r (r2 := r2) (r9 := r9) (a1 := a1) hl hz zN 0 L false (Nat.zero_add L) hf
  have f1 := m_fin62 (kr := kr) (g := g) r (r2 := r2) (r9 := r9) (a1 := a1) hl hz zN 0 L true (Nat.zero_add L) hf
  rw [Bool.false_and, if_neg (by decide)] at f0
  rw [Bool.true_and] at f1
  unfold M_finish_9b M_finish_57 M_finish_58 znx9
  rw [mD12, e13, if_pos hlt, zix_n hl12, mRD (by decide)]
  by_cases e1 : s l = 114
  · rw [if_pos e1, zix_n hl12, mD70, ard_ne (show 70 ≠ 69 by decide)]
    by_cases e2 : A 70 l = -1
    · rw [if_pos e2, if_neg (by simp [e2])]
      exact f0
    · rw [if_neg e2, zix_n hl12, zix_n hl12, mD79, mD72, ard_ne (show 79 ≠ 69 by decide), ard_ne (show 72 ≠ 69 by decide)]
      by_cases e3 : A 79 l = A 72 l
      · rw [if_pos e3, decide_eq_true e1, decide_eq_true e2, decide_eq_true e3]
        exact f1
      · rw [if_neg e3, if_neg (by simp [e3])]
        exact f0
  · rw [if_neg e1, if_neg (by simp [e1])]
    exact f0
theorem MKS.st {s0 : Nat → Int} (m : MKS A L s0 s) (hz : ∀ l, l < L → zst (s0 l)) : ∀ l, l < L → zst (s l) := fun l hl => by
  rcases m.1 l with e | ⟨-, -, e⟩
  · rw [e]
    exact hz l hl
  · rw [e]
    exact Or.inr (Or.inr (Or.inl rfl))
theorem m_fin9 (r : RL A h K L) (dep : ∀ l, l < L → A 76 l ≠ -1 → A 77 l = A 77 (A 76 l).toNat + 1) {r2 : Int → zH → Option ρ} {s0 : Nat → Int} (hz : ∀ l, l < L → zst (s0 l)) {rd : Nat} (g : zH) : ∀ (f i n : Nat) (s : Nat → Int), i + n = L → n < f → MKS A L s0 s → (∀ l, l < L → 3 - (rd : Int) ≤ A 77 l → ¬ zenb A L s l) → (∀ l, l < i → 2 - (rd : Int) ≤ A 77 l → ¬ zenb A L s l) → ∃ s' : Nat → Int, (∀ (kr : Int → zH → Option ρ) (r2 : Int → zH → Option ρ), zit (fun _ _ _ => none) (M_finish_9b kr r2) f (rd : Int) (i : Int) (mh g (ard A 69 s)) = r2 (wr ((rd : Int) + 1)) (mh g (ard A 69 s'))) ∧ MKS A L s0 s' ∧ (∀ l, l < L → 2 - (rd : Int) ≤ A 77 l → ¬ zenb A L s' l)
  | 0, i, n, _, _, hf, _, _, _ => absurd hf (Nat.not_lt_zero _)
  | f + 1, i, n, s, hn, hf, m, h1, h2 => by
    obtain ⟨a1', a2, a3, a4⟩ := r.at
    cases n with
    | zero =>
      have : i = L := by omega
      subst this
      refine ⟨s, fun kr r2 => ?_, m, h2⟩
      rw [zit_s]
      unfold M_finish_9b
      rw [mD12, ard_ne (by decide), a1', if_neg (Int.lt_irrefl _)]
    | succ n =>
      have hi : i < L := by omega
      by_cases hz9 : zenb A L s i
      · have hdi : A 77 i ≤ 2 - (rd : Int) := by
          by_cases hd : 3 - (rd : Int) ≤ A 77 i
          · exact absurd hz9 (h1 i hi hd)
          · omega
        have keep : ∀ l, l < L → 2 - (rd : Int) ≤ A 77 l → zenb A L (zup s i 100) l → zenb A L s l := fun l hl hd z => by
          obtain ⟨z1, z2⟩ := zenb_mark hi z
          rcases z2 with z2 | z2
          · exact z2
          · exfalso
            have := dep i hi (by omega)
            rw [z2, Int.toNat_natCast] at this
            omega
        obtain ⟨s', y1, y2, y3⟩ := m_fin9 r dep (r2 := r2) hz (rd := rd) g f (i + 1) n (zup s i 100) (by omega) (by omega) (m.step hi hz9) (fun l hl hd z => h1 l hl hd (keep l hl (by omega) z)) (fun l hl hd z => by
          by_cases hli : l = i
          · exact (zenb_mark hi z).1 hli
          · exact h2 l (by omega) hd (keep l (by omega) hd z))
        refine ⟨s', fun kr r2 => ?_, y2, y3⟩
        rw [zit_s, m_fin9b r hi (m.st hz i hi), znx9_t hz9]
        exact y1 kr r2
      · obtain ⟨s', y1, y2, y3⟩ := m_fin9 r dep (r2 := r2) hz (rd := rd) g f (i + 1) n s (by omega) (by omega) m h1 (fun l hl hd => by
          by_cases hli : l = i
          · rw [hli]
            exact hz9
          · exact h2 l (by omega) hd)
        refine ⟨s', fun kr r2 => ?_, y2, y3⟩
        rw [zit_s, m_fin9b r hi (m.st hz i hi), znx9_f hz9]
        exact y1 kr r2
theorem m_finish (r : RL A h K L) {s0 : Nat → Int} (hz : ∀ l, l < L → zst (s0 l)) (g : zH) : ∃ s' : Nat → Int, (∀ kr : Int → zH → Option ρ, M_finish (mh g (ard A 69 s0)) kr = kr 0 (mh g (ard A 69 s'))) ∧ MKS A L s0 s' ∧ (∀ l, l < L → ¬ zenb A L s' l) := by
  obtain ⟨a1', a2, a3, a4⟩ := r.at
  have dep : ∀ l, l < L → A 76 l ≠ -1 → A 77 l = A 77 (A 76 l).toNat + 1 := fun l hl hp => by
    obtain ⟨-, -, -, -, -, -, -, -, -, -, -, -, -, ⟨g1, g2, g3, g4⟩⟩ := r.l hl
    exact g4 hp
  have d2 : ∀ l, l < L → 0 ≤ A 77 l ∧ A 77 l ≤ 2 := fun l hl => by
    obtain ⟨-, -, -, -, -, -, -, -, -, -, -, -, -, ⟨g1, g2, g3, g4⟩⟩ := r.l hl
    exact ⟨g1, g2⟩
  have hf : L < zN := by
    show L < 5000
    omega
  obtain ⟨s1, x1, x2, x3⟩ := m_fin9 (ρ := ρ) (r2 := fun _ _ => none) r dep hz (rd := 0) g zN 0 L s0 (Nat.zero_add L) hf MKS.id (fun l hl hd => by have := d2 l hl; omega) (fun l hl => absurd hl (Nat.not_lt_zero _))
  obtain ⟨s2, y1, y2, y3⟩ := m_fin9 (ρ := ρ) (r2 := fun _ _ => none) r dep hz (rd := 1) g zN 0 L s1 (Nat.zero_add L) hf x2 (fun l hl hd => x3 l hl (by omega)) (fun l hl => absurd hl (Nat.not_lt_zero _))
  obtain ⟨s3, z1, z2, z3⟩ := m_fin9 (ρ := ρ) (r2 := fun _ _ => none) r dep hz (rd := 2) g zN 0 L s2 (Nat.zero_add L) hf y2 (fun l hl hd => y3 l hl (by omega)) (fun l hl => absurd hl (Nat.not_lt_zero _))
  refine ⟨s3, fun kr => ?_, z2, fun l hl => z3 l hl (by have := d2 l hl; omega)⟩
  have e1 : M_finish (mh g (ard A 69 s0)) kr = M_finish_2b kr (M_finish_2b kr (M_finish_2b kr (M_finish_2b kr (zit (fun _ _ => none) (M_finish_2b kr) 4996)))) 0 (mh g (ard A 69 s0)) := rfl
  rw [e1]
  have st : ∀ (r2 : Int → zH → Option ρ) (v w : Int) (sa sb : Nat → Int), v < 3 → (zit (fun _ _ _ => none) (M_finish_9b kr r2) zN v 0 (mh g (ard A 69 sa)) = r2 w (mh g (ard A 69 sb))) → M_finish_2b kr r2 v (mh g (ard A 69 sa)) = r2 w (mh g (ard A 69 sb)) := fun r2 v w sa sb hv h1 => by
    unfold M_finish_2b M_finish_9
    rw [if_pos hv]
    exact h1
  rw [st _ 0 1 s0 s1 (by decide) (x1 kr _), st _ 1 2 s1 s2 (by decide) (y1 kr _), st _ 2 3 s2 s3 (by decide) (z1 kr _)]
  unfold M_finish_2b
  rw [if_neg (by decide)]
end
