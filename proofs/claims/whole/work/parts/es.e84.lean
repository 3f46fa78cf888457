/-! THE MODEL GIVES A BLOCK -/
section
variable {ρ : Type} {h g : zH} {A B : zA} {kr : Int → zH → Option ρ} {K L n : Nat} {bc tc gc : Nat → Nat} {N M : Int} {l T nG k u m0 kn b : Nat} {st : Int}
theorem m_g45 (hb : b < 72) : ∀ (f i : Nat) (A : zA), i ≤ 16 → 16 - i < f → ∃ A' : zA, (∀ kr : Int → zH → Option ρ, zit (fun _ _ _ _ _ => none) (M_give_45b kr) f (l : Int) (u : Int) (b : Int) (i : Int) (mh g A) = M_give_74 kr (l : Int) (u : Int) (b : Int) 0 (mh g A')) ∧ (∀ c, c ≠ 92 → A' c = A c) ∧ (∀ j, (j < 16 * b + i ∨ 16 * b + 16 ≤ j) → A' 92 j = A 92 j) ∧ ∀ c, i ≤ c → c < 16 → A' 92 (16 * b + c) = 0
  | 0, _, _, _, hf => absurd hf (Nat.not_lt_zero _)
  | f + 1, i, A, hi, hf => by
    by_cases h4 : i < 16
    · obtain ⟨A', z1, z2, z3, z4⟩ := m_g45 hb f (i + 1) (au A 92 (16 * b + i) 0) h4 (by omega)
      have hlt : (i : Int) < 16 := by omega
      have i9 : i < 100000 := by omega
      have b9 : 16 * b + i < 100000 := by omega
      have b1 : 16 * b + i < 1152 := by omega
      have b16 : wr (16 * (b : Int)) = ((16 * b : Nat) : Int) := by
        rw [wr_id (by omega) (by omega)]
        omega
      refine ⟨A', fun kr => ?_, fun c hc => by rw [z2 c hc, au_ne hc], fun j hj => ?_, fun c c1 c2 => ?_⟩
      · rw [zit_s, ← z1 kr]
        generalize zit (fun _ _ _ _ _ => none) (M_give_45b kr) f = r2
        unfold M_give_45b
        rw [if_pos hlt, b16, wr_nn b9, zix_n b1, mS92, zlet_d, wr_s i9]
      · clear b16
        rw [z3 j (by omega), au_j, if_neg (by omega)]
      · clear b16
        by_cases hc : c = i
        · subst hc
          rw [z3 _ (by omega), au_same]
        · exact z4 c (by omega) c2
    · have : i = 16 := by omega
      subst this
      refine ⟨A, fun kr => ?_, fun c _ => rfl, fun j _ => rfl, fun c c1 c2 => absurd c1 (by omega)⟩
      rw [zit_s]
      unfold M_give_45b
      rw [if_neg (by decide)]
theorem m_g133 {t : Nat} {r74 : Int → Int → Int → Int → zH → Option ρ} {kr : Int → zH → Option ρ} (hb : b < 72) (ht : t < 16) : ∀ (f i : Nat) (A : zA), i ≤ 8 → 8 - i < f → ∃ A' : zA, zit (fun _ _ _ _ _ _ _ => none) (M_give_133b kr r74) f (l : Int) (u : Int) (b : Int) (t : Int) ((16 * b + t : Nat) : Int) (i : Int) (mh g A) = r74 (l : Int) (u : Int) (b : Int) ((t + 1 : Nat) : Int) (mh g A') ∧ (∀ j, A' 91 j = if 8 * (16 * b + t) + i ≤ j ∧ j < 8 * (16 * b + t) + 8 then 0 else A 91 j) ∧ (∀ c, c ≠ 91 → A' c = A c) := by
  intro f
  induction f with
  | zero => exact fun i A _ hf => absurd hf (Nat.not_lt_zero _)
  | succ f ih =>
    intro i A hi hf
    by_cases h4 : i < 8
    · obtain ⟨A', z1, z2, z3⟩ := ih (i + 1) (au A 91 (8 * (16 * b + t) + i) 0) h4 (by omega)
      have hlt : (i : Int) < 8 := by omega
      have i9 : i < 100000 := by omega
      have b9 : 8 * (16 * b + t) + i < 100000 := by omega
      have b1 : 8 * (16 * b + t) + i < 9216 := by omega
      have w8 : wr (8 * ((16 * b + t : Nat) : Int)) = ((8 * (16 * b + t) : Nat) : Int) := by
        rw [wr_id (by omega) (by omega)]
        omega
      refine ⟨A', ?_, fun j => ?_, fun c hc => by rw [z3 c hc, au_ne hc]⟩
      · rw [zit_s, ← z1]
        generalize zit (fun _ _ _ _ _ _ _ => none) (M_give_133b kr r74) f = r2
        unfold M_give_133b
        rw [if_pos hlt, w8, wr_nn b9, zix_n b1, mS91, zlet_d, wr_s i9]
      · clear w8
        rw [z2, au_j]
        by_cases hj : 8 * (16 * b + t) + (i + 1) ≤ j ∧ j < 8 * (16 * b + t) + 8
        · rw [if_pos hj, if_pos ⟨by omega, hj.2⟩]
        · rw [if_neg hj]
          by_cases hj2 : j = 8 * (16 * b + t) + i
          · rw [if_pos hj2, if_pos ⟨by omega, by omega⟩]
          · rw [if_neg hj2, if_neg (fun z => hj ⟨by omega, z.2⟩)]
    · have : i = 8 := by omega
      subst this
      have t9 : t < 100000 := by omega
      refine ⟨A, ?_, fun j => by rw [if_neg (fun z => by omega)], fun c _ => rfl⟩
      rw [zit_s]
      unfold M_give_133b
      rw [if_neg (by decide), wr_s t9]
theorem m_g74 (hb : b < 72) (hl : l < 12) (hk : k < 4) (t16 : T ≤ 16) (hst : st = if 0 < A 63 k then 114 else 101) (h63 : 0 ≤ A 63 k) : ∀ (f i : Nat) (A' : zA), i ≤ T → T - i < f → (∀ c, c ≠ 89 → c ≠ 90 → c ≠ 91 → c ≠ 92 → c ≠ 78 → c ≠ 86 → c ≠ 87 → c ≠ 88 → A' c = A c) → A 70 l = (k : Int) → A 73 l = (T : Int) → ∃ A2 : zA, (∀ kr : Int → zH → Option ρ, zit (fun _ _ _ _ _ => none) (M_give_74b kr) f (l : Int) (u : Int) (b : Int) (i : Int) (mh g A') = M_give_169 kr (l : Int) (u : Int) (b : Int) 0 (mh g A2)) ∧ (∀ c, c ≠ 89 → c ≠ 90 → c ≠ 91 → A2 c = A' c) ∧ (∀ j, A2 89 j = if 16 * b + i ≤ j ∧ j < 16 * b + T then st else A' 89 j) ∧ (∀ j, A2 90 j = if 16 * b + i ≤ j ∧ j < 16 * b + T then 0 else A' 90 j) ∧ (∀ j, A2 91 j = if 8 * (16 * b + i) ≤ j ∧ j < 8 * (16 * b + T) then 0 else A' 91 j)
  | 0, _, _, _, hf, _, _, _ => absurd hf (Nat.not_lt_zero _)
  | f + 1, i, A', hi, hf, e, e70, e73 => by
    have a73 : A' 73 l = (T : Int) := by rw [e 73 (by decide) (by decide) (by decide) (by decide) (by decide) (by decide) (by decide) (by decide)]; exact e73
    have a70 : A' 70 l = (k : Int) := by rw [e 70 (by decide) (by decide) (by decide) (by decide) (by decide) (by decide) (by decide) (by decide)]; exact e70
    have a63 : A' 63 = A 63 := e 63 (by decide) (by decide) (by decide) (by decide) (by decide) (by decide) (by decide) (by decide)
    by_cases h4 : i < T
    · have hlt : (i : Int) < (T : Int) := by omega
      have i16 : i < 16 := by omega
      have b1 : 16 * b + i < 1152 := by omega
      have key : ∀ kr : Int → zH → Option ρ, ∃ A1 : zA, M_give_74b kr (zit (fun _ _ _ _ _ => none) (M_give_74b kr) f) (l : Int) (u : Int) (b : Int) (i : Int) (mh g A') = zit (fun _ _ _ _ _ => none) (M_give_74b kr) f (l : Int) (u : Int) (b : Int) ((i + 1 : Nat) : Int) (mh g A1) ∧ (∀ j, A1 91 j = if 8 * (16 * b + i) + 0 ≤ j ∧ j < 8 * (16 * b + i) + 8 then 0 else (au (au A' 90 (16 * b + i) 0) 89 (16 * b + i) st) 91 j) ∧ (∀ c, c ≠ 91 → A1 c = (au (au A' 90 (16 * b + i) 0) 89 (16 * b + i) st) c) := fun kr => by
        generalize zit (fun _ _ _ _ _ => none) (M_give_74b kr) f = r2
        obtain ⟨A1, z1, z2, z3⟩ := m_g133 (g := g) (l := l) (u := u) (t := i) (r74 := r2) (kr := kr) hb i16 zN 0 (au (au A' 90 (16 * b + i) 0) 89 (16 * b + i) st) (Nat.zero_le _) (by decide)
        refine ⟨A1, ?_, z2, z3⟩
        unfold M_give_74b M_give_129
        rw [zix_n hl, mD73, a73, if_pos hlt, m_threadCell hb i16, zix_n b1, mS90, zlet_d, zix_n hl, mD70, au_ne (show 70 ≠ 90 by decide), a70, zix_n hk, mD63, au_ne (show 63 ≠ 90 by decide), a63]
        by_cases hz : A 63 k = 0
        · have hs : st = 101 := by rw [hst, hz]; rfl
          rw [if_pos hz, zix_n b1, znar_c (by decide), mS89, zlet_d, ← hs]
          exact z1
        · have hs : st = 114 := by rw [hst, if_pos (by omega)]
          rw [if_neg hz, zix_n b1, znar_c (by decide), mS89, zlet_d, ← hs]
          exact z1
      -- the state does not depend on the continuation
      obtain ⟨A1, -, y2, y3⟩ := key (fun _ _ => none)
      have e1 : ∀ c, c ≠ 89 → c ≠ 90 → c ≠ 91 → A1 c = A' c := fun c c1 c2 c3 => by rw [y3 c c3, au_ne c1, au_ne c2]
      obtain ⟨A2, w1, w2, w3, w4, w5⟩ := m_g74 hb hl hk t16 hst h63 f (i + 1) A1 h4 (by omega) (fun c c1 c2 c3 c4 c5 c6 c7 c8 => by rw [e1 c c1 c2 c3]; exact e c c1 c2 c3 c4 c5 c6 c7 c8) e70 e73
      refine ⟨A2, fun kr => ?_, fun c c1 c2 c3 => by rw [w2 c c1 c2 c3, e1 c c1 c2 c3], fun j => ?_, fun j => ?_, fun j => ?_⟩
      · obtain ⟨A3, v1, v2, v3⟩ := key kr
        have : A3 = A1 := zA_ext (fun c => by
          by_cases hc : c = 91
          · subst hc
            exact funext fun j => by rw [v2, y2]
          · rw [v3 c hc, y3 c hc])
        subst this
        rw [zit_s, v1, w1]
      · rw [w3, y3 89 (by decide), au_j, au_ne (by decide)]
        by_cases hj : 16 * b + (i + 1) ≤ j ∧ j < 16 * b + T
        · rw [if_pos hj, if_pos ⟨by omega, hj.2⟩]
        · rw [if_neg hj]
          by_cases hj2 : j = 16 * b + i
          · rw [if_pos hj2, if_pos ⟨by omega, by omega⟩]
          · rw [if_neg hj2, if_neg (fun z => hj ⟨by omega, z.2⟩)]
      · rw [w4, y3 90 (by decide), au_ne (by decide), au_j]
        by_cases hj : 16 * b + (i + 1) ≤ j ∧ j < 16 * b + T
        · rw [if_pos hj, if_pos ⟨by omega, hj.2⟩]
        · rw [if_neg hj]
          by_cases hj2 : j = 16 * b + i
          · rw [if_pos hj2, if_pos ⟨by omega, by omega⟩]
          · rw [if_neg hj2, if_neg (fun z => hj ⟨by omega, z.2⟩)]
      · rw [w5, y2, au_ne (by decide), au_ne (by decide)]
        by_cases hj : 8 * (16 * b + (i + 1)) ≤ j ∧ j < 8 * (16 * b + T)
        · rw [if_pos hj, if_pos ⟨by omega, hj.2⟩]
        · rw [if_neg hj]
          by_cases hj2 : 8 * (16 * b + i) + 0 ≤ j ∧ j < 8 * (16 * b + i) + 8
          · rw [if_pos hj2, if_pos ⟨by omega, by omega⟩]
          · rw [if_neg hj2, if_neg (fun z => by omega)]
    · have : i = T := by omega
      subst this
      refine ⟨A', fun kr => ?_, fun c _ _ _ => rfl, fun j => by rw [if_neg (fun z => by omega)], fun j => by rw [if_neg (fun z => by omega)], fun j => by rw [if_neg (fun z => by omega)]⟩
      rw [zit_s]
      unfold M_give_74b
      rw [zix_n hl, mD73, a73, if_neg (Int.lt_irrefl _)]
theorem m_g169 (hu : u < 2) (hl : l < 12) (t1 : 1 ≤ T) (t16 : T ≤ 16) (hG : Int.tdiv ((T : Int) + 3) 4 = (nG : Int)) (hm : m0 + nG ≤ 4) : ∀ (f i : Nat) (A : zA), i ≤ nG → nG - i < f → A 73 l = (T : Int) → A 93 u = ((m0 + i : Nat) : Int) → ∃ A' : zA, (∀ kr : Int → zH → Option ρ, zit (fun _ _ _ _ _ => none) (M_give_169b kr) f (l : Int) (u : Int) (b : Int) (i : Int) (mh g A) = M_settle (b : Int) (mh g A') (fun _ h4 => kr 0 h4)) ∧ (∀ c, c < 93 ∨ 97 < c → A' c = A c) ∧ (∀ v, A' 93 v = if v = u then ((m0 + nG : Nat) : Int) else A 93 v) ∧ (∀ j, A' 94 j = if 4 * u + (m0 + i) ≤ j ∧ j < 4 * u + (m0 + nG) then (b : Int) else A 94 j) ∧ (∀ j, A' 95 j = if 4 * u + (m0 + i) ≤ j ∧ j < 4 * u + (m0 + nG) then ((j - (4 * u + m0) : Nat) : Int) else A 95 j) ∧ (∀ j, A' 96 j = if 4 * u + (m0 + i) ≤ j ∧ j < 4 * u + (m0 + nG) then A 12 1 else A 96 j) ∧ (∀ j, A' 97 j = if 4 * u + (m0 + i) ≤ j ∧ j < 4 * u + (m0 + nG) then 0 else A 97 j)
  | 0, _, _, _, hf, _, _ => absurd hf (Nat.not_lt_zero _)
  | f + 1, i, A, hi, hf, e73, e93 => by
    have t1' : (1 : Int) ≤ (T : Int) := by omega
    have t2' : (T : Int) ≤ 16 := by omega
    by_cases h4 : i < nG
    · obtain ⟨A', z1, z2, z3, z4, z5, z6, z7⟩ := m_g169 hu hl t1 t16 hG hm f (i + 1) (au (au (au (au (au A 94 (4 * u + (m0 + i)) (b : Int)) 95 (4 * u + (m0 + i)) (i : Int)) 96 (4 * u + (m0 + i)) (A 12 1)) 97 (4 * u + (m0 + i)) 0) 93 u ((m0 + (i + 1) : Nat) : Int)) h4 (by omega) (by rw [au_ne (by decide), au_ne (by decide), au_ne (by decide), au_ne (by decide), au_ne (by decide)]; exact e73) au_same
      have hlt : (i : Int) < (nG : Int) := by omega
      have i9 : i < 100000 := by omega
      have m9 : m0 + i < 100000 := by omega
      have y8 : 4 * u + (m0 + i) < 8 := by omega
      refine ⟨A', fun kr => ?_, fun c hc => ?_, fun v => ?_, fun j => ?_, fun j => ?_, fun j => ?_, fun j => ?_⟩
      · rw [zit_s, ← z1 kr]
        generalize zit (fun _ _ _ _ _ => none) (M_give_169b kr) f = r2
        unfold M_give_169b M_groupsOf
        rw [zix_n hl, mD73, e73, m_groupsFor t1' t2', hG]
        dsimp only
        rw [if_pos hlt, zix_n hu, mD93, e93, wr_ut y8, zix_n y8, mS94, zlet_d, zix_n y8, mS95, zlet_d, zix_n y8, mD12, mS96, zlet_d, zix_n y8, mS97, zlet_d, zix_n hu, zix_n hu, mD93, au_ne (show 93 ≠ 97 by decide), au_ne (show 93 ≠ 96 by decide), au_ne (show 93 ≠ 95 by decide), au_ne (show 93 ≠ 94 by decide), e93, wr_s m9, mS93, zlet_d, wr_s i9, au_ne (show 12 ≠ 95 by decide), au_ne (show 12 ≠ 94 by decide)]
        rfl
      · rw [z2 c hc, au_ne (by omega), au_ne (by omega), au_ne (by omega), au_ne (by omega), au_ne (by omega)]
      · rw [z3 v]
        by_cases hv : v = u
        · rw [if_pos hv, if_pos hv]
        · rw [if_neg hv, if_neg hv, au_j, if_neg hv, au_ne (by decide), au_ne (by decide), au_ne (by decide), au_ne (by decide)]
      · rw [z4, au_ne (by decide), au_ne (by decide), au_ne (by decide), au_ne (by decide), au_j]
        by_cases hj : 4 * u + (m0 + (i + 1)) ≤ j ∧ j < 4 * u + (m0 + nG)
        · rw [if_pos hj, if_pos ⟨by omega, hj.2⟩]
        · rw [if_neg hj]
          by_cases hj2 : j = 4 * u + (m0 + i)
          · rw [if_pos hj2, if_pos ⟨by omega, by omega⟩]
          · rw [if_neg hj2, if_neg (fun z => hj ⟨by omega, z.2⟩)]
      · rw [z5, au_ne (by decide), au_ne (by decide), au_ne (by decide), au_j]
        by_cases hj : 4 * u + (m0 + (i + 1)) ≤ j ∧ j < 4 * u + (m0 + nG)
        · rw [if_pos hj, if_pos ⟨by omega, hj.2⟩]
        · rw [if_neg hj]
          by_cases hj2 : j = 4 * u + (m0 + i)
          · rw [if_pos hj2, if_pos ⟨by omega, by omega⟩]
            omega
          · rw [if_neg hj2, if_neg (fun z => hj ⟨by omega, z.2⟩), au_ne (by decide)]
      · rw [z6, au_ne (show 96 ≠ 93 by decide), au_ne (show 96 ≠ 97 by decide), au_j]
        rw [au_ne (show 12 ≠ 93 by decide), au_ne (show 12 ≠ 97 by decide), au_ne (show 12 ≠ 96 by decide), au_ne (show 12 ≠ 95 by decide), au_ne (show 12 ≠ 94 by decide)]
        by_cases hj : 4 * u + (m0 + (i + 1)) ≤ j ∧ j < 4 * u + (m0 + nG)
        · rw [if_pos hj, if_pos ⟨by omega, hj.2⟩]
        · rw [if_neg hj]
          by_cases hj2 : j = 4 * u + (m0 + i)
          · rw [if_pos hj2, if_pos ⟨by omega, by omega⟩]
          · rw [if_neg hj2, if_neg (fun z => hj ⟨by omega, z.2⟩), au_ne (by decide), au_ne (by decide)]
      · rw [z7, au_ne (by decide), au_j]
        by_cases hj : 4 * u + (m0 + (i + 1)) ≤ j ∧ j < 4 * u + (m0 + nG)
        · rw [if_pos hj, if_pos ⟨by omega, hj.2⟩]
        · rw [if_neg hj]
          by_cases hj2 : j = 4 * u + (m0 + i)
          · rw [if_pos hj2, if_pos ⟨by omega, by omega⟩]
          · rw [if_neg hj2, if_neg (fun z => hj ⟨by omega, z.2⟩), au_ne (by decide), au_ne (by decide), au_ne (by decide)]
    · have : i = nG := by omega
      subst this
      refine ⟨A, fun kr => ?_, fun c _ => rfl, fun v => ?_, fun j => by rw [if_neg (fun z => by omega)], fun j => by rw [if_neg (fun z => by omega)], fun j => by rw [if_neg (fun z => by omega)], fun j => by rw [if_neg (fun z => by omega)]⟩
      · rw [zit_s]
        unfold M_give_169b M_groupsOf
        rw [zix_n hl, mD73, e73, m_groupsFor t1' t2', hG]
        dsimp only
        rw [if_neg (Int.lt_irrefl _)]
      · by_cases hv : v = u
        · rw [if_pos hv, hv, e93]
        · rw [if_neg hv]
/-- the model's rows with a block more -/
def MW (A A' : zA) (l u b T nG kn m0 : Nat) (st : Int) : Prop :=
  (∀ c, c ≠ 78 → c < 86 ∨ 97 < c → A' c = A c) ∧
  ((∀ j, A' 78 j = if j = l then (kn : Int) + 1 else A 78 j) ∧ (∀ j, A' 87 j = if j = b then 1 else A 87 j) ∧ (∀ j, A' 88 j = if j = b then (u : Int) else A 88 j) ∧ (∀ j, A' 86 j = if j = b then 0 else A 86 j)) ∧
  ((∀ j, A' 89 j = if 16 * b ≤ j ∧ j < 16 * b + T then st else A 89 j) ∧ (∀ j, A' 90 j = if 16 * b ≤ j ∧ j < 16 * b + T then 0 else A 90 j) ∧ (∀ j, A' 91 j = if 8 * (16 * b) ≤ j ∧ j < 8 * (16 * b + T) then 0 else A 91 j) ∧ (∀ j, A' 92 j = if 16 * b ≤ j ∧ j < 16 * b + 16 then 0 else A 92 j)) ∧
  ((∀ v, A' 93 v = if v = u then ((m0 + nG : Nat) : Int) else A 93 v) ∧ (∀ j, A' 94 j = if 4 * u + m0 ≤ j ∧ j < 4 * u + (m0 + nG) then (b : Int) else A 94 j) ∧ (∀ j, A' 95 j = if 4 * u + m0 ≤ j ∧ j < 4 * u + (m0 + nG) then ((j - (4 * u + m0) : Nat) : Int) else A 95 j) ∧ (∀ j, A' 96 j = if 4 * u + m0 ≤ j ∧ j < 4 * u + (m0 + nG) then A 12 1 else A 96 j) ∧ (∀ j, A' 97 j = if 4 * u + m0 ≤ j ∧ j < 4 * u + (m0 + nG) then 0 else A 97 j))
theorem MW.ard {A' : zA} {s : Nat → Int} (x : MW A A' l u b T nG kn m0 st) : MW (ard A 69 s) (ard A' 69 s) l u b T nG kn m0 st := by
  obtain ⟨x1, ⟨a1, a2, a3, a4⟩, ⟨b1, b2, b3, b4⟩, ⟨c1, c2, c3, c4, c5⟩⟩ := x
  refine ⟨fun c h1 h2 => ?_, ⟨fun j => ?_, fun j => ?_, fun j => ?_, fun j => ?_⟩, ⟨fun j => ?_, fun j => ?_, fun j => ?_, fun j => ?_⟩, ⟨fun j => ?_, fun j => ?_, fun j => ?_, fun j => ?_, fun j => ?_⟩⟩
  · by_cases h69 : c = 69
    · rw [h69, ard_same, ard_same]
    · rw [ard_ne h69, ard_ne h69]
      exact x1 c h1 h2
  all_goals (first
    | (rw [ard_ne (by decide), ard_ne (by decide), ard_ne (by decide)]; first | exact c4 j)
    | (rw [ard_ne (by decide), ard_ne (by decide)]; first | exact a1 j | exact a2 j | exact a3 j | exact a4 j | exact b1 j | exact b2 j | exact b3 j | exact b4 j | exact c1 j | exact c2 j | exact c3 j | exact c5 j))
theorem m_give (hl : l < 12) (hu : u < 2) (hk : k < 4) (e70 : A 70 l = (k : Int)) (e73 : A 73 l = (T : Int)) (e78 : A 78 l = (kn : Int)) (k6 : kn < 6) (t1 : 1 ≤ T) (t16 : T ≤ 16) (hG : Int.tdiv ((T : Int) + 3) 4 = (nG : Int)) (h93 : A 93 u = (m0 : Int)) (hm : m0 + nG ≤ 4) (h63 : 0 ≤ A 63 k) (g : zH) : ∃ A' : zA, (∀ kr : Int → zH → Option ρ, M_give (l : Int) (u : Int) (mh g A) kr = M_settle ((6 * l + kn : Nat) : Int) (mh g A') (fun _ h4 => kr 0 h4)) ∧ MW A A' l u (6 * l + kn) T nG kn m0 (if 0 < A 63 k then 114 else 101) := by
  have hb : 6 * l + kn < 72 := by omega
  obtain ⟨A1, z1, z2, z3, z4⟩ := m_g45 (ρ := ρ) (g := g) (l := l) (u := u) hb zN 0 (au (au (au (au A 78 l ((kn : Int) + 1)) 87 (6 * l + kn) 1) 88 (6 * l + kn) (u : Int)) 86 (6 * l + kn) 0) (Nat.zero_le _) (by decide)
  have E : ∀ c, c ≠ 78 → c ≠ 86 → c ≠ 87 → c ≠ 88 → (au (au (au (au A 78 l ((kn : Int) + 1)) 87 (6 * l + kn) 1) 88 (6 * l + kn) (u : Int)) 86 (6 * l + kn) 0) c = A c := fun c c1 c2 c3 c4 => by rw [au_ne c2, au_ne c4, au_ne c3, au_ne c1]
  have E1 : ∀ c, c ≠ 78 → c ≠ 86 → c ≠ 87 → c ≠ 88 → c ≠ 92 → A1 c = A c := fun c c1 c2 c3 c4 c5 => by rw [z2 c c5, E c c1 c2 c3 c4]
  obtain ⟨A2, w1, w2, w3, w4, w5⟩ := m_g74 (ρ := ρ) (g := g) (l := l) (u := u) (b := 6 * l + kn) (A := A) (k := k) (T := T) (st := if 0 < A 63 k then 114 else 101) hb hl hk t16 rfl h63 zN 0 A1 (Nat.zero_le _) (by show T - 0 < 5000; omega) (fun c c1 c2 c3 c4 c5 c6 c7 c8 => E1 c c5 c6 c7 c8 c4) e70 e73
  have F : ∀ c, c ≠ 78 → c ≠ 86 → c ≠ 87 → c ≠ 88 → c ≠ 92 → c ≠ 89 → c ≠ 90 → c ≠ 91 → A2 c = A c := fun c c1 c2 c3 c4 c5 c6 c7 c8 => by rw [w2 c c6 c7 c8, E1 c c1 c2 c3 c4 c5]
  obtain ⟨A3, v1, v2, v3, v4, v5, v6, v7⟩ := m_g169 (ρ := ρ) (g := g) (l := l) (u := u) (b := 6 * l + kn) (T := T) (nG := nG) (m0 := m0) hu hl t1 t16 hG hm zN 0 A2 (Nat.zero_le _) (by show nG - 0 < 5000; omega) (by rw [F 73 (by decide) (by decide) (by decide) (by decide) (by decide) (by decide) (by decide) (by decide)]; exact e73) (by rw [F 93 (by decide) (by decide) (by decide) (by decide) (by decide) (by decide) (by decide) (by decide)]; exact h93)
  refine ⟨A3, fun kr => ?_, fun c c1 c2 => ?_, ⟨fun j => ?_, fun j => ?_, fun j => ?_, fun j => ?_⟩, ⟨fun j => ?_, fun j => ?_, fun j => ?_, fun j => ?_⟩, ⟨fun j => ?_, fun j => ?_, fun j => ?_, fun j => ?_, fun j => ?_⟩⟩
  · have w6 : wr (6 * (l : Int)) = ((6 * l : Nat) : Int) := by
      rw [wr_id (by omega) (by omega)]
      omega
    have b9 : 6 * l + kn < 100000 := by
      clear w6
      omega
    have k9 : wr ((kn : Int) + 1) = (kn : Int) + 1 := by
      clear w6
      exact wr_id (by omega) (by omega)
    refine Eq.trans ?_ (v1 kr)
    refine Eq.trans ?_ (w1 kr)
    refine Eq.trans ?_ (z1 kr)
    unfold M_give M_blockOf
    rw [zix_n hl, mD78, e78, w6, wr_nn b9]
    dsimp only
    rw [zix_n hl, zix_n hl, mD78, e78, k9, mS78, zlet_d, zix_n hb, mS87, zlet_d, zix_n hb, mS88, zlet_d, zix_n hb, mS86, zlet_d]
    rfl
  · rw [v2 c (by omega), F c c1 (by omega) (by omega) (by omega) (by omega) (by omega) (by omega) (by omega)]
  · rw [v2 78 (by decide), w2 78 (by decide) (by decide) (by decide), z2 78 (by decide), au_ne (by decide), au_ne (by decide), au_ne (by decide), au_j]
  · rw [v2 87 (by decide), w2 87 (by decide) (by decide) (by decide), z2 87 (by decide), au_ne (by decide), au_ne (by decide), au_j, au_ne (by decide)]
  · rw [v2 88 (by decide), w2 88 (by decide) (by decide) (by decide), z2 88 (by decide), au_ne (by decide), au_j, au_ne (by decide), au_ne (by decide)]
  · rw [v2 86 (by decide), w2 86 (by decide) (by decide) (by decide), z2 86 (by decide), au_j, au_ne (by decide), au_ne (by decide), au_ne (by decide)]
  · rw [v2 89 (by decide), w3, E1 89 (by decide) (by decide) (by decide) (by decide) (by decide)]
    rfl
  · rw [v2 90 (by decide), w4, E1 90 (by decide) (by decide) (by decide) (by decide) (by decide)]
    rfl
  · rw [v2 91 (by decide), w5, E1 91 (by decide) (by decide) (by decide) (by decide) (by decide)]
    rfl
  · rw [v2 92 (by decide), w2 92 (by decide) (by decide) (by decide)]
    by_cases hj : 16 * (6 * l + kn) ≤ j ∧ j < 16 * (6 * l + kn) + 16
    · rw [if_pos hj]
      have := z4 (j - 16 * (6 * l + kn)) (Nat.zero_le _) (by omega)
      rw [show 16 * (6 * l + kn) + (j - 16 * (6 * l + kn)) = j by omega] at this
      exact this
    · rw [if_neg hj, z3 j (by omega), E 92 (by decide) (by decide) (by decide) (by decide)]
  · rw [v3, F 93 (by decide) (by decide) (by decide) (by decide) (by decide) (by decide) (by decide) (by decide)]
  · rw [v4, F 94 (by decide) (by decide) (by decide) (by decide) (by decide) (by decide) (by decide) (by decide)]
    rfl
  · rw [v5, F 95 (by decide) (by decide) (by decide) (by decide) (by decide) (by decide) (by decide) (by decide)]
    rfl
  · rw [v6, F 96 (by decide) (by decide) (by decide) (by decide) (by decide) (by decide) (by decide) (by decide), F 12 (by decide) (by decide) (by decide) (by decide) (by decide) (by decide) (by decide) (by decide)]
    rfl
  · rw [v7, F 97 (by decide) (by decide) (by decide) (by decide) (by decide) (by decide) (by decide) (by decide)]
    rfl
end
