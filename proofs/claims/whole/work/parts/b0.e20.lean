/-! FIELDS AND ROWS REPLACED -/
def hfd (h : zH) (c j L : Nat) (s : Nat → Int) : zH := (h.1, h.2.1, fun c' p j' => if c' = c ∧ j' = j ∧ p < L then s p else h.2.2.1 c' p j', h.2.2.2)
def ard (A : zA) (c : Nat) (s : Nat → Int) : zA := fun c' j => if c' = c then s j else A c' j
def zup (s : Nat → Int) (l : Nat) (v : Int) : Nat → Int := fun k => if k = l then v else s k
theorem zup_same {s : Nat → Int} {l : Nat} {v : Int} : zup s l v l = v := if_pos rfl
theorem zup_ne {s : Nat → Int} {l k : Nat} {v : Int} (h : k ≠ l) : zup s l v k = s k := if_neg h
theorem zup_id {s : Nat → Int} {l : Nat} {v : Int} (h : s l = v) : zup s l v = s := by
  funext k
  unfold zup
  split
  · rename_i e
    rw [e, h]
  · rfl
theorem zup_upd {s : Nat → Int} {l : Nat} {v w : Int} : zup (zup s l v) l w = zup s l w := by
  funext k
  unfold zup
  split <;> rfl
theorem ard_same {A : zA} {c : Nat} {s : Nat → Int} : ard A c s c = s := funext fun j => if_pos rfl
theorem ard_ne {A : zA} {c c' : Nat} {s : Nat → Int} (h : c' ≠ c) : ard A c s c' = A c' := funext fun j => if_neg h
theorem ard_id {A : zA} {c : Nat} : ard A c (A c) = A := by
  funext c' j
  unfold ard
  split
  · rename_i e
    rw [e]
  · rfl
theorem au_ard {A : zA} {c l : Nat} {s : Nat → Int} {v : Int} : au (ard A c s) c l v = ard A c (zup s l v) := by
  funext c' j
  unfold au ard zup
  by_cases h1 : c' = c
  · by_cases h2 : j = l
    · rw [if_pos ⟨h1, h2⟩, if_pos h1, if_pos h2]
    · rw [if_neg (fun z => h2 z.2), if_pos h1, if_pos h1, if_neg h2]
  · rw [if_neg (fun z => h1 z.1), if_neg h1, if_neg h1]
section
variable {h : zH} {c j L : Nat} {s : Nat → Int}
theorem hfd_D {c' p j' : Nat} : zhD (hfd h c j L s) c' p j' = if c' = c ∧ j' = j ∧ p < L then s p else zhD h c' p j' := rfl
theorem hfd_N : zhN (hfd h c j L s) = zhN h := rfl
theorem hfd_L : zhL (hfd h c j L s) = zhL h := rfl
theorem hfd_C : zhC (hfd h c j L s) = zhC h := rfl
theorem hfd_S : zhS (hfd h c j L s) = zhS h := rfl
theorem hfd_eq {p : Nat} (hp : p < L) : zhD (hfd h c j L s) c p j = s p := if_pos ⟨rfl, rfl, hp⟩
theorem hfd_nc {c' : Nat} (hc : c' ≠ c) : zhD (hfd h c j L s) c' = zhD h c' := funext fun p => funext fun j' => if_neg fun z => hc z.1
theorem hfd_nj {p j' : Nat} (hj : j' ≠ j) : zhD (hfd h c j L s) c p j' = zhD h c p j' := if_neg fun z => hj z.2.1
theorem hfd_id (hs : ∀ p, p < L → zhD h c p j = s p) : hfd h c j L s = h := by
  obtain ⟨h1, h2, h3, h4⟩ := h
  refine congrArg (fun f => (h1, h2, f, h4)) (funext fun c' => funext fun p => funext fun j' => ?_)
  show (if c' = c ∧ j' = j ∧ p < L then s p else h3 c' p j') = h3 c' p j'
  split
  · rename_i z
    rw [z.1, z.2.1]
    exact (hs p z.2.2).symm
  · rfl
theorem hfd_set {l : Nat} {v : Int} (hl : l < L) : zset (hfd h c j L s) c l j v = hfd h c j L (zup s l v) := by
  unfold zset hfd zup
  refine congrArg (fun f => (h.1, h.2.1, f, h.2.2.2)) (funext fun c' => funext fun p => funext fun j' => ?_)
  show (if c' = c ∧ p = l ∧ j' = j then v else if c' = c ∧ j' = j ∧ p < L then s p else h.2.2.1 c' p j') = if c' = c ∧ j' = j ∧ p < L then (if p = l then v else s p) else h.2.2.1 c' p j'
  by_cases hz : c' = c ∧ j' = j ∧ p < L
  · rw [if_pos hz, if_pos hz]
    by_cases hp : p = l
    · rw [if_pos hp, if_pos ⟨hz.1, hp, hz.2.1⟩]
    · rw [if_neg hp, if_neg (fun z => hp z.2.1)]
  · rw [if_neg hz, if_neg hz, if_neg (fun z => hz ⟨z.1, z.2.2, by have := z.2.1; omega⟩)]
theorem zob_hfd {ρ : Type} {c' : Nat} {a : Int} {k : Nat → Option ρ} : zob (hfd h c j L s) c' a k = zob h c' a k := rfl
end
theorem fD_fr {h : zH} {c j L c0 p0 j0 : Nat} {s : Nat → Int} (hk : rsk c j = true) (h0 : rsk c0 j0 = false) : zhD (hfd h c j L s) c0 p0 j0 = zhD h c0 p0 j0 := if_neg (fun z => by rw [z.1, z.2.1, hk] at h0; cases h0)
theorem fD_fd {h : zH} {c j L c0 p0 j0 : Nat} {s : Nat → Int} (hk : rdk c j = true) (h0 : rdk c0 j0 = false) : zhD (hfd h c j L s) c0 p0 j0 = zhD h c0 p0 j0 := if_neg (fun z => by rw [z.1, z.2.1, hk] at h0; cases h0)
theorem RS.fld {h : zH} (q : RS h) {c j L : Nat} {s : Nat → Int} (hk : rsk c j = true) : RS (hfd h c j L s) := ⟨q.N0, q.N1, q.N20, q.N21, q.N2, q.N22, q.N23, q.N24, q.N25, q.N3, q.N26, q.N27, q.N4, q.N5, q.N28, q.N29, q.N30, q.N31, q.N51, q.N52, q.L20_0, q.L21_0, q.L22_0, q.L23_0, q.L24_0, q.L25_0, q.L26_0, q.L26_1, q.L27_0, q.L27_1, q.L28_0, q.L29_0, q.L30_0, q.L31_0, q.L51_0, q.L52_0, (fD_fr hk rfl).trans q.D0_0_0, (fD_fr hk rfl).trans q.D0_0_1, (fD_fr hk rfl).trans q.D0_0_2, (fD_fr hk rfl).trans q.D1_0_0, (fD_fr hk rfl).trans q.D1_0_1, (fD_fr hk rfl).trans q.D2_0_0, (fD_fr hk rfl).trans q.D2_0_1, (fD_fr hk rfl).trans q.D2_0_2, (fD_fr hk rfl).trans q.D2_0_3, (fD_fr hk rfl).trans q.D2_0_6, (fD_fr hk rfl).trans q.D2_0_7, (fD_fr hk rfl).trans q.D23_0_0, (fD_fr hk rfl).trans q.D23_0_1, (fD_fr hk rfl).trans q.D3_0_0, (fD_fr hk rfl).trans q.D3_0_1, (fD_fr hk rfl).trans q.D3_1_0, (fD_fr hk rfl).trans q.D3_1_1, (fD_fr hk rfl).trans q.D5_0_0, (fD_fr hk rfl).trans q.D5_0_1, (fD_fr hk rfl).trans q.D5_0_2, (fD_fr hk rfl).trans q.D5_0_3, fun i hi => (fD_fr hk rfl).trans (q.T i hi)⟩
theorem RD.fld {h : zH} (q : RD h) {c j L : Nat} {s : Nat → Int} (hk : rdk c j = true) : RD (hfd h c j L s) := by
  obtain ⟨⟨a1, a2⟩, ⟨b1, b2, b3⟩, ⟨c1, c2, c3, c4⟩, ⟨d1, d2, d3, d4, d5, d6, d7⟩, ⟨e1, e2, e3, e4⟩⟩ := q
  refine ⟨⟨a1, fun k hk1 => ⟨(fD_fd hk rfl).trans (a2 k hk1).1, (a2 k hk1).2⟩⟩, ⟨b1, b2, fun l hl => ?_⟩, ⟨c1, c2, fun t ht => (fD_fd hk rfl).trans (c3 t ht), fun t ht => ⟨(c4 t ht).1, (fD_fd hk rfl).trans (c4 t ht).2⟩⟩, ⟨d1, d2, d3, d4, d5, d6, fun b hb => ?_⟩, ⟨e1, e2, e3, fun g hg => ?_⟩⟩
  · obtain ⟨x1, x2, x3, x4⟩ := b3 l hl
    exact ⟨(fD_fd hk rfl).trans x1, (fD_fd hk rfl).trans x2, x3, x4⟩
  · obtain ⟨x1, x2, x3, x4, x5, x6, x7, x8, x9⟩ := d7 b hb
    exact ⟨(fD_fd hk rfl).trans x1, (fD_fd hk rfl).trans x2, (fD_fd hk rfl).trans x3, (fD_fd hk rfl).trans x4, (fD_fd hk rfl).trans x5, (fD_fd hk rfl).trans x6, x7, x8, x9⟩
  · obtain ⟨x1, x2, x3, x4, x5, x6⟩ := e4 g hg
    exact ⟨(fD_fd hk rfl).trans x1, (fD_fd hk rfl).trans x2, (fD_fd hk rfl).trans x3, x4, x5, x6⟩
/-! LAUNCHES BEGIN -/
def zbrk (s : Nat → Int) (l : Int) : Bool := decide (l ≠ -1) && (decide (s l.toNat = 102) || decide (s l.toNat = 120))
def zdec (A : zA) (s : Nat → Int) (i : Nat) : Int := if (zbrk s (A 75 i) || zbrk s (A 74 i)) = true then 120 else if (decide (A 74 i = -1) || zover (s (A 74 i).toNat)) = true then 114 else 113
def zgo (A : zA) (q : Int) : (Nat → Int) → Nat → Nat → (Nat → Int)
  | s, _, 0 => s
  | s, i, n + 1 => if A 71 i = q ∧ zover (s i) = false then
      if s i = 113 then (if zover (zdec A s i) = true then zgo A q (zup s i (zdec A s i)) (i + 1) n else zup s i (zdec A s i)) else s
    else zgo A q s (i + 1) n
section
variable {ρ : Type} {h : zH} {A : zA} {kr : Int → zH → Option ρ} {K L : Nat} {s : Nat → Int}
theorem x_isSpoiled {l : Nat} (hl : l < zhN h 9) : La_isSpoiled (l : Int) h kr = kr (tb (decide (zhD h 9 l 10 = 102) || decide (zhD h 9 l 10 = 120))) h := by
  unfold La_isSpoiled La_isSpoiled_18 La_isSpoiled_23
  by_cases h1 : zhD h 9 l 10 = 102
  · simp [zob_n hl, h1, znar_1, tb]
  · by_cases h2 : zhD h 9 l 10 = 120
    · simp [zob_n hl, h2, znar_1, tb]
    · simp [zob_n hl, h1, h2, znar_0, tb]
theorem m_isBroken {l : Int} (hl : -1 ≤ l ∧ l < 12) : M_isBroken l (mh h (ard A 69 s)) kr = kr (tb (zbrk s l)) (mh h (ard A 69 s)) := by
  unfold M_isBroken M_isBroken_27 M_isBroken_31 M_isBroken_32 zbrk
  by_cases hm : l = -1
  · simp [hm, znar_0, tb]
  · obtain ⟨n, rfl⟩ : ∃ n : Nat, l = (n : Int) := ⟨l.toNat, by omega⟩
    have hn : n < 12 := by omega
    have h0 : ¬ (n : Int) = -1 := by omega
    by_cases h1 : s n = 102
    · simp [h0, zix_n hn, mD69, ard_same, h1, znar_1, tb]
    · by_cases h2 : s n = 120
      · simp [h0, zix_n hn, mD69, ard_same, h2, znar_1, tb]
      · simp [h0, zix_n hn, mD69, ard_same, h1, h2, znar_0, tb]
theorem m_isOver_s {l : Nat} (hl : l < 12) : M_isOver (l : Int) (mh h (ard A 69 s)) kr = kr (tb (zover (s l))) (mh h (ard A 69 s)) := by
  rw [m_isOver hl, ard_same]
theorem x_isOver_s {l : Nat} (hl : l < zhN h 9) (hL : l < L) : La_isOver (l : Int) (hfd h 9 10 L s) kr = kr (tb (zover (s l))) (hfd h 9 10 L s) := by
  rw [x_isOver (h := hfd h 9 10 L s) hl, hfd_eq hL]
theorem x_isSpoiled_s {l : Nat} (hl : l < zhN h 9) (hL : l < L) : La_isSpoiled (l : Int) (hfd h 9 10 L s) kr = kr (tb (decide (s l = 102) || decide (s l = 120))) (hfd h 9 10 L s) := by
  rw [x_isSpoiled (h := hfd h 9 10 L s) hl, hfd_eq hL]
theorem x_decide (r : RL A h K L) {l : Nat} (hl : l < L) (hs : s l = 113) : Le_decide (l : Int) (hfd h 9 10 L s) kr = kr 0 (hfd h 9 10 L (zup s l (zdec A s l))) := by
  obtain ⟨-, a2, a3, -⟩ := r.at
  obtain ⟨-, -, -, ⟨e2, f2, f3⟩, ⟨e3, g2, g3⟩, -⟩ := r.l hl
  have hn : l < zhN h 9 := by omega
  have d2 : zhD (hfd h 9 10 L s) 9 l 2 = A 75 l := by rw [hfd_nj (by decide), e2]
  have d3 : zhD (hfd h 9 10 L s) 9 l 3 = A 74 l := by rw [hfd_nj (by decide), e3]
  have zb : ∀ kk : Nat → Option ρ, zob (hfd h 9 10 L s) 9 (l : Int) kk = kk l := fun kk => zob_n hn
  -- the second half
  have c34 : Le_decide_34 kr (l : Int) (hfd h 9 10 L s) = kr 0 (hfd h 9 10 L (zup s l 120)) := by
    unfold Le_decide_34 Le_decide_66
    rw [zb, zlet_d, hfd_set hl]
  have c60 : Le_decide_60 kr (l : Int) (hfd h 9 10 L s) = kr 0 (hfd h 9 10 L (zup s l 114)) := by
    unfold Le_decide_60 Le_decide_66
    rw [zb, zlet_d, hfd_set hl]
  have c43 : Le_decide_43 kr (l : Int) (hfd h 9 10 L s) = kr 0 (hfd h 9 10 L (zup s l (if (decide (A 74 l = -1) || zover (s (A 74 l).toNat)) = true then 114 else 113))) := by
    unfold Le_decide_43 Le_decide_66
    rw [zb, d3]
    by_cases ha : A 74 l = -1
    · rw [if_pos (by omega), c60, ha]
      rfl
    · generalize A 74 l = a at ha g2 g3 d3 ⊢
      obtain ⟨n, rfl⟩ : ∃ n : Nat, a = (n : Int) := ⟨a.toNat, by omega⟩
      have zb2 : ∀ kk : Nat → Option ρ, zob (hfd h 9 10 L s) 9 (n : Int) kk = kk n := fun kk => zob_n (show n < zhN h 9 by omega)
      rw [if_neg (by omega), zb, d3, zb2, x_isOver_s (by omega) (by omega), decide_eq_false ha, Bool.false_or, Int.toNat_natCast]
      cases zover (s n) with
      | true =>
        rw [tb_t, if_neg (by decide), c60]
        rfl
      | false =>
        rw [tb_f, if_pos rfl, if_neg (by decide), zup_id hs]
  have c17 : Le_decide_17 kr (l : Int) (hfd h 9 10 L s) = kr 0 (hfd h 9 10 L (zup s l (if zbrk s (A 74 l) = true then 120 else if (decide (A 74 l = -1) || zover (s (A 74 l).toNat)) = true then 114 else 113))) := by
    unfold Le_decide_17
    rw [zb, d3, c43]
    by_cases ha : A 74 l = -1
    · rw [if_pos (by omega), ha]
      rfl
    · have hb : zbrk s (A 74 l) = (decide (s (A 74 l).toNat = 102) || decide (s (A 74 l).toNat = 120)) := by
        unfold zbrk
        rw [decide_eq_true ha, Bool.true_and]
      rw [hb]
      generalize A 74 l = a at ha g2 g3 d3 c43 ⊢
      obtain ⟨n, rfl⟩ : ∃ n : Nat, a = (n : Int) := ⟨a.toNat, by omega⟩
      have zb2 : ∀ kk : Nat → Option ρ, zob (hfd h 9 10 L s) 9 (n : Int) kk = kk n := fun kk => zob_n (show n < zhN h 9 by omega)
      rw [if_neg (by omega), zb, d3, zb2, x_isSpoiled_s (by omega) (by omega), Int.toNat_natCast]
      cases (decide (s n = 102) || decide (s n = 120)) with
      | true =>
        rw [tb_t, if_neg (by decide), c34]
        rfl
      | false =>
        rw [tb_f, if_pos rfl, c43, if_neg (show ¬ (false = true) by decide)]
        rfl
  unfold Le_decide
  rw [zb, d2, c17]
  unfold zdec
  by_cases ha : A 75 l = -1
  · rw [if_pos (by omega), ha]
    rfl
  · have hb : zbrk s (A 75 l) = (decide (s (A 75 l).toNat = 102) || decide (s (A 75 l).toNat = 120)) := by
      unfold zbrk
      rw [decide_eq_true ha, Bool.true_and]
    rw [hb]
    generalize A 75 l = a at ha f2 f3 d2 ⊢
    obtain ⟨n, rfl⟩ : ∃ n : Nat, a = (n : Int) := ⟨a.toNat, by omega⟩
    have zb2 : ∀ kk : Nat → Option ρ, zob (hfd h 9 10 L s) 9 (n : Int) kk = kk n := fun kk => zob_n (show n < zhN h 9 by omega)
    rw [if_neg (by omega), zb, d2, zb2, x_isSpoiled_s (by omega) (by omega), Int.toNat_natCast]
    cases (decide (s n = 102) || decide (s n = 120)) with
    | true =>
      rw [tb_t, if_neg (by decide), c34]
      rfl
    | false =>
      rw [tb_f, if_pos rfl, c17, Bool.false_or]
end
