/-! THE SERIAL RUN: an instruction -/
/-- a register, 0 where there is none -/
def zsr (A : zA) (t : Nat) (i : Int) : Int := if zwi i 0 7 = true then A 112 (8 * t + i.toNat) else 0
/-- where the model's thread goes -/
def zmg (A : zA) (t : Nat) (c nx : Int) : zA := if c = 98 then au (au A 114 t 119) 113 t (A 113 t) else if c = 101 then au (au A 114 t 101) 113 t nx else au A 113 t nx
/-- the model learns later that a thread ran out -/
def zlg (k t : Nat) (A : zA) : zA := if A 114 t = 114 ∧ ¬ A 113 t < A 63 k then au A 114 t 101 else A
section
variable {ρ : Type} {h h0 g : zH} {A A0 B : zA} {kr : Int → zH → Option ρ} {K L n k T t p r : Nat} {M bn v c a b d : Int}
theorem SQ.reg (x : SQ A h k T bn) {i : Nat} (hi : i < 8) : SQ (au A 112 (8 * t + i) v) (zset h 32 t i v) k T bn := by
  obtain ⟨x1, x2, x3, x4⟩ := x
  refine ⟨x1, fun j hj => ?_, fun c hc => ?_, fun t2 ht2 => ?_⟩
  · rw [zD_ne (by decide), au_ne (by decide)]
    exact x2 j hj
  · rw [zD_ne (by decide), au_ne (by decide)]
    exact x3 c hc
  · obtain ⟨y1, y2, y3, y4, y5⟩ := x4 t2 ht2
    rw [zD_ne (by decide), zD_ne (show 31 ≠ 32 by decide), au_ne (show 114 ≠ 112 by decide), au_ne (show 113 ≠ 112 by decide), au_ne (show 115 ≠ 112 by decide), au_ne (show 63 ≠ 112 by decide)]
    refine ⟨y1, y2, y3, y4, fun q hq => ?_⟩
    rw [zD_set, au_j]
    by_cases hz : t2 = t ∧ q = i
    · rw [if_pos ⟨rfl, hz.1, hz.2⟩, if_pos (by omega)]
    · rw [if_neg (fun z => hz ⟨z.2.1, z.2.2⟩), if_neg (by omega)]
      exact y5 q hq
theorem SQ.mem (x : SQ A h k T bn) {i : Nat} : SQ (au A 110 i v) (zset h 28 0 i v) k T bn := by
  obtain ⟨x1, x2, x3, x4⟩ := x
  refine ⟨x1, fun j hj => ?_, fun c hc => ?_, fun t2 ht2 => ?_⟩
  · rw [zD_set, au_j]
    by_cases hz : j = i
    · rw [if_pos ⟨rfl, rfl, hz⟩, if_pos hz]
    · rw [if_neg (fun z => hz z.2.2), if_neg hz]
      exact x2 j hj
  · rw [zD_ne (by decide), au_ne (by decide)]
    exact x3 c hc
  · rw [zD_ne (by decide), zD_ne (show 31 ≠ 28 by decide), zD_ne (show 32 ≠ 28 by decide), au_ne (show 114 ≠ 110 by decide), au_ne (show 113 ≠ 110 by decide), au_ne (show 115 ≠ 110 by decide), au_ne (show 63 ≠ 110 by decide), au_ne (show 112 ≠ 110 by decide)]
    exact x4 t2 ht2
theorem SQ.shr (x : SQ A h k T bn) {i : Nat} : SQ (au A 111 i v) (zset h 29 0 i v) k T bn := by
  obtain ⟨x1, x2, x3, x4⟩ := x
  refine ⟨x1, fun j hj => ?_, fun c hc => ?_, fun t2 ht2 => ?_⟩
  · rw [zD_ne (by decide), au_ne (by decide)]
    exact x2 j hj
  · rw [zD_set, au_j]
    by_cases hz : c = i
    · rw [if_pos ⟨rfl, rfl, hz⟩, if_pos hz]
    · rw [if_neg (fun z => hz z.2.2), if_neg hz]
      exact x3 c hc
  · rw [zD_ne (by decide), zD_ne (show 31 ≠ 29 by decide), zD_ne (show 32 ≠ 29 by decide), au_ne (show 114 ≠ 111 by decide), au_ne (show 113 ≠ 111 by decide), au_ne (show 115 ≠ 111 by decide), au_ne (show 63 ≠ 111 by decide), au_ne (show 112 ≠ 111 by decide)]
    exact x4 t2 ht2
theorem SQ.cnt (x : SQ A h k T bn) (hv : 0 ≤ v ∧ v ≤ 200) : SQ (au A 115 t v) (zset h 31 0 t v) k T bn := by
  obtain ⟨x1, x2, x3, x4⟩ := x
  refine ⟨x1, fun j hj => ?_, fun c hc => ?_, fun t2 ht2 => ?_⟩
  · rw [zD_ne (by decide), au_ne (by decide)]
    exact x2 j hj
  · rw [zD_ne (by decide), au_ne (by decide)]
    exact x3 c hc
  · obtain ⟨y1, y2, y3, y4, y5⟩ := x4 t2 ht2
    rw [zD_ne (show 6 ≠ 31 by decide), zD_ne (show 32 ≠ 31 by decide), au_ne (show 114 ≠ 115 by decide), au_ne (show 113 ≠ 115 by decide), au_ne (show 63 ≠ 115 by decide), au_ne (show 112 ≠ 115 by decide), zD_set, au_j]
    refine ⟨y1, y2, y3, ?_, y5⟩
    by_cases hz : t2 = t
    · rw [if_pos ⟨rfl, rfl, hz⟩, if_pos hz]
      exact ⟨rfl, hv⟩
    · rw [if_neg (fun z => hz z.2.2), if_neg hz]
      exact y4
/-- a thread's state and place -/
theorem SQ.pl (x : SQ A h k T bn) {A' : zA} {h' : zH} (hA : ∀ c, c ≠ 113 → c ≠ 114 → A' c = A c) (hA2 : ∀ j, j ≠ t → A' 113 j = A 113 j ∧ A' 114 j = A 114 j) (hD : ∀ c p j, ¬ (c = 6 ∧ p = t ∧ (j = 3 ∨ j = 4)) → zhD h' c p j = zhD h c p j) (hs : zhD h' 6 t 4 = A' 114 t ∧ (A' 114 t = 114 ∨ A' 114 t = 119 ∨ A' 114 t = 101)) (hp : A' 114 t ≠ 101 → zhD h' 6 t 3 = A' 113 t ∧ 0 ≤ A' 113 t ∧ A' 113 t < A 63 k) : SQ A' h' k T bn := by
  obtain ⟨x1, x2, x3, x4⟩ := x
  have D : ∀ c p j, c ≠ 6 → zhD h' c p j = zhD h c p j := fun c p j hc => hD c p j (fun z => hc z.1)
  refine ⟨by rw [D 5 _ _ (by decide), D 5 _ _ (by decide)]; exact x1, fun j hj => ?_, fun c hc => ?_, fun t2 ht2 => ?_⟩
  · rw [D 28 _ _ (by decide), hA 110 (by decide) (by decide)]
    exact x2 j hj
  · rw [D 29 _ _ (by decide), hA 111 (by decide) (by decide)]
    exact x3 c hc
  · obtain ⟨y1, y2, y3, y4, y5⟩ := x4 t2 ht2
    rw [hD 6 t2 2 (fun z => absurd z.2.2 (by decide)), hA 63 (by decide) (by decide), hA 115 (by decide) (by decide), hA 112 (by decide) (by decide), D 31 _ _ (by decide)]
    by_cases hz : t2 = t
    · subst hz
      exact ⟨y1, hs, hp, y4, fun q hq => by rw [D 32 _ _ (by decide)]; exact y5 q hq⟩
    · rw [hD 6 t2 4 (fun z => hz z.2.1), hD 6 t2 3 (fun z => hz z.2.1), (hA2 t2 hz).1, (hA2 t2 hz).2]
      exact ⟨y1, y2, y3, y4, fun q hq => by rw [D 32 _ _ (by decide)]; exact y5 q hq⟩
theorem hGO_o {nx len : Int} {c2 p2 j2 : Nat} (hc : ¬ (c2 = 6 ∧ p2 = t ∧ (j2 = 3 ∨ j2 = 4))) : zhD (hGO h t c nx len) c2 p2 j2 = zhD h c2 p2 j2 := by
  have n3 : ¬ (c2 = 6 ∧ p2 = t ∧ j2 = 3) := fun z => hc ⟨z.1, z.2.1, Or.inl z.2.2⟩
  have n4 : ¬ (c2 = 6 ∧ p2 = t ∧ j2 = 4) := fun z => hc ⟨z.1, z.2.1, Or.inr z.2.2⟩
  unfold hGO
  by_cases h1 : c = 98
  · rw [if_pos h1, zD_set, if_neg n4]
  · rw [if_neg h1]
    by_cases h2 : c = 101
    · rw [if_pos h2, zD_set, if_neg n4]
    · rw [if_neg h2]
      by_cases h3 : nx < len
      · rw [if_pos h3, zD_set, if_neg n3]
      · rw [if_neg h3, zD_set, if_neg n4, zD_set, if_neg n3]
theorem SQ.go (x : SQ A h k T bn) {nx : Int} (ht : t < T) (h114 : A 114 t = 114) (hn : 0 ≤ nx) : SQ (zlg k t (zmg A t c nx)) (hGO h t c nx (A 63 k)) k T bn := by
  have x4 := x.2.2.2 t ht
  obtain ⟨y1, ⟨y2, -⟩, y3, -⟩ := x4
  have y3 := y3 (by rw [h114]; decide)
  have hz : ∀ A' : zA, (∀ c, c ≠ 113 → c ≠ 114 → A' c = A c) → (∀ j, j ≠ t → A' 113 j = A 113 j ∧ A' 114 j = A 114 j) → (∀ c, c ≠ 113 → c ≠ 114 → zlg k t A' c = A c) ∧ (∀ j, j ≠ t → zlg k t A' 113 j = A 113 j ∧ zlg k t A' 114 j = A 114 j) := fun A' h1 h2 => by
    unfold zlg
    by_cases hc : A' 114 t = 114 ∧ ¬ A' 113 t < A' 63 k
    · rw [if_pos hc]
      exact ⟨fun c c1 c2 => by rw [au_ne c2]; exact h1 c c1 c2, fun j hj => ⟨by rw [au_ne (by decide)]; exact (h2 j hj).1, by rw [au_j, if_neg hj]; exact (h2 j hj).2⟩⟩
    · rw [if_neg hc]
      exact ⟨h1, h2⟩
  have hm1 : (∀ c2, c2 ≠ 113 → c2 ≠ 114 → zmg A t c nx c2 = A c2) ∧ (∀ j, j ≠ t → zmg A t c nx 113 j = A 113 j ∧ zmg A t c nx 114 j = A 114 j) := by
    unfold zmg
    by_cases h1 : c = 98
    · rw [if_pos h1]
      exact ⟨fun c2 k1 k2 => by rw [au_ne k1, au_ne k2], fun j hj => ⟨by rw [au_j, if_neg hj, au_ne (by decide)], by rw [au_ne (by decide), au_j, if_neg hj]⟩⟩
    · rw [if_neg h1]
      by_cases h2 : c = 101
      · rw [if_pos h2]
        exact ⟨fun c2 k1 k2 => by rw [au_ne k1, au_ne k2], fun j hj => ⟨by rw [au_j, if_neg hj, au_ne (by decide)], by rw [au_ne (by decide), au_j, if_neg hj]⟩⟩
      · rw [if_neg h2]
        exact ⟨fun c2 k1 k2 => by rw [au_ne k1], fun j hj => ⟨by rw [au_j, if_neg hj], by rw [au_ne (by decide)]⟩⟩
  obtain ⟨g1, g2⟩ := hz _ hm1.1 hm1.2
  refine x.pl g1 g2 (fun c2 p2 j2 hc => hGO_o hc) ?_ ?_
  · unfold zlg zmg hGO
    by_cases h1 : c = 98
    · rw [if_pos h1, if_pos h1]
      have e : au (au A 114 t 119) 113 t (A 113 t) 114 t = 119 := by rw [au_ne (by decide), au_same]
      rw [if_neg (fun z => by rw [e] at z; exact absurd z.1 (by decide)), e, zD_eq]
      exact ⟨rfl, Or.inr (Or.inl rfl)⟩
    · rw [if_neg h1, if_neg h1]
      by_cases h2 : c = 101
      · rw [if_pos h2, if_pos h2]
        have e : au (au A 114 t 101) 113 t nx 114 t = 101 := by rw [au_ne (by decide), au_same]
        rw [if_neg (fun z => by rw [e] at z; exact absurd z.1 (by decide)), e, zD_eq]
        exact ⟨rfl, Or.inr (Or.inr rfl)⟩
      · rw [if_neg h2, if_neg h2]
        have e : au A 113 t nx 114 t = 114 := by rw [au_ne (by decide)]; exact h114
        have e3 : au A 113 t nx 113 t = nx := au_same
        have e6 : au A 113 t nx 63 = A 63 := au_ne (by decide)
        rw [e, e3, e6]
        by_cases h3 : nx < A 63 k
        · rw [if_pos h3, if_neg (fun z => z.2 h3), e, zD_nj (by decide), y2, h114]
          exact ⟨rfl, Or.inl rfl⟩
        · rw [if_neg h3, if_pos ⟨rfl, h3⟩, au_same, zD_eq]
          exact ⟨rfl, Or.inr (Or.inr rfl)⟩
  · unfold zlg zmg hGO
    by_cases h1 : c = 98
    · rw [if_pos h1, if_pos h1]
      have e : au (au A 114 t 119) 113 t (A 113 t) 114 t = 119 := by rw [au_ne (by decide), au_same]
      rw [if_neg (fun z => by rw [e] at z; exact absurd z.1 (by decide)), e, zD_nj (by decide), au_same]
      exact fun _ => y3
    · rw [if_neg h1, if_neg h1]
      by_cases h2 : c = 101
      · rw [if_pos h2, if_pos h2]
        have e : au (au A 114 t 101) 113 t nx 114 t = 101 := by rw [au_ne (by decide), au_same]
        rw [if_neg (fun z => by rw [e] at z; exact absurd z.1 (by decide)), e]
        exact fun z => absurd rfl z
      · rw [if_neg h2, if_neg h2]
        have e : au A 113 t nx 114 t = 114 := by rw [au_ne (by decide)]; exact h114
        have e3 : au A 113 t nx 113 t = nx := au_same
        have e6 : au A 113 t nx 63 = A 63 := au_ne (by decide)
        rw [e, e3, e6]
        by_cases h3 : nx < A 63 k
        · rw [if_pos h3, if_neg (fun z => z.2 h3), e3, zD_eq]
          exact fun _ => ⟨rfl, hn, h3⟩
        · rw [if_neg h3, if_pos ⟨rfl, h3⟩, au_same]
          exact fun z => absurd rfl z
theorem sq_at (x : SQ A h k T bn) (qd : RD h) (ht : t < T) (t16 : T ≤ 16) {i : Int} : Th_at (t : Int) i h kr = kr (zsr A t i) h := by
  have hT : t < zhN h 6 := by have := qd.2.2.1.2.1; omega
  have h8 := (qd.2.2.1.2.2.2 t (by omega)).1
  rw [x_at qd hT, h8]
  unfold zsr
  have e : ((8 : Nat) : Int) - 1 = 7 := by decide
  rw [e]
  cases hz : zwi i 0 7 with
  | false => rfl
  | true =>
    obtain ⟨z1, z2⟩ := zwi_t hz
    rw [if_pos rfl, if_pos rfl, (x.2.2.2 t ht).2.2.2.2 i.toNat (by omega)]
end
