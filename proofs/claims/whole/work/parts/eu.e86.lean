/-! A BLOCK IS GIVEN: the relation, whole -/
section
variable {ρ : Type} {h H : zH} {A A' B : zA} {K L n : Nat} {bc tc gc : Nat → Nat} {N M : Int} {l k T R S nG u m0 kn : Nat} {st : Int} {Q m G : Nat}
theorem rr_t16 (q : RR A h K L bc tc gc n B N M) {b : Nat} (hb : b < 72) (hin : A 87 b = 1) : A 73 (b / 6) ≤ 16 ∧ A 61 (A 70 (b / 6)).toNat ≤ 8 ∧ A 62 (A 70 (b / 6)).toNat ≤ 16 ∧ 1 ≤ A 73 (b / 6) := by
  obtain ⟨k9, -, z1, -, z, z2, -⟩ := q.blk hb hin
  rw [z1, Int.toNat_natCast]
  exact ⟨z.2, z2.2.1, z2.2.2.2.1, z.1⟩
theorem hw_td (q : RR A h K L bc tc gc n B N M) (c : GS A L l k T R S nG u m0 kn st) (w : HW h H l u (zhN h 10) (zhN h 6) (zhN h 11) T R S nG kn m0 st) (v : MW A A' l u (6 * l + kn) T nG kn m0 st) : TD A' H (ntc (6 * l + kn) (zhN h 6) tc) := by
  obtain ⟨⟨f1, f2, f3, f4, f5, f6, f7, f8, f9, f10, f11, f12, f13, f14⟩, -, ⟨p1, p2, p3, p4⟩⟩ := gs_f q c
  obtain ⟨⟨c1, c2, c3, c4, c5, c6⟩, ⟨c7, c8, c9, c10⟩, c11, c12, -, c13⟩ := c
  have v1 := v.1
  obtain ⟨v89, v90, v91, v92⟩ := v.2.2.1
  have w' := w
  obtain ⟨x1, -, ⟨n6, n32, n10, n11, nn⟩, -, xt, xg, -⟩ := w'
  have e73 := v1 73 (by decide) (by decide)
  have e61 := v1 61 (by decide) (by decide)
  have e63 := v1 63 (by decide) (by decide)
  have e70 := v1 70 (by decide) (by decide)
  intro b hb hin t ht
  rw [e73] at ht
  rw [e61, e63, e70]
  rcases v.old hin with rfl | ⟨hne, hin0⟩
  · rw [p2, c3] at ht
    have ht' : t < T := by omega
    obtain ⟨z1, z2, z3, z4, z5, z6, z7, z8⟩ := xt t ht'
    rw [ntc_n (by omega), p2, c2, Int.toNat_natCast, v89, if_pos ⟨by omega, by omega⟩, v90, if_pos ⟨by omega, by omega⟩]
    refine ⟨?_, z6, fun hz => ⟨z5, Int.le_refl _, ?_⟩, fun r hr => ?_⟩
    · rw [c13]
      by_cases hz : 0 < A 63 k
      · rw [if_pos hz]; exact Or.inl rfl
      · rw [if_neg hz]; exact Or.inr (Or.inr rfl)
    · rw [c13] at hz
      by_cases hz2 : 0 < A 63 k
      · exact hz2
      · rw [if_neg hz2] at hz
        exact absurd rfl hz
    · rw [c4] at hr
      have hr' : r < R := by omega
      rw [z8 r hr', v91, if_pos ⟨by omega, by omega⟩]
  · obtain ⟨k1, k2, k3, k4⟩ := rr_t16 q hb hin0
    have zt := (q.th.1 b hb hin0 t ht).2.1
    rw [ntc_o hne (by omega), v89, if_neg (by omega), v90, if_neg (by omega), w.o (c := 6) (blt_t zt) (by decide) (by decide) (by decide), w.o (c := 6) (blt_t zt) (by decide) (by decide) (by decide)]
    obtain ⟨z1, z2, z3, z4⟩ := q.td b hb hin0 t ht
    refine ⟨z1, z2, z3, fun r hr => ?_⟩
    rw [w.o (c := 32) (blt_t zt) (by decide) (by decide) (by decide), v91, if_neg (by omega)]
    exact z4 r hr
theorem hw_gh (q : RR A h K L bc tc gc n B N M) (c : GS A L l k T R S nG u m0 kn st) (w : HW h H l u (zhN h 10) (zhN h 6) (zhN h 11) T R S nG kn m0 st) (v : MW A A' l u (6 * l + kn) T nG kn m0 st) : GH A' H (nbc (6 * l + kn) (zhN h 10) bc) (ntc (6 * l + kn) (zhN h 6) tc) (ngc (6 * l + kn) (zhN h 11) gc) := by
  obtain ⟨⟨f1, f2, f3, f4, f5, f6, f7, f8, f9, f10, f11, f12, f13, f14⟩, fg, ⟨p1, p2, p3, p4⟩⟩ := gs_f q c
  obtain ⟨⟨c1, c2, c3, c4, c5, c6⟩, ⟨c7, c8, c9, c10⟩, c11, c12, -, c13⟩ := c
  have v1 := v.1
  obtain ⟨b1, b2⟩ := q.gh
  have w' := w
  obtain ⟨x1, -, ⟨n6, n32, n10, n11, nn⟩, -, xt, xg, -⟩ := w'
  have e73 := v1 73 (by decide) (by decide)
  refine ⟨fun b hb hin i hi => ?_, fun b b3 hb hb3 h1 h2 i i2 hi hi2 he => ?_⟩
  · rw [e73] at hi ⊢
    rw [n11 11 (by decide)]
    rcases v.old hin with rfl | ⟨hne, hin0⟩
    · rw [p2, c3] at hi ⊢
      have hi' : i < nG := (fg i).mp (by omega)
      obtain ⟨z1, z2, z3, z4, z5, z6, z7, z8, z9, z10⟩ := xg i hi'
      rw [ngc_n (by omega), nbc_n]
      refine ⟨by omega, z1, z2, z3, fun k hk => ?_⟩
      rw [z10 k hk]
      by_cases hT : 4 * i + k < T
      · rw [if_pos hT, if_pos (by omega), ntc_n (by omega)]
      · rw [if_neg hT, if_neg (by omega)]
    · obtain ⟨k1, k2, k3, k4⟩ := rr_t16 q hb hin0
      obtain ⟨z1, z2, z3, z4, z5⟩ := b1 b hb hin0 i hi
      have hQ := (q.bh.1 b hb hin0).1
      rw [ngc_o hne (by omega), nbc_o hne, w.o (c := 37) (blt_t hQ) (by decide) (by decide) (by decide), w.o (c := 11) (blt_t z1) (by decide) (by decide) (by decide), w.o (c := 11) (blt_t z1) (by decide) (by decide) (by decide)]
      refine ⟨by omega, z2, z3, z4, fun k hk => ?_⟩
      rw [w.o (c := 42) (blt_t z1) (by decide) (by decide) (by decide), z5 k hk]
      by_cases hT : ((4 * i + k : Nat) : Int) < A 73 (b / 6)
      · rw [if_pos hT, if_pos hT, ntc_o hne (by omega)]
      · rw [if_neg hT, if_neg hT]
  · rw [e73] at hi hi2
    rcases v.old h1 with rfl | ⟨hne, hin0⟩
    · rw [p2, c3] at hi
      rw [ngc_n (by omega)] at he
      rcases v.old h2 with rfl | ⟨hne3, hin3⟩
      · rw [p2, c3] at hi2
        rw [ngc_n (by omega)] at he
        exact ⟨rfl, by omega⟩
      · have := (rr_t16 q hb3 hin3).1
        rw [ngc_o hne3 (by omega)] at he
        have := (b1 b3 hb3 hin3 i2 hi2).1
        omega
    · have := (rr_t16 q hb hin0).1
      rw [ngc_o hne (by omega)] at he
      rcases v.old h2 with rfl | ⟨hne3, hin3⟩
      · rw [p2, c3] at hi2
        rw [ngc_n (by omega)] at he
        have := (b1 b hb hin0 i hi).1
        omega
      · have := (rr_t16 q hb3 hin3).1
        rw [ngc_o hne3 (by omega)] at he
        exact b2 b b3 hb hb3 hin0 hin3 i i2 hi hi2 he
theorem hw_sh (q : RR A h K L bc tc gc n B N M) (c : GS A L l k T R S nG u m0 kn st) (w : HW h H l u (zhN h 10) (zhN h 6) (zhN h 11) T R S nG kn m0 st) (v : MW A A' l u (6 * l + kn) T nG kn m0 st) : SH A' H (nbc (6 * l + kn) (zhN h 10) bc) := by
  obtain ⟨⟨f1, f2, f3, f4, f5, f6, f7, f8, f9, f10, f11, f12, f13, f14⟩, fg, ⟨p1, p2, p3, p4⟩⟩ := gs_f q c
  obtain ⟨⟨c1, c2, c3, c4, c5, c6⟩, ⟨c7, c8, c9, c10⟩, c11, c12, -, c13⟩ := c
  have v1 := v.1
  obtain ⟨v89, v90, v91, v92⟩ := v.2.2.1
  have e62 := v1 62 (by decide) (by decide)
  have e70 := v1 70 (by decide) (by decide)
  have w' := w
  obtain ⟨x1, -, ⟨n6, n32, n10, n11, nn⟩, y, xt, xg, -⟩ := w'
  have yz := y.2.2.2.2.2.2.2.2.2
  intro b hb hin x hx
  rw [e62, e70] at hx
  rcases v.old hin with rfl | ⟨hne, hin0⟩
  · rw [p2, c2, Int.toNat_natCast, c5] at hx
    rw [nbc_n, (yz x).1, v92, if_pos ⟨by omega, by omega⟩]
  · have := (rr_t16 q hb hin0).2.2.1
    have hQ := (q.bh.1 b hb hin0).1
    rw [nbc_o hne, w.o (c := 38) (blt_t hQ) (by decide) (by decide) (by decide), v92, if_neg (by omega)]
    exact q.sh b hb hin0 x hx
theorem hw_us (q : RR A h K L bc tc gc n B N M) (c : GS A L l k T R S nG u m0 kn st) (w : HW h H l u (zhN h 10) (zhN h 6) (zhN h 11) T R S nG kn m0 st) (v : MW A A' l u (6 * l + kn) T nG kn m0 st) : US A' H (ngc (6 * l + kn) (zhN h 11) gc) := by
  obtain ⟨⟨f1, f2, f3, f4, f5, f6, f7, f8, f9, f10, f11, f12, f13, f14⟩, fg, ⟨p1, p2, p3, p4⟩⟩ := gs_f q c
  obtain ⟨⟨c1, c2, c3, c4, c5, c6⟩, ⟨c7, c8, c9, c10⟩, c11, c12, -, c13⟩ := c
  have v1 := v.1
  obtain ⟨v78, v87, v88, v86⟩ := v.2.1
  obtain ⟨v93, v94, v95, v96, v97⟩ := v.2.2.2
  have e73 := v1 73 (by decide) (by decide)
  have w3 := w.2.1.2.1
  have w26 := w.2.1.2.2
  have xg := w.2.2.2.2.2.1
  intro x hx
  obtain ⟨⟨s1, s2, s3⟩, a1, a2, a3, a4⟩ := q.us x hx
  -- a slot: an old one or one of the new ones
  have O : ∀ i : Nat, (i : Int) < A 93 x → A' 94 (4 * x + i) = A 94 (4 * x + i) ∧ A' 95 (4 * x + i) = A 95 (4 * x + i) ∧ zhD H 26 x i = zhD h 26 x i := fun i hi => by
    have hq : ¬ (4 * u + m0 ≤ 4 * x + i ∧ 4 * x + i < 4 * u + (m0 + nG)) := by
      by_cases hxu : x = u
      · rw [hxu, c9] at hi
        omega
      · omega
    rw [v94, v95, if_neg hq, if_neg hq, w26, if_neg (fun z => hq ⟨by rw [z.1]; omega, by rw [z.1]; omega⟩)]
    exact ⟨rfl, rfl, rfl⟩
  have Nw : ∀ j : Nat, j < nG → A' 94 (4 * u + (m0 + j)) = ((6 * l + kn : Nat) : Int) ∧ A' 95 (4 * u + (m0 + j)) = (j : Int) ∧ zhD H 26 u (m0 + j) = ((zhN h 11 + j : Nat) : Int) := fun j hj => by
    rw [v94, v95, w26, if_pos ⟨by omega, by omega⟩, if_pos ⟨by omega, by omega⟩, if_pos ⟨rfl, by omega, by omega⟩, show 4 * u + (m0 + j) - (4 * u + m0) = j by omega, show m0 + j - m0 = j by omega]
    exact ⟨rfl, rfl, rfl⟩
  -- which it is
  have W : ∀ i : Nat, (i : Int) < A' 93 x → (i : Int) < A 93 x ∨ (x = u ∧ ∃ j : Nat, j < nG ∧ i = m0 + j) := fun i hi => by
    rw [v93] at hi
    by_cases hxu : x = u
    · rw [if_pos hxu] at hi
      by_cases hi2 : i < m0
      · exact Or.inl (by rw [hxu, c9]; omega)
      · exact Or.inr ⟨hxu, i - m0, by omega, by omega⟩
    · rw [if_neg hxu] at hi
      exact Or.inl hi
  have old : ∀ i : Nat, (i : Int) < A 93 x → A 94 (4 * x + i) ≠ ((6 * l + kn : Nat) : Int) := fun i hi z => by
    obtain ⟨b, j, z1, z2, z3, z4, z5, z6, z7⟩ := a1 i hi
    have : b = 6 * l + kn := by omega
    rw [this, p1] at z5
    cases z5
  refine ⟨⟨?_, ?_, ?_⟩, fun i hi => ?_, fun i i2 hi hi2 h1 h2 => ?_, fun b j hb hin h88 hj => ?_, fun i i2 hlt hi2 h1 => ?_⟩
  · rw [v93]
    by_cases hxu : x = u
    · rw [if_pos hxu]; omega
    · rw [if_neg hxu]; exact s1
  · rw [v93]
    by_cases hxu : x = u
    · rw [if_pos hxu]; omega
    · rw [if_neg hxu]; exact s2
  · rw [v93, w3]
    by_cases hxu : x = u
    · rw [if_pos hxu, if_pos ⟨hxu, rfl⟩]
    · rw [if_neg hxu, if_neg (fun z => hxu z.1)]; exact s3
  · rcases W i hi with hi | ⟨rfl, j, hj, rfl⟩
    · obtain ⟨b, j, z1, z2, z3, z4, z5, z6, z7⟩ := a1 i hi
      obtain ⟨o1, o2, o3⟩ := O i hi
      have hne : b ≠ 6 * l + kn := fun z => by rw [z, p1] at z5; cases z5
      have k1 := (rr_t16 q z2 z5).1
      exact ⟨b, j, by rw [o1]; exact z1, z2, by rw [o2]; exact z3, by rw [e73]; exact z4, by rw [v87, if_neg hne]; exact z5, by rw [v88, if_neg hne]; exact z6, by rw [o3, ngc_o hne (by omega)]; exact z7⟩
    · obtain ⟨o1, o2, o3⟩ := Nw j hj
      have := (fg j).mpr hj
      exact ⟨6 * l + kn, j, o1, p4, o2, by rw [e73, p2, c3]; omega, by rw [v87, if_pos rfl], by rw [v88, if_pos rfl], by rw [o3, ngc_n (by omega)]⟩
  · rcases W i hi with hi | ⟨rfl, j, hj, rfl⟩
    · obtain ⟨o1, o2, o3⟩ := O i hi
      rw [o1] at h1
      rw [o2] at h2
      rcases W i2 hi2 with hi2 | ⟨rfl, j2, hj2, rfl⟩
      · obtain ⟨r1, r2, r3⟩ := O i2 hi2
        rw [r1] at h1
        rw [r2] at h2
        exact a2 i i2 hi hi2 h1 h2
      · obtain ⟨r1, r2, r3⟩ := Nw j2 hj2
        rw [r1] at h1
        exact absurd h1 (old i hi)
    · obtain ⟨o1, o2, o3⟩ := Nw j hj
      rw [o1] at h1
      rw [o2] at h2
      rcases W i2 hi2 with hi2 | ⟨-, j2, hj2, rfl⟩
      · obtain ⟨r1, r2, r3⟩ := O i2 hi2
        rw [r1] at h1
        exact absurd h1.symm (old i2 hi2)
      · obtain ⟨r1, r2, r3⟩ := Nw j2 hj2
        rw [r2] at h2
        omega
  · rw [e73] at hj
    rcases v.old hin with rfl | ⟨hne, hin0⟩
    · rw [v88, if_pos rfl] at h88
      have hxu : x = u := by omega
      subst hxu
      rw [p2, c3] at hj
      have hj' : j < nG := (fg j).mp (by omega)
      obtain ⟨o1, o2, o3⟩ := Nw j hj'
      exact ⟨m0 + j, by rw [v93, if_pos rfl]; omega, o1, o2⟩
    · rw [v88, if_neg hne] at h88
      obtain ⟨i, z1, z2, z3⟩ := a3 b j hb hin0 h88 hj
      obtain ⟨o1, o2, o3⟩ := O i z1
      refine ⟨i, ?_, by rw [o1]; exact z2, by rw [o2]; exact z3⟩
      rw [v93]
      by_cases hxu : x = u
      · rw [hxu, c9] at z1
        rw [if_pos hxu]
        omega
      · rw [if_neg hxu]; exact z1
  · rcases W i2 hi2 with hi2 | ⟨rfl, j2, hj2, rfl⟩
    · have hi : (i : Int) < A 93 x := by omega
      obtain ⟨o1, o2, o3⟩ := O i hi
      obtain ⟨r1, r2, r3⟩ := O i2 hi2
      rw [o1, r1] at h1
      rw [o2, r2]
      exact a4 i i2 hlt hi2 h1
    · obtain ⟨r1, r2, r3⟩ := Nw j2 hj2
      rw [r1] at h1
      by_cases hi : i < m0
      · have hi' : (i : Int) < A 93 x := by rw [c9]; omega
        obtain ⟨o1, o2, o3⟩ := O i hi'
        rw [o1] at h1
        exact absurd h1 (old i hi')
      · obtain ⟨o1, o2, o3⟩ := Nw (i - m0) (by omega)
        rw [show m0 + (i - m0) = i by omega] at o2
        rw [o2, r2]
        omega
theorem hw_ug (q : RR A h K L bc tc gc n B N M) (c : GS A L l k T R S nG u m0 kn st) (w : HW h H l u (zhN h 10) (zhN h 6) (zhN h 11) T R S nG kn m0 st) (v : MW A A' l u (6 * l + kn) T nG kn m0 st) : UG A' H (ngc (6 * l + kn) (zhN h 11) gc) := by
  obtain ⟨⟨f1, f2, f3, f4, f5, f6, f7, f8, f9, f10, f11, f12, f13, f14⟩, fg, ⟨p1, p2, p3, p4⟩⟩ := gs_f q c
  obtain ⟨⟨c1, c2, c3, c4, c5, c6⟩, ⟨c7, c8, c9, c10⟩, c11, c12, -, c13⟩ := c
  have v1 := v.1
  obtain ⟨v93, v94, v95, v96, v97⟩ := v.2.2.2
  have e12 := v1 12 (by decide) (by decide)
  have e98 := v1 98 (by decide) (by decide)
  have e99 := v1 99 (by decide) (by decide)
  have xg := w.2.2.2.2.2.1
  intro x i hx hi b j h94 h95
  rw [e12, e98, e99]
  by_cases hq : 4 * u + m0 ≤ 4 * x + i ∧ 4 * x + i < 4 * u + (m0 + nG)
  · rw [v94, if_pos hq] at h94
    rw [v95, if_pos hq] at h95
    rw [v96, v97, if_pos hq, if_pos hq]
    have hb : b = 6 * l + kn := by omega
    have hj : j < nG := by omega
    subst hb
    obtain ⟨z1, z2, z3, z4, z5, z6, -⟩ := xg j hj
    have b1 := (q.bd.1 1 (Or.inl rfl)).1
    rw [ngc_n (by omega), z5, z6]
    exact ⟨Or.inr ⟨b1, Int.le_refl _⟩, rfl, Int.le_refl _, by decide, fun k hk => absurd hk (by omega)⟩
  · rw [v94, if_neg hq] at h94
    rw [v95, if_neg hq] at h95
    have hi0 : (i : Int) < A 93 x := by
      rw [v93] at hi
      by_cases hxu : x = u
      · rw [if_pos hxu] at hi
        rw [hxu, c9]
        rw [hxu] at hq
        omega
      · rw [if_neg hxu] at hi
        exact hi
    obtain ⟨b9, j9, z1, z2, z3, z4, z5, z6, z7, z8⟩ := q.slot hx hi0
    have hb : b9 = b := by omega
    have hj : j9 = j := by omega
    subst hb
    subst hj
    have hne : b9 ≠ 6 * l + kn := fun z => by rw [z, p1] at z4; cases z4
    have k1 := (rr_t16 q z3 z4).1
    have g1 := (q.gh.1 b9 z3 z4 j9 z6).1
    rw [v96, v97, if_neg hq, if_neg hq, ngc_o hne (by omega), w.o (c := 11) (blt_t g1) (by decide) (by decide) (by decide), w.o (c := 11) (blt_t g1) (by decide) (by decide) (by decide)]
    obtain ⟨y1, y2, y3, y4, y5⟩ := q.ug x i hx hi0 b9 j9 h94 h95
    refine ⟨y1, y2, y3, y4, fun k hk => ?_⟩
    rw [w.o (c := 43) (blt_t g1) (by decide) (by decide) (by decide), w.o (c := 44) (blt_t g1) (by decide) (by decide) (by decide)]
    exact y5 k hk
theorem hw_ul (q : RR A h K L bc tc gc n B N M) (c : GS A L l k T R S nG u m0 kn st) (w : HW h H l u (zhN h 10) (zhN h 6) (zhN h 11) T R S nG kn m0 st) (v : MW A A' l u (6 * l + kn) T nG kn m0 st) : UL A' H := by
  obtain ⟨⟨f1, f2, f3, f4, f5, f6, f7, f8, f9, f10, f11, f12, f13, f14⟩, fg, ⟨p1, p2, p3, p4⟩⟩ := gs_f q c
  obtain ⟨⟨c1, c2, c3, c4, c5, c6⟩, ⟨c7, c8, c9, c10⟩, c11, c12, -, c13⟩ := c
  have v1 := v.1
  obtain ⟨v78, v87, v88, v86⟩ := v.2.1
  obtain ⟨v93, v94, v95, v96, v97⟩ := v.2.2.2
  have e100 := v1 100 (by decide) (by decide)
  have e101 := v1 101 (by decide) (by decide)
  have e102 := v1 102 (by decide) (by decide)
  have w26 := w.2.1.2.2
  have n11 := w.2.2.1.2.2.2.1 11 (by decide)
  intro x hx
  obtain ⟨a1, a2, a3, a4⟩ := q.ul x hx
  rw [e100, e101, e102, n11, w.D3 (Or.inl (by decide))]
  refine ⟨fun p hp => by rw [w.D (c := 27) (fun _ => rfl) (by decide) (by decide) (by decide)]; exact a1 p hp, ?_, ?_, fun i hi => ?_⟩
  · rcases a2 with z | ⟨G9, z1, z2⟩
    · exact Or.inl z
    · exact Or.inr ⟨G9, z1, by omega⟩
  · rcases a3 with z | ⟨b, z1, z2, z3, z4⟩
    · exact Or.inl z
    · have hne : b ≠ 6 * l + kn := fun z => by rw [z, p1] at z3; cases z3
      exact Or.inr ⟨b, z1, z2, by rw [v87, if_neg hne]; exact z3, by rw [v88, if_neg hne]; exact z4⟩
  · by_cases hq : 4 * u + m0 ≤ 4 * x + i ∧ 4 * x + i < 4 * u + (m0 + nG)
    · have hi4 : i < 4 := by
        rw [v93] at hi
        have := (q.un hx).2.1
        by_cases hxu : x = u
        · rw [if_pos hxu] at hi
          omega
        · rw [if_neg hxu] at hi
          omega
      have hxu : x = u := by omega
      rw [v94, v95, if_pos hq, if_pos hq, w26, if_pos ⟨hxu, by omega, by omega⟩]
      refine ⟨fun z => ?_, fun z => ?_⟩
      · exfalso
        rcases a2 with z2 | ⟨G9, z1, z2⟩
        · rw [z2] at z
          omega
        · rw [z1] at z
          omega
      · exfalso
        rcases a3 with z2 | ⟨b, z1, z2, z3, z4⟩
        · rw [z2] at z
          omega
        · have : b = 6 * l + kn := by rw [z1] at z; omega
          rw [this, p1] at z3
          cases z3
    · have hi0 : (i : Int) < A 93 x := by
        rw [v93] at hi
        by_cases hxu : x = u
        · rw [if_pos hxu] at hi
          rw [hxu, c9]
          rw [hxu] at hq
          omega
        · rw [if_neg hxu] at hi
          exact hi
      rw [v94, v95, if_neg hq, if_neg hq, w26, if_neg (fun z => hq ⟨by rw [z.1]; omega, by rw [z.1]; omega⟩)]
      exact a4 i hi0
theorem zsrm_b {x b : Nat} {W : Int} (hb : A 87 b = 0) (e61 : A' 61 = A 61) (e70 : A' 70 = A 70) (e73 : A' 73 = A 73) (v87 : ∀ j, A' 87 j = if j = b then 1 else A 87 j) (v88 : ∀ j, A' 88 j = if j = b then (u : Int) else A 88 j) (hW : A 73 (b / 6) * A 61 (A 70 (b / 6)).toNat = W) : ∀ N : Nat, zsrm A' x N = zsrm A x N + (if b < N ∧ x = u then W else 0)
  | 0 => rfl
  | N + 1 => by
    unfold zsrm
    rw [zsrm_b hb e61 e70 e73 v87 v88 hW N, e61, e70, e73, v87, v88]
    by_cases hN : N = b
    · subst hN
      rw [if_pos rfl, if_pos rfl, if_neg (c := N < N ∧ x = u) (fun z => by omega), if_neg (c := A 87 N = 1 ∧ A 88 N = (x : Int)) (fun z => by rw [hb] at z; exact absurd z.1 (by decide)), hW]
      by_cases hx : x = u
      · rw [if_pos ⟨rfl, by omega⟩, if_pos ⟨by omega, hx⟩]
      · rw [if_neg (fun z => hx (by omega)), if_neg (fun z => hx z.2)]
    · rw [if_neg hN, if_neg hN]
      by_cases hx : b < N ∧ x = u
      · rw [if_pos hx, if_pos (c := b < N + 1 ∧ x = u) ⟨by omega, hx.2⟩]
        exact Int.add_right_comm _ _ _
      · rw [if_neg hx, if_neg (c := b < N + 1 ∧ x = u) (fun z => hx ⟨by omega, z.2⟩), Int.add_zero, Int.add_zero]
theorem zssm_b {x b : Nat} {W : Int} (hb : A 87 b = 0) (e62 : A' 62 = A 62) (e70 : A' 70 = A 70) (v87 : ∀ j, A' 87 j = if j = b then 1 else A 87 j) (v88 : ∀ j, A' 88 j = if j = b then (u : Int) else A 88 j) (hW : A 62 (A 70 (b / 6)).toNat = W) : ∀ N : Nat, zssm A' x N = zssm A x N + (if b < N ∧ x = u then W else 0)
  | 0 => rfl
  | N + 1 => by
    unfold zssm
    rw [zssm_b hb e62 e70 v87 v88 hW N, e62, e70, v87, v88]
    by_cases hN : N = b
    · subst hN
      rw [if_pos rfl, if_pos rfl, if_neg (c := N < N ∧ x = u) (fun z => by omega), if_neg (c := A 87 N = 1 ∧ A 88 N = (x : Int)) (fun z => by rw [hb] at z; exact absurd z.1 (by decide)), hW]
      by_cases hx : x = u
      · rw [if_pos ⟨rfl, by omega⟩, if_pos ⟨by omega, hx⟩]
      · rw [if_neg (fun z => hx (by omega)), if_neg (fun z => hx z.2)]
    · rw [if_neg hN, if_neg hN]
      by_cases hx : b < N ∧ x = u
      · rw [if_pos hx, if_pos (c := b < N + 1 ∧ x = u) ⟨by omega, hx.2⟩]
        exact Int.add_right_comm _ _ _
      · rw [if_neg hx, if_neg (c := b < N + 1 ∧ x = u) (fun z => hx ⟨by omega, z.2⟩), Int.add_zero, Int.add_zero]
theorem hw_su {gc2 : Nat → Nat} (q : RR A h K L bc tc gc n B N M) (c : GS A L l k T R S nG u m0 kn st) (us : US A' H gc2) (v : MW A A' l u (6 * l + kn) T nG kn m0 st) : SU A' := by
  obtain ⟨⟨f1, f2, f3, f4, f5, f6, f7, f8, f9, f10, f11, f12, f13, f14⟩, fg, ⟨p1, p2, p3, p4⟩⟩ := gs_f q c
  obtain ⟨⟨c1, c2, c3, c4, c5, c6⟩, ⟨c7, c8, c9, c10⟩, c11, c12, ⟨c14, c15⟩, c13⟩ := c
  have v1 := v.1
  obtain ⟨v78, v87, v88, v86⟩ := v.2.1
  have e73 := v1 73 (by decide) (by decide)
  have e61 := v1 61 (by decide) (by decide)
  have e62 := v1 62 (by decide) (by decide)
  have e70 := v1 70 (by decide) (by decide)
  intro x hx
  obtain ⟨z1, z2⟩ := us_su us (fun b hb hin => by
    rw [e73]
    rcases v.old hin with rfl | ⟨hne, hin0⟩
    · rw [p2, c3]; omega
    · have := (rr_t16 q hb hin0).2.2.2
      omega) hx
  obtain ⟨-, -, s3, s4⟩ := q.su x hx
  have r1 := zsrm_b (A := A) (A' := A') (x := x) (u := u) (b := 6 * l + kn) (W := A 73 l * A 61 k) p1 e61 e70 e73 v87 v88 (by rw [p2, c2, Int.toNat_natCast]) 72
  have r2 := zssm_b (A := A) (A' := A') (x := x) (u := u) (b := 6 * l + kn) (W := A 62 k) p1 e62 e70 v87 v88 (by rw [p2, c2, Int.toNat_natCast]) 72
  refine ⟨z1, z2, ?_, ?_⟩
  · rw [r1]
    by_cases hxu : x = u
    · rw [if_pos ⟨p4, hxu⟩, hxu]
      exact c14
    · rw [if_neg (fun z => hxu z.2), Int.add_zero]
      exact s3
  · rw [r2]
    by_cases hxu : x = u
    · rw [if_pos ⟨p4, hxu⟩, hxu]
      exact c15
    · rw [if_neg (fun z => hxu z.2), Int.add_zero]
      exact s4
theorem hw_ta (q : RR A h K L bc tc gc n B N M) (c : GS A L l k T R S nG u m0 kn st) (v : MW A A' l u (6 * l + kn) T nG kn m0 st) : TA A' L := by
  obtain ⟨⟨f1, f2, f3, f4, f5, f6, f7, f8, f9, f10, f11, f12, f13, f14⟩, fg, ⟨p1, p2, p3, p4⟩⟩ := gs_f q c
  obtain ⟨⟨c1, c2, c3, c4, c5, c6⟩, ⟨c7, c8, c9, c10⟩, c11, c12, -, c13⟩ := c
  have v1 := v.1
  obtain ⟨v78, v87, v88, v86⟩ := v.2.1
  obtain ⟨a1, a2, a3, a4, a5, a6, a7, a8⟩ := q.ta
  have e73 := v1 73 (by decide) (by decide)
  have le78 : ∀ j, A 78 j ≤ A' 78 j := fun j => by
    rw [v78]
    by_cases hj : j = l
    · rw [if_pos hj, hj, c6]
      omega
    · rw [if_neg hj]
      exact Int.le_refl _
  unfold TA
  rw [e73, v1 103 (by decide) (by decide), v1 104 (by decide) (by decide), v1 105 (by decide) (by decide), v1 106 (by decide) (by decide), v1 107 (by decide) (by decide), v1 108 (by decide) (by decide)]
  refine ⟨fun l2 cell k2 t hl hc hk ht hz => a1 l2 cell k2 t hl hc hk ht (fun z => hz ⟨z.1, Int.lt_of_lt_of_le z.2.1 (le78 _), z.2.2⟩), fun b x t hb hx ht hz => a2 b x t hb hx ht (fun z => hz ⟨z.1, Int.lt_of_lt_of_le z.2.1 (le78 _), z.2.2⟩), fun b x hb hx hz => a3 b x hb hx (fun z => hz ⟨z.1, Int.lt_of_lt_of_le z.2 (le78 _)⟩), a4, a5, a6, fun b cell t hb hin hc ht => ?_, fun b x t hb hin hx ht => ?_⟩
  · rw [v86]
    rcases v.old hin with rfl | ⟨hne, hin0⟩
    · rw [if_pos rfl, p2, p3]
      obtain ⟨z1, z2⟩ := a1 l cell kn t f3 hc f4 ht (fun z => by rw [c6] at z; omega)
      rw [z1, z2]
      exact ⟨by decide, by decide⟩
    · rw [if_neg hne]
      exact a7 b cell t hb hin0 hc ht
  · rw [v86]
    rcases v.old hin with rfl | ⟨hne, hin0⟩
    · rw [if_pos rfl]
      obtain ⟨z1, z2⟩ := a2 (6 * l + kn) x t p4 hx ht (fun z => by rw [p2, p3, c6] at z; omega)
      rw [z1, z2]
      exact ⟨by decide, by decide⟩
    · rw [if_neg hne]
      exact a8 b x t hb hin0 hx ht
theorem hw_tb (q : RR A h K L bc tc gc n B N M) (c : GS A L l k T R S nG u m0 kn st) (w : HW h H l u (zhN h 10) (zhN h 6) (zhN h 11) T R S nG kn m0 st) (v : MW A A' l u (6 * l + kn) T nG kn m0 st) : TB A' H (nbc (6 * l + kn) (zhN h 10) bc) := by
  obtain ⟨⟨f1, f2, f3, f4, f5, f6, f7, f8, f9, f10, f11, f12, f13, f14⟩, fg, ⟨p1, p2, p3, p4⟩⟩ := gs_f q c
  obtain ⟨⟨c1, c2, c3, c4, c5, c6⟩, ⟨c7, c8, c9, c10⟩, c11, c12, -, c13⟩ := c
  have v1 := v.1
  obtain ⟨v78, v87, v88, v86⟩ := v.2.1
  obtain ⟨a1, a2, a3, -⟩ := q.ta
  have yz := w.2.2.2.1.2.2.2.2.2.2.2.2.2
  unfold TB
  rw [v1 62 (by decide) (by decide), v1 70 (by decide) (by decide), v1 103 (by decide) (by decide), v1 104 (by decide) (by decide), v1 106 (by decide) (by decide), v1 107 (by decide) (by decide), v1 108 (by decide) (by decide)]
  have n1 : decide ((0 : Int) + 1 ≤ 0) = false := by decide
  refine ⟨fun b cell t hb hin hc ht => ?_, fun b x hb hin hx => ?_⟩
  · rw [v86]
    rcases v.old hin with rfl | ⟨hne, hin0⟩
    · rw [if_pos rfl, p2, p3, nbc_n]
      obtain ⟨z1, z2⟩ := a1 l cell kn t f3 hc f4 ht (fun z => by rw [c6] at z; omega)
      rw [z1, z2, (yz cell).2.1, zbt_0, zbt_0, n1]
      exact ⟨rfl, rfl⟩
    · have hQ := (q.bh.1 b hb hin0).1
      rw [if_neg hne, nbc_o hne, w.o (c := 39) (blt_t hQ) (by decide) (by decide) (by decide)]
      exact q.tb.1 b cell t hb hin0 hc ht
  · rw [v86]
    rcases v.old hin with rfl | ⟨hne, hin0⟩
    · rw [p2, c2, Int.toNat_natCast, c5] at hx
      have x16 : x < 16 := by omega
      rw [if_pos rfl, nbc_n]
      refine ⟨?_, fun t ht => ?_⟩
      · rw [(yz x).2.2.2, a3 (6 * l + kn) x p4 x16 (fun z => by rw [p2, p3, c6] at z; omega)]
      · obtain ⟨z1, z2⟩ := a2 (6 * l + kn) x t p4 x16 ht (fun z => by rw [p2, p3, c6] at z; omega)
        rw [z1, z2, (yz x).2.2.1, zbt_0, zbt_0, n1]
        exact ⟨rfl, rfl⟩
    · have hQ := (q.bh.1 b hb hin0).1
      rw [if_neg hne, nbc_o hne, w.o (c := 40) (blt_t hQ) (by decide) (by decide) (by decide), w.o (c := 41) (blt_t hQ) (by decide) (by decide) (by decide)]
      exact q.tb.2 b x hb hin0 hx
theorem hw_tl (q : TL A h L) (w : HW h H l u Q m G T R S nG kn m0 st) (v : MW A A' l u (6 * l + kn) T nG kn m0 st) : TL A' H L := by
  have v1 := v.1
  unfold TL
  rw [v1 103 (by decide) (by decide), v1 104 (by decide) (by decide), v1 105 (by decide) (by decide), v1 108 (by decide) (by decide)]
  intro l2 hl2
  obtain ⟨z1, z2⟩ := q l2 hl2
  refine ⟨fun cell hc => ?_, by rw [w.D9 (Or.inl (by decide))]; exact z2⟩
  rw [w.D (c := 34) (fun _ => rfl) (by decide) (by decide) (by decide), w.D (c := 35) (fun _ => rfl) (by decide) (by decide) (by decide)]
  exact z1 cell hc
theorem zsum_one {f f' : Nat → Int} {l b : Nat} (hf : ∀ j, f' j = if j = l then f l + 1 else f j) : ∀ N : Nat, zsum f' b N = zsum f b N + (if b ≤ l ∧ l < b + N then 1 else 0)
  | 0 => by
    rw [if_neg (fun z => by omega)]
    rfl
  | N + 1 => by
    unfold zsum
    rw [zsum_one hf N, hf]
    by_cases hl : b + N = l
    · rw [if_pos hl, if_neg (fun z => by omega), if_pos ⟨by omega, by omega⟩, hl]
      omega
    · rw [if_neg hl]
      by_cases hl2 : b ≤ l ∧ l < b + N
      · rw [if_pos hl2, if_pos ⟨hl2.1, by omega⟩]
        omega
      · rw [if_neg hl2, if_neg (c := b ≤ l ∧ l < b + (N + 1)) (fun z => hl2 ⟨z.1, by omega⟩)]
        omega
theorem hw_rh (q : RH h B) (w : HW h H l u Q m G T R S nG kn m0 st) : RH H B := by
  have nn : ∀ c, zmk5 c = true → c ≠ 9 ∧ c ≠ 3 ∧ c ≠ 26 ∧ ∀ p, zold Q m G c p = true := fun c hc => by
    refine ⟨(fun z => by rw [z] at hc; cases hc), (fun z => by rw [z] at hc; cases hc), (fun z => by rw [z] at hc; cases hc), fun p => ?_⟩
    unfold zold
    split
    all_goals first | rfl | (exfalso; cases hc)
  refine ⟨fun c j hc => ?_, fun c hc => ?_⟩
  · rw [w.D (nn c hc).2.2.2 (nn c hc).1 (nn c hc).2.1 (nn c hc).2.2.1]
    exact q.1 c j hc
  · rw [w.cn (fun z => by rw [z] at hc; cases hc) (fun z => by rw [z] at hc; cases hc) (fun z => by rw [z] at hc; cases hc) (fun z => by
      rcases (show c = 36 ∨ c = 37 ∨ c = 38 ∨ c = 39 ∨ c = 40 ∨ c = 41 ∨ c = 42 ∨ c = 43 ∨ c = 44 by omega) with rfl | rfl | rfl | rfl | rfl | rfl | rfl | rfl | rfl <;> cases hc) (fun z => by rw [z] at hc; cases hc), (w.1 c 0 ((nn c hc).2.2.2 0)).2]
    exact q.2 c hc
/-- a block is given -/
theorem rr_give (q : RR A h K L bc tc gc n B N M) (c : GS A L l k T R S nG u m0 kn st) (w : HW h H l u (zhN h 10) (zhN h 6) (zhN h 11) T R S nG kn m0 st) (v : MW A A' l u (6 * l + kn) T nG kn m0 st) : RR A' H K L (nbc (6 * l + kn) (zhN h 10) bc) (ntc (6 * l + kn) (zhN h 6) tc) (ngc (6 * l + kn) (zhN h 11) gc) n B N M := by
  have us := hw_us q c w v
  obtain ⟨⟨f1, f2, f3, f4, f5, f6, f7, f8, f9, f10, f11, f12, f13, f14⟩, fg, ⟨p1, p2, p3, p4⟩⟩ := gs_f q c
  have c6 := c.1.2.2.2.2.2
  have v1 := v.1
  obtain ⟨v78, v87, v88, v86⟩ := v.2.1
  obtain ⟨v89, v90, v91, v92⟩ := v.2.2.1
  refine ⟨hw_rs q.rs w, hw_rd q.rd w, hw_rk q.rk w v, hw_rl q c w v, hw_rm q.rm w v, ?_, hw_bi q c v, hw_bh q c w v, hw_th q c w v, hw_td q c w v, hw_gh q c w v, hw_sh q c w v, us, hw_ug q c w v, hw_ul q c w v, hw_su q c us v, hw_ta q c v, hw_tb q c w v, hw_tl q.tl w v, ⟨?_, fun b hb => ?_⟩, hw_rh q.rh w, fun j => ?_, ?_⟩
  · unfold RC
    rw [v1 12 (by decide) (by decide), v1 69 (by decide) (by decide), v1 70 (by decide) (by decide), v1 82 (by decide) (by decide), v1 83 (by decide) (by decide)]
    exact q.rc
  · rw [v1 12 (by decide) (by decide)]
    exact q.bd.1
  · rw [v86]
    by_cases hz : b = 6 * l + kn
    · rw [if_pos hz]
      omega
    · rw [if_neg hz]
      exact q.bd.2 b hb
  · obtain ⟨i1, i2, i3, i4, i5⟩ := q.iv j
    have z0 : zir 0 := by
      unfold zir
      omega
    rw [v1 60 (by decide) (by decide), v1 67 (by decide) (by decide), v1 99 (by decide) (by decide), v91, v92]
    refine ⟨i1, i2, ?_, ?_, i5⟩
    · by_cases hz : 8 * (16 * (6 * l + kn)) ≤ j ∧ j < 8 * (16 * (6 * l + kn) + T)
      · rw [if_pos hz]; exact z0
      · rw [if_neg hz]; exact i3
    · by_cases hz : 16 * (6 * l + kn) ≤ j ∧ j < 16 * (6 * l + kn) + 16
      · rw [if_pos hz]; exact z0
      · rw [if_neg hz]; exact i4
  · obtain ⟨r1, r2⟩ := q.rn
    have s := zsum_one (f := A 78) (f' := A' 78) (l := l) (b := 0) (fun j => by rw [v78, c6]) 12
    rw [if_pos ⟨by omega, by omega⟩] at s
    obtain ⟨g1, g2⟩ := w.2.2.2.2.2.2
    unfold RN
    rw [s]
    exact ⟨by omega, by omega⟩
end
