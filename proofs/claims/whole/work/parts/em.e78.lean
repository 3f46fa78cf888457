/-! COPIES MOVE: both sides -/
section
variable {ρ : Type} {h h' g : zH} {A A' B : zA} {kr : Int → zH → Option ρ} {K L n n' : Nat} {bc tc gc : Nat → Nat} {N M : Int} {s : Nat → Int}
theorem rr_cop (q : RR A h K L bc tc gc n B N M) (cl : CW A L) : ∃ (h' : zH) (A' : zA), (∀ kr : Int → zH → Option ρ, Co_moveCopies 0 h kr = kr 0 h') ∧ (∀ (kz : Int → zH → Option ρ) (a1 : Int) (g : zH), M_comeOne_59 kz a1 0 (mh g A) = M_comeOne_101 kz a1 0 (mh g A')) ∧ RR A' h' K L bc tc gc n B N M ∧ CW A' L := by
  obtain ⟨h', A', y1, y2, ⟨x1, x2, x3, x4, x5, x6⟩, ⟨n1, n2, n3, n4⟩, d1, d2, a1, b1, c1, i1⟩ := copies (ρ := ρ) (A := A) (h := h) (K := K) (L := L) ⟨q.rs, q.rd, q.rk, q.rl, q.rm, q.rc⟩
  have e : ∀ c, c ≠ 69 → c ≠ 83 → c ≠ 60 → A' c = A c := a1
  have fa : ∀ f : Nat → Nat → Bool, (∀ j, f 69 j = false) → (∀ j, f 83 j = false) → (∀ j, f 60 j = false) → ∀ c j, f c j = true → A' c j = A c j := fun f h1 h2 h3 c j hz => by
    rw [e c (fun z => by subst z; rw [h1] at hz; cases hz) (fun z => by subst z; rw [h2] at hz; cases hz) (fun z => by subst z; rw [h3] at hz; cases hz)]
  have fd : ∀ f : Nat → Nat → Bool, (∀ j, f 22 j = false) → f 9 10 = false → f 9 13 = false → f 9 14 = false → f 9 15 = false → ∀ c p j, f c j = true → zhD h' c p j = zhD h c p j := fun f h1 h2 h3 h4 h5 c p j hz => by
    have k22 : c ≠ 22 := fun z => by
      subst z
      rw [h1] at hz
      cases hz
    by_cases h9 : c = 9
    · subst h9
      exact d2 p j (fun z => by subst z; rw [h2] at hz; cases hz) (fun z => by subst z; rw [h3] at hz; cases hz) (fun z => by subst z; rw [h4] at hz; cases hz) (fun z => by subst z; rw [h5] at hz; cases hz)
    · rw [d1 c h9 k22]
  have k69 : ∀ l, A 70 l ≠ -1 → A' 69 l = A 69 l := fun l hl => b1 l (fun z => hl z.2)
  have e70 : A' 70 = A 70 := e 70 (by decide) (by decide) (by decide)
  have e76 : A' 76 = A 76 := e 76 (by decide) (by decide) (by decide)
  refine ⟨h', A', y1, y2, ⟨x1, x2, x3, x4, x5, x6, ?_, q.bh.fr (fa BHa (fun _ => rfl) (fun _ => rfl) (fun _ => rfl)) (fd BHd (fun _ => rfl) rfl rfl rfl rfl) n1 n2, q.th.fr (fa THa (fun _ => rfl) (fun _ => rfl) (fun _ => rfl)) (fd THd (fun _ => rfl) rfl rfl rfl rfl) n1 n2, q.td.fr (fa TDa (fun _ => rfl) (fun _ => rfl) (fun _ => rfl)) (fd TDd (fun _ => rfl) rfl rfl rfl rfl) n1 n2, q.gh.fr (fa GHa (fun _ => rfl) (fun _ => rfl) (fun _ => rfl)) (fd GHd (fun _ => rfl) rfl rfl rfl rfl) n1 n2, q.sh.fr (fa SHa (fun _ => rfl) (fun _ => rfl) (fun _ => rfl)) (fd SHd (fun _ => rfl) rfl rfl rfl rfl) n1 n2, q.us.fr (fa USa (fun _ => rfl) (fun _ => rfl) (fun _ => rfl)) (fd USd (fun _ => rfl) rfl rfl rfl rfl) n1 n2, q.ug.fr (fa UGa (fun _ => rfl) (fun _ => rfl) (fun _ => rfl)) (fd UGd (fun _ => rfl) rfl rfl rfl rfl) n1 n2, q.ul.fr (fa ULa (fun _ => rfl) (fun _ => rfl) (fun _ => rfl)) (fd ULd (fun _ => rfl) rfl rfl rfl rfl) n1 n2, q.su.fr (fa SUa (fun _ => rfl) (fun _ => rfl) (fun _ => rfl)), q.ta.fr (fa TAa (fun _ => rfl) (fun _ => rfl) (fun _ => rfl)), q.tb.fr (fa TBa (fun _ => rfl) (fun _ => rfl) (fun _ => rfl)) (fd TBd (fun _ => rfl) rfl rfl rfl rfl) n1 n2, q.tl.fr (fa TLa (fun _ => rfl) (fun _ => rfl) (fun _ => rfl)) (fd TLd (fun _ => rfl) rfl rfl rfl rfl) n1 n2, q.bd.fr (fa BDa (fun _ => rfl) (fun _ => rfl) (fun _ => rfl)), q.rh.fr (fd RHd (fun _ => rfl) rfl rfl rfl rfl) n1 n2, ?_, q.rn.fr (fa RNa (fun _ => rfl) (fun _ => rfl) (fun _ => rfl)) n3 n4⟩, ⟨fun l hl z => ?_, fun l hl z => ?_, fun l hl z1 z2 => ?_, fun l hl z => ?_⟩, cl.2.fr (e 63 (by decide) (by decide) (by decide)) (e 70 (by decide) (by decide) (by decide)) (e 73 (by decide) (by decide) (by decide)) (e 89 (by decide) (by decide) (by decide)) (e 90 (by decide) (by decide) (by decide)) (e 93 (by decide) (by decide) (by decide)) (e 94 (by decide) (by decide) (by decide)) (e 95 (by decide) (by decide) (by decide)) (e 97 (by decide) (by decide) (by decide))⟩
  · obtain ⟨bi1, bi2, bi3⟩ := q.bi
    unfold BI
    rw [e 87 (by decide) (by decide) (by decide), e70, e 78 (by decide) (by decide) (by decide), e 88 (by decide) (by decide) (by decide), e 86 (by decide) (by decide) (by decide), e 79 (by decide) (by decide) (by decide)]
    refine ⟨bi1, fun b hb hin => ?_, fun l hl h1 h2 => ?_⟩
    · obtain ⟨z1, z2, z3, z4, z5, z6⟩ := bi2 b hb hin
      exact ⟨z1, z2, z3, by rw [k69 _ z2]; exact z4, z5, z6⟩
    · rw [k69 l h1] at h2
      exact bi3 l hl h1 h2
  · intro i
    obtain ⟨v1, v2, v3, v4, v5⟩ := q.iv i
    obtain ⟨j2, w⟩ := i1 i
    refine ⟨by rw [w]; exact (q.iv j2).1, ?_, ?_, ?_, ?_⟩
    · rw [e 67 (by decide) (by decide) (by decide)]
      exact v2
    · rw [e 91 (by decide) (by decide) (by decide)]
      exact v3
    · rw [e 92 (by decide) (by decide) (by decide)]
      exact v4
    · rw [e 99 (by decide) (by decide) (by decide)]
      exact v5
  · obtain ⟨z1, z2, z3, z4⟩ := z
    rw [e70] at z2
    rw [k69 l z2] at z1
    rw [e 79 (by decide) (by decide) (by decide), e 72 (by decide) (by decide) (by decide)] at z3
    refine cl.1.1 l hl ⟨z1, z2, z3, fun k hk ek => ?_⟩
    have y := z4 k hk (by rw [e76]; exact ek)
    have hk70 : A 70 k ≠ -1 := fun w => by
      obtain ⟨-, -, -, -, -, -, -, -, -, -, -, -, r13, -⟩ := q.rl.l hk
      have := (r13 w).1
      rw [this] at ek
      omega
    rw [k69 k hk70] at y
    exact y
  · rw [e76] at z ⊢
    rw [e70]
    exact cl.1.2.1 l hl z
  · rw [e70] at z2
    rw [k69 l z2] at z1
    rw [e 79 (by decide) (by decide) (by decide), e 72 (by decide) (by decide) (by decide)]
    exact cl.1.2.2.1 l hl z1 z2
  · rw [e76] at z
    rw [e 71 (by decide) (by decide) (by decide)]
    exact cl.1.2.2.2 l hl z
end
