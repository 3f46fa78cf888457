/-! WHAT IS QUEUED BEGINS -/
section
variable {ρ : Type} {h h' g : zH} {A A' B : zA} {kr : Int → zH → Option ρ} {K L n n' : Nat} {bc tc gc : Nat → Nat} {N M : Int} {s : Nat → Int}
theorem zgo_q {q : Int} {l : Nat} (h71 : A 71 l ≠ q) : ∀ (n i : Nat) (s : Nat → Int), zgo A q s i n l = s l
  | 0, i, s => rfl
  | n + 1, i, s => by
    unfold zgo
    split
    · rename_i hz
      have ne : l ≠ i := fun e => h71 (by rw [e]; exact hz.1)
      split
      · split
        · rw [zgo_q h71 n (i + 1), zup_ne ne]
        · rw [zup_ne ne]
      · rfl
    · exact zgo_q h71 n (i + 1) s
theorem zchl_v {l : Nat} : ∀ (n i : Nat) (s : Nat → Int), zchl A s i n l = s l ∨ (s l = 113 ∧ zchl A s i n l = 114)
  | 0, i, s => Or.inl rfl
  | n + 1, i, s => by
    unfold zchl
    split
    · rename_i hz
      rcases zchl_v (l := l) n (i + 1) (zup s i 114) with y | ⟨y1, y2⟩
      · by_cases e : l = i
        · subst e
          rw [zup_same] at y
          exact Or.inr ⟨hz.1, y⟩
        · rw [zup_ne e] at y
          exact Or.inl y
      · by_cases e : l = i
        · subst e
          exact Or.inr ⟨hz.1, y2⟩
        · rw [zup_ne e] at y1
          exact Or.inr ⟨y1, y2⟩
    · exact zchl_v n (i + 1) s
/-- a child begins, no more -/
theorem zstq_c {l : Nat} (h71 : A 71 l = -1) : zstq A L l = A 69 l ∨ (A 69 l = 113 ∧ zstq A L l = 114) := by
  have e : zgo A 1 (zgo A 0 (A 69) 0 L) 0 L l = A 69 l := by
    rw [zgo_q (by rw [h71]; decide), zgo_q (by rw [h71]; decide)]
  have := zchl_v (A := A) (l := l) L 0 (zgo A 1 (zgo A 0 (A 69) 0 L) 0 L)
  rw [e] at this
  exact this
theorem rr_sts (q : RR A h K L bc tc gc n B N M) (hs : ∀ l, zch (A 69 l) (s l)) : RR (ard A 69 s) (hfd h 9 10 L s) K L bc tc gc n B N M := by
  have e : ∀ c, c ≠ 69 → ard A 69 s c = A c := fun c hc => ard_ne hc
  have D : ∀ c p j, ¬ (c = 9 ∧ j = 10) → zhD (hfd h 9 10 L s) c p j = zhD h c p j := fun c p j hc => by rw [hfd_D, if_neg (fun z => hc ⟨z.1, z.2.1⟩)]
  have fa : ∀ f : Nat → Nat → Bool, f 69 0 = false → (∀ j, f 69 j = f 69 0) → ∀ c j, f c j = true → ard A 69 s c j = A c j := fun f h1 h2 c j hz => by
    rw [e c (fun z => by subst z; rw [h2, h1] at hz; cases hz)]
  have fd : ∀ f : Nat → Nat → Bool, f 9 10 = false → ∀ c p j, f c j = true → zhD (hfd h 9 10 L s) c p j = zhD h c p j := fun f h1 c p j hz => D c p j (fun z => by rw [z.1, z.2, h1] at hz; cases hz)
  refine ⟨q.rs.fr (fd rsf rfl) rfl rfl, q.rd.fr (fd rdf rfl) rfl rfl, q.rk.fr (fa RKa rfl (fun _ => rfl)) (fd RKd rfl) rfl, q.rl.st (fun l hl => zch_ok (hs l)), q.rm.fr (fa RMa rfl (fun _ => rfl)) (fd RMd rfl) rfl, ⟨fun l hl h1 h2 => ?_, by rw [e 12 (by decide)]; exact q.rc.2⟩, ⟨?_, fun b hb hin => ?_, fun l hl h1 h2 => ?_⟩, q.bh.fr (fa BHa rfl (fun _ => rfl)) (fd BHd rfl) rfl rfl, q.th.fr (fa THa rfl (fun _ => rfl)) (fd THd rfl) rfl rfl, q.td.fr (fa TDa rfl (fun _ => rfl)) (fd TDd rfl) rfl rfl, q.gh.fr (fa GHa rfl (fun _ => rfl)) (fd GHd rfl) rfl rfl, q.sh.fr (fa SHa rfl (fun _ => rfl)) (fd SHd rfl) rfl rfl, q.us.fr (fa USa rfl (fun _ => rfl)) (fd USd rfl) rfl rfl, q.ug.fr (fa UGa rfl (fun _ => rfl)) (fd UGd rfl) rfl rfl, q.ul.fr (fa ULa rfl (fun _ => rfl)) (fd ULd rfl) rfl rfl, q.su.fr (fa SUa rfl (fun _ => rfl)), q.ta.fr (fa TAa rfl (fun _ => rfl)), q.tb.fr (fa TBa rfl (fun _ => rfl)) (fd TBd rfl) rfl rfl, q.tl.fr (fa TLa rfl (fun _ => rfl)) (fd TLd rfl) rfl rfl, q.bd.fr (fa BDa rfl (fun _ => rfl)), q.rh.fr (fd RHd rfl) rfl rfl, q.iv.fr (fa IVa rfl (fun _ => rfl)), q.rn.fr (fa RNa rfl (fun _ => rfl)) rfl rfl⟩
  · rw [e 70 (by decide)] at h1
    rw [ard_same] at h2
    rw [e 82 (by decide), e 83 (by decide)]
    refine q.rc.1 l hl h1 (fun z => ?_)
    have := hs l
    unfold zch at this
    omega
  · rw [e 87 (by decide)]
    exact q.bi.1
  · rw [e 87 (by decide)] at hin
    rw [e 70 (by decide), e 78 (by decide), e 88 (by decide), e 86 (by decide), ard_same]
    obtain ⟨y1, y2, y3, y4, y5, y6⟩ := q.bi.2.1 b hb hin
    refine ⟨y1, y2, y3, ?_, y5, y6⟩
    have := hs (b / 6)
    unfold zch at this
    omega
  · rw [e 70 (by decide)] at h1
    rw [ard_same] at h2
    rw [e 79 (by decide), e 87 (by decide), e 78 (by decide)]
    refine q.bi.2.2 l hl h1 (fun z => ?_)
    have := hs l
    unfold zch at this
    omega
theorem cl_stq (cl : CL A L) : CL (ard A 69 (zstq A L)) L := by
  have e : ∀ c, c ≠ 69 → ard A 69 (zstq A L) c = A c := fun c hc => ard_ne hc
  obtain ⟨c1, c2, c3, c4⟩ := cl
  refine ⟨fun l hl z => ?_, fun l hl z => ?_, fun l hl z1 z2 => ?_, fun l hl z => ?_⟩
  · obtain ⟨z1, z2, z3, z4⟩ := z
    rw [ard_same] at z1
    rw [e 70 (by decide)] at z2
    rw [e 79 (by decide), e 72 (by decide)] at z3
    have hz := zstq_ch (A := A) (L := L) (l := l)
    unfold zch at hz
    by_cases h114 : A 69 l = 114
    · refine c1 l hl ⟨h114, z2, z3, fun k hk ek => ?_⟩
      have y := z4 k hk (by rw [e 76 (by decide)]; exact ek)
      rw [ard_same] at y
      rcases zstq_c (L := L) (c4 k hk (by rw [ek]; omega)) with w | ⟨-, w⟩
      · rw [← w]
        exact y
      · rw [w] at y
        cases y
    · exact c3 l hl (by omega) z2 z3
  · rw [e 76 (by decide)] at z ⊢
    rw [e 70 (by decide)]
    exact c2 l hl z
  · rw [ard_same] at z1
    rw [e 70 (by decide)] at z2
    rw [e 79 (by decide), e 72 (by decide)]
    have hz := zstq_ch (A := A) (L := L) (l := l)
    unfold zch at hz
    exact c3 l hl (by omega) z2
  · rw [e 76 (by decide)] at z
    rw [e 71 (by decide)]
    exact c4 l hl z
theorem rr_stq (q : RR A h K L bc tc gc n B N M) (cl : CW A L) : RR (ard A 69 (zstq A L)) (hfd h 9 10 L (zstq A L)) K L bc tc gc n B N M ∧ CW (ard A 69 (zstq A L)) L := ⟨rr_sts q (fun _ => zstq_ch), cl_stq cl.1, wl_ard.mpr cl.2⟩
end
