/-! KERNELS CHANGE: THE WHOLE RELATION -/
theorem RMa_ok {c j : Nat} (h : RMa c j = true) : (c ≠ 12 ∨ j ≠ 4) ∧ c ≠ 61 ∧ c ≠ 62 ∧ c ≠ 63 ∧ c ≠ 65 ∧ c ≠ 66 ∧ c ≠ 67 ∧ c ≠ 68 := by
  unfold RMa at h
  split at h
  all_goals first | exact ⟨Or.inl (by decide), by decide, by decide, by decide, by decide, by decide, by decide, by decide⟩ | exact ⟨Or.inr (fun z => by subst z; cases h), by decide, by decide, by decide, by decide, by decide, by decide, by decide⟩ | cases h
theorem RCa_ok {c j : Nat} (h : RCa c j = true) : (c ≠ 12 ∨ j ≠ 4) ∧ c ≠ 61 ∧ c ≠ 62 ∧ c ≠ 63 ∧ c ≠ 65 ∧ c ≠ 66 ∧ c ≠ 67 ∧ c ≠ 68 := by
  unfold RCa at h
  split at h
  all_goals first | exact ⟨Or.inl (by decide), by decide, by decide, by decide, by decide, by decide, by decide, by decide⟩ | exact ⟨Or.inr (fun z => by subst z; cases h), by decide, by decide, by decide, by decide, by decide, by decide, by decide⟩ | cases h
theorem BIa_ok {c j : Nat} (h : BIa c j = true) : (c ≠ 12 ∨ j ≠ 4) ∧ c ≠ 61 ∧ c ≠ 62 ∧ c ≠ 63 ∧ c ≠ 65 ∧ c ≠ 66 ∧ c ≠ 67 ∧ c ≠ 68 := by
  unfold BIa at h
  split at h
  all_goals first | exact ⟨Or.inl (by decide), by decide, by decide, by decide, by decide, by decide, by decide, by decide⟩ | exact ⟨Or.inr (fun z => by subst z; cases h), by decide, by decide, by decide, by decide, by decide, by decide, by decide⟩ | cases h
theorem GHa_ok {c j : Nat} (h : GHa c j = true) : (c ≠ 12 ∨ j ≠ 4) ∧ c ≠ 61 ∧ c ≠ 62 ∧ c ≠ 63 ∧ c ≠ 65 ∧ c ≠ 66 ∧ c ≠ 67 ∧ c ≠ 68 := by
  unfold GHa at h
  split at h
  all_goals first | exact ⟨Or.inl (by decide), by decide, by decide, by decide, by decide, by decide, by decide, by decide⟩ | exact ⟨Or.inr (fun z => by subst z; cases h), by decide, by decide, by decide, by decide, by decide, by decide, by decide⟩ | cases h
theorem USa_ok {c j : Nat} (h : USa c j = true) : (c ≠ 12 ∨ j ≠ 4) ∧ c ≠ 61 ∧ c ≠ 62 ∧ c ≠ 63 ∧ c ≠ 65 ∧ c ≠ 66 ∧ c ≠ 67 ∧ c ≠ 68 := by
  unfold USa at h
  split at h
  all_goals first | exact ⟨Or.inl (by decide), by decide, by decide, by decide, by decide, by decide, by decide, by decide⟩ | exact ⟨Or.inr (fun z => by subst z; cases h), by decide, by decide, by decide, by decide, by decide, by decide, by decide⟩ | cases h
theorem UGa_ok {c j : Nat} (h : UGa c j = true) : (c ≠ 12 ∨ j ≠ 4) ∧ c ≠ 61 ∧ c ≠ 62 ∧ c ≠ 63 ∧ c ≠ 65 ∧ c ≠ 66 ∧ c ≠ 67 ∧ c ≠ 68 := by
  unfold UGa at h
  split at h
  all_goals first | exact ⟨Or.inl (by decide), by decide, by decide, by decide, by decide, by decide, by decide, by decide⟩ | exact ⟨Or.inr (fun z => by subst z; cases h), by decide, by decide, by decide, by decide, by decide, by decide, by decide⟩ | cases h
theorem ULa_ok {c j : Nat} (h : ULa c j = true) : (c ≠ 12 ∨ j ≠ 4) ∧ c ≠ 61 ∧ c ≠ 62 ∧ c ≠ 63 ∧ c ≠ 65 ∧ c ≠ 66 ∧ c ≠ 67 ∧ c ≠ 68 := by
  unfold ULa at h
  split at h
  all_goals first | exact ⟨Or.inl (by decide), by decide, by decide, by decide, by decide, by decide, by decide, by decide⟩ | exact ⟨Or.inr (fun z => by subst z; cases h), by decide, by decide, by decide, by decide, by decide, by decide, by decide⟩ | cases h
theorem TAa_ok {c j : Nat} (h : TAa c j = true) : (c ≠ 12 ∨ j ≠ 4) ∧ c ≠ 61 ∧ c ≠ 62 ∧ c ≠ 63 ∧ c ≠ 65 ∧ c ≠ 66 ∧ c ≠ 67 ∧ c ≠ 68 := by
  unfold TAa at h
  split at h
  all_goals first | exact ⟨Or.inl (by decide), by decide, by decide, by decide, by decide, by decide, by decide, by decide⟩ | exact ⟨Or.inr (fun z => by subst z; cases h), by decide, by decide, by decide, by decide, by decide, by decide, by decide⟩ | cases h
theorem TLa_ok {c j : Nat} (h : TLa c j = true) : (c ≠ 12 ∨ j ≠ 4) ∧ c ≠ 61 ∧ c ≠ 62 ∧ c ≠ 63 ∧ c ≠ 65 ∧ c ≠ 66 ∧ c ≠ 67 ∧ c ≠ 68 := by
  unfold TLa at h
  split at h
  all_goals first | exact ⟨Or.inl (by decide), by decide, by decide, by decide, by decide, by decide, by decide, by decide⟩ | exact ⟨Or.inr (fun z => by subst z; cases h), by decide, by decide, by decide, by decide, by decide, by decide, by decide⟩ | cases h
theorem BDa_ok {c j : Nat} (h : BDa c j = true) : (c ≠ 12 ∨ j ≠ 4) ∧ c ≠ 61 ∧ c ≠ 62 ∧ c ≠ 63 ∧ c ≠ 65 ∧ c ≠ 66 ∧ c ≠ 67 ∧ c ≠ 68 := by
  unfold BDa at h
  split at h
  all_goals first | exact ⟨Or.inl (by decide), by decide, by decide, by decide, by decide, by decide, by decide, by decide⟩ | exact ⟨Or.inr (fun z => by subst z; cases h), by decide, by decide, by decide, by decide, by decide, by decide, by decide⟩ | cases h
theorem RMd_ok {c j : Nat} (h : RMd c j = true) : c ≠ 7 ∧ c ≠ 8 ∧ c ≠ 33 ∧ c ≠ 20 ∧ c ≠ 1 := by
  unfold RMd at h
  split at h
  all_goals first | exact ⟨by decide, by decide, by decide, by decide, by decide⟩ | cases h
theorem BHd_ok {c j : Nat} (h : BHd c j = true) : c ≠ 7 ∧ c ≠ 8 ∧ c ≠ 33 ∧ c ≠ 20 ∧ c ≠ 1 := by
  unfold BHd at h
  split at h
  all_goals first | exact ⟨by decide, by decide, by decide, by decide, by decide⟩ | cases h
theorem THd_ok {c j : Nat} (h : THd c j = true) : c ≠ 7 ∧ c ≠ 8 ∧ c ≠ 33 ∧ c ≠ 20 ∧ c ≠ 1 := by
  unfold THd at h
  split at h
  all_goals first | exact ⟨by decide, by decide, by decide, by decide, by decide⟩ | cases h
theorem TDd_ok {c j : Nat} (h : TDd c j = true) : c ≠ 7 ∧ c ≠ 8 ∧ c ≠ 33 ∧ c ≠ 20 ∧ c ≠ 1 := by
  unfold TDd at h
  split at h
  all_goals first | exact ⟨by decide, by decide, by decide, by decide, by decide⟩ | cases h
theorem GHd_ok {c j : Nat} (h : GHd c j = true) : c ≠ 7 ∧ c ≠ 8 ∧ c ≠ 33 ∧ c ≠ 20 ∧ c ≠ 1 := by
  unfold GHd at h
  split at h
  all_goals first | exact ⟨by decide, by decide, by decide, by decide, by decide⟩ | cases h
theorem SHd_ok {c j : Nat} (h : SHd c j = true) : c ≠ 7 ∧ c ≠ 8 ∧ c ≠ 33 ∧ c ≠ 20 ∧ c ≠ 1 := by
  unfold SHd at h
  split at h
  all_goals first | exact ⟨by decide, by decide, by decide, by decide, by decide⟩ | cases h
theorem USd_ok {c j : Nat} (h : USd c j = true) : c ≠ 7 ∧ c ≠ 8 ∧ c ≠ 33 ∧ c ≠ 20 ∧ c ≠ 1 := by
  unfold USd at h
  split at h
  all_goals first | exact ⟨by decide, by decide, by decide, by decide, by decide⟩ | cases h
theorem UGd_ok {c j : Nat} (h : UGd c j = true) : c ≠ 7 ∧ c ≠ 8 ∧ c ≠ 33 ∧ c ≠ 20 ∧ c ≠ 1 := by
  unfold UGd at h
  split at h
  all_goals first | exact ⟨by decide, by decide, by decide, by decide, by decide⟩ | cases h
theorem ULd_ok {c j : Nat} (h : ULd c j = true) : c ≠ 7 ∧ c ≠ 8 ∧ c ≠ 33 ∧ c ≠ 20 ∧ c ≠ 1 := by
  unfold ULd at h
  split at h
  all_goals first | exact ⟨by decide, by decide, by decide, by decide, by decide⟩ | cases h
theorem TBd_ok {c j : Nat} (h : TBd c j = true) : c ≠ 7 ∧ c ≠ 8 ∧ c ≠ 33 ∧ c ≠ 20 ∧ c ≠ 1 := by
  unfold TBd at h
  split at h
  all_goals first | exact ⟨by decide, by decide, by decide, by decide, by decide⟩ | cases h
theorem TLd_ok {c j : Nat} (h : TLd c j = true) : c ≠ 7 ∧ c ≠ 8 ∧ c ≠ 33 ∧ c ≠ 20 ∧ c ≠ 1 := by
  unfold TLd at h
  split at h
  all_goals first | exact ⟨by decide, by decide, by decide, by decide, by decide⟩ | cases h
section
variable {h h' : zH} {A A' B : zA} {K K' L n : Nat} {bc tc gc : Nat → Nat} {N M : Int}
theorem zsrc_row (q : RR A h K L bc tc gc n B N M) (w : KW A A') {u : Nat} (hu : u < 2) : ∀ m : Nat, (m : Int) ≤ A 93 u → zsrc A' u m = zsrc A u m ∧ zssc A' u m = zssc A u m
  | 0, _ => ⟨rfl, rfl⟩
  | m + 1, hm => by
    obtain ⟨i1, i2⟩ := zsrc_row q w hu m (by omega)
    obtain ⟨e, k⟩ := w
    obtain ⟨b, j, s1, s2, s3, s4, -⟩ := q.slot hu (i := m) (by omega)
    obtain ⟨k1, k2, -⟩ := k b s3 s4
    unfold zsrc zssc
    rw [i1, i2]
    simp (disch := decide) only [e 94, e 95, e 70, e 73]
    rw [s1, Int.toNat_natCast, k1, k2]
    exact ⟨rfl, rfl⟩
theorem SU.row (q : RR A h K L bc tc gc n B N M) (w : KW A A') : SU A' := by
  have e := w.1
  intro u hu
  obtain ⟨q1, q2, q3, q4⟩ := q.su u hu
  obtain ⟨⟨m0, m4, -⟩, -⟩ := q.us u hu
  obtain ⟨i1, i2⟩ := zsrm_row w (u := u) 72 (Nat.le_refl _)
  obtain ⟨i3, i4⟩ := zsrc_row q w hu (A 93 u).toNat (by omega)
  rw [e 93 (by decide) (by decide) (by decide) (by decide) (by decide) (by decide) (by decide) (by decide), i1, i2, i3, i4]
  exact ⟨q1, q2, q3, q4⟩
/-- kernels change, nothing else does -/
theorem rr_k (q : RR A h K L bc tc gc n B N M) (w : KW A A') (e12 : ∀ j, j ≠ 4 → A' 12 j = A 12 j) (rs : RS h') (rd : RD h') (rk : RK A' h' K') (rl : RL A' h' K' L) (hD : ∀ c p j, c ≠ 7 → c ≠ 8 → c ≠ 33 → c ≠ 20 → c ≠ 1 → zhD h' c p j = zhD h c p j) (hN : ∀ c, c ≠ 7 → c ≠ 8 → c ≠ 33 → zhN h' c = zhN h c) (hL : ∀ c p, c ≠ 7 → c ≠ 8 → c ≠ 33 → zhL h' c p = zhL h c p) (iv : ∀ j, zir (A' 67 j)) (hC : zhC h' ≤ zhC h + 10) (hS : zhS h' ≤ zhS h + 100) : RR A' h' K' L bc tc gc n B (N + 10) (M + 100) := by
  have hA : ∀ c j, (c ≠ 12 ∨ j ≠ 4) ∧ c ≠ 61 ∧ c ≠ 62 ∧ c ≠ 63 ∧ c ≠ 65 ∧ c ≠ 66 ∧ c ≠ 67 ∧ c ≠ 68 → A' c j = A c j := fun c j z => by
    by_cases hc : c = 12
    · rw [hc]
      exact e12 j (z.1.resolve_left (fun y => y hc))
    · exact congrFun (w.1 c hc z.2.1 z.2.2.1 z.2.2.2.1 z.2.2.2.2.1 z.2.2.2.2.2.1 z.2.2.2.2.2.2.1 z.2.2.2.2.2.2.2) j
  have hE : ∀ c p j, c ≠ 7 ∧ c ≠ 8 ∧ c ≠ 33 ∧ c ≠ 20 ∧ c ≠ 1 → zhD h' c p j = zhD h c p j := fun c p j z => hD c p j z.1 z.2.1 z.2.2.1 z.2.2.2.1 z.2.2.2.2
  obtain ⟨hm, hm1, hm2, hm3⟩ : ∃ hm : zH, zhN hm = zhN h ∧ zhL hm = zhL h ∧ zhD hm = zhD h' := ⟨(zhN h, zhL h, zhD h', zhC h, zhS h), rfl, rfl, rfl⟩
  have hE : ∀ c p j, c ≠ 7 ∧ c ≠ 8 ∧ c ≠ 33 ∧ c ≠ 20 ∧ c ≠ 1 → zhD hm c p j = zhD h c p j := fun c p j z => by rw [hm3]; exact hE c p j z
  have hN2 : ∀ c, c ≠ 7 → c ≠ 8 → c ≠ 33 → zhN h' c = zhN hm c := fun c z1 z2 z3 => by rw [hm1]; exact hN c z1 z2 z3
  have hL2 : ∀ c p, c ≠ 7 → c ≠ 8 → c ≠ 33 → zhL h' c p = zhL hm c p := fun c p z1 z2 z3 => by rw [hm2]; exact hL c p z1 z2 z3
  refine ⟨rs, rd, rk, rl, (q.rm.fr (fun c j z => hA c j (RMa_ok z)) (fun c p j z => hE c p j (RMd_ok z)) hm1).cnt hN2 hL2 hm3.symm, q.rc.fr (fun c j z => hA c j (RCa_ok z)), q.bi.fr (fun c j z => hA c j (BIa_ok z)), ((q.bh.row w).fr (fun _ _ _ => rfl) (fun c p j z => hE c p j (BHd_ok z)) hm1 hm2).cnt hN2 hL2 hm3.symm, ((q.th.row w).fr (fun _ _ _ => rfl) (fun c p j z => hE c p j (THd_ok z)) hm1 hm2).cnt hN2 hL2 hm3.symm, ((q.td.row w).fr (fun _ _ _ => rfl) (fun c p j z => hE c p j (TDd_ok z)) hm1 hm2).cnt hN2 hL2 hm3.symm, (q.gh.fr (fun c j z => hA c j (GHa_ok z)) (fun c p j z => hE c p j (GHd_ok z)) hm1 hm2).cnt hN2 hL2 hm3.symm, ((q.sh.row w).fr (fun _ _ _ => rfl) (fun c p j z => hE c p j (SHd_ok z)) hm1 hm2).cnt hN2 hL2 hm3.symm, (q.us.fr (fun c j z => hA c j (USa_ok z)) (fun c p j z => hE c p j (USd_ok z)) hm1 hm2).cnt hN2 hL2 hm3.symm, (q.ug.fr (fun c j z => hA c j (UGa_ok z)) (fun c p j z => hE c p j (UGd_ok z)) hm1 hm2).cnt hN2 hL2 hm3.symm, (q.ul.fr (fun c j z => hA c j (ULa_ok z)) (fun c p j z => hE c p j (ULd_ok z)) hm1 hm2).cnt hN2 hL2 hm3.symm, SU.row q w, q.ta.fr (fun c j z => hA c j (TAa_ok z)), ((q.tb.row w).fr (fun _ _ _ => rfl) (fun c p j z => hE c p j (TBd_ok z)) hm1 hm2).cnt hN2 hL2 hm3.symm, (q.tl.fr (fun c j z => hA c j (TLa_ok z)) (fun c p j z => hE c p j (TLd_ok z)) hm1 hm2).cnt hN2 hL2 hm3.symm, q.bd.fr (fun c j z => hA c j (BDa_ok z)), ⟨fun c j hc => ?_, fun c hc => ?_⟩, fun j => ?_, ?_⟩
  · rw [hD c 0 j (fun z => by subst z; cases hc) (fun z => by subst z; cases hc) (fun z => by subst z; cases hc) (fun z => by subst z; cases hc) (fun z => by subst z; cases hc)]
    exact q.rh.1 c j hc
  · rw [hN c (fun z => by subst z; cases hc) (fun z => by subst z; cases hc) (fun z => by subst z; cases hc), hL c 0 (fun z => by subst z; cases hc) (fun z => by subst z; cases hc) (fun z => by subst z; cases hc)]
    exact q.rh.2 c hc
  · obtain ⟨y1, y2, y3, y4, y5⟩ := q.iv j
    have e := w.1
    simp (disch := decide) only [e 60, e 91, e 92, e 99]
    exact ⟨y1, iv j, y3, y4, y5⟩
  · obtain ⟨y1, y2⟩ := q.rn
    unfold RN
    rw [w.1 78 (by decide) (by decide) (by decide) (by decide) (by decide) (by decide) (by decide) (by decide)]
    exact ⟨by omega, by omega⟩
end
