/-! CONTRACTS OUT OF STRETCHES -/
theorem zmet_go {l : Launch} {al isI : Bool} {zi : Nat → zinfo} {j : Nat} {code : Nat → zI} {cut : Nat → Option (List Bool)} {wi : Nat → List Nat} {as : List Int} {h h1 : zH} {v : Int}
    (hy : plainFor (zi j).1 = true) (hcwz : ∀ j, zicw (zi j) ∈ zT) (hw : zwid (zsig zPP j).2.1.reverse ≤ (zi j).2.2.2.1)
    (hIX : ∀ (t x : Int) (h : zH), zMet l al zixi.1 (zicw zixi) zixi.2.1 zixi.2.2.1 [3, 0] 0 [t, x] h (zfind (zget [] zstrs t.toNat) x 0) h)
    (hchk : ∀ pc, zexi (code pc).1 = true ∨ zchk (zi j).2.2.2.2.2.2.1 (zi j).1.cls isI (zi j).2.1 (zi j).2.2.1 (zitb (zi j)) pc (code pc) (wi pc) zi = true)
    (hexi : ∀ pc, zexi (code pc).1 = true → zxck (zi j).2.2.2.2.2.2.1 (zi j).2.2.2.2.2.2.2.1 (zsig zPP j).2.2.1 pc (code pc) = true)
    (hisI : isI = true → (zi j).1.name = "<init>")
    (hrun : ∀ GO, zSg l al zi code cut zin (fun _ _ => none) (.inl (v, h1)) GO → GO 0 (zent (zsig zPP j).2.1.reverse as (zi j).2.2.2.1) [] h) :
    zMet l al (zi j).1 (zicw (zi j)) (zi j).2.1 (zi j).2.2.1 (zsig zPP j).2.1.reverse (zsig zPP j).2.2.1 as h v h1 := by
  intro σ cA D b L xs ws μ pos vs sz hWd hmok hScr hARG
  refine zMet_ofB (f := zi j) hy rfl (fun p e s m args below meth c s₁ B hml htb hP => ?_)
  obtain ⟨hargs, hsz, hPP, hK, hD, hEnv⟩ := hP
  subst hargs
  have hts : ∀ w ∈ zT, w.before vs.toArray s = true := fun w hw => atoms_spec B.pre w (List.mem_cons_of_mem _ hw)
  have hown : s.vm.findClass (zi j).1.cls = some m.cls := findClass_of_methodNamed B.named
  have key := hrun _ (zseg_sound (p := p) (l := l) (e := e) (R := (headSpec (zicw (zi j) :: zT) (zRm (zi j).2.1 (zi j).2.2.1 (zhC h1 - zhC h) (zhS h1 - zhS h))).room) (s := s) (m := m) (args := vs.toArray) (below := below) (meth := meth) (c := c) (Q := MQ below (zQ σ cA D b L xs al μ (zhN h) (va_A ws sz) (zsig zPP j).2.2.1 v h1) vs.toArray s (zhC h1 - zhC h) (zhS h1 - zhS h) (va_A ws sz)) (A := va_A ws sz) (H0 := s.heap) (σ := σ) (cA := cA) (D := D) (b := b) (L := L) (xs := xs) (C0 := zhC h) (S0 := zhS h) (μ0 := μ) (N0 := zhN h) (nL := (zi j).2.2.2.1) (fr := (zi j).2.1) (lo := (zi j).2.2.1) (isI := isI) (tb := zitb (zi j))
    B.exec B.bytes hml hown hts hK (fun q hq => Or.inr (hsz ▸ hq)) hEnv (Nat.le_refl _) (Nat.le_refl _) rfl rfl rfl (fun _ _ _ e9 => by cases e9) hcwz htb (fun e9 => (name_of_methodNamed B.named B.method).1.trans (hisI e9)) hIX hchk
    (fun pc hx9 CALL kont hk ls st h9 hr9 => zxck_go rfl B.notSynchronized B.exec B.bytes (fun _ _ => rfl) (fun v9 h9 e9 val ws9 μ9 pos9 H9 locs9 t hat hv ht => by
      cases e9
      obtain ⟨a1, a2, a3, a4, a5, a6, a7, a8, a9⟩ := hat
      subst ht
      exact ⟨⟨val, ws9, μ9, pos9, rfl, ⟨a1, a2, a3, a5, a8, a9⟩, hv⟩, ⟨a4.1, a4.2.1⟩⟩) B.returns (hexi pc hx9) hr9))
  have g := key.2 ws μ pos s.heap [] _ [] ⟨hWd, hPP, ⟨hD.1, fun k q hk => va_A.in hk⟩, ⟨Nat.le_refl _, fun _ _ _ => rfl, fun _ hq => absurd hq List.not_mem_nil⟩, fun c i hi => ⟨hi, rfl⟩, Nat.le_refl _, Nat.le_refl _, hmok, hScr⟩ (zLR_entry hARG hw) trivial
  rw [Nat.sub_self, Nat.sub_self] at g
  rw [lg_entry_eq]
  exact g
/-- cells only grow in a method -/
theorem zmono_go {l : Launch} {al : Bool} {zi : Nat → zinfo} {code : Nat → zI} {cut : Nat → Option (List Bool)} {kt : Nat → zH → Option zRes} {r : zRes} {ls : List (Option zV)} {h : zH} (hkt : ∀ n h, zG r (kt n h) h)
    (hrun : ∀ GO, zSg l al zi code cut zin kt r GO → GO 0 ls [] h) : zM r h :=
  hrun (fun _ _ _ h => zM r h) (zSg_mono (fun v h e => by cases e; exact ⟨Nat.le_refl _, Nat.le_refl _⟩) hkt)
/-- what a call of a method gives that does not throw -/
theorem zct_go {l : Launch} {al : Bool} {zi : Nat → zinfo} {j : Nat} {code : Nat → zI} {cut : Nat → Option (List Bool)} {as : List Int} {ls : List (Option zV)} {h : zH} {k : Int → zH → Option zRes} {t : Nat → zH → Option zRes} {x : Option zRes} {r : zRes}
    (hth : (zi j).2.2.2.2.2.1 = false) (hx : x.bind (zel k (fun _ _ => none)) = some r)
    (hrun : ∀ r1, x = some r1 → ∀ GO, zSg l al zi code cut zin (fun _ _ => none) r1 GO → GO 0 ls [] h)
    (hmet : ∀ v h1, x = some (.inl (v, h1)) → zMet l al (zi j).1 (zicw (zi j)) (zi j).2.1 (zi j).2.2.1 (zsig zPP j).2.1.reverse (zsig zPP j).2.2.1 as h v h1) : zKsp l al zi r j as h k t := by
  refine ⟨fun _ => ?_, fun e => by rw [hth] at e; cases e⟩
  cases x with
  | none => cases hx
  | some r1 =>
    cases r1 with
    | inr q => cases hx
    | inl q =>
      obtain ⟨v, h1⟩ := q
      exact ⟨v, h1, hx, zmono_go (fun _ _ e => by cases e) (hrun _ rfl), hmet v h1 rfl⟩
