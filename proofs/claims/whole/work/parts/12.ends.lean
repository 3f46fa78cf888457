/-! INSTRUCTIONS: String constants, Object's constructor, copies, handlers, ends -/
section
variable {p : Program} {l : Launch} {e : Env} {R : Room} {s : State} {m : MethodId} {args : Array Value} {below : List Frame} {meth : Method} {c : Code} {Q : State → Prop} {A : Nat → Prop} {H0 : Heap} {σ : Nat → Nat} {cA : Nat → ClassId} {D : va_G} {b L : Nat} {xs : Nat → Int32} {al : Bool} {C0 S0 : Nat} {μ0 : Nat → Nat → Nat} {N0 : Nat → Nat} {nL : Nat}
variable {r : zRes} {kont : Nat → List (Option zV) → List zV → zH → Option zRes} {kret : Int → zH → Option zRes} {kthr : Nat → zH → Option zRes} {call : Nat → List Int → zH → (Int → zH → Option zRes) → (Nat → zH → Option zRes) → Option zRes} {cc : ByteArray} {own : String} {pc : Nat}
theorem zs_ldcS (hx : p.tables.exec = Jvm.exec) (hb : c.code = cc) (hk : ∀ pc ls st h, kont pc ls st h = some r → zGo p l e R s m args below meth c Q A H0 σ cA D b L xs al C0 S0 μ0 N0 nL r pc ls st h) (hown : s.vm.findClass own = some m.cls) (hEnv : zEnv σ A s H0) {I : zI} {t : Nat} (ht : I.2.1 = (t : Int)) (ht10 : t < 10) (hw : (own, I.2.2.1, t) ∈ zSRs) (hdg : decode cc pc = .ok (.ldc I.2.2.1, 2)) {ls : List (Option zV)} {st : List zV} {h : zH} (hr : zopush 3 2 zPP al call I kont kret kthr pc ls st h = some r) : zGo p l e R s m args below meth c Q A H0 σ cA D b L xs al C0 S0 μ0 N0 nL r pc ls st h := by
  have h1 := hEnv.2.2.2.2.1 _ hw
  refine zs_push (v := .ref (σ t)) hk (fun μ N => ?_) (fun kk => va_ldcS hx hb hown h1 hdg kk) hr
  rw [ht]
  exact Or.inr (Or.inr (Or.inl ⟨rfl, by omega, by omega, by simp⟩))
theorem zs_obj (hx : p.tables.exec = Jvm.exec) (hb : c.code = cc) (hk : ∀ pc ls st h, kont pc ls st h = some r → zGo p l e R s m args below meth c Q A H0 σ cA D b L xs al C0 S0 μ0 N0 nL r pc ls st h) (hml : c.maxLocals = nL) (hts : ∀ w ∈ zT, w.before args s = true) (hown : s.vm.findClass own = some m.cls) {I : zI} (hdg : decode cc pc = .ok (.invokespecial I.2.2.1, 3)) (hw1 : Cond.methodLink own I.2.2.1 Lib.objectInit ∈ zT) (hw2 : Cond.instanceMethod Lib.objectInit ∈ zT) (hw3 : Cond.code Lib.objectInit ⟨#[0xb1]⟩ 1 none ∈ zT) (hf : 1 ≤ R.frames) (hlo : 20 ≤ R.locals) {ls : List (Option zV)} {st : List zV} {h : zH} (hr : zoobj zPP al call I kont kret kthr pc ls st h = some r) : zGo p l e R s m args below meth c Q A H0 σ cA D b L xs al C0 S0 μ0 N0 nL r pc ls st h := by
  rcases st with _ | ⟨⟨t1, x1⟩, st⟩
  · cases hr
  · simp only [zoobj] at hr
    obtain ⟨hc, hr⟩ := zif_some hr
    obtain ⟨hc, hc8⟩ := zand_t hc
    obtain ⟨hc1, hc2⟩ := zand_t hc
    have hc8 := Nat.le_of_ble_eq_true hc8
    obtain ⟨q, hq, hr, hp⟩ := zobm_some hr
    obtain ⟨hm, hg⟩ := hk _ _ _ _ hr
    refine ⟨hm, fun ws μ pos H locs lsJ stJ hat hl hs => ?_⟩
    obtain ⟨v1, sJ1, rfl, hv1, hs1⟩ := hs.cons
    rcases hv1.ref (Nat.le_of_ble_eq_true hc1) with ⟨z, -⟩ | ⟨-, -, rfl⟩
    · omega
    · refine W.objInit hx hb hown (hts _ hw1) (hts _ hw2) (hts _ hw3) (g := F0 m pc lsJ _) rfl (hl.2.choose_spec.1.1.trans hml.symm) rfl hdg hf ?_ (hg ws μ pos H locs lsJ _ hat hl hs1)
      have h9 : 2 * (F0 m pc lsJ (Value.ref (μ (t1 - 100) x1.toNat) :: sJ1)).monitorRoom + (sJ1.map fun v => v.category).sum ≤ 8 := lv_room (m := m) (pc := pc) (ls := lsJ) (rest := Value.ref (μ (t1 - 100) x1.toNat) :: sJ1) (by rw [hs1.cat]; exact hc8)
      omega
theorem zcopy_some {α : Type} {c : Nat} {h : zH} {a i b j n : Int} {k : zH → Option α} {y : α} (hr : zcopy c h a i b j n k = some y) : ∃ p i' j' n' : Nat, a = (p : Int) ∧ b = a ∧ i = (i' : Int) ∧ j = (j' : Int) ∧ n = (n' : Int) ∧ p < zhN h c ∧ i' + n' ≤ zhL h c p ∧ j' + n' ≤ zhL h c p ∧ k (h.1, h.2.1, (fun (c' p' q : Nat) => if c' = c ∧ p' = p ∧ j ≤ (q : Int) ∧ (q : Int) < j + n then h.2.2.1 c p (q + i.toNat - j.toNat) else h.2.2.1 c' p' q), h.2.2.2) = some y := by
  unfold zcopy at hr
  split at hr
  · rename_i h1
    obtain ⟨p, hp, hr, hpp⟩ := zobm_some (al := true) (show zobm true h c a _ = some y from hr)
    split at hr
    · rename_i h2
      refine ⟨p, i.toNat, j.toNat, n.toNat, hp, h1.2.1.symm, by omega, by omega, by omega, ?_, by omega, by omega, hr⟩
      rcases hpp with ⟨-, z⟩ | ⟨z, -⟩
      · exact z
      · cases z
    · cases hr
  · cases hr
theorem zs_copy (hx : p.tables.exec = Jvm.exec) (hb : c.code = cc) (hk : ∀ pc ls st h, kont pc ls st h = some r → zGo p l e R s m args below meth c Q A H0 σ cA D b L xs al C0 S0 μ0 N0 nL r pc ls st h) (hml : c.maxLocals = nL) (hts : ∀ w ∈ zT, w.before args s = true) (hown : s.vm.findClass own = some m.cls) (hK : va_K D zcl (ztys cA) s) {I : zI} (hdg : decode cc pc = .ok (.invokestatic I.2.2.1, 3)) (hw1 : Cond.methodLink own I.2.2.1 arraycopyName ∈ zT) (hw2 : Cond.native arraycopyName ∈ zT) (hw3 : Cond.static arraycopyName ∈ zT) (hw4 : Cond.initialized "java/lang/System" ∈ zT) (hf : 1 ≤ R.frames) (hlo : 8 + (nativeFrameWords "java/lang/System" "arraycopy" 5 + 11) ≤ R.locals) {ls : List (Option zV)} {st : List zV} {h : zH} (hr : zocopy zPP al call I kont kret kthr pc ls st h = some r) : zGo p l e R s m args below meth c Q A H0 σ cA D b L xs al C0 S0 μ0 N0 nL r pc ls st h := by
  rcases st with _ | ⟨⟨t1, x1⟩, _ | ⟨⟨t2, x2⟩, _ | ⟨⟨t3, x3⟩, _ | ⟨⟨t4, x4⟩, _ | ⟨⟨t5, x5⟩, st⟩⟩⟩⟩⟩
  · cases hr
  · cases hr
  · cases hr
  · cases hr
  · cases hr
  · simp only [zocopy] at hr
    obtain ⟨hc, hr⟩ := zif_some hr
    obtain ⟨hc, hc8⟩ := zand_t hc
    obtain ⟨hc, he⟩ := zand_t hc
    obtain ⟨hc, hc5⟩ := zand_t hc
    obtain ⟨hc, hc4⟩ := zand_t hc
    obtain ⟨hc, hal⟩ := zand_t hc
    obtain ⟨hc, h13⟩ := zand_t hc
    obtain ⟨hc, hc3⟩ := zand_t hc
    obtain ⟨hc1, hc2⟩ := zand_t hc
    have hc8 := Nat.le_of_ble_eq_true hc8
    have h13 := Nat.le_of_ble_eq_true h13
    have he := Nat.eq_of_beq_eq_true he
    obtain ⟨q, i', j', n', e1, e2, e3, e4, e5, hp', hl1, hl2, hr⟩ := zcopy_some hr
    obtain ⟨hm, hg⟩ := hk _ _ _ _ hr
    refine ⟨hm, fun ws μ pos H locs lsJ stJ hat hl hs => ?_⟩
    obtain ⟨v1, sJ1, rfl, hv1, hs1⟩ := hs.cons
    obtain ⟨v2, sJ2, rfl, hv2, hs2⟩ := hs1.cons
    obtain ⟨v3, sJ3, rfl, hv3, hs3⟩ := hs2.cons
    obtain ⟨v4, sJ4, rfl, hv4, hs4⟩ := hs3.cons
    obtain ⟨v5, sJ5, rfl, hv5, hs5⟩ := hs4.cons
    rw [Nat.eq_of_beq_eq_true hc1] at hv1
    rw [Nat.eq_of_beq_eq_true hc2] at hv2
    rw [Nat.eq_of_beq_eq_true hc5] at hv3
    rw [Nat.eq_of_beq_eq_true hc3] at hv4
    rw [Nat.eq_of_beq_eq_true hc4] at hv5
    cases zref_at e1 hv5
    cases zref_at (e2.trans e1) hv3
    obtain ⟨m1, rfl, g1⟩ := hv1.int
    obtain ⟨m2, rfl, g2⟩ := hv2.int
    obtain ⟨m4, rfl, g4⟩ := hv4.int
    rw [e5] at g1
    rw [e4] at g2
    rw [e3] at g4
    obtain ⟨f0, a, f1, f2⟩ := hat.1.row h13 (zne50 he (by decide)) hp'
    rw [he] at f1 f2
    obtain ⟨g, rfl, f3⟩ := f2.i (by decide)
    obtain ⟨t0, ht0⟩ := ztys_at cA (e := 0) (by decide)
    have hz1 := zix_in g1 (show n' < n' + 1 by omega)
    have hz2 := zix_in g2 (show j' < j' + 1 by omega)
    have hz4 := zix_in g4 (show i' < i' + 1 by omega)
    refine va_copyi hx hb (hml.trans hl.2.choose_spec.1.1.symm) hown (hts _ hw1) (hts _ hw2) (hts _ hw3) (hts _ hw4) hK hat.2.1 hat.2.2.1 hat.2.2.2.1 (pos I.2.2.2 q) (pos I.2.2.2 q) t0 t0 f1 f1 ht0 ht0 rfl (fun z => hz4.1 (Or.inl z)) (fun z => hz2.1 (Or.inl z)) (fun z => hz1.1 (Or.inl z)) (by rw [hz4.2, hz1.2]; exact hl1) (by rw [hz2.2, hz1.2]; exact hl2) (fun _ _ => rfl) hf (by rw [hs5.cat]; omega) hdg (fun H1 locs1 hP1 hD1 hS1 => ?_)
    rw [hz1.2, hz2.2, hz4.2] at hP1 hD1
    have hne := zne50 he (by decide)
    have hat0 := hat
    obtain ⟨a1, a2, a3, a4, a5, a6, a7, a8, a9⟩ := hat
    refine hg _ μ pos H1 locs1 lsJ _ ⟨⟨fun c' p' hc' hi' => ?_, fun c1 i1 c2 i2 k1 k2 k3 k4 k5 => a1.2 c1 i1 c2 i2 k1 k2 k3 k4 k5⟩, hP1, hD1, hS1, a5, a6, a7, (fun z => by rw [hal] at z; cases z), fun i hi => ?_⟩ hl hs5
    · by_cases hqq : c' = I.2.2.2 ∧ p' = q
      · rw [hqq.1, hqq.2]
        refine ⟨_, List.getElem?_set_self (List.getElem?_eq_some_iff.mp f1).1, Or.inr ⟨h13, f0, _, by rw [he], ⟨rfl, Or.inl ⟨Or.inl he, _, rfl, fun j2 hj2 => ?_⟩⟩⟩⟩
        show (va_cpy g g i' j' n' j2).toInt = if I.2.2.2 = I.2.2.2 ∧ q = q ∧ x2 ≤ (j2 : Int) ∧ (j2 : Int) < x2 + x1 then h.2.2.1 I.2.2.2 q (j2 + x4.toNat - x2.toNat) else h.2.2.1 I.2.2.2 q j2
        unfold va_cpy
        by_cases hjj : j' ≤ j2 ∧ j2 < j' + n'
        · rw [if_pos hjj, if_pos ⟨rfl, rfl, by omega, by omega⟩]
          have e9 : j2 + x4.toNat - x2.toNat = i' + (j2 - j') := by omega
          rw [e9]
          exact f3 _ (by omega)
        · rw [if_neg hjj, if_neg (fun z => hjj ⟨by omega, by omega⟩)]
          exact f3 j2 hj2
      · obtain ⟨E0, q1, q2⟩ := a1.1 c' p' hc' hi'
        refine ⟨E0, ?_, ?_⟩
        · rw [List.getElem?_set_ne (fun z => hqq (a1.2 _ _ _ _ hne hc' hp' hi' z |>.imp Eq.symm Eq.symm))]
          exact q1
        · have e9 : zhD (h.1, h.2.1, (fun (c' p' q2 : Nat) => if c' = I.2.2.2 ∧ p' = q ∧ x2 ≤ (q2 : Int) ∧ (q2 : Int) < x2 + x1 then h.2.2.1 I.2.2.2 q (q2 + x4.toNat - x2.toNat) else h.2.2.1 c' p' q2), h.2.2.2) c' p' = zhD h c' p' := by
            funext k
            exact if_neg fun z => hqq ⟨z.1, z.2.1⟩
          rw [e9]
          exact q2
    · obtain ⟨b1, b2, b3, b4⟩ := a9 i hi
      refine ⟨b1, b2, b3, fun j hj => ?_⟩
      have e9 := b4 j hj
      have e8 : zhD (h.1, h.2.1, (fun (c' p' q2 : Nat) => if c' = I.2.2.2 ∧ p' = q ∧ x2 ≤ (q2 : Int) ∧ (q2 : Int) < x2 + x1 then h.2.2.1 I.2.2.2 q (q2 + x4.toNat - x2.toNat) else h.2.2.1 c' p' q2), h.2.2.2) 50 i j = zhD h 50 i j := if_neg fun z => hne z.1.symm
      rw [e8]
      exact e9
theorem zs_iret {Qc : Array Value → State → Outcome → State → Prop} {rt : Nat} (hH0 : H0 = s.heap) (hlocks : meth.locks = false) (hx : p.tables.exec = Jvm.exec) (hb : c.code = cc) (hkr : ∀ v h, kret v h = zin v h) (hQc : ∀ (v : Int) (h : zH), r = .inl (v, h) → ∀ (val : Option Value) (ws : va_W) (μ pos : Nat → Nat → Nat) (H : Heap) (locs : List Loc) (t : State), zAt s A H0 σ cA D b L xs al C0 S0 μ0 N0 h ws μ pos H locs → zrv σ μ (zhN h) rt v val → t.heap = H → Qc args s (.returned val) t) {I : zI} (hdg : decode cc pc = .ok (.ireturn, 1)) {ty : FieldType} (hty : meth.sig.returnType = some ty) (hz : ztr I.2.2.1 ty = true) (hz0 : ztag I.2.2.1 = 0) (hrt : rt = 0) {ls : List (Option zV)} {st : List zV} {h : zH} (hr : zoret 0 zPP al call I kont kret kthr pc ls st h = some r) : zGo p l e R s m args below meth c (MQ below Qc args s (zhC (zrh r) - C0) (zhS (zrh r) - S0) A) A H0 σ cA D b L xs al C0 S0 μ0 N0 nL r pc ls st h := by
  rcases st with _ | ⟨⟨t1, x1⟩, st⟩
  · cases hr
  · rcases st with _ | ⟨z, st⟩
    · simp only [zoret] at hr
      obtain ⟨hc, hr⟩ := zif_some hr
      cases Nat.eq_of_beq_eq_true hc
      obtain ⟨hr, hn1, hn2⟩ := znar_some hr
      rw [hkr] at hr
      obtain rfl : r = .inl (x1, h) := (Option.some.inj hr).symm
      refine ⟨⟨Nat.le_refl _, Nat.le_refl _⟩, fun ws μ pos H locs lsJ stJ hat hl hs => ?_⟩
      obtain ⟨v1, sJ1, rfl, hv1, hs1⟩ := hs.cons
      cases hs1.nil
      obtain ⟨i1, rfl, hi1⟩ := hv1.int
      refine W.zret hx hb hty (zfit (σ := σ) (μ := μ) (N := zhN h) hz (by rw [hz0]; exact zvr.i' hi1) hn1 hn2).1 (fun t ht hW => hQc x1 h rfl _ ws μ pos H locs t hat (Or.inr ⟨by rw [hrt]; decide, _, rfl, by rw [hrt]; exact zvr.i' hi1⟩) ht) hat.2.2.2.1.2.2 hdg hlocks
    · simp only [zoret] at hr
      cases hr
theorem zs_lret {Qc : Array Value → State → Outcome → State → Prop} {rt : Nat} (hH0 : H0 = s.heap) (hlocks : meth.locks = false) (hx : p.tables.exec = Jvm.exec) (hb : c.code = cc) (hkr : ∀ v h, kret v h = zin v h) (hQc : ∀ (v : Int) (h : zH), r = .inl (v, h) → ∀ (val : Option Value) (ws : va_W) (μ pos : Nat → Nat → Nat) (H : Heap) (locs : List Loc) (t : State), zAt s A H0 σ cA D b L xs al C0 S0 μ0 N0 h ws μ pos H locs → zrv σ μ (zhN h) rt v val → t.heap = H → Qc args s (.returned val) t) {I : zI} (hdg : decode cc pc = .ok (.lreturn, 1)) (hty : meth.sig.returnType = some .long) (hrt : rt = 1) {ls : List (Option zV)} {st : List zV} {h : zH} (hr : zoret 1 zPP al call I kont kret kthr pc ls st h = some r) : zGo p l e R s m args below meth c (MQ below Qc args s (zhC (zrh r) - C0) (zhS (zrh r) - S0) A) A H0 σ cA D b L xs al C0 S0 μ0 N0 nL r pc ls st h := by
  rcases st with _ | ⟨⟨t1, x1⟩, st⟩
  · cases hr
  · rcases st with _ | ⟨z, st⟩
    · simp only [zoret] at hr
      obtain ⟨hc, hr⟩ := zif_some hr
      cases Nat.eq_of_beq_eq_true hc
      obtain ⟨hr, hn1, hn2⟩ := znar_some hr
      rw [hkr] at hr
      obtain rfl : r = .inl (x1, h) := (Option.some.inj hr).symm
      refine ⟨⟨Nat.le_refl _, Nat.le_refl _⟩, fun ws μ pos H locs lsJ stJ hat hl hs => ?_⟩
      obtain ⟨v1, sJ1, rfl, hv1, hs1⟩ := hs.cons
      cases hs1.nil
      obtain ⟨i1, rfl, hi1⟩ := hv1.long
      refine W.lret hx hb hty (fun t ht hW => hQc x1 h rfl _ ws μ pos H locs t hat (Or.inr ⟨by rw [hrt]; decide, _, rfl, by rw [hrt]; exact zvr.l' hi1⟩) ht) hat.2.2.2.1.2.2 hdg hlocks
    · simp only [zoret] at hr
      cases hr
theorem zs_fret {Qc : Array Value → State → Outcome → State → Prop} {rt : Nat} (hH0 : H0 = s.heap) (hlocks : meth.locks = false) (hx : p.tables.exec = Jvm.exec) (hb : c.code = cc) (hkr : ∀ v h, kret v h = zin v h) (hQc : ∀ (v : Int) (h : zH), r = .inl (v, h) → ∀ (val : Option Value) (ws : va_W) (μ pos : Nat → Nat → Nat) (H : Heap) (locs : List Loc) (t : State), zAt s A H0 σ cA D b L xs al C0 S0 μ0 N0 h ws μ pos H locs → zrv σ μ (zhN h) rt v val → t.heap = H → Qc args s (.returned val) t) {I : zI} (hdg : decode cc pc = .ok (.freturn, 1)) (hty : meth.sig.returnType = some .float) (hrt : rt = 5) {ls : List (Option zV)} {st : List zV} {h : zH} (hr : zoret 5 zPP al call I kont kret kthr pc ls st h = some r) : zGo p l e R s m args below meth c (MQ below Qc args s (zhC (zrh r) - C0) (zhS (zrh r) - S0) A) A H0 σ cA D b L xs al C0 S0 μ0 N0 nL r pc ls st h := by
  rcases st with _ | ⟨⟨t1, x1⟩, st⟩
  · cases hr
  · rcases st with _ | ⟨z, st⟩
    · simp only [zoret] at hr
      obtain ⟨hc, hr⟩ := zif_some hr
      cases Nat.eq_of_beq_eq_true hc
      obtain ⟨hr, hn1, hn2⟩ := znar_some hr
      rw [hkr] at hr
      obtain rfl : r = .inl (x1, h) := (Option.some.inj hr).symm
      refine ⟨⟨Nat.le_refl _, Nat.le_refl _⟩, fun ws μ pos H locs lsJ stJ hat hl hs => ?_⟩
      obtain ⟨v1, sJ1, rfl, hv1, hs1⟩ := hs.cons
      cases hs1.nil
      obtain ⟨i1, rfl, hi1⟩ := hv1.flt
      refine W.fret hx hb hty (fun t ht hW => hQc x1 h rfl _ ws μ pos H locs t hat (Or.inr ⟨by rw [hrt]; decide, _, rfl, by rw [hrt]; exact zvr.f' hi1⟩) ht) hat.2.2.2.1.2.2 hdg hlocks
    · simp only [zoret] at hr
      cases hr
theorem zs_dret {Qc : Array Value → State → Outcome → State → Prop} {rt : Nat} (hH0 : H0 = s.heap) (hlocks : meth.locks = false) (hx : p.tables.exec = Jvm.exec) (hb : c.code = cc) (hkr : ∀ v h, kret v h = zin v h) (hQc : ∀ (v : Int) (h : zH), r = .inl (v, h) → ∀ (val : Option Value) (ws : va_W) (μ pos : Nat → Nat → Nat) (H : Heap) (locs : List Loc) (t : State), zAt s A H0 σ cA D b L xs al C0 S0 μ0 N0 h ws μ pos H locs → zrv σ μ (zhN h) rt v val → t.heap = H → Qc args s (.returned val) t) {I : zI} (hdg : decode cc pc = .ok (.dreturn, 1)) (hty : meth.sig.returnType = some .double) (hrt : rt = 6) {ls : List (Option zV)} {st : List zV} {h : zH} (hr : zoret 6 zPP al call I kont kret kthr pc ls st h = some r) : zGo p l e R s m args below meth c (MQ below Qc args s (zhC (zrh r) - C0) (zhS (zrh r) - S0) A) A H0 σ cA D b L xs al C0 S0 μ0 N0 nL r pc ls st h := by
  rcases st with _ | ⟨⟨t1, x1⟩, st⟩
  · cases hr
  · rcases st with _ | ⟨z, st⟩
    · simp only [zoret] at hr
      obtain ⟨hc, hr⟩ := zif_some hr
      cases Nat.eq_of_beq_eq_true hc
      obtain ⟨hr, hn1, hn2⟩ := znar_some hr
      rw [hkr] at hr
      obtain rfl : r = .inl (x1, h) := (Option.some.inj hr).symm
      refine ⟨⟨Nat.le_refl _, Nat.le_refl _⟩, fun ws μ pos H locs lsJ stJ hat hl hs => ?_⟩
      obtain ⟨v1, sJ1, rfl, hv1, hs1⟩ := hs.cons
      cases hs1.nil
      obtain ⟨i1, rfl, hi1⟩ := hv1.dbl
      refine W.dret hx hb hty (fun t ht hW => hQc x1 h rfl _ ws μ pos H locs t hat (Or.inr ⟨by rw [hrt]; decide, _, rfl, by rw [hrt]; exact zvr.d' hi1⟩) ht) hat.2.2.2.1.2.2 hdg hlocks
    · simp only [zoret] at hr
      cases hr
theorem zs_aret {Qc : Array Value → State → Outcome → State → Prop} {rt : Nat} (hH0 : H0 = s.heap) (hlocks : meth.locks = false) (hx : p.tables.exec = Jvm.exec) (hb : c.code = cc) (hkr : ∀ v h, kret v h = zin v h) (hQc : ∀ (v : Int) (h : zH), r = .inl (v, h) → ∀ (val : Option Value) (ws : va_W) (μ pos : Nat → Nat → Nat) (H : Heap) (locs : List Loc) (t : State), zAt s A H0 σ cA D b L xs al C0 S0 μ0 N0 h ws μ pos H locs → zrv σ μ (zhN h) rt v val → t.heap = H → Qc args s (.returned val) t) {I : zI} (hdg : decode cc pc = .ok (.areturn, 1)) {ty : FieldType} (hty : meth.sig.returnType = some ty) (hta : (∃ n, ty = .object n) ∨ ∃ t, ty = .array t) (hrt : rt = I.2.2.2) (hrt9 : 100 ≤ I.2.2.2) {ls : List (Option zV)} {st : List zV} {h : zH} (hr : zoaret zPP al call I kont kret kthr pc ls st h = some r) : zGo p l e R s m args below meth c (MQ below Qc args s (zhC (zrh r) - C0) (zhS (zrh r) - S0) A) A H0 σ cA D b L xs al C0 S0 μ0 N0 nL r pc ls st h := by
  rcases st with _ | ⟨⟨t1, x1⟩, st⟩
  · cases hr
  · rcases st with _ | ⟨z, st⟩
    · simp only [zoaret] at hr
      obtain ⟨hc, hr⟩ := zif_some hr
      obtain ⟨hc1, hc2⟩ := zand_t hc
      rw [hkr] at hr
      obtain rfl : r = .inl (x1, h) := (Option.some.inj hr).symm
      refine ⟨⟨Nat.le_refl _, Nat.le_refl _⟩, fun ws μ pos H locs lsJ stJ hat hl hs => ?_⟩
      obtain ⟨v1, sJ1, rfl, hv1, hs1⟩ := hs.cons
      cases hs1.nil
      rw [Nat.eq_of_beq_eq_true hc2] at hv1
      refine W.aret hx hb hty hta ?_ (fun t ht hW => hQc x1 h rfl _ ws μ pos H locs t hat (Or.inr ⟨by omega, _, rfl, by rw [hrt]; exact hv1⟩) ht) hat.2.2.2.1.2.2 hdg hlocks
      rcases hv1.ref hrt9 with ⟨-, z⟩ | ⟨-, -, z⟩
      · exact Or.inl z
      · exact Or.inr ⟨_, z⟩
    · simp only [zoaret] at hr
      cases hr
theorem zs_vret {Qc : Array Value → State → Outcome → State → Prop} {rt : Nat} (hH0 : H0 = s.heap) (hlocks : meth.locks = false) (hx : p.tables.exec = Jvm.exec) (hb : c.code = cc) (hkr : ∀ v h, kret v h = zin v h) (hQc : ∀ (v : Int) (h : zH), r = .inl (v, h) → ∀ (val : Option Value) (ws : va_W) (μ pos : Nat → Nat → Nat) (H : Heap) (locs : List Loc) (t : State), zAt s A H0 σ cA D b L xs al C0 S0 μ0 N0 h ws μ pos H locs → zrv σ μ (zhN h) rt v val → t.heap = H → Qc args s (.returned val) t) {I : zI} (hdg : decode cc pc = .ok (.return_, 1)) (hty : meth.sig.returnType = none) (hrt : rt = 9) {ls : List (Option zV)} {st : List zV} {h : zH} (hr : zovret zPP al call I kont kret kthr pc ls st h = some r) : zGo p l e R s m args below meth c (MQ below Qc args s (zhC (zrh r) - C0) (zhS (zrh r) - S0) A) A H0 σ cA D b L xs al C0 S0 μ0 N0 nL r pc ls st h := by
  rcases st with _ | ⟨z, st⟩
  · simp only [zovret] at hr
    rw [hkr] at hr
    obtain rfl : r = .inl (0, h) := (Option.some.inj hr).symm
    refine ⟨⟨Nat.le_refl _, Nat.le_refl _⟩, fun ws μ pos H locs lsJ stJ hat hl hs => ?_⟩
    cases hs.nil
    exact W.vret hx hb hty (fun t ht hW => hQc 0 h rfl _ ws μ pos H locs t hat (Or.inl ⟨hrt, rfl⟩) ht) hat.2.2.2.1.2.2 hdg hlocks
  · cases hr
end
