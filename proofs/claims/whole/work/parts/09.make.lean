/-! INSTRUCTIONS: making, the script, copies, switches -/
section
variable {p : Program} {l : Launch} {e : Env} {R : Room} {s : State} {m : MethodId} {args : Array Value} {below : List Frame} {meth : Method} {c : Code} {Q : State → Prop} {A : Nat → Prop} {H0 : Heap} {σ : Nat → Nat} {cA : Nat → ClassId} {D : va_G} {b L : Nat} {xs : Nat → Int32} {al : Bool} {C0 S0 : Nat} {μ0 : Nat → Nat → Nat} {N0 : Nat → Nat} {nL : Nat}
variable {r : zRes} {kont : Nat → List (Option zV) → List zV → zH → Option zRes} {kret : Int → zH → Option zRes} {kthr : Nat → zH → Option zRes} {call : Nat → List Int → zH → (Int → zH → Option zRes) → (Nat → zH → Option zRes) → Option zRes} {cc : ByteArray} {own : String} {pc : Nat}
theorem zdef_v {e : Nat} {ty : FieldType} (ht : ztr e ty = true) (μ : Nat → Nat → Nat) (N : Nat → Nat) : zvr σ μ N (ztag e) (zdef e) (defaultValue ty) := by
  unfold ztr at ht
  split at ht
  · exact zvr.i' rfl
  · exact zvr.i' rfl
  · exact zvr.i' rfl
  · exact zvr.l' rfl
  · have h3 := Nat.le_of_ble_eq_true ht
    have h4 : ztag e = e := by unfold ztag; split <;> first | omega | rfl
    rw [h4]
    unfold zdef
    rw [ht]
    exact zvr.n' h3
  · have h3 := Nat.le_of_ble_eq_true ht
    have h4 : ztag e = e := by unfold ztag; split <;> first | omega | rfl
    rw [h4]
    unfold zdef
    rw [ht]
    exact zvr.n' h3
  · cases ht
theorem zs_new (hx : p.tables.exec = Jvm.exec) (hb : c.code = cc) (hk : ∀ pc ls st h, kont pc ls st h = some r → zGo p l e R s m args below meth c Q A H0 σ cA D b L xs al C0 S0 μ0 N0 nL r pc ls st h) (hts : ∀ w ∈ zT, w.before args s = true) (hcw : ∀ c, c < 13 → ∀ w ∈ u_ws (zCn c) (zCf c) (zCk c), w ∈ zT) (hown : s.vm.findClass own = some m.cls) (hK : va_K D zcl (ztys cA) s) (hA : ∀ q, H0.size ≤ q → A q) (hRc : zhC (zrh r) - C0 ≤ R.cells) (hRs : zhS (zrh r) - S0 ≤ R.slots) {I : zI} (hdg : decode cc pc = .ok (.new I.2.2.1, 3)) (hw1 : Cond.classLink own I.2.2.1 (zCn I.2.2.2) ∈ zT) (hw2 : Cond.instantiable (zCn I.2.2.2) (zCk I.2.2.2) ∈ zT) (hw3 : Cond.initialized (zCn I.2.2.2) ∈ zT) {ls : List (Option zV)} {st : List zV} {h : zH} (hr : zonew zPP al call I kont kret kthr pc ls st h = some r) : zGo p l e R s m args below meth c Q A H0 σ cA D b L xs al C0 S0 μ0 N0 nL r pc ls st h := by
  simp only [zonew] at hr
  obtain ⟨hc, hr⟩ := zif_some hr
  obtain ⟨hal, hc2⟩ := zand_t hc
  have hc13 : I.2.2.2 < 13 := Nat.lt_succ_of_le (Nat.le_of_ble_eq_true hc2)
  unfold zlet at hr
  obtain ⟨hm, hg⟩ := hk _ _ _ _ hr
  have hm1 : zhC h + 1 ≤ zhC (zrh r) := hm.1
  have hm2 : zhS h + znf zPP I.2.2.2 ≤ zhS (zrh r) := hm.2
  refine ⟨⟨by omega, by omega⟩, fun ws μ pos H locs lsJ stJ hat hl hs => ?_⟩
  have h6 : C0 ≤ zhC h := hat.2.2.2.2.2.1
  have h7 : S0 ≤ zhS h := hat.2.2.2.2.2.2.1
  have hck := (zC_ok _ hc13).1
  have hfs : ∀ k, k < znf zPP I.2.2.2 → ((List.range (znf zPP I.2.2.2)).map fun k => defaultValue (zCt I.2.2.2 k))[k]? = some (defaultValue (zCt I.2.2.2 k)) := fun k hk => by
    rw [List.getElem?_map, List.getElem?_range hk]
    rfl
  refine va_new (ci := I.2.2.2) (fs := (List.range (znf zPP I.2.2.2)).map fun k => defaultValue (zCt I.2.2.2 k)) hx hb hts (hcw _ hc13) (zCt I.2.2.2) (fun k hk => ((zC_ok _ hc13).2 k hk).2) hown (hts _ hw1) (hts _ hw2) (hts _ hw3) hK hat.2.1 hat.2.2.1 hat.2.2.2.1 hA (zcl_at hc13) (fun j hj => ?_) (by omega) (by rw [hck]; omega) hdg (fun q H1 hP1 hD1 hS1 => ?_)
  · unfold vp_V
    rw [List.getD_eq_getElem?_getD, hfs j (by rw [← hck]; exact hj)]
    rfl
  have hat' := hat.new (c := I.2.2.2) (len := 0) (slots := znf zPP I.2.2.2) (f := fun k => zdef (zft zPP I.2.2.2 k)) (by omega) hal (Or.inl ⟨hc13, _, rfl, by simp, fun k hk => ⟨_, hfs k hk, zdef_v ((zC_ok _ hc13).2 k (by rw [hck]; exact hk)).1 _ _⟩⟩) hP1 hD1 hS1
  have e1 : zhC h - C0 + 1 = zhC (znew h I.2.2.2 0 (znf zPP I.2.2.2) (fun k => zdef (zft zPP I.2.2.2 k))) - C0 := by show _ = (zhC h + 1) - C0; omega
  have e2 : zhS h - S0 + zCk I.2.2.2 = zhS (znew h I.2.2.2 0 (znf zPP I.2.2.2) (fun k => zdef (zft zPP I.2.2.2 k))) - S0 := by rw [hck]; show _ = (zhS h + znf zPP I.2.2.2) - S0; omega
  rw [e1, e2]
  refine hg _ _ _ H1 locs lsJ _ hat' (hl.mono zmu_N) ⟨?_, hs.mono zmu_N⟩
  have h8 : zmu h I.2.2.2 μ q I.2.2.2 (zhN h I.2.2.2) = q := zmu_at
  have h9 := zvr.r' (σ := σ) (μ := zmu h I.2.2.2 μ q) (N := zhN (znew h I.2.2.2 0 (znf zPP I.2.2.2) (fun k => zdef (zft zPP I.2.2.2 k)))) (t := 100 + I.2.2.2) (by omega) (x := (zhN h I.2.2.2 : Int)) (by omega) (by rw [Nat.add_sub_cancel_left, zhN_new, if_pos rfl]; omega)
  rw [Nat.add_sub_cancel_left, Int.toNat_natCast, h8] at h9
  exact h9
theorem ztys_K (hK : va_K D zcl (ztys cA) s) {e : Nat} (he : e ∈ zes) : va_RA s (cA e) (zty e) := by
  obtain ⟨q, hq⟩ := ztys_at cA he
  exact (hK.2 q _ hq).2
theorem zRA_one {U : State} {c1 c2 : ClassId} {ty : FieldType} (h1 : va_RA U c1 ty) (h2 : va_RA U c2 ty) : c1 = c2 := by
  unfold va_RA at h1 h2
  split at h1
  · obtain ⟨_, _, _, _, _, a⟩ := h1
    obtain ⟨_, _, _, _, _, b'⟩ := h2
    exact Option.some.inj (a.symm.trans b')
  · exact Option.some.inj (h1.symm.trans (by split at h2 <;> first | (exfalso; simp_all; done) | exact h2))
theorem zs_newa_i (hx : p.tables.exec = Jvm.exec) (hb : c.code = cc) (hk : ∀ pc ls st h, kont pc ls st h = some r → zGo p l e R s m args below meth c Q A H0 σ cA D b L xs al C0 S0 μ0 N0 nL r pc ls st h) (hA : ∀ q, H0.size ≤ q → A q) (hRc : zhC (zrh r) - C0 ≤ R.cells) (hRs : zhS (zrh r) - S0 ≤ R.slots) (hts : ∀ w ∈ zT, w.before args s = true) (hK : va_K D zcl (ztys cA) s) {I : zI} (hel : zft zPP I.2.2.2 0 = 0) (hdg : decode cc pc = .ok (.newarray .int, 2)) (hw : Cond.arrayClass (newarray.typeOf .int) ∈ zT) {ls : List (Option zV)} {st : List zV} {h : zH} (hr : zonewa zPP al call I kont kret kthr pc ls st h = some r) : zGo p l e R s m args below meth c Q A H0 σ cA D b L xs al C0 S0 μ0 N0 nL r pc ls st h := by
  rcases st with _ | ⟨⟨t1, x1⟩, st⟩
  · cases hr
  · simp only [zonewa] at hr
    obtain ⟨hc, hr⟩ := zif_some hr
    obtain ⟨hc, he⟩ := zand_t hc
    obtain ⟨hc, h13⟩ := zand_t hc
    obtain ⟨hc1, hal⟩ := zand_t hc
    have h13 := Nat.le_of_ble_eq_true h13
    obtain ⟨n, hn, hnl, hr⟩ := zix_some hr
    unfold zlet at hr
    obtain ⟨hm, hg⟩ := hk _ _ _ _ hr
    have hm1 : zhC h + 1 ≤ zhC (zrh r) := hm.1
    have hm2 : zhS h + n ≤ zhS (zrh r) := hm.2
    refine ⟨⟨by omega, by omega⟩, fun ws μ pos H locs lsJ stJ hat hl hs => ?_⟩
    have h6 : C0 ≤ zhC h := hat.2.2.2.2.2.1
    have h7 : S0 ≤ zhS h := hat.2.2.2.2.2.2.1
    obtain ⟨v1, sJ1, rfl, hv1, hs1⟩ := hs.cons
    rw [Nat.eq_of_beq_eq_true hc1] at hv1
    obtain ⟨i1, rfl, hi1⟩ := hv1.int
    rw [hn] at hi1
    obtain ⟨k1, k2⟩ := zix_in hi1 (show n < n + 1 by omega)
    refine va_newa (atype := .int) (a0 := (n, .inl (fun _ => 0))) hx hb (hts _ hw) rfl hK hat.2.1 hat.2.2.1 hat.2.2.2.1 hA (fun _ => rfl) (fun z => k1 (Or.inl z)) k2 (by show n * 4 ≤ _; omega) (by omega) (by omega) hdg (fun q cA' H1 hK1 hP1 hD1 hS1 => ?_)
    have hcA : cA' = cA 0 := zRA_one (show va_RA s cA' .int from (hK1.2 (ztys cA).length (cA', newarray.typeOf .int) (by simp)).2) (ztys_K hK (e := 0) (by decide))
    subst hcA
    have hat' := hat.new (c := I.2.2.2) (len := n) (slots := n) (f := fun _ => 0) (zne50 hel (by decide)) hal (Or.inr ⟨h13, hnl, _, by rw [hel], ⟨rfl, by rw [hel]; exact Or.inl ⟨by decide, _, rfl, fun _ _ => rfl⟩⟩⟩) hP1 hD1 hS1
    have e1 : zhC h - C0 + 1 = zhC (znew h I.2.2.2 n n (fun _ => 0)) - C0 := by show _ = (zhC h + 1) - C0; omega
    have e2 : zhS h - S0 + n = zhS (znew h I.2.2.2 n n (fun _ => 0)) - S0 := by show _ = (zhS h + n) - S0; omega
    rw [e1, e2]
    refine hg _ _ _ H1 locs lsJ _ hat' (hl.mono zmu_N) ⟨?_, hs1.mono zmu_N⟩
    have h8 : zmu h I.2.2.2 μ q I.2.2.2 (zhN h I.2.2.2) = q := zmu_at
    have h9 := zvr.r' (σ := σ) (μ := zmu h I.2.2.2 μ q) (N := zhN (znew h I.2.2.2 n n (fun _ => 0))) (t := 100 + I.2.2.2) (by omega) (x := (zhN h I.2.2.2 : Int)) (by omega) (by rw [Nat.add_sub_cancel_left, zhN_new, if_pos rfl]; omega)
    rw [Nat.add_sub_cancel_left, Int.toNat_natCast, h8] at h9
    exact h9
theorem zs_newa_z (hx : p.tables.exec = Jvm.exec) (hb : c.code = cc) (hk : ∀ pc ls st h, kont pc ls st h = some r → zGo p l e R s m args below meth c Q A H0 σ cA D b L xs al C0 S0 μ0 N0 nL r pc ls st h) (hA : ∀ q, H0.size ≤ q → A q) (hRc : zhC (zrh r) - C0 ≤ R.cells) (hRs : zhS (zrh r) - S0 ≤ R.slots) (hts : ∀ w ∈ zT, w.before args s = true) (hK : va_K D zcl (ztys cA) s) {I : zI} (hel : zft zPP I.2.2.2 0 = 1) (hdg : decode cc pc = .ok (.newarray .boolean, 2)) (hw : Cond.arrayClass (newarray.typeOf .boolean) ∈ zT) {ls : List (Option zV)} {st : List zV} {h : zH} (hr : zonewa zPP al call I kont kret kthr pc ls st h = some r) : zGo p l e R s m args below meth c Q A H0 σ cA D b L xs al C0 S0 μ0 N0 nL r pc ls st h := by
  rcases st with _ | ⟨⟨t1, x1⟩, st⟩
  · cases hr
  · simp only [zonewa] at hr
    obtain ⟨hc, hr⟩ := zif_some hr
    obtain ⟨hc, he⟩ := zand_t hc
    obtain ⟨hc, h13⟩ := zand_t hc
    obtain ⟨hc1, hal⟩ := zand_t hc
    have h13 := Nat.le_of_ble_eq_true h13
    obtain ⟨n, hn, hnl, hr⟩ := zix_some hr
    unfold zlet at hr
    obtain ⟨hm, hg⟩ := hk _ _ _ _ hr
    have hm1 : zhC h + 1 ≤ zhC (zrh r) := hm.1
    have hm2 : zhS h + n ≤ zhS (zrh r) := hm.2
    refine ⟨⟨by omega, by omega⟩, fun ws μ pos H locs lsJ stJ hat hl hs => ?_⟩
    have h6 : C0 ≤ zhC h := hat.2.2.2.2.2.1
    have h7 : S0 ≤ zhS h := hat.2.2.2.2.2.2.1
    obtain ⟨v1, sJ1, rfl, hv1, hs1⟩ := hs.cons
    rw [Nat.eq_of_beq_eq_true hc1] at hv1
    obtain ⟨i1, rfl, hi1⟩ := hv1.int
    rw [hn] at hi1
    obtain ⟨k1, k2⟩ := zix_in hi1 (show n < n + 1 by omega)
    refine va_newa (atype := .boolean) (a0 := (n, .inl (fun _ => 0))) hx hb (hts _ hw) rfl hK hat.2.1 hat.2.2.1 hat.2.2.2.1 hA (fun _ => rfl) (fun z => k1 (Or.inl z)) k2 (by show n * 1 ≤ _; omega) (by omega) (by omega) hdg (fun q cA' H1 hK1 hP1 hD1 hS1 => ?_)
    have hcA : cA' = cA 1 := zRA_one (show va_RA s cA' .boolean from (hK1.2 (ztys cA).length (cA', newarray.typeOf .boolean) (by simp)).2) (ztys_K hK (e := 1) (by decide))
    subst hcA
    have hat' := hat.new (c := I.2.2.2) (len := n) (slots := n) (f := fun _ => 0) (zne50 hel (by decide)) hal (Or.inr ⟨h13, hnl, _, by rw [hel], ⟨rfl, by rw [hel]; exact Or.inl ⟨by decide, _, rfl, fun _ _ => rfl⟩⟩⟩) hP1 hD1 hS1
    have e1 : zhC h - C0 + 1 = zhC (znew h I.2.2.2 n n (fun _ => 0)) - C0 := by show _ = (zhC h + 1) - C0; omega
    have e2 : zhS h - S0 + n = zhS (znew h I.2.2.2 n n (fun _ => 0)) - S0 := by show _ = (zhS h + n) - S0; omega
    rw [e1, e2]
    refine hg _ _ _ H1 locs lsJ _ hat' (hl.mono zmu_N) ⟨?_, hs1.mono zmu_N⟩
    have h8 : zmu h I.2.2.2 μ q I.2.2.2 (zhN h I.2.2.2) = q := zmu_at
    have h9 := zvr.r' (σ := σ) (μ := zmu h I.2.2.2 μ q) (N := zhN (znew h I.2.2.2 n n (fun _ => 0))) (t := 100 + I.2.2.2) (by omega) (x := (zhN h I.2.2.2 : Int)) (by omega) (by rw [Nat.add_sub_cancel_left, zhN_new, if_pos rfl]; omega)
    rw [Nat.add_sub_cancel_left, Int.toNat_natCast, h8] at h9
    exact h9
theorem zs_newa_c (hx : p.tables.exec = Jvm.exec) (hb : c.code = cc) (hk : ∀ pc ls st h, kont pc ls st h = some r → zGo p l e R s m args below meth c Q A H0 σ cA D b L xs al C0 S0 μ0 N0 nL r pc ls st h) (hA : ∀ q, H0.size ≤ q → A q) (hRc : zhC (zrh r) - C0 ≤ R.cells) (hRs : zhS (zrh r) - S0 ≤ R.slots) (hts : ∀ w ∈ zT, w.before args s = true) (hK : va_K D zcl (ztys cA) s) {I : zI} (hel : zft zPP I.2.2.2 0 = 2) (hdg : decode cc pc = .ok (.newarray .char, 2)) (hw : Cond.arrayClass (newarray.typeOf .char) ∈ zT) {ls : List (Option zV)} {st : List zV} {h : zH} (hr : zonewa zPP al call I kont kret kthr pc ls st h = some r) : zGo p l e R s m args below meth c Q A H0 σ cA D b L xs al C0 S0 μ0 N0 nL r pc ls st h := by
  rcases st with _ | ⟨⟨t1, x1⟩, st⟩
  · cases hr
  · simp only [zonewa] at hr
    obtain ⟨hc, hr⟩ := zif_some hr
    obtain ⟨hc, he⟩ := zand_t hc
    obtain ⟨hc, h13⟩ := zand_t hc
    obtain ⟨hc1, hal⟩ := zand_t hc
    have h13 := Nat.le_of_ble_eq_true h13
    obtain ⟨n, hn, hnl, hr⟩ := zix_some hr
    unfold zlet at hr
    obtain ⟨hm, hg⟩ := hk _ _ _ _ hr
    have hm1 : zhC h + 1 ≤ zhC (zrh r) := hm.1
    have hm2 : zhS h + n ≤ zhS (zrh r) := hm.2
    refine ⟨⟨by omega, by omega⟩, fun ws μ pos H locs lsJ stJ hat hl hs => ?_⟩
    have h6 : C0 ≤ zhC h := hat.2.2.2.2.2.1
    have h7 : S0 ≤ zhS h := hat.2.2.2.2.2.2.1
    obtain ⟨v1, sJ1, rfl, hv1, hs1⟩ := hs.cons
    rw [Nat.eq_of_beq_eq_true hc1] at hv1
    obtain ⟨i1, rfl, hi1⟩ := hv1.int
    rw [hn] at hi1
    obtain ⟨k1, k2⟩ := zix_in hi1 (show n < n + 1 by omega)
    refine va_newa (atype := .char) (a0 := (n, .inl (fun _ => 0))) hx hb (hts _ hw) rfl hK hat.2.1 hat.2.2.1 hat.2.2.2.1 hA (fun _ => rfl) (fun z => k1 (Or.inl z)) k2 (by show n * 2 ≤ _; omega) (by omega) (by omega) hdg (fun q cA' H1 hK1 hP1 hD1 hS1 => ?_)
    have hcA : cA' = cA 2 := zRA_one (show va_RA s cA' .char from (hK1.2 (ztys cA).length (cA', newarray.typeOf .char) (by simp)).2) (ztys_K hK (e := 2) (by decide))
    subst hcA
    have hat' := hat.new (c := I.2.2.2) (len := n) (slots := n) (f := fun _ => 0) (zne50 hel (by decide)) hal (Or.inr ⟨h13, hnl, _, by rw [hel], ⟨rfl, by rw [hel]; exact Or.inl ⟨by decide, _, rfl, fun _ _ => rfl⟩⟩⟩) hP1 hD1 hS1
    have e1 : zhC h - C0 + 1 = zhC (znew h I.2.2.2 n n (fun _ => 0)) - C0 := by show _ = (zhC h + 1) - C0; omega
    have e2 : zhS h - S0 + n = zhS (znew h I.2.2.2 n n (fun _ => 0)) - S0 := by show _ = (zhS h + n) - S0; omega
    rw [e1, e2]
    refine hg _ _ _ H1 locs lsJ _ hat' (hl.mono zmu_N) ⟨?_, hs1.mono zmu_N⟩
    have h8 : zmu h I.2.2.2 μ q I.2.2.2 (zhN h I.2.2.2) = q := zmu_at
    have h9 := zvr.r' (σ := σ) (μ := zmu h I.2.2.2 μ q) (N := zhN (znew h I.2.2.2 n n (fun _ => 0))) (t := 100 + I.2.2.2) (by omega) (x := (zhN h I.2.2.2 : Int)) (by omega) (by rw [Nat.add_sub_cancel_left, zhN_new, if_pos rfl]; omega)
    rw [Nat.add_sub_cancel_left, Int.toNat_natCast, h8] at h9
    exact h9
theorem zs_newa_l (hx : p.tables.exec = Jvm.exec) (hb : c.code = cc) (hk : ∀ pc ls st h, kont pc ls st h = some r → zGo p l e R s m args below meth c Q A H0 σ cA D b L xs al C0 S0 μ0 N0 nL r pc ls st h) (hA : ∀ q, H0.size ≤ q → A q) (hRc : zhC (zrh r) - C0 ≤ R.cells) (hRs : zhS (zrh r) - S0 ≤ R.slots) (hts : ∀ w ∈ zT, w.before args s = true) (hK : va_K D zcl (ztys cA) s) {I : zI} (hel : zft zPP I.2.2.2 0 = 3) (hdg : decode cc pc = .ok (.newarray .long, 2)) (hw : Cond.arrayClass (newarray.typeOf .long) ∈ zT) {ls : List (Option zV)} {st : List zV} {h : zH} (hr : zonewa zPP al call I kont kret kthr pc ls st h = some r) : zGo p l e R s m args below meth c Q A H0 σ cA D b L xs al C0 S0 μ0 N0 nL r pc ls st h := by
  rcases st with _ | ⟨⟨t1, x1⟩, st⟩
  · cases hr
  · simp only [zonewa] at hr
    obtain ⟨hc, hr⟩ := zif_some hr
    obtain ⟨hc, he⟩ := zand_t hc
    obtain ⟨hc, h13⟩ := zand_t hc
    obtain ⟨hc1, hal⟩ := zand_t hc
    have h13 := Nat.le_of_ble_eq_true h13
    obtain ⟨n, hn, hnl, hr⟩ := zix_some hr
    unfold zlet at hr
    obtain ⟨hm, hg⟩ := hk _ _ _ _ hr
    have hm1 : zhC h + 1 ≤ zhC (zrh r) := hm.1
    have hm2 : zhS h + n ≤ zhS (zrh r) := hm.2
    refine ⟨⟨by omega, by omega⟩, fun ws μ pos H locs lsJ stJ hat hl hs => ?_⟩
    have h6 : C0 ≤ zhC h := hat.2.2.2.2.2.1
    have h7 : S0 ≤ zhS h := hat.2.2.2.2.2.2.1
    obtain ⟨v1, sJ1, rfl, hv1, hs1⟩ := hs.cons
    rw [Nat.eq_of_beq_eq_true hc1] at hv1
    obtain ⟨i1, rfl, hi1⟩ := hv1.int
    rw [hn] at hi1
    obtain ⟨k1, k2⟩ := zix_in hi1 (show n < n + 1 by omega)
    refine va_newa (atype := .long) (a0 := (n, .inr (.inl (fun _ => 0)))) hx hb (hts _ hw) rfl hK hat.2.1 hat.2.2.1 hat.2.2.2.1 hA (fun _ => rfl) (fun z => k1 (Or.inl z)) k2 (by show n * 8 ≤ _; omega) (by omega) (by omega) hdg (fun q cA' H1 hK1 hP1 hD1 hS1 => ?_)
    have hcA : cA' = cA 3 := zRA_one (show va_RA s cA' .long from (hK1.2 (ztys cA).length (cA', newarray.typeOf .long) (by simp)).2) (ztys_K hK (e := 3) (by decide))
    subst hcA
    have hat' := hat.new (c := I.2.2.2) (len := n) (slots := n) (f := fun _ => 0) (zne50 hel (by decide)) hal (Or.inr ⟨h13, hnl, _, by rw [hel], ⟨rfl, by rw [hel]; exact Or.inr (Or.inl ⟨rfl, _, rfl, fun _ _ => rfl⟩)⟩⟩) hP1 hD1 hS1
    have e1 : zhC h - C0 + 1 = zhC (znew h I.2.2.2 n n (fun _ => 0)) - C0 := by show _ = (zhC h + 1) - C0; omega
    have e2 : zhS h - S0 + n = zhS (znew h I.2.2.2 n n (fun _ => 0)) - S0 := by show _ = (zhS h + n) - S0; omega
    rw [e1, e2]
    refine hg _ _ _ H1 locs lsJ _ hat' (hl.mono zmu_N) ⟨?_, hs1.mono zmu_N⟩
    have h8 : zmu h I.2.2.2 μ q I.2.2.2 (zhN h I.2.2.2) = q := zmu_at
    have h9 := zvr.r' (σ := σ) (μ := zmu h I.2.2.2 μ q) (N := zhN (znew h I.2.2.2 n n (fun _ => 0))) (t := 100 + I.2.2.2) (by omega) (x := (zhN h I.2.2.2 : Int)) (by omega) (by rw [Nat.add_sub_cancel_left, zhN_new, if_pos rfl]; omega)
    rw [Nat.add_sub_cancel_left, Int.toNat_natCast, h8] at h9
    exact h9
theorem zs_newa_d (hx : p.tables.exec = Jvm.exec) (hb : c.code = cc) (hk : ∀ pc ls st h, kont pc ls st h = some r → zGo p l e R s m args below meth c Q A H0 σ cA D b L xs al C0 S0 μ0 N0 nL r pc ls st h) (hA : ∀ q, H0.size ≤ q → A q) (hRc : zhC (zrh r) - C0 ≤ R.cells) (hRs : zhS (zrh r) - S0 ≤ R.slots) (hts : ∀ w ∈ zT, w.before args s = true) (hK : va_K D zcl (ztys cA) s) {I : zI} (hel : zft zPP I.2.2.2 0 = 6) (hdg : decode cc pc = .ok (.newarray .double, 2)) (hw : Cond.arrayClass (newarray.typeOf .double) ∈ zT) {ls : List (Option zV)} {st : List zV} {h : zH} (hr : zonewa zPP al call I kont kret kthr pc ls st h = some r) : zGo p l e R s m args below meth c Q A H0 σ cA D b L xs al C0 S0 μ0 N0 nL r pc ls st h := by
  rcases st with _ | ⟨⟨t1, x1⟩, st⟩
  · cases hr
  · simp only [zonewa] at hr
    obtain ⟨hc, hr⟩ := zif_some hr
    obtain ⟨hc, he⟩ := zand_t hc
    obtain ⟨hc, h13⟩ := zand_t hc
    obtain ⟨hc1, hal⟩ := zand_t hc
    have h13 := Nat.le_of_ble_eq_true h13
    obtain ⟨n, hn, hnl, hr⟩ := zix_some hr
    unfold zlet at hr
    obtain ⟨hm, hg⟩ := hk _ _ _ _ hr
    have hm1 : zhC h + 1 ≤ zhC (zrh r) := hm.1
    have hm2 : zhS h + n ≤ zhS (zrh r) := hm.2
    refine ⟨⟨by omega, by omega⟩, fun ws μ pos H locs lsJ stJ hat hl hs => ?_⟩
    have h6 : C0 ≤ zhC h := hat.2.2.2.2.2.1
    have h7 : S0 ≤ zhS h := hat.2.2.2.2.2.2.1
    obtain ⟨v1, sJ1, rfl, hv1, hs1⟩ := hs.cons
    rw [Nat.eq_of_beq_eq_true hc1] at hv1
    obtain ⟨i1, rfl, hi1⟩ := hv1.int
    rw [hn] at hi1
    obtain ⟨k1, k2⟩ := zix_in hi1 (show n < n + 1 by omega)
    refine va_newa (atype := .double) (a0 := (n, .inr (.inr (.inr (.inl (fun _ => 0)))))) hx hb (hts _ hw) rfl hK hat.2.1 hat.2.2.1 hat.2.2.2.1 hA (fun _ => rfl) (fun z => k1 (Or.inl z)) k2 (by show n * 8 ≤ _; omega) (by omega) (by omega) hdg (fun q cA' H1 hK1 hP1 hD1 hS1 => ?_)
    have hcA : cA' = cA 6 := zRA_one (show va_RA s cA' .double from (hK1.2 (ztys cA).length (cA', newarray.typeOf .double) (by simp)).2) (ztys_K hK (e := 6) (by decide))
    subst hcA
    have hat' := hat.new (c := I.2.2.2) (len := n) (slots := n) (f := fun _ => 0) (zne50 hel (by decide)) hal (Or.inr ⟨h13, hnl, _, by rw [hel], ⟨rfl, by rw [hel]; exact Or.inr (Or.inr (Or.inl ⟨rfl, _, rfl, fun _ _ => rfl⟩))⟩⟩) hP1 hD1 hS1
    have e1 : zhC h - C0 + 1 = zhC (znew h I.2.2.2 n n (fun _ => 0)) - C0 := by show _ = (zhC h + 1) - C0; omega
    have e2 : zhS h - S0 + n = zhS (znew h I.2.2.2 n n (fun _ => 0)) - S0 := by show _ = (zhS h + n) - S0; omega
    rw [e1, e2]
    refine hg _ _ _ H1 locs lsJ _ hat' (hl.mono zmu_N) ⟨?_, hs1.mono zmu_N⟩
    have h8 : zmu h I.2.2.2 μ q I.2.2.2 (zhN h I.2.2.2) = q := zmu_at
    have h9 := zvr.r' (σ := σ) (μ := zmu h I.2.2.2 μ q) (N := zhN (znew h I.2.2.2 n n (fun _ => 0))) (t := 100 + I.2.2.2) (by omega) (x := (zhN h I.2.2.2 : Int)) (by omega) (by rw [Nat.add_sub_cancel_left, zhN_new, if_pos rfl]; omega)
    rw [Nat.add_sub_cancel_left, Int.toNat_natCast, h8] at h9
    exact h9
theorem zs_anew (hx : p.tables.exec = Jvm.exec) (hb : c.code = cc) (hk : ∀ pc ls st h, kont pc ls st h = some r → zGo p l e R s m args below meth c Q A H0 σ cA D b L xs al C0 S0 μ0 N0 nL r pc ls st h) (hA : ∀ q, H0.size ≤ q → A q) (hRc : zhC (zrh r) - C0 ≤ R.cells) (hRs : zhS (zrh r) - S0 ≤ R.slots) (hts : ∀ w ∈ zT, w.before args s = true) (hown : s.vm.findClass own = some m.cls) (hK : va_K D zcl (ztys cA) s) {I : zI} (hdg : decode cc pc = .ok (.anewarray I.2.2.1, 3)) (hw1 : Cond.classLink own I.2.2.1 (zCn (zft zPP I.2.2.2 0 - 100)) ∈ zT) (hao : va_AO (zCn (zft zPP I.2.2.2 0 - 100)) s) {ls : List (Option zV)} {st : List zV} {h : zH} (hr : zoanew zPP al call I kont kret kthr pc ls st h = some r) : zGo p l e R s m args below meth c Q A H0 σ cA D b L xs al C0 S0 μ0 N0 nL r pc ls st h := by
  rcases st with _ | ⟨⟨t1, x1⟩, st⟩
  · cases hr
  · simp only [zoanew] at hr
    obtain ⟨hc, hr⟩ := zif_some hr
    obtain ⟨hc, he⟩ := zand_t hc
    obtain ⟨hc, h13⟩ := zand_t hc
    obtain ⟨hc1, hal⟩ := zand_t hc
    have h13 := Nat.le_of_ble_eq_true h13
    have he := Nat.le_of_ble_eq_true he
    obtain ⟨n, hn, hnl, hr⟩ := zix_some hr
    unfold zlet at hr
    obtain ⟨hm, hg⟩ := hk _ _ _ _ hr
    have hm1 : zhC h + 1 ≤ zhC (zrh r) := hm.1
    have hm2 : zhS h + n ≤ zhS (zrh r) := hm.2
    refine ⟨⟨by omega, by omega⟩, fun ws μ pos H locs lsJ stJ hat hl hs => ?_⟩
    have h6 : C0 ≤ zhC h := hat.2.2.2.2.2.1
    have h7 : S0 ≤ zhS h := hat.2.2.2.2.2.2.1
    obtain ⟨v1, sJ1, rfl, hv1, hs1⟩ := hs.cons
    rw [Nat.eq_of_beq_eq_true hc1] at hv1
    obtain ⟨i1, rfl, hi1⟩ := hv1.int
    rw [hn] at hi1
    obtain ⟨k1, k2⟩ := zix_in hi1 (show n < n + 1 by omega)
    obtain ⟨m1, m2⟩ := zes_of he h13
    have h50 : I.2.2.2 ≠ 50 := by
      intro z
      rw [z] at he
      exact absurd he (by decide)
    refine va_newq hx hb hown (hts _ hw1) hao hK hat.2.1 hat.2.2.1 hat.2.2.2.1 hA (fun z => k1 (Or.inl z)) k2 (by omega) (by omega) (by omega) hdg (fun q cA' H1 hK1 hP1 hD1 hS1 => ?_)
    have hcA : cA' = cA (zft zPP I.2.2.2 0) := zRA_one (hK1.2 (ztys cA).length (cA', .object (zCn (zft zPP I.2.2.2 0 - 100))) (by simp)).2 (by have := ztys_K hK m1; rw [zty_ref he] at this; exact this)
    subst hcA
    have hat' := hat.new (c := I.2.2.2) (len := n) (slots := n) (f := fun _ => -1) h50 hal (Or.inr ⟨h13, hnl, _, rfl, ⟨rfl, Or.inr (Or.inr (Or.inr ⟨he, _, rfl, fun _ _ => Or.inl ⟨rfl, rfl⟩⟩))⟩⟩) hP1 hD1 hS1
    have e1 : zhC h - C0 + 1 = zhC (znew h I.2.2.2 n n (fun _ => -1)) - C0 := by show _ = (zhC h + 1) - C0; omega
    have e2 : zhS h - S0 + n = zhS (znew h I.2.2.2 n n (fun _ => -1)) - S0 := by show _ = (zhS h + n) - S0; omega
    rw [e1, e2]
    refine hg _ _ _ H1 locs lsJ _ hat' (hl.mono zmu_N) ⟨?_, hs1.mono zmu_N⟩
    have h8 : zmu h I.2.2.2 μ q I.2.2.2 (zhN h I.2.2.2) = q := zmu_at
    have h9 := zvr.r' (σ := σ) (μ := zmu h I.2.2.2 μ q) (N := zhN (znew h I.2.2.2 n n (fun _ => -1))) (t := 100 + I.2.2.2) (by omega) (x := (zhN h I.2.2.2 : Int)) (by omega) (by rw [Nat.add_sub_cancel_left, zhN_new, if_pos rfl]; omega)
    rw [Nat.add_sub_cancel_left, Int.toNat_natCast, h8] at h9
    exact h9
theorem zs_sld (hx : p.tables.exec = Jvm.exec) (hb : c.code = cc) (hk : ∀ pc ls st h, kont pc ls st h = some r → zGo p l e R s m args below meth c Q A H0 σ cA D b L xs al C0 S0 μ0 N0 nL r pc ls st h) (hX : va_X b L xs s H0) (hbl : b < H0.size) (hbA : ¬ A b) (hL : L < 100000) (hdg : decode cc pc = .ok (.iaload, 1)) {I : zI} {ls : List (Option zV)} {st : List zV} {h : zH} (hr : zosld zPP al call I kont kret kthr pc ls st h = some r) : zGo p l e R s m args below meth c Q A H0 σ cA D b L xs al C0 S0 μ0 N0 nL r pc ls st h := by
  rcases st with _ | ⟨⟨t1, x1⟩, _ | ⟨⟨t2, x2⟩, st⟩⟩
  · cases hr
  · cases hr
  · simp only [zosld] at hr
    obtain ⟨hc, hr⟩ := zif_some hr
    obtain ⟨hc, hal⟩ := zand_t hc
    obtain ⟨hc1, hc2⟩ := zand_t hc
    obtain ⟨q, hq, hr, hp⟩ := zobm_some (al := true) (show zobm true h 50 x2 _ = some r from hr)
    obtain ⟨j, hj, hjl, hr⟩ := zix_some hr
    obtain ⟨hm, hg⟩ := hk _ _ _ _ hr
    refine ⟨hm, fun ws μ pos H locs lsJ stJ hat hl hs => ?_⟩
    obtain ⟨v1, sJ1, rfl, hv1, hs1⟩ := hs.cons
    obtain ⟨v2, sJ2, rfl, hv2, hs2⟩ := hs1.cons
    rw [Nat.eq_of_beq_eq_true hc1] at hv1
    rw [Nat.eq_of_beq_eq_true hc2] at hv2
    have hp' : q < zhN h 50 := by
      rcases hp with ⟨-, z⟩ | ⟨z, -⟩
      · exact z
      · cases z
    obtain ⟨rfl, g2, g3, g4⟩ := hat.2.2.2.2.2.2.2.2 q hp'
    cases zref_at (c := 50) hq hv2
    rw [g2]
    rw [g3] at hjl
    obtain ⟨i1, rfl, hi1⟩ := hv1.int
    rw [hj] at hi1
    obtain ⟨k1, k2⟩ := zix_in hi1 hjl
    refine va_sld hx hb hX hbl hbA hat.2.2.2.1 k1 hdg ?_
    rw [k2]
    exact hg ws μ pos H locs lsJ _ hat hl ⟨zvr.i' (g4 j hjl).symm, hs2⟩
theorem zs_slen (hx : p.tables.exec = Jvm.exec) (hb : c.code = cc) (hk : ∀ pc ls st h, kont pc ls st h = some r → zGo p l e R s m args below meth c Q A H0 σ cA D b L xs al C0 S0 μ0 N0 nL r pc ls st h) (hX : va_X b L xs s H0) (hbl : b < H0.size) (hbA : ¬ A b) (hL : L < 100000) (hdg : decode cc pc = .ok (.arraylength, 1)) {I : zI} {ls : List (Option zV)} {st : List zV} {h : zH} (hr : zoslen zPP al call I kont kret kthr pc ls st h = some r) : zGo p l e R s m args below meth c Q A H0 σ cA D b L xs al C0 S0 μ0 N0 nL r pc ls st h := by
  rcases st with _ | ⟨⟨t1, x1⟩, st⟩
  · cases hr
  · simp only [zoslen] at hr
    obtain ⟨hc, hr⟩ := zif_some hr
    obtain ⟨hc1, hal⟩ := zand_t hc
    obtain ⟨q, hq, hr, hp⟩ := zobm_some (al := true) (show zobm true h 50 x1 _ = some r from hr)
    obtain ⟨hm, hg⟩ := hk _ _ _ _ hr
    refine ⟨hm, fun ws μ pos H locs lsJ stJ hat hl hs => ?_⟩
    obtain ⟨v1, sJ1, rfl, hv1, hs1⟩ := hs.cons
    rw [Nat.eq_of_beq_eq_true hc1] at hv1
    have hp' : q < zhN h 50 := by
      rcases hp with ⟨-, z⟩ | ⟨z, -⟩
      · exact z
      · cases z
    obtain ⟨rfl, g2, g3, g4⟩ := hat.2.2.2.2.2.2.2.2 q hp'
    cases zref_at (c := 50) hq hv1
    rw [g2]
    refine va_slen hx hb hX hbl hbA hat.2.2.2.1 hdg ?_
    exact hg ws μ pos H locs lsJ _ hat hl ⟨zvr.i' (by rw [g3]; exact nI_toInt (by omega)), hs1⟩
theorem zswt_lk {α : Type} {k : Nat → Option α} {y : α} {x : Int} {pc : Nat} {dd : Int} {d : Nat} (hd : (pc : Int) + dd = (d : Int)) : ∀ (tb : List (Int × Nat)) (ps : List (Int × Int)), tb.length = ps.length → (tb.zip ps).all (fun q => decide (q.1.1 = q.2.1) && decide ((pc : Int) + q.2.2 = (q.1.2 : Int))) = true → zswt tb d x k = some y → ∃ t : Nat, (pc : Int) + Op.lookupswitch.offset ps dd x = (t : Int) ∧ k t = some y
  | [], [], _, _, h => ⟨d, hd, h⟩
  | (a, t) :: tb, (a', o') :: ps, hl, ha, h => by
    rw [List.zip_cons_cons, List.all_cons, Bool.and_eq_true] at ha
    obtain ⟨h1, h2⟩ := zand_t ha.1
    have h1 : a = a' := of_decide_eq_true h1
    have h2 : (pc : Int) + o' = (t : Int) := of_decide_eq_true h2
    subst h1
    unfold zswt at h
    unfold Op.lookupswitch.offset
    split at h
    · rename_i hx
      subst hx
      exact ⟨t, by simpa using h2, h⟩
    · rename_i hx
      obtain ⟨t', h3, h4⟩ := zswt_lk hd tb ps (by simpa using hl) ha.2 h
      refine ⟨t', ?_, h4⟩
      have : ¬ a = x := fun z => hx z.symm
      simpa [this, hx] using h3
  | [], _ :: _, h, _, _ => by cases h
  | _ :: _, [], h, _, _ => by cases h
theorem zs_lookup (hx : p.tables.exec = Jvm.exec) (hb : c.code = cc) (hk : ∀ pc ls st h, kont pc ls st h = some r → zGo p l e R s m args below meth c Q A H0 σ cA D b L xs al C0 S0 μ0 N0 nL r pc ls st h) {I : zI} {dd : Int} {ps : Array (Int × Int)} {len : Nat} (hdg : decode cc pc = .ok (.lookupswitch dd ps, len)) (hp : (ps.toList.zip (ps.toList.drop 1)).all (fun (a, next) => a.1 < next.1) = true) (hd : (pc : Int) + dd = ((zget ([], 0) zPP.2.2.1 I.2.2.1).2 : Int)) (hl : (zget ([], 0) zPP.2.2.1 I.2.2.1).1.length = ps.toList.length) (ha : ((zget ([], 0) zPP.2.2.1 I.2.2.1).1.zip ps.toList).all (fun q => decide (q.1.1 = q.2.1) && decide ((pc : Int) + q.2.2 = (q.1.2 : Int))) = true) {ls : List (Option zV)} {st : List zV} {h : zH} (hr : zoswt zPP al call I kont kret kthr pc ls st h = some r) : zGo p l e R s m args below meth c Q A H0 σ cA D b L xs al C0 S0 μ0 N0 nL r pc ls st h := by
  rcases st with _ | ⟨⟨t1, x1⟩, st⟩
  · cases hr
  · simp only [zoswt] at hr
    obtain ⟨hc, hr⟩ := zif_some hr
    obtain ⟨t, h1, hr⟩ := zswt_lk hd _ _ hl ha hr
    obtain ⟨hm, hg⟩ := hk _ _ _ _ hr
    refine ⟨hm, fun ws μ pos H locs lsJ stJ hat hl hs => ?_⟩
    obtain ⟨v1, sJ1, rfl, hv1, hs1⟩ := hs.cons
    rw [Nat.eq_of_beq_eq_true hc] at hv1
    obtain ⟨i1, rfl, rfl⟩ := hv1.int
    exact lv_lookup hx hb hdg hp rfl h1 (hg ws μ pos H locs lsJ _ hat hl hs1)
theorem zswt_tb {α : Type} {k : Nat → Option α} {y : α} {x : Int} {pc : Nat} {d : Nat} : ∀ (tb : List (Int × Nat)) (os : List Int) (lo : Int), tb.length = os.length → (tb.zip os).all (fun q => decide ((pc : Int) + q.2 = (q.1.2 : Int))) = true → (tb.zip (List.range tb.length)).all (fun q => decide (q.1.1 = lo + (q.2 : Int))) = true → zswt tb d x k = some y → (∃ (j : Nat) (o' : Int) (t : Nat), x = lo + j ∧ j < os.length ∧ os[j]? = some o' ∧ (pc : Int) + o' = (t : Int) ∧ k t = some y) ∨ ((x < lo ∨ lo + os.length ≤ x) ∧ k d = some y) := by
  intro tb os lo hlen ha hb h
  have key : ∀ (j : Nat) (a : Int) (t : Nat), tb[j]? = some (a, t) → a = lo + j ∧ ∃ o', os[j]? = some o' ∧ (pc : Int) + o' = (t : Int) := by
    intro j a t hj
    have hjl := (List.getElem?_eq_some_iff.mp hj).1
    have hjo : j < os.length := by omega
    have h1 := List.all_eq_true.mp ha ((a, t), os[j]) (List.mem_of_getElem? (i := j) (by rw [List.getElem?_zip_eq_some]; exact ⟨hj, List.getElem?_eq_getElem hjo⟩))
    have h2 := List.all_eq_true.mp hb ((a, t), j) (List.mem_of_getElem? (i := j) (by rw [List.getElem?_zip_eq_some]; exact ⟨hj, List.getElem?_range hjl⟩))
    exact ⟨of_decide_eq_true h2, os[j], List.getElem?_eq_getElem hjo, of_decide_eq_true h1⟩
  have main : ∀ (l : List (Int × Nat)), zswt l d x k = some y → (∃ (j : Nat) (t : Nat), l[j]? = some (x, t) ∧ k t = some y) ∨ ((∀ q ∈ l, q.1 ≠ x) ∧ k d = some y) := by
    intro l
    induction l with
    | nil => intro h; exact Or.inr ⟨fun _ h => (by cases h), h⟩
    | cons q l ih =>
      intro h
      obtain ⟨a, t⟩ := q
      unfold zswt at h
      split at h
      · rename_i hx
        subst hx
        exact Or.inl ⟨0, t, rfl, h⟩
      · rename_i hx
        rcases ih h with ⟨j, t', h1, h2⟩ | ⟨h1, h2⟩
        · exact Or.inl ⟨j + 1, t', h1, h2⟩
        · refine Or.inr ⟨fun q hq => ?_, h2⟩
          rcases List.mem_cons.mp hq with rfl | hq
          · exact fun z => hx z.symm
          · exact h1 q hq
  rcases main tb h with ⟨j, t, h1, h2⟩ | ⟨h1, h2⟩
  · obtain ⟨e1, o', e2, e3⟩ := key j x t h1
    exact Or.inl ⟨j, o', t, e1, by have := (List.getElem?_eq_some_iff.mp h1).1; omega, e2, e3, h2⟩
  · refine Or.inr ⟨?_, h2⟩
    rcases Int.lt_or_le x lo with q | q
    · exact Or.inl q
    · refine Or.inr ?_
      rcases Int.lt_or_le x (lo + os.length) with z | z
      · exfalso
        have hj : (x - lo).toNat < tb.length := by omega
        obtain ⟨e1, -⟩ := key (x - lo).toNat tb[(x - lo).toNat].1 tb[(x - lo).toNat].2 (List.getElem?_eq_getElem hj)
        exact h1 _ (List.getElem_mem hj) (by rw [e1]; omega)
      · exact z
theorem zs_table (hx : p.tables.exec = Jvm.exec) (hb : c.code = cc) (hk : ∀ pc ls st h, kont pc ls st h = some r → zGo p l e R s m args below meth c Q A H0 σ cA D b L xs al C0 S0 μ0 N0 nL r pc ls st h) {I : zI} {dd lo hi : Int} {os : Array Int} {len : Nat} (hdg : decode cc pc = .ok (.tableswitch dd lo hi os, len)) (hd : (pc : Int) + dd = ((zget ([], 0) zPP.2.2.1 I.2.2.1).2 : Int)) (hhi : hi = lo + os.toList.length - 1) (hl : (zget ([], 0) zPP.2.2.1 I.2.2.1).1.length = os.toList.length) (ha : ((zget ([], 0) zPP.2.2.1 I.2.2.1).1.zip os.toList).all (fun q => decide ((pc : Int) + q.2 = (q.1.2 : Int))) = true) (ha2 : ((zget ([], 0) zPP.2.2.1 I.2.2.1).1.zip (List.range (zget ([], 0) zPP.2.2.1 I.2.2.1).1.length)).all (fun q => decide (q.1.1 = lo + (q.2 : Int))) = true) {ls : List (Option zV)} {st : List zV} {h : zH} (hr : zoswt zPP al call I kont kret kthr pc ls st h = some r) : zGo p l e R s m args below meth c Q A H0 σ cA D b L xs al C0 S0 μ0 N0 nL r pc ls st h := by
  rcases st with _ | ⟨⟨t1, x1⟩, st⟩
  · cases hr
  · simp only [zoswt] at hr
    obtain ⟨hc, hr⟩ := zif_some hr
    rcases zswt_tb _ _ lo hl ha ha2 hr with ⟨j, o', t, h1, h2, h3, h4, hr⟩ | ⟨h1, hr⟩
    · obtain ⟨hm, hg⟩ := hk _ _ _ _ hr
      refine ⟨hm, fun ws μ pos H locs lsJ stJ hat hl hs => ?_⟩
      obtain ⟨v1, sJ1, rfl, hv1, hs1⟩ := hs.cons
      rw [Nat.eq_of_beq_eq_true hc] at hv1
      obtain ⟨i1, rfl, rfl⟩ := hv1.int
      refine lv_tableIn hx hb hdg (by omega) (by omega) (off := o') ?_ h4 (hg ws μ pos H locs lsJ _ hat hl hs1)
      have : (i1.toInt - lo).toNat = j := by omega
      rw [this, ← Array.getElem?_toList]
      exact h3
    · obtain ⟨hm, hg⟩ := hk _ _ _ _ hr
      refine ⟨hm, fun ws μ pos H locs lsJ stJ hat hl hs => ?_⟩
      obtain ⟨v1, sJ1, rfl, hv1, hs1⟩ := hs.cons
      rw [Nat.eq_of_beq_eq_true hc] at hv1
      obtain ⟨i1, rfl, rfl⟩ := hv1.int
      exact lv_tableOut hx hb hdg (by omega) hd (hg ws μ pos H locs lsJ _ hat hl hs1)
end
