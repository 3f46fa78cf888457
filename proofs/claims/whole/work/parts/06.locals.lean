/-! INSTRUCTIONS: pushes, locals, switches, references compared -/
section
variable {p : Program} {l : Launch} {e : Env} {R : Room} {s : State} {m : MethodId} {args : Array Value} {below : List Frame} {meth : Method} {c : Code} {Q : State → Prop} {A : Nat → Prop} {H0 : Heap} {σ : Nat → Nat} {cA : Nat → ClassId} {D : va_G} {b L : Nat} {xs : Nat → Int32} {al : Bool} {C0 S0 : Nat} {μ0 : Nat → Nat → Nat} {N0 : Nat → Nat} {nL : Nat}
variable {r : zRes} {kont : Nat → List (Option zV) → List zV → zH → Option zRes} {kret : Int → zH → Option zRes} {kthr : Nat → zH → Option zRes} {call : Nat → List Int → zH → (Int → zH → Option zRes) → (Nat → zH → Option zRes) → Option zRes} {cc : ByteArray} {own : String} {pc : Nat}
theorem zs_push (hk : ∀ pc ls st h, kont pc ls st h = some r → zGo p l e R s m args below meth c Q A H0 σ cA D b L xs al C0 S0 μ0 N0 nL r pc ls st h) {t n : Nat} {I : zI} {v : Value} (hv : ∀ (μ : Nat → Nat → Nat) (N : Nat → Nat), zvr σ μ N t I.2.1 v) (hrow : ∀ {H : Heap} {locs : List Loc} {cells slots : Nat} {lsJ : Array Slot} {stJ : List Value}, W p l e R s m args below meth c H locs cells slots Q (F0 m (pc + n) lsJ (v :: stJ)) → W p l e R s m args below meth c H locs cells slots Q (F0 m pc lsJ stJ))
    {ls : List (Option zV)} {st : List zV} {h : zH} (hr : zopush t n zPP al call I kont kret kthr pc ls st h = some r) : zGo p l e R s m args below meth c Q A H0 σ cA D b L xs al C0 S0 μ0 N0 nL r pc ls st h := by
  obtain ⟨hm, hg⟩ := hk _ _ _ _ hr
  exact ⟨hm, fun ws μ pos H locs lsJ stJ hat hl hs => hrow (hg ws μ pos H locs lsJ _ hat hl ⟨hv μ _, hs⟩)⟩
theorem zs_null (hx : p.tables.exec = Jvm.exec) (hb : c.code = cc) (hk : ∀ pc ls st h, kont pc ls st h = some r → zGo p l e R s m args below meth c Q A H0 σ cA D b L xs al C0 S0 μ0 N0 nL r pc ls st h) {I : zI} (hdg : decode cc pc = .ok (.aconst_null, 1)) {ls : List (Option zV)} {st : List zV} {h : zH} (hr : zonull zPP al call I kont kret kthr pc ls st h = some r) : zGo p l e R s m args below meth c Q A H0 σ cA D b L xs al C0 S0 μ0 N0 nL r pc ls st h := by
  simp only [zonull] at hr
  obtain ⟨hc, hr⟩ := zif_some hr
  obtain ⟨hm, hg⟩ := hk _ _ _ _ hr
  exact ⟨hm, fun ws μ pos H locs lsJ stJ hat hl hs => lv_null hx hb hdg (hg ws μ pos H locs lsJ _ hat hl ⟨zvr.n' (Nat.le_of_ble_eq_true hc), hs⟩)⟩
theorem zlocal_some {α : Type} {t : Nat} {ls : List (Option zV)} {u : Nat} {k : Int → Option α} {y : α} (h : zlocal t ls u k = some y) : ∃ v, zlv ls u = some (t, v) ∧ k v = some y := by
  unfold zlocal at h
  split at h
  · rename_i t' v h1
    split at h
    · rename_i h2
      subst h2
      exact ⟨v, h1, h⟩
    · cases h
  · cases h
theorem zstore_some {α : Type} {ls : List (Option zV)} {u : Nat} {v : zV} {k : List (Option zV) → Option α} {y : α} (h : zstore ls u v k = some y) : ∃ l', zsto ls u v = some l' ∧ k l' = some y := by
  unfold zstore at h
  split at h
  · exact ⟨_, by assumption, h⟩
  · cases h
theorem zstore2_some {α : Type} {ls : List (Option zV)} {u : Nat} {v : zV} {k : List (Option zV) → Option α} {y : α} (h : zstore2 ls u v k = some y) : ∃ l', zsto2 ls u v = some l' ∧ k l' = some y := by
  unfold zstore2 at h
  split at h
  · exact ⟨_, by assumption, h⟩
  · cases h
theorem zs_iload1 (hx : p.tables.exec = Jvm.exec) (hb : c.code = cc) (hk : ∀ pc ls st h, kont pc ls st h = some r → zGo p l e R s m args below meth c Q A H0 σ cA D b L xs al C0 S0 μ0 N0 nL r pc ls st h) {I : zI} {k : Fin 4} (hdg : decode cc pc = .ok (.iload_n k, 1)) (hi : (k : Nat) = I.2.2.1) {ls : List (Option zV)} {st : List zV} {h : zH} (hr : zoload 0 1 zPP al call I kont kret kthr pc ls st h = some r) : zGo p l e R s m args below meth c Q A H0 σ cA D b L xs al C0 S0 μ0 N0 nL r pc ls st h := by
  obtain ⟨x, hx1, hr⟩ := zlocal_some hr
  obtain ⟨hm, hg⟩ := hk _ _ _ _ hr
  refine ⟨hm, fun ws μ pos H locs lsJ stJ hat hl hs => ?_⟩
  obtain ⟨v, h1, h2⟩ := hl.at hx1
  obtain ⟨i, rfl, rfl⟩ := h2.int
  exact lv_iload_n hx hb hdg hi h1 (hg ws μ pos H locs lsJ _ hat hl ⟨h2, hs⟩)
theorem zs_iload2 (hx : p.tables.exec = Jvm.exec) (hb : c.code = cc) (hk : ∀ pc ls st h, kont pc ls st h = some r → zGo p l e R s m args below meth c Q A H0 σ cA D b L xs al C0 S0 μ0 N0 nL r pc ls st h) {I : zI} (hdg : decode cc pc = .ok (.iload I.2.2.1, 2)) {ls : List (Option zV)} {st : List zV} {h : zH} (hr : zoload 0 2 zPP al call I kont kret kthr pc ls st h = some r) : zGo p l e R s m args below meth c Q A H0 σ cA D b L xs al C0 S0 μ0 N0 nL r pc ls st h := by
  obtain ⟨x, hx1, hr⟩ := zlocal_some hr
  obtain ⟨hm, hg⟩ := hk _ _ _ _ hr
  refine ⟨hm, fun ws μ pos H locs lsJ stJ hat hl hs => ?_⟩
  obtain ⟨v, h1, h2⟩ := hl.at hx1
  obtain ⟨i, rfl, rfl⟩ := h2.int
  exact lv_iload hx hb hdg h1 (hg ws μ pos H locs lsJ _ hat hl ⟨h2, hs⟩)
theorem zs_lload1 (hx : p.tables.exec = Jvm.exec) (hb : c.code = cc) (hk : ∀ pc ls st h, kont pc ls st h = some r → zGo p l e R s m args below meth c Q A H0 σ cA D b L xs al C0 S0 μ0 N0 nL r pc ls st h) {I : zI} {k : Fin 4} (hdg : decode cc pc = .ok (.lload_n k, 1)) (hi : (k : Nat) = I.2.2.1) {ls : List (Option zV)} {st : List zV} {h : zH} (hr : zoload 1 1 zPP al call I kont kret kthr pc ls st h = some r) : zGo p l e R s m args below meth c Q A H0 σ cA D b L xs al C0 S0 μ0 N0 nL r pc ls st h := by
  obtain ⟨x, hx1, hr⟩ := zlocal_some hr
  obtain ⟨hm, hg⟩ := hk _ _ _ _ hr
  refine ⟨hm, fun ws μ pos H locs lsJ stJ hat hl hs => ?_⟩
  obtain ⟨v, h1, h2⟩ := hl.at hx1
  obtain ⟨i, rfl, rfl⟩ := h2.long
  exact lv_lload_n hx hb hdg hi h1 (hg ws μ pos H locs lsJ _ hat hl ⟨h2, hs⟩)
theorem zs_lload2 (hx : p.tables.exec = Jvm.exec) (hb : c.code = cc) (hk : ∀ pc ls st h, kont pc ls st h = some r → zGo p l e R s m args below meth c Q A H0 σ cA D b L xs al C0 S0 μ0 N0 nL r pc ls st h) {I : zI} (hdg : decode cc pc = .ok (.lload I.2.2.1, 2)) {ls : List (Option zV)} {st : List zV} {h : zH} (hr : zoload 1 2 zPP al call I kont kret kthr pc ls st h = some r) : zGo p l e R s m args below meth c Q A H0 σ cA D b L xs al C0 S0 μ0 N0 nL r pc ls st h := by
  obtain ⟨x, hx1, hr⟩ := zlocal_some hr
  obtain ⟨hm, hg⟩ := hk _ _ _ _ hr
  refine ⟨hm, fun ws μ pos H locs lsJ stJ hat hl hs => ?_⟩
  obtain ⟨v, h1, h2⟩ := hl.at hx1
  obtain ⟨i, rfl, rfl⟩ := h2.long
  exact lv_lload hx hb hdg h1 (hg ws μ pos H locs lsJ _ hat hl ⟨h2, hs⟩)
theorem zs_fload1 (hx : p.tables.exec = Jvm.exec) (hb : c.code = cc) (hk : ∀ pc ls st h, kont pc ls st h = some r → zGo p l e R s m args below meth c Q A H0 σ cA D b L xs al C0 S0 μ0 N0 nL r pc ls st h) {I : zI} {k : Fin 4} (hdg : decode cc pc = .ok (.fload_n k, 1)) (hi : (k : Nat) = I.2.2.1) {ls : List (Option zV)} {st : List zV} {h : zH} (hr : zoload 5 1 zPP al call I kont kret kthr pc ls st h = some r) : zGo p l e R s m args below meth c Q A H0 σ cA D b L xs al C0 S0 μ0 N0 nL r pc ls st h := by
  obtain ⟨x, hx1, hr⟩ := zlocal_some hr
  obtain ⟨hm, hg⟩ := hk _ _ _ _ hr
  refine ⟨hm, fun ws μ pos H locs lsJ stJ hat hl hs => ?_⟩
  obtain ⟨v, h1, h2⟩ := hl.at hx1
  obtain ⟨i, rfl, rfl⟩ := h2.flt
  exact lv_fload_n hx hb hdg hi h1 (hg ws μ pos H locs lsJ _ hat hl ⟨h2, hs⟩)
theorem zs_fload2 (hx : p.tables.exec = Jvm.exec) (hb : c.code = cc) (hk : ∀ pc ls st h, kont pc ls st h = some r → zGo p l e R s m args below meth c Q A H0 σ cA D b L xs al C0 S0 μ0 N0 nL r pc ls st h) {I : zI} (hdg : decode cc pc = .ok (.fload I.2.2.1, 2)) {ls : List (Option zV)} {st : List zV} {h : zH} (hr : zoload 5 2 zPP al call I kont kret kthr pc ls st h = some r) : zGo p l e R s m args below meth c Q A H0 σ cA D b L xs al C0 S0 μ0 N0 nL r pc ls st h := by
  obtain ⟨x, hx1, hr⟩ := zlocal_some hr
  obtain ⟨hm, hg⟩ := hk _ _ _ _ hr
  refine ⟨hm, fun ws μ pos H locs lsJ stJ hat hl hs => ?_⟩
  obtain ⟨v, h1, h2⟩ := hl.at hx1
  obtain ⟨i, rfl, rfl⟩ := h2.flt
  exact lv_fload hx hb hdg h1 (hg ws μ pos H locs lsJ _ hat hl ⟨h2, hs⟩)
theorem zs_dload1 (hx : p.tables.exec = Jvm.exec) (hb : c.code = cc) (hk : ∀ pc ls st h, kont pc ls st h = some r → zGo p l e R s m args below meth c Q A H0 σ cA D b L xs al C0 S0 μ0 N0 nL r pc ls st h) {I : zI} {k : Fin 4} (hdg : decode cc pc = .ok (.dload_n k, 1)) (hi : (k : Nat) = I.2.2.1) {ls : List (Option zV)} {st : List zV} {h : zH} (hr : zoload 6 1 zPP al call I kont kret kthr pc ls st h = some r) : zGo p l e R s m args below meth c Q A H0 σ cA D b L xs al C0 S0 μ0 N0 nL r pc ls st h := by
  obtain ⟨x, hx1, hr⟩ := zlocal_some hr
  obtain ⟨hm, hg⟩ := hk _ _ _ _ hr
  refine ⟨hm, fun ws μ pos H locs lsJ stJ hat hl hs => ?_⟩
  obtain ⟨v, h1, h2⟩ := hl.at hx1
  obtain ⟨i, rfl, rfl⟩ := h2.dbl
  exact lv_dload_n hx hb hdg hi h1 (hg ws μ pos H locs lsJ _ hat hl ⟨h2, hs⟩)
theorem zs_dload2 (hx : p.tables.exec = Jvm.exec) (hb : c.code = cc) (hk : ∀ pc ls st h, kont pc ls st h = some r → zGo p l e R s m args below meth c Q A H0 σ cA D b L xs al C0 S0 μ0 N0 nL r pc ls st h) {I : zI} (hdg : decode cc pc = .ok (.dload I.2.2.1, 2)) {ls : List (Option zV)} {st : List zV} {h : zH} (hr : zoload 6 2 zPP al call I kont kret kthr pc ls st h = some r) : zGo p l e R s m args below meth c Q A H0 σ cA D b L xs al C0 S0 μ0 N0 nL r pc ls st h := by
  obtain ⟨x, hx1, hr⟩ := zlocal_some hr
  obtain ⟨hm, hg⟩ := hk _ _ _ _ hr
  refine ⟨hm, fun ws μ pos H locs lsJ stJ hat hl hs => ?_⟩
  obtain ⟨v, h1, h2⟩ := hl.at hx1
  obtain ⟨i, rfl, rfl⟩ := h2.dbl
  exact lv_dload hx hb hdg h1 (hg ws μ pos H locs lsJ _ hat hl ⟨h2, hs⟩)
theorem zor_t {a b : Bool} (h : (a || b) = true) : a = true ∨ b = true := by cases a <;> cases b <;> first | exact Or.inl rfl | exact Or.inr rfl | cases h
theorem zs_aload1 (hx : p.tables.exec = Jvm.exec) (hb : c.code = cc) (hk : ∀ pc ls st h, kont pc ls st h = some r → zGo p l e R s m args below meth c Q A H0 σ cA D b L xs al C0 S0 μ0 N0 nL r pc ls st h) {I : zI} {k : Fin 4} (hdg : decode cc pc = .ok (.aload_n k, 1)) (hi : (k : Nat) = I.2.2.1) {ls : List (Option zV)} {st : List zV} {h : zH} (hr : zoaload 1 zPP al call I kont kret kthr pc ls st h = some r) : zGo p l e R s m args below meth c Q A H0 σ cA D b L xs al C0 S0 μ0 N0 nL r pc ls st h := by
  simp only [zoaload] at hr
  obtain ⟨hc, hr⟩ := zif_some hr
  obtain ⟨x, hx1, hr⟩ := zlocal_some hr
  obtain ⟨hm, hg⟩ := hk _ _ _ _ hr
  refine ⟨hm, fun ws μ pos H locs lsJ stJ hat hl hs => ?_⟩
  obtain ⟨v, h1, h2⟩ := hl.at hx1
  rcases zor_t hc with h3 | h3
  · rcases h2.ref (Nat.le_of_ble_eq_true h3) with ⟨-, rfl⟩ | ⟨-, -, rfl⟩
    · exact lv_aload_nN hx hb hdg hi h1 (hg ws μ pos H locs lsJ _ hat hl ⟨h2, hs⟩)
    · exact lv_aload_n hx hb hdg hi h1 (hg ws μ pos H locs lsJ _ hat hl ⟨h2, hs⟩)
  · have h4 := Nat.eq_of_beq_eq_true h3
    obtain ⟨-, -, rfl⟩ := (h4 ▸ h2).str
    exact lv_aload_n hx hb hdg hi h1 (hg ws μ pos H locs lsJ _ hat hl ⟨h2, hs⟩)
theorem zs_aload2 (hx : p.tables.exec = Jvm.exec) (hb : c.code = cc) (hk : ∀ pc ls st h, kont pc ls st h = some r → zGo p l e R s m args below meth c Q A H0 σ cA D b L xs al C0 S0 μ0 N0 nL r pc ls st h) {I : zI} (hdg : decode cc pc = .ok (.aload I.2.2.1, 2)) {ls : List (Option zV)} {st : List zV} {h : zH} (hr : zoaload 2 zPP al call I kont kret kthr pc ls st h = some r) : zGo p l e R s m args below meth c Q A H0 σ cA D b L xs al C0 S0 μ0 N0 nL r pc ls st h := by
  simp only [zoaload] at hr
  obtain ⟨hc, hr⟩ := zif_some hr
  obtain ⟨x, hx1, hr⟩ := zlocal_some hr
  obtain ⟨hm, hg⟩ := hk _ _ _ _ hr
  refine ⟨hm, fun ws μ pos H locs lsJ stJ hat hl hs => ?_⟩
  obtain ⟨v, h1, h2⟩ := hl.at hx1
  rcases zor_t hc with h3 | h3
  · rcases h2.ref (Nat.le_of_ble_eq_true h3) with ⟨-, rfl⟩ | ⟨-, -, rfl⟩
    · exact lv_aloadN hx hb hdg h1 (hg ws μ pos H locs lsJ _ hat hl ⟨h2, hs⟩)
    · exact lv_aload hx hb hdg h1 (hg ws μ pos H locs lsJ _ hat hl ⟨h2, hs⟩)
  · have h4 := Nat.eq_of_beq_eq_true h3
    obtain ⟨-, -, rfl⟩ := (h4 ▸ h2).str
    exact lv_aload hx hb hdg h1 (hg ws μ pos H locs lsJ _ hat hl ⟨h2, hs⟩)
theorem zs_istore1 (hx : p.tables.exec = Jvm.exec) (hb : c.code = cc) (hk : ∀ pc ls st h, kont pc ls st h = some r → zGo p l e R s m args below meth c Q A H0 σ cA D b L xs al C0 S0 μ0 N0 nL r pc ls st h) {I : zI} {k : Fin 4} (hdg : decode cc pc = .ok (.istore_n k, 1)) (hi : (k : Nat) = I.2.2.1) {ls : List (Option zV)} {st : List zV} {h : zH} (hr : zosto 0 1 zPP al call I kont kret kthr pc ls st h = some r) : zGo p l e R s m args below meth c Q A H0 σ cA D b L xs al C0 S0 μ0 N0 nL r pc ls st h := by
  rcases st with _ | ⟨⟨t1, x1⟩, st⟩
  · cases hr
  · simp only [zosto] at hr
    obtain ⟨hc, hr⟩ := zif_some hr
    cases Nat.eq_of_beq_eq_true hc
    obtain ⟨l', h1, hr⟩ := zstore_some hr
    obtain ⟨hm, hg⟩ := hk _ _ _ _ hr
    refine ⟨hm, fun ws μ pos H locs lsJ stJ hat hl hs => ?_⟩
    obtain ⟨v1, sJ1, rfl, hv1, hs1⟩ := hs.cons
    obtain ⟨i, rfl, rfl⟩ := hv1.int
    obtain ⟨hlen, lv, hlv, h2⟩ := hl
    refine lv_istore_n hx hb hdg hi hlv (by have := zsto_lt _ _ _ _ h1; omega) rfl (fun ls' h' => ?_)
    exact hg ws μ pos H locs ls' _ hat (zLR.sto hlen h2 h1 hv1 h') hs1
theorem zs_istore2 (hx : p.tables.exec = Jvm.exec) (hb : c.code = cc) (hk : ∀ pc ls st h, kont pc ls st h = some r → zGo p l e R s m args below meth c Q A H0 σ cA D b L xs al C0 S0 μ0 N0 nL r pc ls st h) {I : zI} (hdg : decode cc pc = .ok (.istore I.2.2.1, 2)) {ls : List (Option zV)} {st : List zV} {h : zH} (hr : zosto 0 2 zPP al call I kont kret kthr pc ls st h = some r) : zGo p l e R s m args below meth c Q A H0 σ cA D b L xs al C0 S0 μ0 N0 nL r pc ls st h := by
  rcases st with _ | ⟨⟨t1, x1⟩, st⟩
  · cases hr
  · simp only [zosto] at hr
    obtain ⟨hc, hr⟩ := zif_some hr
    cases Nat.eq_of_beq_eq_true hc
    obtain ⟨l', h1, hr⟩ := zstore_some hr
    obtain ⟨hm, hg⟩ := hk _ _ _ _ hr
    refine ⟨hm, fun ws μ pos H locs lsJ stJ hat hl hs => ?_⟩
    obtain ⟨v1, sJ1, rfl, hv1, hs1⟩ := hs.cons
    obtain ⟨i, rfl, rfl⟩ := hv1.int
    obtain ⟨hlen, lv, hlv, h2⟩ := hl
    refine lv_istore hx hb hdg hlv (by have := zsto_lt _ _ _ _ h1; omega) rfl (fun ls' h' => ?_)
    exact hg ws μ pos H locs ls' _ hat (zLR.sto hlen h2 h1 hv1 h') hs1
theorem zs_lstore1 (hx : p.tables.exec = Jvm.exec) (hb : c.code = cc) (hk : ∀ pc ls st h, kont pc ls st h = some r → zGo p l e R s m args below meth c Q A H0 σ cA D b L xs al C0 S0 μ0 N0 nL r pc ls st h) {I : zI} {k : Fin 4} (hdg : decode cc pc = .ok (.lstore_n k, 1)) (hi : (k : Nat) = I.2.2.1) {ls : List (Option zV)} {st : List zV} {h : zH} (hr : zosto2 1 1 zPP al call I kont kret kthr pc ls st h = some r) : zGo p l e R s m args below meth c Q A H0 σ cA D b L xs al C0 S0 μ0 N0 nL r pc ls st h := by
  rcases st with _ | ⟨⟨t1, x1⟩, st⟩
  · cases hr
  · simp only [zosto2] at hr
    obtain ⟨hc, hr⟩ := zif_some hr
    cases Nat.eq_of_beq_eq_true hc
    obtain ⟨l', h1, hr⟩ := zstore2_some hr
    obtain ⟨hm, hg⟩ := hk _ _ _ _ hr
    refine ⟨hm, fun ws μ pos H locs lsJ stJ hat hl hs => ?_⟩
    obtain ⟨v1, sJ1, rfl, hv1, hs1⟩ := hs.cons
    obtain ⟨i, rfl, rfl⟩ := hv1.long
    obtain ⟨hlen, lv, hlv, h2⟩ := hl
    refine lv_lstore_n hx hb hdg hi hlv (by have := (zsto2_len _ _ _ _ h1).2; omega) rfl (fun ls' h' => ?_)
    exact hg ws μ pos H locs ls' _ hat (zLR.sto2 hlen h2 h1 hv1 h') hs1
theorem zs_lstore2 (hx : p.tables.exec = Jvm.exec) (hb : c.code = cc) (hk : ∀ pc ls st h, kont pc ls st h = some r → zGo p l e R s m args below meth c Q A H0 σ cA D b L xs al C0 S0 μ0 N0 nL r pc ls st h) {I : zI} (hdg : decode cc pc = .ok (.lstore I.2.2.1, 2)) {ls : List (Option zV)} {st : List zV} {h : zH} (hr : zosto2 1 2 zPP al call I kont kret kthr pc ls st h = some r) : zGo p l e R s m args below meth c Q A H0 σ cA D b L xs al C0 S0 μ0 N0 nL r pc ls st h := by
  rcases st with _ | ⟨⟨t1, x1⟩, st⟩
  · cases hr
  · simp only [zosto2] at hr
    obtain ⟨hc, hr⟩ := zif_some hr
    cases Nat.eq_of_beq_eq_true hc
    obtain ⟨l', h1, hr⟩ := zstore2_some hr
    obtain ⟨hm, hg⟩ := hk _ _ _ _ hr
    refine ⟨hm, fun ws μ pos H locs lsJ stJ hat hl hs => ?_⟩
    obtain ⟨v1, sJ1, rfl, hv1, hs1⟩ := hs.cons
    obtain ⟨i, rfl, rfl⟩ := hv1.long
    obtain ⟨hlen, lv, hlv, h2⟩ := hl
    refine lv_lstore hx hb hdg hlv (by have := (zsto2_len _ _ _ _ h1).2; omega) rfl (fun ls' h' => ?_)
    exact hg ws μ pos H locs ls' _ hat (zLR.sto2 hlen h2 h1 hv1 h') hs1
theorem zs_fstore1 (hx : p.tables.exec = Jvm.exec) (hb : c.code = cc) (hk : ∀ pc ls st h, kont pc ls st h = some r → zGo p l e R s m args below meth c Q A H0 σ cA D b L xs al C0 S0 μ0 N0 nL r pc ls st h) {I : zI} {k : Fin 4} (hdg : decode cc pc = .ok (.fstore_n k, 1)) (hi : (k : Nat) = I.2.2.1) {ls : List (Option zV)} {st : List zV} {h : zH} (hr : zosto 5 1 zPP al call I kont kret kthr pc ls st h = some r) : zGo p l e R s m args below meth c Q A H0 σ cA D b L xs al C0 S0 μ0 N0 nL r pc ls st h := by
  rcases st with _ | ⟨⟨t1, x1⟩, st⟩
  · cases hr
  · simp only [zosto] at hr
    obtain ⟨hc, hr⟩ := zif_some hr
    cases Nat.eq_of_beq_eq_true hc
    obtain ⟨l', h1, hr⟩ := zstore_some hr
    obtain ⟨hm, hg⟩ := hk _ _ _ _ hr
    refine ⟨hm, fun ws μ pos H locs lsJ stJ hat hl hs => ?_⟩
    obtain ⟨v1, sJ1, rfl, hv1, hs1⟩ := hs.cons
    obtain ⟨i, rfl, rfl⟩ := hv1.flt
    obtain ⟨hlen, lv, hlv, h2⟩ := hl
    refine lv_fstore_n hx hb hdg hi hlv (by have := zsto_lt _ _ _ _ h1; omega) rfl (fun ls' h' => ?_)
    exact hg ws μ pos H locs ls' _ hat (zLR.sto hlen h2 h1 hv1 h') hs1
theorem zs_fstore2 (hx : p.tables.exec = Jvm.exec) (hb : c.code = cc) (hk : ∀ pc ls st h, kont pc ls st h = some r → zGo p l e R s m args below meth c Q A H0 σ cA D b L xs al C0 S0 μ0 N0 nL r pc ls st h) {I : zI} (hdg : decode cc pc = .ok (.fstore I.2.2.1, 2)) {ls : List (Option zV)} {st : List zV} {h : zH} (hr : zosto 5 2 zPP al call I kont kret kthr pc ls st h = some r) : zGo p l e R s m args below meth c Q A H0 σ cA D b L xs al C0 S0 μ0 N0 nL r pc ls st h := by
  rcases st with _ | ⟨⟨t1, x1⟩, st⟩
  · cases hr
  · simp only [zosto] at hr
    obtain ⟨hc, hr⟩ := zif_some hr
    cases Nat.eq_of_beq_eq_true hc
    obtain ⟨l', h1, hr⟩ := zstore_some hr
    obtain ⟨hm, hg⟩ := hk _ _ _ _ hr
    refine ⟨hm, fun ws μ pos H locs lsJ stJ hat hl hs => ?_⟩
    obtain ⟨v1, sJ1, rfl, hv1, hs1⟩ := hs.cons
    obtain ⟨i, rfl, rfl⟩ := hv1.flt
    obtain ⟨hlen, lv, hlv, h2⟩ := hl
    refine lv_fstore hx hb hdg hlv (by have := zsto_lt _ _ _ _ h1; omega) rfl (fun ls' h' => ?_)
    exact hg ws μ pos H locs ls' _ hat (zLR.sto hlen h2 h1 hv1 h') hs1
theorem zs_dstore1 (hx : p.tables.exec = Jvm.exec) (hb : c.code = cc) (hk : ∀ pc ls st h, kont pc ls st h = some r → zGo p l e R s m args below meth c Q A H0 σ cA D b L xs al C0 S0 μ0 N0 nL r pc ls st h) {I : zI} {k : Fin 4} (hdg : decode cc pc = .ok (.dstore_n k, 1)) (hi : (k : Nat) = I.2.2.1) {ls : List (Option zV)} {st : List zV} {h : zH} (hr : zosto2 6 1 zPP al call I kont kret kthr pc ls st h = some r) : zGo p l e R s m args below meth c Q A H0 σ cA D b L xs al C0 S0 μ0 N0 nL r pc ls st h := by
  rcases st with _ | ⟨⟨t1, x1⟩, st⟩
  · cases hr
  · simp only [zosto2] at hr
    obtain ⟨hc, hr⟩ := zif_some hr
    cases Nat.eq_of_beq_eq_true hc
    obtain ⟨l', h1, hr⟩ := zstore2_some hr
    obtain ⟨hm, hg⟩ := hk _ _ _ _ hr
    refine ⟨hm, fun ws μ pos H locs lsJ stJ hat hl hs => ?_⟩
    obtain ⟨v1, sJ1, rfl, hv1, hs1⟩ := hs.cons
    obtain ⟨i, rfl, rfl⟩ := hv1.dbl
    obtain ⟨hlen, lv, hlv, h2⟩ := hl
    refine lv_dstore_n hx hb hdg hi hlv (by have := (zsto2_len _ _ _ _ h1).2; omega) rfl (fun ls' h' => ?_)
    exact hg ws μ pos H locs ls' _ hat (zLR.sto2 hlen h2 h1 hv1 h') hs1
theorem zs_dstore2 (hx : p.tables.exec = Jvm.exec) (hb : c.code = cc) (hk : ∀ pc ls st h, kont pc ls st h = some r → zGo p l e R s m args below meth c Q A H0 σ cA D b L xs al C0 S0 μ0 N0 nL r pc ls st h) {I : zI} (hdg : decode cc pc = .ok (.dstore I.2.2.1, 2)) {ls : List (Option zV)} {st : List zV} {h : zH} (hr : zosto2 6 2 zPP al call I kont kret kthr pc ls st h = some r) : zGo p l e R s m args below meth c Q A H0 σ cA D b L xs al C0 S0 μ0 N0 nL r pc ls st h := by
  rcases st with _ | ⟨⟨t1, x1⟩, st⟩
  · cases hr
  · simp only [zosto2] at hr
    obtain ⟨hc, hr⟩ := zif_some hr
    cases Nat.eq_of_beq_eq_true hc
    obtain ⟨l', h1, hr⟩ := zstore2_some hr
    obtain ⟨hm, hg⟩ := hk _ _ _ _ hr
    refine ⟨hm, fun ws μ pos H locs lsJ stJ hat hl hs => ?_⟩
    obtain ⟨v1, sJ1, rfl, hv1, hs1⟩ := hs.cons
    obtain ⟨i, rfl, rfl⟩ := hv1.dbl
    obtain ⟨hlen, lv, hlv, h2⟩ := hl
    refine lv_dstore hx hb hdg hlv (by have := (zsto2_len _ _ _ _ h1).2; omega) rfl (fun ls' h' => ?_)
    exact hg ws μ pos H locs ls' _ hat (zLR.sto2 hlen h2 h1 hv1 h') hs1
theorem zvr.exc {σ : Nat → Nat} {μ : Nat → Nat → Nat} {N : Nat → Nat} {x : Int} {v : Value} (h : zvr σ μ N 4 x v) : ∃ a, v = .ref a := by
  rcases h with ⟨h, _⟩ | ⟨h, _⟩ | ⟨h, _⟩ | ⟨_, h⟩ | ⟨h, _⟩ | ⟨h, _⟩ | ⟨h, _⟩
  · omega
  · omega
  · omega
  · exact h
  all_goals omega
theorem zs_astore1 (hx : p.tables.exec = Jvm.exec) (hb : c.code = cc) (hk : ∀ pc ls st h, kont pc ls st h = some r → zGo p l e R s m args below meth c Q A H0 σ cA D b L xs al C0 S0 μ0 N0 nL r pc ls st h) {I : zI} {k : Fin 4} (hdg : decode cc pc = .ok (.astore_n k, 1)) (hi : (k : Nat) = I.2.2.1) {ls : List (Option zV)} {st : List zV} {h : zH} (hr : zoasto 1 zPP al call I kont kret kthr pc ls st h = some r) : zGo p l e R s m args below meth c Q A H0 σ cA D b L xs al C0 S0 μ0 N0 nL r pc ls st h := by
  rcases st with _ | ⟨⟨t1, x1⟩, st⟩
  · cases hr
  · simp only [zoasto] at hr
    obtain ⟨hc, hr⟩ := zif_some hr
    obtain ⟨l', h1, hr⟩ := zstore_some hr
    obtain ⟨hm, hg⟩ := hk _ _ _ _ hr
    refine ⟨hm, fun ws μ pos H locs lsJ stJ hat hl hs => ?_⟩
    obtain ⟨v1, sJ1, rfl, hv1, hs1⟩ := hs.cons
    obtain ⟨hlen, lv, hlv, h2⟩ := hl
    rcases zor_t (zand_t hc).2 with h3 | h3
    · rcases hv1.ref (Nat.le_of_ble_eq_true h3) with ⟨-, rfl⟩ | ⟨-, -, rfl⟩
      · refine lv_astore_nN hx hb hdg hi hlv (by have := zsto_lt _ _ _ _ h1; omega) rfl (fun ls' h' => ?_)
        exact hg ws μ pos H locs ls' _ hat (zLR.sto hlen h2 h1 hv1 h') hs1
      · refine lv_astore_n hx hb hdg hi hlv (by have := zsto_lt _ _ _ _ h1; omega) rfl (fun ls' h' => ?_)
        exact hg ws μ pos H locs ls' _ hat (zLR.sto hlen h2 h1 hv1 h') hs1
    · have h4 := Nat.eq_of_beq_eq_true h3
      obtain ⟨a, rfl⟩ := (h4 ▸ hv1).exc
      refine lv_astore_n hx hb hdg hi hlv (by have := zsto_lt _ _ _ _ h1; omega) rfl (fun ls' h' => ?_)
      exact hg ws μ pos H locs ls' _ hat (zLR.sto hlen h2 h1 hv1 h') hs1
theorem zs_astore2 (hx : p.tables.exec = Jvm.exec) (hb : c.code = cc) (hk : ∀ pc ls st h, kont pc ls st h = some r → zGo p l e R s m args below meth c Q A H0 σ cA D b L xs al C0 S0 μ0 N0 nL r pc ls st h) {I : zI} (hdg : decode cc pc = .ok (.astore I.2.2.1, 2)) {ls : List (Option zV)} {st : List zV} {h : zH} (hr : zoasto 2 zPP al call I kont kret kthr pc ls st h = some r) : zGo p l e R s m args below meth c Q A H0 σ cA D b L xs al C0 S0 μ0 N0 nL r pc ls st h := by
  rcases st with _ | ⟨⟨t1, x1⟩, st⟩
  · cases hr
  · simp only [zoasto] at hr
    obtain ⟨hc, hr⟩ := zif_some hr
    obtain ⟨l', h1, hr⟩ := zstore_some hr
    obtain ⟨hm, hg⟩ := hk _ _ _ _ hr
    refine ⟨hm, fun ws μ pos H locs lsJ stJ hat hl hs => ?_⟩
    obtain ⟨v1, sJ1, rfl, hv1, hs1⟩ := hs.cons
    obtain ⟨hlen, lv, hlv, h2⟩ := hl
    rcases zor_t (zand_t hc).2 with h3 | h3
    · rcases hv1.ref (Nat.le_of_ble_eq_true h3) with ⟨-, rfl⟩ | ⟨-, -, rfl⟩
      · refine lv_astoreN hx hb hdg hlv (by have := zsto_lt _ _ _ _ h1; omega) rfl (fun ls' h' => ?_)
        exact hg ws μ pos H locs ls' _ hat (zLR.sto hlen h2 h1 hv1 h') hs1
      · refine lv_astore hx hb hdg hlv (by have := zsto_lt _ _ _ _ h1; omega) rfl (fun ls' h' => ?_)
        exact hg ws μ pos H locs ls' _ hat (zLR.sto hlen h2 h1 hv1 h') hs1
    · have h4 := Nat.eq_of_beq_eq_true h3
      obtain ⟨a, rfl⟩ := (h4 ▸ hv1).exc
      refine lv_astore hx hb hdg hlv (by have := zsto_lt _ _ _ _ h1; omega) rfl (fun ls' h' => ?_)
      exact hg ws μ pos H locs ls' _ hat (zLR.sto hlen h2 h1 hv1 h') hs1
theorem zs_iinc (hx : p.tables.exec = Jvm.exec) (hb : c.code = cc) (hk : ∀ pc ls st h, kont pc ls st h = some r → zGo p l e R s m args below meth c Q A H0 σ cA D b L xs al C0 S0 μ0 N0 nL r pc ls st h) {x : Int} {u v o : Nat} (hdg : decode cc pc = .ok (.iinc u x, 3)) (hx2 : (Int32.ofInt x).toInt = x) {ls : List (Option zV)} {st : List zV} {h : zH} (hr : zoinc zPP al call (o, x, u, v) kont kret kthr pc ls st h = some r) : zGo p l e R s m args below meth c Q A H0 σ cA D b L xs al C0 S0 μ0 N0 nL r pc ls st h := by
  obtain ⟨y, hy, hr⟩ := zlocal_some hr
  obtain ⟨l', h1, hr⟩ := zstore_some hr
  obtain ⟨hm, hg⟩ := hk _ _ _ _ hr
  refine ⟨hm, fun ws μ pos H locs lsJ stJ hat hl hs => ?_⟩
  obtain ⟨hlen, lv, hlv, h2⟩ := hl
  obtain ⟨w, h3, h4⟩ := h2 _ _ _ hy
  obtain ⟨i, rfl, rfl⟩ := h4.int
  obtain ⟨k, hk2⟩ := List.mem_iff_getElem?.mp h3
  refine lv_iinc hx hb hdg hlv hk2 rfl (by have h9 : u < ls.length := zsto_lt _ _ _ _ h1; omega) rfl (fun ls' h' => ?_)
  refine hg ws μ pos H locs ls' _ hat (zLR.sto hlen h2 h1 (zvr.i' ?_) h') hs
  rw [z_add, hx2]
theorem zs_ifnull (hx : p.tables.exec = Jvm.exec) (hb : c.code = cc) (hk : ∀ pc ls st h, kont pc ls st h = some r → zGo p l e R s m args below meth c Q A H0 σ cA D b L xs al C0 S0 μ0 N0 nL r pc ls st h) {x : Int} {u v o : Nat} (hdg : decode cc pc = .ok (.ifnull x, 3)) (ht : (pc : Int) + x = (u : Int)) {ls : List (Option zV)} {st : List zV} {h : zH} (hr : zoifnull false zPP al call (o, x, u, v) kont kret kthr pc ls st h = some r) : zGo p l e R s m args below meth c Q A H0 σ cA D b L xs al C0 S0 μ0 N0 nL r pc ls st h := by
  rcases st with _ | ⟨⟨t1, x1⟩, st⟩
  · cases hr
  · simp only [zoifnull] at hr
    obtain ⟨hc, hr⟩ := zif_some hr
    split at hr
    · rename_i hcd
      obtain ⟨hm, hg⟩ := hk _ _ _ _ hr
      refine ⟨hm, fun ws μ pos H locs lsJ stJ hat hl hs => ?_⟩
      obtain ⟨v1, sJ1, rfl, hv1, hs1⟩ := hs.cons
      rcases hv1.ref (Nat.le_of_ble_eq_true hc) with ⟨-, rfl⟩ | ⟨h0, -, -⟩
      · exact lv_ifnullN hx hb hdg ht (hg ws μ pos H locs lsJ _ hat hl hs1)
      · omega
    · rename_i hcd
      obtain ⟨hm, hg⟩ := hk _ _ _ _ hr
      refine ⟨hm, fun ws μ pos H locs lsJ stJ hat hl hs => ?_⟩
      obtain ⟨v1, sJ1, rfl, hv1, hs1⟩ := hs.cons
      rcases hv1.ref (Nat.le_of_ble_eq_true hc) with ⟨h0, -⟩ | ⟨-, -, rfl⟩
      · omega
      · exact lv_ifnull hx hb hdg (hg ws μ pos H locs lsJ _ hat hl hs1)
theorem zs_ifnonnull (hx : p.tables.exec = Jvm.exec) (hb : c.code = cc) (hk : ∀ pc ls st h, kont pc ls st h = some r → zGo p l e R s m args below meth c Q A H0 σ cA D b L xs al C0 S0 μ0 N0 nL r pc ls st h) {x : Int} {u v o : Nat} (hdg : decode cc pc = .ok (.ifnonnull x, 3)) (ht : (pc : Int) + x = (u : Int)) {ls : List (Option zV)} {st : List zV} {h : zH} (hr : zoifnull true zPP al call (o, x, u, v) kont kret kthr pc ls st h = some r) : zGo p l e R s m args below meth c Q A H0 σ cA D b L xs al C0 S0 μ0 N0 nL r pc ls st h := by
  rcases st with _ | ⟨⟨t1, x1⟩, st⟩
  · cases hr
  · simp only [zoifnull] at hr
    obtain ⟨hc, hr⟩ := zif_some hr
    split at hr
    · rename_i hcd
      obtain ⟨hm, hg⟩ := hk _ _ _ _ hr
      refine ⟨hm, fun ws μ pos H locs lsJ stJ hat hl hs => ?_⟩
      obtain ⟨v1, sJ1, rfl, hv1, hs1⟩ := hs.cons
      rcases hv1.ref (Nat.le_of_ble_eq_true hc) with ⟨-, rfl⟩ | ⟨h0, -, -⟩
      · exact lv_ifnonnullN hx hb hdg (hg ws μ pos H locs lsJ _ hat hl hs1)
      · omega
    · rename_i hcd
      obtain ⟨hm, hg⟩ := hk _ _ _ _ hr
      refine ⟨hm, fun ws μ pos H locs lsJ stJ hat hl hs => ?_⟩
      obtain ⟨v1, sJ1, rfl, hv1, hs1⟩ := hs.cons
      rcases hv1.ref (Nat.le_of_ble_eq_true hc) with ⟨h0, -⟩ | ⟨-, -, rfl⟩
      · omega
      · exact lv_ifnonnull hx hb hdg ht (hg ws μ pos H locs lsJ _ hat hl hs1)
/-- two references of a kind are one number just when they are one cell -/
theorem zref_rf {σ : Nat → Nat} {μ : Nat → Nat → Nat} {N : Nat → Nat} {t : Nat} {x : Int} {v : Value} (ht : 100 ≤ t) (h : zvr σ μ N t x v) : ∃ q : Option Nat, v = va_rf q ∧ ((x = -1 ∧ q = none) ∨ (0 ≤ x ∧ x < (N (t - 100) : Int) ∧ q = some (μ (t - 100) x.toNat))) := by
  rcases h.ref ht with ⟨h1, rfl⟩ | ⟨h1, h2, rfl⟩
  · exact ⟨none, rfl, Or.inl ⟨h1, rfl⟩⟩
  · exact ⟨_, rfl, Or.inr ⟨h1, h2, rfl⟩⟩
theorem zmu_inj {h : zH} {ws : va_W} {μ pos : Nat → Nat → Nat} {D : va_G} {A : Nat → Prop} (hW : zWd σ cA h ws μ pos) (hD : va_D A ws) {c i c' i' : Nat} (hc : c ≠ 50) (hc' : c' ≠ 50) (hi : i < zhN h c) (hi' : i' < zhN h c') (he : μ c i = μ c' i') : c = c' ∧ i = i' := by
  obtain ⟨E, h1, -⟩ := hW.1 c i hc hi
  obtain ⟨E', h2, -⟩ := hW.1 c' i' hc' hi'
  exact hW.2 c i c' i' hc hc' hi hi' (hD.1 _ _ _ _ h1 h2 he)
theorem zref_eq {h : zH} {ws : va_W} {μ pos : Nat → Nat → Nat} {A : Nat → Prop} (hW : zWd σ cA h ws μ pos) (hD : va_D A ws) {t : Nat} (ht : 100 ≤ t) (h50 : t ≠ 150) {x y : Int} {q q' : Option Nat} (h1 : (x = -1 ∧ q = none) ∨ (0 ≤ x ∧ x < (zhN h (t - 100) : Int) ∧ q = some (μ (t - 100) x.toNat))) (h2 : (y = -1 ∧ q' = none) ∨ (0 ≤ y ∧ y < (zhN h (t - 100) : Int) ∧ q' = some (μ (t - 100) y.toNat))) : x = y ↔ q = q' := by
  rcases h1 with ⟨rfl, rfl⟩ | ⟨a1, a2, rfl⟩ <;> rcases h2 with ⟨rfl, rfl⟩ | ⟨b1, b2, rfl⟩
  · exact ⟨fun _ => rfl, fun _ => rfl⟩
  · exact ⟨fun h => by omega, fun h => by cases h⟩
  · exact ⟨fun h => by omega, fun h => by cases h⟩
  · refine ⟨fun h => by rw [h], fun h => ?_⟩
    have := (zmu_inj (D := (fun _ => 0, fun _ _ => 0)) hW hD (c := t - 100) (c' := t - 100) (by omega) (by omega) (by omega) (by omega) (Option.some.inj h)).2
    omega
theorem zs_acmp_eq (hx : p.tables.exec = Jvm.exec) (hb : c.code = cc) (hk : ∀ pc ls st h, kont pc ls st h = some r → zGo p l e R s m args below meth c Q A H0 σ cA D b L xs al C0 S0 μ0 N0 nL r pc ls st h) {x : Int} {u v o : Nat} (hdg : decode cc pc = .ok (.if_acmp .eq x, 3)) (ht : (pc : Int) + x = (u : Int)) {ls : List (Option zV)} {st : List zV} {h : zH} (hr : zoacmp false zPP al call (o, x, u, v) kont kret kthr pc ls st h = some r) : zGo p l e R s m args below meth c Q A H0 σ cA D b L xs al C0 S0 μ0 N0 nL r pc ls st h := by
  rcases st with _ | ⟨⟨t1, x1⟩, _ | ⟨⟨t2, x2⟩, st⟩⟩
  · cases hr
  · cases hr
  · simp only [zoacmp] at hr
    have hcA := (zif_some hr).1
    have hr2 := (zif_some hr).2
    clear hr
    obtain ⟨hcB, h50⟩ := zand_t hcA
    obtain ⟨hcC, he⟩ := zand_t hcB
    have h50 : t1 ≠ 150 := Nat.ne_of_beq_eq_false (znot_t h50)
    have hc := Nat.le_of_ble_eq_true hcC
    cases Nat.eq_of_beq_eq_true he
    clear hcA hcB hcC
    have hr := hr2
    clear hr2
    split at hr
    · rename_i hcd
      obtain ⟨hm, hg⟩ := hk _ _ _ _ hr
      refine ⟨hm, fun ws μ pos H locs lsJ stJ hat hl hs => ?_⟩
      obtain ⟨v1, sJ1, rfl, hv1, hs1⟩ := hs.cons
      obtain ⟨v2, sJ2, rfl, hv2, hs2⟩ := hs1.cons
      obtain ⟨q1, rfl, k1⟩ := zref_rf hc hv1
      obtain ⟨q2, rfl, k2⟩ := zref_rf hc hv2
      refine lv_acmp_eq hx hb hdg ht (fun q => ?_) (fun q => ?_)
      · exact hg ws μ pos H locs lsJ _ hat hl hs2
      · exact absurd ((zref_eq hat.1 hat.2.2.1 hc h50 k2 k1).mp hcd) q
    · rename_i hcd
      obtain ⟨hm, hg⟩ := hk _ _ _ _ hr
      refine ⟨hm, fun ws μ pos H locs lsJ stJ hat hl hs => ?_⟩
      obtain ⟨v1, sJ1, rfl, hv1, hs1⟩ := hs.cons
      obtain ⟨v2, sJ2, rfl, hv2, hs2⟩ := hs1.cons
      obtain ⟨q1, rfl, k1⟩ := zref_rf hc hv1
      obtain ⟨q2, rfl, k2⟩ := zref_rf hc hv2
      refine lv_acmp_eq hx hb hdg ht (fun q => ?_) (fun q => ?_)
      · exact absurd ((zref_eq hat.1 hat.2.2.1 hc h50 k2 k1).mpr q) hcd
      · exact hg ws μ pos H locs lsJ _ hat hl hs2
theorem zs_acmp_ne (hx : p.tables.exec = Jvm.exec) (hb : c.code = cc) (hk : ∀ pc ls st h, kont pc ls st h = some r → zGo p l e R s m args below meth c Q A H0 σ cA D b L xs al C0 S0 μ0 N0 nL r pc ls st h) {x : Int} {u v o : Nat} (hdg : decode cc pc = .ok (.if_acmp .ne x, 3)) (ht : (pc : Int) + x = (u : Int)) {ls : List (Option zV)} {st : List zV} {h : zH} (hr : zoacmp true zPP al call (o, x, u, v) kont kret kthr pc ls st h = some r) : zGo p l e R s m args below meth c Q A H0 σ cA D b L xs al C0 S0 μ0 N0 nL r pc ls st h := by
  rcases st with _ | ⟨⟨t1, x1⟩, _ | ⟨⟨t2, x2⟩, st⟩⟩
  · cases hr
  · cases hr
  · simp only [zoacmp] at hr
    have hcA := (zif_some hr).1
    have hr2 := (zif_some hr).2
    clear hr
    obtain ⟨hcB, h50⟩ := zand_t hcA
    obtain ⟨hcC, he⟩ := zand_t hcB
    have h50 : t1 ≠ 150 := Nat.ne_of_beq_eq_false (znot_t h50)
    have hc := Nat.le_of_ble_eq_true hcC
    cases Nat.eq_of_beq_eq_true he
    clear hcA hcB hcC
    have hr := hr2
    clear hr2
    split at hr
    · rename_i hcd
      obtain ⟨hm, hg⟩ := hk _ _ _ _ hr
      refine ⟨hm, fun ws μ pos H locs lsJ stJ hat hl hs => ?_⟩
      obtain ⟨v1, sJ1, rfl, hv1, hs1⟩ := hs.cons
      obtain ⟨v2, sJ2, rfl, hv2, hs2⟩ := hs1.cons
      obtain ⟨q1, rfl, k1⟩ := zref_rf hc hv1
      obtain ⟨q2, rfl, k2⟩ := zref_rf hc hv2
      refine lv_acmp_ne hx hb hdg ht (fun q => ?_) (fun q => ?_)
      · exact absurd ((zref_eq hat.1 hat.2.2.1 hc h50 k2 k1).mp hcd) q
      · exact hg ws μ pos H locs lsJ _ hat hl hs2
    · rename_i hcd
      obtain ⟨hm, hg⟩ := hk _ _ _ _ hr
      refine ⟨hm, fun ws μ pos H locs lsJ stJ hat hl hs => ?_⟩
      obtain ⟨v1, sJ1, rfl, hv1, hs1⟩ := hs.cons
      obtain ⟨v2, sJ2, rfl, hv2, hs2⟩ := hs1.cons
      obtain ⟨q1, rfl, k1⟩ := zref_rf hc hv1
      obtain ⟨q2, rfl, k2⟩ := zref_rf hc hv2
      refine lv_acmp_ne hx hb hdg ht (fun q => ?_) (fun q => ?_)
      · exact hg ws μ pos H locs lsJ _ hat hl hs2
      · exact absurd ((zref_eq hat.1 hat.2.2.1 hc h50 k2 k1).mpr q) hcd
end
