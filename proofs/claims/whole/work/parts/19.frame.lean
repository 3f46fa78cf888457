/-! EXITS -/
def zxck (cc : ByteArray) (rty : Option FieldType) (rt pc : Nat) (I : zI) : Bool := match I with
  | (130, _, u, _) => zok cc pc .ireturn 1 && (match rty with
    | some ty => ztr u ty
    | none => false) && Nat.beq (ztag u) 0 && Nat.beq rt 0
  | (131, _, _, _) => zok cc pc .lreturn 1 && decide (rty = some .long) && Nat.beq rt 1
  | (160, _, _, _) => zok cc pc .freturn 1 && decide (rty = some .float) && Nat.beq rt 5
  | (161, _, _, _) => zok cc pc .dreturn 1 && decide (rty = some .double) && Nat.beq rt 6
  | (132, _, _, v) => zok cc pc .areturn 1 && (match rty with
    | some (.object _) => true
    | some (.array _) => true
    | _ => false) && Nat.beq rt v && Nat.ble 100 v
  | (133, _, _, _) => zok cc pc .return_ 1 && rty.isNone && Nat.beq rt 9
  | (999, _, _, _) => true
  | _ => false
section
variable {p : Program} {l : Launch} {e : Env} {R : Room} {s : State} {m : MethodId} {args : Array Value} {below : List Frame} {meth : Method} {c : Code} {Q : State → Prop} {A : Nat → Prop} {H0 : Heap} {σ : Nat → Nat} {cA : Nat → ClassId} {D : va_G} {b L : Nat} {xs : Nat → Int32} {al : Bool} {C0 S0 : Nat} {μ0 : Nat → Nat → Nat} {N0 : Nat → Nat} {nL : Nat}
variable {r : zRes} {kont : Nat → List (Option zV) → List zV → zH → Option zRes} {kret : Int → zH → Option zRes} {kthr : Nat → zH → Option zRes} {call : Nat → List Int → zH → (Int → zH → Option zRes) → (Nat → zH → Option zRes) → Option zRes} {cc : ByteArray} {own : String} {pc : Nat}
theorem zxck_go {Qc : Array Value → State → Outcome → State → Prop} {rt : Nat} (hH0 : H0 = s.heap) (hlocks : meth.locks = false) (hx : p.tables.exec = Jvm.exec) (hb : c.code = cc) (hkr : ∀ v h, kret v h = zin v h) (hQc : ∀ (v : Int) (h : zH), r = .inl (v, h) → ∀ (val : Option Value) (ws : va_W) (μ pos : Nat → Nat → Nat) (H : Heap) (locs : List Loc) (t : State), zAt s A H0 σ cA D b L xs al C0 S0 μ0 N0 h ws μ pos H locs → zrv σ μ (zhN h) rt v val → t.heap = H → Qc args s (.returned val) t) {rty : Option FieldType} (hty : meth.sig.returnType = rty) {I : zI} (hck : zxck cc rty rt pc I = true) {ls : List (Option zV)} {st : List zV} {h : zH} (hr : zstp zPP al call I kont kret kthr pc ls st h = some r) : zGo p l e R s m args below meth c (MQ below Qc args s (zhC (zrh r) - C0) (zhS (zrh r) - S0) A) A H0 σ cA D b L xs al C0 S0 μ0 N0 nL r pc ls st h := by
  unfold zxck at hck
  split at hck
  · obtain ⟨hck, h4⟩ := zand_t hck
    obtain ⟨hck, h3⟩ := zand_t hck
    obtain ⟨h1, h2⟩ := zand_t hck
    cases rty with
    | none => cases h2
    | some ty => exact zs_iret (call := call) (kont := kont) (kthr := kthr) hH0 hlocks hx hb hkr hQc (zok_d h1) hty h2 (Nat.eq_of_beq_eq_true h3) (Nat.eq_of_beq_eq_true h4) hr
  · obtain ⟨hck, h3⟩ := zand_t hck
    obtain ⟨h1, h2⟩ := zand_t hck
    exact zs_lret (call := call) (kont := kont) (kthr := kthr) hH0 hlocks hx hb hkr hQc (zok_d h1) (hty.trans (of_decide_eq_true h2)) (Nat.eq_of_beq_eq_true h3) hr
  · obtain ⟨hck, h3⟩ := zand_t hck
    obtain ⟨h1, h2⟩ := zand_t hck
    exact zs_fret (call := call) (kont := kont) (kthr := kthr) hH0 hlocks hx hb hkr hQc (zok_d h1) (hty.trans (of_decide_eq_true h2)) (Nat.eq_of_beq_eq_true h3) hr
  · obtain ⟨hck, h3⟩ := zand_t hck
    obtain ⟨h1, h2⟩ := zand_t hck
    exact zs_dret (call := call) (kont := kont) (kthr := kthr) hH0 hlocks hx hb hkr hQc (zok_d h1) (hty.trans (of_decide_eq_true h2)) (Nat.eq_of_beq_eq_true h3) hr
  · obtain ⟨hck, h4⟩ := zand_t hck
    obtain ⟨hck, h3⟩ := zand_t hck
    obtain ⟨h1, h2⟩ := zand_t hck
    have h4 := Nat.le_of_ble_eq_true h4
    split at h2
    · exact zs_aret (call := call) (kont := kont) (kthr := kthr) hH0 hlocks hx hb hkr hQc (zok_d h1) hty (Or.inl ⟨_, rfl⟩) (Nat.eq_of_beq_eq_true h3) h4 hr
    · exact zs_aret (call := call) (kont := kont) (kthr := kthr) hH0 hlocks hx hb hkr hQc (zok_d h1) hty (Or.inr ⟨_, rfl⟩) (Nat.eq_of_beq_eq_true h3) h4 hr
    · cases h2
  · obtain ⟨hck, h3⟩ := zand_t hck
    obtain ⟨h1, h2⟩ := zand_t hck
    exact zs_vret (I := (133, 0, 0, 0)) (call := call) (kont := kont) (kthr := kthr) hH0 hlocks hx hb hkr hQc (zok_d h1) (hty.trans (Option.isNone_iff_eq_none.mp h2)) (Nat.eq_of_beq_eq_true h3) hr
  · cases hr
  · cases hck
end
/-! ENTRY -/
def zent : List Nat → List Int → Nat → List (Option zV)
  | t :: ts, x :: xs, n => some (t, x) :: (bif zwide t then none :: zent ts xs (n - 2) else zent ts xs (n - 1))
  | _, _, n => List.replicate n none
def zwid : List Nat → Nat
  | [] => 0
  | t :: ts => (bif zwide t then 2 else 1) + zwid ts
theorem zent_len : ∀ (ts : List Nat) (xs : List Int) (n : Nat), ts.length = xs.length → zwid ts ≤ n → (zent ts xs n).length = n
  | [], [], n, _, _ => List.length_replicate
  | t :: ts, x :: xs, n, hl, hw => by
    have hl2 : ts.length = xs.length := Nat.succ.inj hl
    unfold zent
    unfold zwid at hw
    cases hz : zwide t with
    | true =>
      rw [hz] at hw
      have hw2 : 2 + zwid ts ≤ n := hw
      have := zent_len ts xs (n - 2) hl2 (by omega)
      show (zent ts xs (n - 2)).length + 1 + 1 = n
      omega
    | false =>
      rw [hz] at hw
      have hw2 : 1 + zwid ts ≤ n := hw
      have := zent_len ts xs (n - 1) hl2 (by omega)
      show (zent ts xs (n - 1)).length + 1 = n
      omega
  | [], _ :: _, _, hl, _ => by cases hl
  | _ :: _, [], _, hl, _ => by cases hl
theorem zlv_none : ∀ (n i : Nat), zlv (List.replicate n none) i = none
  | 0, _ => rfl
  | _ + 1, 0 => rfl
  | n + 1, i + 1 => zlv_none n i
theorem zent_at {σ : Nat → Nat} {μ : Nat → Nat → Nat} {N : Nat → Nat} : ∀ (ts : List Nat) (xs : List Int) (vs : List Value), zARG σ μ N ts xs vs → ∀ (n k i t : Nat) (x : Int), zlv (zent ts xs n) i = some (t, x) → ∃ v, (k + i, v) ∈ lv_args k vs ∧ zvr σ μ N t x v
  | [], [], [], _, n, k, i, t, x, hi => by
    have := (zlv_none n i).symm.trans hi
    cases this
  | t0 :: ts, x0 :: xs, v0 :: vs, h, n, k, 0, t, x, hi => by
    cases (show some (t0, x0) = some (t, x) from hi)
    exact ⟨v0, List.mem_cons_self, h.1⟩
  | t0 :: ts, x0 :: xs, v0 :: vs, h, n, k, i + 1, t, x, hi => by
    have hc := h.1.cat
    unfold lv_args
    cases hz : zwide t0 with
    | true =>
      rw [hz] at hc
      have hc : v0.category = 2 := hc
      unfold zent at hi
      rw [hz] at hi
      rw [if_pos hc]
      cases i with
      | zero => cases (show (none : Option zV) = some (t, x) from hi)
      | succ i =>
        obtain ⟨v, h1, h2⟩ := zent_at ts xs vs h.2 (n - 2) (k + 2) i t x hi
        exact ⟨v, List.mem_cons_of_mem _ (by rw [show k + (i + 1 + 1) = k + 2 + i by omega]; exact h1), h2⟩
    | false =>
      rw [hz] at hc
      have hc : v0.category = 1 := hc
      unfold zent at hi
      rw [hz] at hi
      rw [if_neg (by rw [hc]; decide)]
      obtain ⟨v, h1, h2⟩ := zent_at ts xs vs h.2 (n - 1) (k + 1) i t x hi
      exact ⟨v, List.mem_cons_of_mem _ (by rw [show k + (i + 1) = k + 1 + i by omega]; exact h1), h2⟩
  | [], _ :: _, _, h, _, _, _, _, _, _ => h.elim
  | [], [], _ :: _, h, _, _, _, _, _, _ => h.elim
  | _ :: _, [], _, h, _, _, _, _, _, _ => h.elim
  | _ :: _, _ :: _, [], h, _, _, _, _, _, _ => h.elim
theorem zARG.lenx {σ : Nat → Nat} {μ : Nat → Nat → Nat} {N : Nat → Nat} : ∀ {ts : List Nat} {xs : List Int} {vs : List Value}, zARG σ μ N ts xs vs → ts.length = xs.length
  | [], [], [], _ => rfl
  | _ :: _, _ :: _, _ :: _, h => congrArg (· + 1) (zARG.lenx h.2)
  | [], _ :: _, _, h => h.elim
  | [], [], _ :: _, h => h.elim
  | _ :: _, [], _, h => h.elim
  | _ :: _, _ :: _, [], h => h.elim
theorem zwid_sl {σ : Nat → Nat} {μ : Nat → Nat → Nat} {N : Nat → Nat} : ∀ {ts : List Nat} {xs : List Int} {vs : List Value}, zARG σ μ N ts xs vs → (lg_sl vs).length = zwid ts
  | [], [], [], _ => rfl
  | t :: ts, x :: xs, v :: vs, h => by
    have hc := h.1.cat
    have ih := zwid_sl h.2
    unfold lg_sl at ih ⊢
    rw [List.flatMap_cons, List.length_append, ih]
    show _ = (bif zwide t then 2 else 1) + zwid ts
    cases hz : zwide t with
    | true =>
      rw [hz] at hc
      have hc : v.category = 2 := hc
      rw [if_pos hc]
      rfl
    | false =>
      rw [hz] at hc
      have hc : v.category = 1 := hc
      rw [if_neg (by rw [hc]; decide)]
      rfl
  | [], _ :: _, _, h => h.elim
  | [], [], _ :: _, h => h.elim
  | _ :: _, [], _, h => h.elim
  | _ :: _, _ :: _, [], h => h.elim
/-- the locals that a method begins with -/
theorem zLR_entry {σ : Nat → Nat} {μ : Nat → Nat → Nat} {N : Nat → Nat} {ts : List Nat} {xs : List Int} {vs : List Value} {nL : Nat} (h : zARG σ μ N ts xs vs) (hw : zwid ts ≤ nL) : zLR σ μ N nL (zent ts xs nL) ((lg_sl vs ++ List.replicate (nL - (lg_sl vs).length) Slot.unset).toArray) :=
  ⟨zent_len ts xs nL h.lenx hw, lv_args 0 vs, lv_entry vs (by rw [zwid_sl h]; exact hw), fun i t x hi => by
    have h9 := zent_at ts xs vs h nL 0 i t x hi
    rw [Nat.zero_add] at h9
    exact h9⟩
/-! A CONTRACT OUT OF A BODY, for both kinds of words -/
def zitb (f : zinfo) : List ExceptionTableEntry := match f.2.2.2.2.2.2.2.2 with
  | none => []
  | some hh => tableOf hh
theorem zMet_ofB {l : Launch} {f : zinfo} {ws ws' : List Cond} {rm : Room} {Pc : Array Value → State → Prop} {Qc : Array Value → State → Outcome → State → Prop} {mc ms : Nat} {free : Addr → Prop} (hy : plainFor f.1 = true) (hw : ws = zicw f :: ws')
    (body : ∀ p e s m args below meth c s₁, BodyLoose p l f.1 (headSpec ws rm) f.2.2.2.2.2.2.1 f.2.2.2.1 f.2.2.2.2.2.2.2.1 e s m args below meth c s₁ → c.maxLocals = f.2.2.2.1 → c.exceptionTable.toList = zitb f → Pc args s →
      W p l e (headSpec ws rm).room s m args below meth c s.heap [] 0 0 (MQ below Qc args s mc ms free) (entryFrame m args f.2.2.2.1)) : Met l f.1 ws rm Pc Qc mc ms free := by
  refine MetFree.of_bodySF (code := f.2.2.2.2.2.2.1) (maxLocals := f.2.2.2.1) (ret := f.2.2.2.2.2.2.2.1) hy ?_ ?_
  · intro args s m h hn
    have hb := atoms_spec (ws := ws) h (zicw f) (by rw [hw]; exact List.mem_cons_self)
    cases hh : f.2.2.2.2.2.2.2.2 with
    | none =>
      rw [zicw_n (by rw [hh]; rfl)] at hb
      obtain ⟨meth, c, h1, h2, h3, h4, h5, h6, -, -⟩ := Cond.code_spec hn hb
      exact ⟨meth, c, h1, h2, h3, h4, h5, h6⟩
    | some hl =>
      rw [zicw_s hh] at hb
      obtain ⟨m9, meth, c, hn9, h1, h2, h3, h4, h5, h6, h7, -⟩ := Cond.codeWith_spec hb
      cases Option.some.inj (hn9.symm.trans hn)
      exact ⟨meth, c, h1, h2, h3, h4, h6, h7⟩
  · intro p e s m args below meth c s₁ B hml hP _
    have hh0 : s₁.heap = s.heap := by rw [B.state]; rfl
    have hb := atoms_spec (ws := ws) B.pre (zicw f) (by rw [hw]; exact List.mem_cons_self)
    have ht : c.exceptionTable.toList = zitb f := by
      unfold zitb
      cases hh : f.2.2.2.2.2.2.2.2 with
      | none =>
        rw [zicw_n (by rw [hh]; rfl)] at hb
        obtain ⟨meth9, c9, h1, h2, -, -, -, -, h7, -⟩ := Cond.code_spec B.named hb
        cases Option.some.inj (h1.symm.trans B.method)
        cases Option.some.inj (h2.symm.trans (Stand.of_body B).code)
        rw [Array.isEmpty_iff.mp h7]
      | some hl =>
        rw [zicw_s hh] at hb
        exact vx_table (x := f.1) B hb
    obtain ⟨t, a1, o, b1, b2, b3⟩ := body p e s m args below meth c s₁ B hml ht hP s₁ hh0 (Stand.of_body B)
    exact ⟨t, o, a1, b1, b2, ⟨b3.1, b3.2⟩⟩
