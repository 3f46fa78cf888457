/-! CALLS -/
theorem zT_good : ∀ w ∈ zT, (w.onTables && w.keeps) = true ∨ ∃ ty, w = .arrayClass ty := fun w hw => good_of_word (List.mem_filter.mp hw).2
theorem zT_in {cw : Cond} (h : cw ∈ zT) : GoodIn zT (cw :: zT) := fun w hw => by
  rcases List.mem_cons.mp hw with rfl | hw
  · exact ⟨h, zT_good _ h⟩
  · exact ⟨hw, zT_good _ hw⟩
section
variable {p : Program} {l : Launch} {e : Env} {R : Room} {s : State} {m : MethodId} {args : Array Value} {below : List Frame} {meth : Method} {c : Code} {Q : State → Prop} {A : Nat → Prop} {H0 : Heap} {σ : Nat → Nat} {cA : Nat → ClassId} {D : va_G} {b L : Nat} {xs : Nat → Int32} {al : Bool} {C0 S0 : Nat} {μ0 : Nat → Nat → Nat} {N0 : Nat → Nat} {nL : Nat}
variable {r : zRes} {kont : Nat → List (Option zV) → List zV → zH → Option zRes} {kret : Int → zH → Option zRes} {kthr : Nat → zH → Option zRes} {call : Nat → List Int → zH → (Int → zH → Option zRes) → (Nat → zH → Option zRes) → Option zRes} {cc : ByteArray} {own : String} {pc : Nat}
theorem zA_sub {h : zH} {ws : va_W} {μ pos : Nat → Nat → Nat} {H : Heap} {locs : List Loc} (hat : zAt s A H0 σ cA D b L xs al C0 S0 μ0 N0 h ws μ pos H locs) (hA : ∀ q, H0.size ≤ q → A q) : ∀ q, va_A ws H.size q → A q := fun q hq => by
  rcases hq with ⟨k, e, hk⟩ | hq
  · exact hat.2.2.1.2 k _ hk
  · exact hA q (Nat.le_trans hat.2.2.2.1.1 hq)
theorem zpre_at {h : zH} {ws : va_W} {μ pos : Nat → Nat → Nat} {H : Heap} {locs : List Loc} (hat : zAt s A H0 σ cA D b L xs al C0 S0 μ0 N0 h ws μ pos H locs) (hA : ∀ q, H0.size ≤ q → A q) (hK : va_K D zcl (ztys cA) s) (hEnv : zEnv σ A s H0) : ∀ U : State, U.heap = H → s.WarmedH U.vm → zPre σ cA D ws H.size U := fun U hU hW =>
  ⟨by rw [hU], by rw [hU]; exact hat.2.1, va_K.moved hW.alike hK, hat.2.2.1.weaken (fun _ _ _ _ => trivial), by rw [hU]; exact hEnv.pass hW hat.2.2.2.1.2.1 (zA_sub hat hA)⟩
/-- behind a call: the world that came back -/
theorem zAt.back {h h1 : zH} {ws ws1 : va_W} {μ pos μ1 pos1 : Nat → Nat → Nat} {H : Heap} {locs locs1 : List Loc} {t : State} {al' : Bool} (hat : zAt s A H0 σ cA D b L xs al C0 S0 μ0 N0 h ws μ pos H locs) (hA : ∀ q, H0.size ≤ q → A q) (hal : al = false → al' = false) (hC : zhC h ≤ zhC h1) (hC2 : zhS h ≤ zhS h1) (hw : zWQ σ cA D b L xs al' μ (zhN h) (va_A ws H.size) h1 ws1 μ1 pos1 t) (hS : va_S A H0 t.heap locs1) : zAt s A H0 σ cA D b L xs al C0 S0 μ0 N0 h1 ws1 μ1 pos1 t.heap locs1 := by
  obtain ⟨w1, w2, w3, w4, w5, w6⟩ := hw
  have hsub := zA_sub hat hA
  obtain ⟨a1, a2, a3, a4, a5, a6, a7, a8, a9⟩ := hat
  refine ⟨w1, w2, w3.weaken (fun k q _ hq => hsub _ hq), hS, fun c' i hi => ?_, by omega, by omega, fun z => w5 (hal z), w6⟩
  obtain ⟨q1, q2⟩ := a5 c' i hi
  obtain ⟨q3, q4⟩ := w4 c' i q1
  exact ⟨q3, q4.trans q2⟩
theorem zrun_go {h h1 : zH} {ws : va_W} {μ pos : Nat → Nat → Nat} {H : Heap} {locs : List Loc} {lsJ : Array Slot} {stJ rest : List Value} {rt : Nat} {v : Int} {al' : Bool} {a : Array Value} (hat : zAt s A H0 σ cA D b L xs al C0 S0 μ0 N0 h ws μ pos H locs) (hA : ∀ q, H0.size ≤ q → A q) (hal : al = false → al' = false) (hC : zhC h ≤ zhC h1) (hC2 : zhS h ≤ zhS h1)
    (hrun : va_Run p l e R s m args below meth c H locs (zhC h - C0) (zhS h - S0) (zhC h1 - zhC h) (zhS h1 - zhS h) (F0 m pc lsJ stJ) rest (zQ σ cA D b L xs al' μ (zhN h) (va_A ws H.size) rt v h1 a) (va_A ws H.size))
    (kk : ∀ (val : Option Value) (ws1 : va_W) (μ1 pos1 : Nat → Nat → Nat) (H1 : Heap) (locs1 : List Loc), zAt s A H0 σ cA D b L xs al C0 S0 μ0 N0 h1 ws1 μ1 pos1 H1 locs1 → (∀ c i, i < zhN h c → i < zhN h1 c ∧ μ1 c i = μ c i) → zrv σ μ1 (zhN h1) rt v val → W p l e R s m args below meth c H1 locs1 (zhC h1 - C0) (zhS h1 - S0) Q (F0 m (pc + 3) lsJ (val.toList ++ rest))) :
    W p l e R s m args below meth c H locs (zhC h - C0) (zhS h - S0) Q (F0 m pc lsJ stJ) := by
  intro T hT X
  obtain ⟨v0, st₀, t, T', L9, h0, X', hL, e1, e2, ⟨⟨val, ws1, μ1, pos1, hval, hw, hv⟩, hF⟩, st⟩ := hrun T hT X
  cases hval
  obtain ⟨k1, k2, k3⟩ := vx_keep h0 e1 hat.2.2.2.1 (fun q _ => zA_sub hat hA q) (zA_sub hat hA) hL hF
  rw [e1] at k3
  have h6 : C0 ≤ zhC h := hat.2.2.2.2.2.1
  have h7 : S0 ≤ zhS h := hat.2.2.2.2.2.2.1
  have q1 : zhC h - C0 + (zhC h1 - zhC h) = zhC h1 - C0 := by omega
  have q2 : zhS h - S0 + (zhS h1 - zhS h) = zhS h1 - S0 := by omega
  rw [q1, q2] at X'
  obtain ⟨t2, a1, b1⟩ := kk v0 ws1 μ1 pos1 t.heap (locs ++ L9) (hat.back hA hal hC hC2 hw k3) hw.2.2.2.1 hv T' e1 X'
  exact ⟨t2, st t2 a1, b1⟩
/-- thrown out of a call, or returned -/
theorem zrunx_go {h : zH} {r1 : zRes} {ws : va_W} {μ pos : Nat → Nat → Nat} {H : Heap} {locs : List Loc} {lsJ : Array Slot} {stJ rest : List Value} {rt : Nat} {al' : Bool} {a : Array Value} (hat : zAt s A H0 σ cA D b L xs al C0 S0 μ0 N0 h ws μ pos H locs) (hA : ∀ q, H0.size ≤ q → A q) (hal : al = false → al' = false) (hC : zhC h ≤ zhC (zrh r1)) (hC2 : zhS h ≤ zhS (zrh r1))
    (hrun : vx_Run p l e R s m args below meth c H locs (zhC h - C0) (zhS h - S0) (zhC (zrh r1) - zhC h) (zhS (zrh r1) - zhS h) (F0 m pc lsJ stJ) rest (zQr σ cA D b L xs al' μ (zhN h) (va_A ws H.size) rt r1 a) (zXr σ cA D b L xs al' μ (zhN h) (va_A ws H.size) r1) (va_A ws H.size))
    (kk : ∀ (v : Int) (h1 : zH), r1 = .inl (v, h1) → ∀ (val : Option Value) (ws1 : va_W) (μ1 pos1 : Nat → Nat → Nat) (H1 : Heap) (locs1 : List Loc), zAt s A H0 σ cA D b L xs al C0 S0 μ0 N0 h1 ws1 μ1 pos1 H1 locs1 → (∀ c i, i < zhN h c → i < zhN h1 c ∧ μ1 c i = μ c i) → zrv σ μ1 (zhN h1) rt v val → W p l e R s m args below meth c H1 locs1 (zhC h1 - C0) (zhS h1 - S0) Q (F0 m (pc + 3) lsJ (val.toList ++ rest)))
    (kx : ∀ (n : Nat) (h1 : zH), r1 = .inr (n, h1) → ∀ (ws1 : va_W) (μ1 pos1 : Nat → Nat → Nat) (H1 : Heap) (locs1 : List Loc) (q9 : Addr) (ce : Cell), zAt s A H0 σ cA D b L xs al C0 S0 μ0 N0 h1 ws1 μ1 pos1 H1 locs1 → (∀ c i, i < zhN h c → i < zhN h1 c ∧ μ1 c i = μ c i) → H1[q9]? = some ce → ce.vm = .none → s.vm.findClass (zexc n) = some ce.cls → vx_W p l e R s m args below meth c H1 locs1 (zhC h1 - C0) (zhS h1 - S0) Q (F0 m pc lsJ rest) q9) :
    W p l e R s m args below meth c H locs (zhC h - C0) (zhS h - S0) Q (F0 m pc lsJ stJ) := by
  intro T hT X
  have h6 : C0 ≤ zhC h := hat.2.2.2.2.2.1
  have h7 : S0 ≤ zhS h := hat.2.2.2.2.2.2.1
  have q1 : zhC h - C0 + (zhC (zrh r1) - zhC h) = zhC (zrh r1) - C0 := by omega
  have q2 : zhS h - S0 + (zhS (zrh r1) - zhS h) = zhS (zrh r1) - S0 := by omega
  rcases hrun T hT X with ⟨v0, st₀, t, T', L9, h0, X', hL, e1, e2, hq, st⟩ | ⟨q9, st₀, t, T', L9, E, ce, h0, X', hL, e1, e2, hq, hce, hcv, hcl, st⟩
  · rw [q1, q2] at X'
    cases r1 with
    | inr z => exact False.elim hq
    | inl z =>
      obtain ⟨v, h1⟩ := z
      have hq : zQ σ cA D b L xs al' μ (zhN h) (va_A ws H.size) rt v h1 a st₀ (.returned v0) t := hq
      obtain ⟨⟨val, ws1, μ1, pos1, hval, hw, hv⟩, hF⟩ := hq
      cases hval
      obtain ⟨k1, k2, k3⟩ := vx_keep h0 e1 hat.2.2.2.1 (fun q _ => zA_sub hat hA q) (zA_sub hat hA) hL hF
      rw [e1] at k3
      obtain ⟨t2, a1, b1⟩ := kk v h1 rfl v0 ws1 μ1 pos1 t.heap (locs ++ L9) (hat.back hA hal hC hC2 hw k3) hw.2.2.2.1 hv T' e1 X'
      exact ⟨t2, st t2 a1, b1⟩
  · rw [q1, q2] at X'
    cases r1 with
    | inl z => exact False.elim hq
    | inr z =>
      obtain ⟨n, h1⟩ := z
      have hq : zXC σ cA D b L xs al' μ (zhN h) (va_A ws H.size) n h1 E st₀ t := hq
      obtain ⟨rfl, ⟨ws1, μ1, pos1, hw⟩, hF⟩ := hq
      obtain ⟨k1, k2, k3⟩ := vx_keep h0 e1 hat.2.2.2.1 (fun q _ => zA_sub hat hA q) (zA_sub hat hA) hL hF
      rw [e1] at k3
      obtain ⟨t2, a1, b1⟩ := kx n h1 rfl ws1 μ1 pos1 t.heap (locs ++ L9) q9 ce (hat.back hA hal hC hC2 hw k3) hw.2.2.2.1 hce hcv hcl T' e1 X'
      exact ⟨t2, st.trans a1, b1⟩
/-- the static facts of a call -/
def zcb (own : String) (R : Room) (index : Nat) (y : MethodName) (cw : Cond) (fr lo maxL n : Nat) : Prop :=
  cw ∈ zT ∧ fr + 1 ≤ R.frames ∧ 8 + (maxL + 11) + lo ≤ R.locals ∧ Cond.initialized y.cls ∈ zT ∧ (y.cls ≠ "java/lang/invoke/MethodHandle" ∧ y.cls ≠ "java/lang/invoke/VarHandle") ∧ (parseMethodDescriptor y.desc).map (fun d => d.parameters.length) = some n
theorem zcb_n {y : MethodName} {n : Nat} (h : (parseMethodDescriptor y.desc).map (fun d => d.parameters.length) = some n) : ∀ sig, parseMethodDescriptor y.desc = some sig → n = sig.parameters.length := fun sig hs => by
  rw [hs] at h
  exact (Option.some.inj h).symm
/-- what a throw out of here comes to -/
def zGoX (p : Program) (l : Launch) (e : Env) (R : Room) (s : State) (m : MethodId) (args : Array Value) (below : List Frame) (meth : Method) (c : Code) (Q : State → Prop) (A : Nat → Prop) (H0 : Heap) (σ : Nat → Nat) (cA : Nat → ClassId) (D : va_G) (b L : Nat) (xs : Nat → Int32) (al : Bool) (C0 S0 : Nat) (μ0 : Nat → Nat → Nat) (N0 : Nat → Nat) (nL : Nat) (r : zRes) (pc : Nat) (n : Nat) (h : zH) : Prop :=
  (zhC h ≤ zhC (zrh r) ∧ zhS h ≤ zhS (zrh r)) ∧ ∀ (ws : va_W) (μ pos : Nat → Nat → Nat) (H : Heap) (locs : List Loc) (lsJ : Array Slot) (rest : List Value) (q9 : Addr) (ce : Cell), zAt s A H0 σ cA D b L xs al C0 S0 μ0 N0 h ws μ pos H locs → H[q9]? = some ce → ce.vm = .none → s.vm.findClass (zexc n) = some ce.cls → vx_W p l e R s m args below meth c H locs (zhC h - C0) (zhS h - S0) Q (F0 m pc lsJ rest) q9
theorem zret_some {α : Type} {rt : Nat} {v : Int} {st : List zV} {k : List zV → Option α} {y : α} (h : zret rt v st k = some y) : (rt = 9 ∧ k st = some y) ∨ (rt ≠ 9 ∧ k ((rt, v) :: st) = some y) := by
  unfold zret at h
  split at h
  · exact Or.inl ⟨rfl, h⟩
  · rename_i hn
    exact Or.inr ⟨hn, h⟩
theorem zrv_st {μ : Nat → Nat → Nat} {N : Nat → Nat} {rt : Nat} {v : Int} {val : Option Value} {st : List zV} {rest : List Value} (hv : zrv σ μ N rt v val) (hs : zSR σ μ N st rest) : (rt = 9 → zSR σ μ N st (val.toList ++ rest)) ∧ (rt ≠ 9 → zSR σ μ N ((rt, v) :: st) (val.toList ++ rest)) := by
  rcases hv with ⟨h1, rfl⟩ | ⟨h1, w, rfl, h2⟩
  · exact ⟨fun _ => hs, fun h => absurd h1 h⟩
  · exact ⟨fun h => absurd h h1, fun _ => ⟨h2, hs⟩⟩
theorem zARG.len {μ : Nat → Nat → Nat} {N : Nat → Nat} : ∀ {ts : List Nat} {xs : List Int} {vs : List Value}, zARG σ μ N ts xs vs → ts.length = vs.length
  | [], [], [], _ => rfl
  | _ :: _, _ :: _, _ :: _, h => congrArg (· + 1) (zARG.len h.2)
  | [], _ :: _, _, h => h.elim
  | [], [], _ :: _, h => h.elim
  | _ :: _, [], _, h => h.elim
  | _ :: _, _ :: _, [], h => h.elim
theorem zs_callv (hx : p.tables.exec = Jvm.exec) (hb : c.code = cc) (hml : c.maxLocals = nL) (hown : s.vm.findClass own = some m.cls) (hts : ∀ w ∈ zT, w.before args s = true) (hK : va_K D zcl (ztys cA) s) (hA : ∀ q, H0.size ≤ q → A q) (hEnv : zEnv σ A s H0) (hRc : zhC (zrh r) - C0 ≤ R.cells) (hRs : zhS (zrh r) - S0 ≤ R.slots) (hk : ∀ pc ls st h, kont pc ls st h = some r → zGo p l e R s m args below meth c Q A H0 σ cA D b L xs al C0 S0 μ0 N0 nL r pc ls st h) {I : zI} {y : MethodName} {cw : Cond} {fr lo maxL n : Nat} {bytes : ByteArray} {ret : Option FieldType} {al' : Bool} (hal : al = false → al' = false) (hcb : zcb own R I.2.2.1 y cw fr lo maxL n) (hwl : Cond.methodLink own I.2.2.1 y ∈ zT) (hwi : Cond.instanceMethod y ∈ zT) (hws : Cond.selects y.cls y y ∈ zT) {ci : Nat} {tl : List Nat} (hci13 : ci < 13) (hci : (zsig zPP I.2.2.2).2.2.2 = ci) (hsg : (zsig zPP I.2.2.2).2.1.reverse = (100 + ci) :: tl) (hcn : zCn ci = y.cls) (hnp : tl.length = n) (hal9 : al = true → al' = true) (hcl : ∀ (as : List Int) (h : zH) (k : Int → zH → Option zRes) (t : Nat → zH → Option zRes), call I.2.2.2 as h k t = some r → ∃ (v : Int) (h1 : zH), k v h1 = some r ∧ (zhC h ≤ zhC h1 ∧ zhS h ≤ zhS h1) ∧ zMet l al' y cw fr lo (zsig zPP I.2.2.2).2.1.reverse (zsig zPP I.2.2.2).2.2.1 as h v h1) (hdg : decode cc pc = .ok (.invokevirtual I.2.2.1, 3)) (hcw : cw = Cond.code y bytes maxL ret) {ls : List (Option zV)} {st : List zV} {h : zH} (hr : zocallv zPP al call I kont kret kthr pc ls st h = some r) : zGo p l e R s m args below meth c Q A H0 σ cA D b L xs al C0 S0 μ0 N0 nL r pc ls st h := by
  simp only [zocallv] at hr
  obtain ⟨xs0, st1, hr, hpop⟩ := zpop_sp _ _ _ hr
  rw [List.append_nil] at hr
  obtain ⟨hc, hr⟩ := zif_some hr
  obtain ⟨hc1, -⟩ := zand_t hc
  have hc1 := Nat.le_of_ble_eq_true hc1
  generalize hre : xs0.reverse = as at hr
  cases as with
  | nil => cases hr
  | cons a as =>
    obtain ⟨q, hq, hr, hp⟩ := zobm_some hr
    obtain ⟨v, h1, hr, ⟨hC, hC2⟩, hM⟩ := hcl _ _ _ _ hr
    have hm : zhC h1 ≤ zhC (zrh r) ∧ zhS h1 ≤ zhS (zrh r) := by
      rcases zret_some hr with ⟨-, hr⟩ | ⟨-, hr⟩
      · exact (hk _ _ _ _ hr).1
      · exact (hk _ _ _ _ hr).1
    refine ⟨⟨by omega, by omega⟩, fun ws μ pos H locs lsJ stJ hat hl hs => ?_⟩
    have h6 : C0 ≤ zhC h := hat.2.2.2.2.2.1
    have h7 : S0 ≤ zhS h := hat.2.2.2.2.2.2.1
    obtain ⟨vs0, rest, rfl, harg0, hs'⟩ := hpop σ μ (zhN h) stJ hs
    have harg := harg0.rev
    clear harg0 hs
    rw [hre] at harg
    obtain ⟨vs, rfl⟩ : ∃ vs : List Value, vs0 = vs.reverse := ⟨vs0.reverse, by simp⟩
    rw [List.reverse_reverse] at harg
    rw [hsg] at harg
    obtain ⟨v1, As, rfl, hv1, hAs⟩ : ∃ v1 As, vs = v1 :: As ∧ zvr σ μ (zhN h) (100 + ci) a v1 ∧ zARG σ μ (zhN h) tl as As := by
      cases vs with
      | nil => exact harg.elim
      | cons v1 As => exact ⟨v1, As, rfl, harg.1, harg.2⟩
    cases zref_at hq hv1
    rw [hci] at hp
    have hp' := zat_N hat hp
    obtain ⟨fs, f1, f2, f3⟩ := hat.1.obj hci13 hp'
    have hrec := va_recv hK hat.2.1 (zcl_at hci13) f1
    rw [hcn] at hrec
    have hcells : zhC h - C0 + (zhC h1 - zhC h) ≤ R.cells ∧ zhS h - S0 + (zhS h1 - zhS h) ≤ R.slots := ⟨by omega, by omega⟩
    have hMet := hM σ cA D b L xs ws μ pos (.ref (μ ci q) :: As) H.size hat.1 (fun z => hat.2.2.2.2.2.2.2.1 (by cases hq9 : al with
      | false => rfl
      | true => exact absurd z (by rw [hal9 hq9]; decide))) hat.2.2.2.2.2.2.2.2 (by rw [hsg]; exact ⟨hv1, hAs⟩)
    have hnn : As.length = n := by rw [← hnp]; exact hAs.len.symm
    have hrun := va_runV (C := y.cls) (e := e) (below := below) (meth := meth) (locs := locs) (g := F0 m pc lsJ ((Value.ref (μ ci q) :: As).reverse ++ rest)) (rest := rest) ⟨hx, hb, hml, hown, hts⟩ hMet ⟨⟨rfl, rfl, hcb.2.1, hcb.2.2.1, pay_in hts (zT_in hcb.1), by rw [hcw]; exact List.mem_cons_self, by have := hts _ hcb.1; rw [hcw] at this; exact this, hts _ hcb.2.2.2.1, hcb.2.2.2.2.1, zcb_n hcb.2.2.2.2.2, hts _ hwl⟩, hts _ hwi, hts _ hws⟩ ⟨zPre_blind, hrec, fun U hU hW => ⟨rfl, zpre_at hat hA hK hEnv U hU hW⟩⟩ rfl hnn hl.2.choose_spec.1.1 (by simp) (lv_room (by rw [hs'.cat]; exact hc1)) hdg hcells
    refine zrun_go hat hA hal hC hC2 hrun (fun val ws1 μ1 pos1 H1 locs1 hat1 hex hv => ?_)
    have hs1 := zrv_st hv (hs'.mono hex)
    rcases zret_some hr with ⟨hq, hr⟩ | ⟨hq, hr⟩
    · exact (hk _ _ _ _ hr).2 ws1 μ1 pos1 H1 locs1 lsJ _ hat1 (hl.mono hex) (hs1.1 hq)
    · exact (hk _ _ _ _ hr).2 ws1 μ1 pos1 H1 locs1 lsJ _ hat1 (hl.mono hex) (hs1.2 hq)
theorem zs_callvx (hx : p.tables.exec = Jvm.exec) (hb : c.code = cc) (hml : c.maxLocals = nL) (hown : s.vm.findClass own = some m.cls) (hts : ∀ w ∈ zT, w.before args s = true) (hK : va_K D zcl (ztys cA) s) (hA : ∀ q, H0.size ≤ q → A q) (hEnv : zEnv σ A s H0) (hRc : zhC (zrh r) - C0 ≤ R.cells) (hRs : zhS (zrh r) - S0 ≤ R.slots) (hk : ∀ pc ls st h, kont pc ls st h = some r → zGo p l e R s m args below meth c Q A H0 σ cA D b L xs al C0 S0 μ0 N0 nL r pc ls st h) (hthr : ∀ pc n h, kthr n h = some r → zGoX p l e R s m args below meth c Q A H0 σ cA D b L xs al C0 S0 μ0 N0 nL r pc n h) {I : zI} {y : MethodName} {cw : Cond} {fr lo maxL n : Nat} {bytes : ByteArray} {ret : Option FieldType} {al' : Bool} (hal : al = false → al' = false) (hcb : zcb own R I.2.2.1 y cw fr lo maxL n) (hwl : Cond.methodLink own I.2.2.1 y ∈ zT) (hwi : Cond.instanceMethod y ∈ zT) (hws : Cond.selects y.cls y y ∈ zT) {ci : Nat} {tl : List Nat} (hci13 : ci < 13) (hci : (zsig zPP I.2.2.2).2.2.2 = ci) (hsg : (zsig zPP I.2.2.2).2.1.reverse = (100 + ci) :: tl) (hcn : zCn ci = y.cls) (hnp : tl.length = n) (hal9 : al = true → al' = true) (hcl : ∀ (as : List Int) (h : zH) (k : Int → zH → Option zRes) (t : Nat → zH → Option zRes), call I.2.2.2 as h k t = some r → ∃ r1 : zRes, zel k t r1 = some r ∧ (zhC h ≤ zhC (zrh r1) ∧ zhS h ≤ zhS (zrh r1)) ∧ zMetX l al' y cw fr lo (zsig zPP I.2.2.2).2.1.reverse (zsig zPP I.2.2.2).2.2.1 as h r1) (hdg : decode cc pc = .ok (.invokevirtual I.2.2.1, 3)) (hcw : cw = Cond.code y bytes maxL ret) {ls : List (Option zV)} {st : List zV} {h : zH} (hr : zocallv zPP al call I kont kret kthr pc ls st h = some r) : zGo p l e R s m args below meth c Q A H0 σ cA D b L xs al C0 S0 μ0 N0 nL r pc ls st h := by
  simp only [zocallv] at hr
  obtain ⟨xs0, st1, hr, hpop⟩ := zpop_sp _ _ _ hr
  rw [List.append_nil] at hr
  obtain ⟨hc, hr⟩ := zif_some hr
  obtain ⟨hc1, -⟩ := zand_t hc
  have hc1 := Nat.le_of_ble_eq_true hc1
  generalize hre : xs0.reverse = as at hr
  cases as with
  | nil => cases hr
  | cons a as =>
    obtain ⟨q, hq, hr, hp⟩ := zobm_some hr
    obtain ⟨r1, hr, ⟨hC, hC2⟩, hM⟩ := hcl _ _ _ _ hr
    have hm : zhC (zrh r1) ≤ zhC (zrh r) ∧ zhS (zrh r1) ≤ zhS (zrh r) := by
      cases r1 with
      | inl z =>
        have hr2 : zret (zsig zPP I.2.2.2).2.2.1 z.1 st1 (fun st => kont (pc + 3) ls st z.2) = some r := hr
        rcases zret_some hr2 with ⟨-, hr⟩ | ⟨-, hr⟩
        · exact (hk _ _ _ _ hr).1
        · exact (hk _ _ _ _ hr).1
      | inr z => exact (hthr pc z.1 z.2 hr).1
    refine ⟨⟨by omega, by omega⟩, fun ws μ pos H locs lsJ stJ hat hl hs => ?_⟩
    have h6 : C0 ≤ zhC h := hat.2.2.2.2.2.1
    have h7 : S0 ≤ zhS h := hat.2.2.2.2.2.2.1
    obtain ⟨vs0, rest, rfl, harg0, hs'⟩ := hpop σ μ (zhN h) stJ hs
    have harg := harg0.rev
    clear harg0 hs
    rw [hre] at harg
    obtain ⟨vs, rfl⟩ : ∃ vs : List Value, vs0 = vs.reverse := ⟨vs0.reverse, by simp⟩
    rw [List.reverse_reverse] at harg
    rw [hsg] at harg
    obtain ⟨v1, As, rfl, hv1, hAs⟩ : ∃ v1 As, vs = v1 :: As ∧ zvr σ μ (zhN h) (100 + ci) a v1 ∧ zARG σ μ (zhN h) tl as As := by
      cases vs with
      | nil => exact harg.elim
      | cons v1 As => exact ⟨v1, As, rfl, harg.1, harg.2⟩
    cases zref_at hq hv1
    rw [hci] at hp
    have hp' := zat_N hat hp
    obtain ⟨fs, f1, f2, f3⟩ := hat.1.obj hci13 hp'
    have hrec := va_recv hK hat.2.1 (zcl_at hci13) f1
    rw [hcn] at hrec
    have hcells : zhC h - C0 + (zhC (zrh r1) - zhC h) ≤ R.cells ∧ zhS h - S0 + (zhS (zrh r1) - zhS h) ≤ R.slots := ⟨by omega, by omega⟩
    have hMet := hM σ cA D b L xs ws μ pos (.ref (μ ci q) :: As) H.size hat.1 (fun z => hat.2.2.2.2.2.2.2.1 (by cases hq9 : al with
      | false => rfl
      | true => exact absurd z (by rw [hal9 hq9]; decide))) hat.2.2.2.2.2.2.2.2 (by rw [hsg]; exact ⟨hv1, hAs⟩)
    have hnn : As.length = n := by rw [← hnp]; exact hAs.len.symm
    have hrun := vx_runV (C := y.cls) (e := e) (below := below) (meth := meth) (locs := locs) (g := F0 m pc lsJ ((Value.ref (μ ci q) :: As).reverse ++ rest)) (rest := rest) ⟨hx, hb, hml, hown, hts⟩ hMet ⟨⟨rfl, rfl, hcb.2.1, hcb.2.2.1, pay_in hts (zT_in hcb.1), by rw [hcw]; exact List.mem_cons_self, by have := hts _ hcb.1; rw [hcw] at this; exact this, hts _ hcb.2.2.2.1, hcb.2.2.2.2.1, zcb_n hcb.2.2.2.2.2, hts _ hwl⟩, hts _ hwi, hts _ hws⟩ ⟨zPre_blind, hrec, fun U hU hW => ⟨rfl, zpre_at hat hA hK hEnv U hU hW⟩⟩ rfl hnn hl.2.choose_spec.1.1 (by simp) (lv_room (by rw [hs'.cat]; exact hc1)) hdg hcells
    refine zrunx_go hat hA hal hC hC2 hrun (fun v h1 hz val ws1 μ1 pos1 H1 locs1 hat1 hex hv => ?_) (fun n9 h1 hz ws1 μ1 pos1 H1 locs1 q9 ce hat1 hex g1 g2 g3 => ?_)
    · subst hz
      have hs1 := zrv_st hv (hs'.mono hex)
      have hr2 : zret (zsig zPP I.2.2.2).2.2.1 v st1 (fun st => kont (pc + 3) ls st h1) = some r := hr
      rcases zret_some hr2 with ⟨hq, hr⟩ | ⟨hq, hr⟩
      · exact (hk _ _ _ _ hr).2 ws1 μ1 pos1 H1 locs1 lsJ _ hat1 (hl.mono hex) (hs1.1 hq)
      · exact (hk _ _ _ _ hr).2 ws1 μ1 pos1 H1 locs1 lsJ _ hat1 (hl.mono hex) (hs1.2 hq)
    · subst hz
      exact (hthr pc n9 h1 hr).2 ws1 μ1 pos1 H1 locs1 lsJ rest q9 ce hat1 g1 g2 g3
theorem zs_calls (hx : p.tables.exec = Jvm.exec) (hb : c.code = cc) (hml : c.maxLocals = nL) (hown : s.vm.findClass own = some m.cls) (hts : ∀ w ∈ zT, w.before args s = true) (hK : va_K D zcl (ztys cA) s) (hA : ∀ q, H0.size ≤ q → A q) (hEnv : zEnv σ A s H0) (hRc : zhC (zrh r) - C0 ≤ R.cells) (hRs : zhS (zrh r) - S0 ≤ R.slots) (hk : ∀ pc ls st h, kont pc ls st h = some r → zGo p l e R s m args below meth c Q A H0 σ cA D b L xs al C0 S0 μ0 N0 nL r pc ls st h) {I : zI} {y : MethodName} {cw : Cond} {fr lo maxL n : Nat} {bytes : ByteArray} {ret : Option FieldType} {al' : Bool} (hal : al = false → al' = false) (hcb : zcb own R I.2.2.1 y cw fr lo maxL n) (hwl : Cond.methodLink own I.2.2.1 y ∈ zT) (hwt : Cond.static y ∈ zT) (hnp : (zsig zPP I.2.2.2).2.1.reverse.length = n) (hal9 : al = true → al' = true) (hcl : ∀ (as : List Int) (h : zH) (k : Int → zH → Option zRes) (t : Nat → zH → Option zRes), call I.2.2.2 as h k t = some r → ∃ (v : Int) (h1 : zH), k v h1 = some r ∧ (zhC h ≤ zhC h1 ∧ zhS h ≤ zhS h1) ∧ zMet l al' y cw fr lo (zsig zPP I.2.2.2).2.1.reverse (zsig zPP I.2.2.2).2.2.1 as h v h1) (hdg : decode cc pc = .ok (.invokestatic I.2.2.1, 3)) (hcw : cw = Cond.code y bytes maxL ret) {ls : List (Option zV)} {st : List zV} {h : zH} (hr : zocalls zPP al call I kont kret kthr pc ls st h = some r) : zGo p l e R s m args below meth c Q A H0 σ cA D b L xs al C0 S0 μ0 N0 nL r pc ls st h := by
  simp only [zocalls] at hr
  obtain ⟨xs0, st1, hr, hpop⟩ := zpop_sp _ _ _ hr
  rw [List.append_nil] at hr
  obtain ⟨hc, hr⟩ := zif_some hr
  obtain ⟨hc1, -⟩ := zand_t hc
  have hc1 := Nat.le_of_ble_eq_true hc1
  generalize hre : xs0.reverse = as at hr
  obtain ⟨v, h1, hr, ⟨hC, hC2⟩, hM⟩ := hcl _ _ _ _ hr
  have hm : zhC h1 ≤ zhC (zrh r) ∧ zhS h1 ≤ zhS (zrh r) := by
    rcases zret_some hr with ⟨-, hr⟩ | ⟨-, hr⟩
    · exact (hk _ _ _ _ hr).1
    · exact (hk _ _ _ _ hr).1
  refine ⟨⟨by omega, by omega⟩, fun ws μ pos H locs lsJ stJ hat hl hs => ?_⟩
  have h6 : C0 ≤ zhC h := hat.2.2.2.2.2.1
  have h7 : S0 ≤ zhS h := hat.2.2.2.2.2.2.1
  obtain ⟨vs0, rest, rfl, harg0, hs'⟩ := hpop σ μ (zhN h) stJ hs
  have harg := harg0.rev
  clear harg0 hs
  rw [hre] at harg
  obtain ⟨vs, rfl⟩ : ∃ vs : List Value, vs0 = vs.reverse := ⟨vs0.reverse, by simp⟩
  rw [List.reverse_reverse] at harg
  have hcells : zhC h - C0 + (zhC h1 - zhC h) ≤ R.cells ∧ zhS h - S0 + (zhS h1 - zhS h) ≤ R.slots := ⟨by omega, by omega⟩
  have hMet := hM σ cA D b L xs ws μ pos vs H.size hat.1 (fun z => hat.2.2.2.2.2.2.2.1 (by cases hq9 : al with
    | false => rfl
    | true => exact absurd z (by rw [hal9 hq9]; decide))) hat.2.2.2.2.2.2.2.2 harg
  have hnn : vs.length = n := by rw [← hnp]; exact harg.len.symm
  have hrun := va_runS (e := e) (below := below) (meth := meth) (locs := locs) (g := F0 m pc lsJ (vs.reverse ++ rest)) (rest := rest) ⟨hx, hb, hml, hown, hts⟩ hMet ⟨⟨rfl, rfl, hcb.2.1, hcb.2.2.1, pay_in hts (zT_in hcb.1), by rw [hcw]; exact List.mem_cons_self, by have := hts _ hcb.1; rw [hcw] at this; exact this, hts _ hcb.2.2.2.1, hcb.2.2.2.2.1, zcb_n hcb.2.2.2.2.2, hts _ hwl⟩, hts _ hwt⟩ ⟨zPre_blind, fun U hU hW => ⟨rfl, zpre_at hat hA hK hEnv U hU hW⟩⟩ rfl hnn hl.2.choose_spec.1.1 rfl (lv_room (by rw [hs'.cat]; exact hc1)) hdg hcells
  refine zrun_go hat hA hal hC hC2 hrun (fun val ws1 μ1 pos1 H1 locs1 hat1 hex hv => ?_)
  have hs1 := zrv_st hv (hs'.mono hex)
  rcases zret_some hr with ⟨hq, hr⟩ | ⟨hq, hr⟩
  · exact (hk _ _ _ _ hr).2 ws1 μ1 pos1 H1 locs1 lsJ _ hat1 (hl.mono hex) (hs1.1 hq)
  · exact (hk _ _ _ _ hr).2 ws1 μ1 pos1 H1 locs1 lsJ _ hat1 (hl.mono hex) (hs1.2 hq)
theorem zs_callsN (hx : p.tables.exec = Jvm.exec) (hb : c.code = cc) (hml : c.maxLocals = nL) (hown : s.vm.findClass own = some m.cls) (hts : ∀ w ∈ zT, w.before args s = true) (hK : va_K D zcl (ztys cA) s) (hA : ∀ q, H0.size ≤ q → A q) (hEnv : zEnv σ A s H0) (hRc : zhC (zrh r) - C0 ≤ R.cells) (hRs : zhS (zrh r) - S0 ≤ R.slots) (hk : ∀ pc ls st h, kont pc ls st h = some r → zGo p l e R s m args below meth c Q A H0 σ cA D b L xs al C0 S0 μ0 N0 nL r pc ls st h) {I : zI} {y : MethodName} {cw : Cond} {fr lo maxL n : Nat} {bytes : ByteArray} {ret : Option FieldType} {al' : Bool} {host : String} (hal : al = false → al' = false) (hcb : zcb own R I.2.2.1 y cw fr lo maxL n) (hwl : (own, I.2.2.1, y, host) ∈ zLM) (hwt : Cond.static y ∈ zT) (hnp : (zsig zPP I.2.2.2).2.1.reverse.length = n) (hal9 : al = true → al' = true) (hcl : ∀ (as : List Int) (h : zH) (k : Int → zH → Option zRes) (t : Nat → zH → Option zRes), call I.2.2.2 as h k t = some r → ∃ (v : Int) (h1 : zH), k v h1 = some r ∧ (zhC h ≤ zhC h1 ∧ zhS h ≤ zhS h1) ∧ zMet l al' y cw fr lo (zsig zPP I.2.2.2).2.1.reverse (zsig zPP I.2.2.2).2.2.1 as h v h1) (hdg : decode cc pc = .ok (.invokestatic I.2.2.1, 3)) (hcw : cw = Cond.code y bytes maxL ret) {ls : List (Option zV)} {st : List zV} {h : zH} (hr : zocalls zPP al call I kont kret kthr pc ls st h = some r) : zGo p l e R s m args below meth c Q A H0 σ cA D b L xs al C0 S0 μ0 N0 nL r pc ls st h := by
  simp only [zocalls] at hr
  obtain ⟨xs0, st1, hr, hpop⟩ := zpop_sp _ _ _ hr
  rw [List.append_nil] at hr
  obtain ⟨hc, hr⟩ := zif_some hr
  obtain ⟨hc1, -⟩ := zand_t hc
  have hc1 := Nat.le_of_ble_eq_true hc1
  generalize hre : xs0.reverse = as at hr
  obtain ⟨v, h1, hr, ⟨hC, hC2⟩, hM⟩ := hcl _ _ _ _ hr
  have hm : zhC h1 ≤ zhC (zrh r) ∧ zhS h1 ≤ zhS (zrh r) := by
    rcases zret_some hr with ⟨-, hr⟩ | ⟨-, hr⟩
    · exact (hk _ _ _ _ hr).1
    · exact (hk _ _ _ _ hr).1
  refine ⟨⟨by omega, by omega⟩, fun ws μ pos H locs lsJ stJ hat hl hs => ?_⟩
  have h6 : C0 ≤ zhC h := hat.2.2.2.2.2.1
  have h7 : S0 ≤ zhS h := hat.2.2.2.2.2.2.1
  obtain ⟨vs0, rest, rfl, harg0, hs'⟩ := hpop σ μ (zhN h) stJ hs
  have harg := harg0.rev
  clear harg0 hs
  rw [hre] at harg
  obtain ⟨vs, rfl⟩ : ∃ vs : List Value, vs0 = vs.reverse := ⟨vs0.reverse, by simp⟩
  rw [List.reverse_reverse] at harg
  have hcells : zhC h - C0 + (zhC h1 - zhC h) ≤ R.cells ∧ zhS h - S0 + (zhS h1 - zhS h) ≤ R.slots := ⟨by omega, by omega⟩
  have hMet := hM σ cA D b L xs ws μ pos vs H.size hat.1 (fun z => hat.2.2.2.2.2.2.2.1 (by cases hq9 : al with
    | false => rfl
    | true => exact absurd z (by rw [hal9 hq9]; decide))) hat.2.2.2.2.2.2.2.2 harg
  have hnn : vs.length = n := by rw [← hnp]; exact harg.len.symm
  have hrun := va_runSN (e := e) (below := below) (meth := meth) (locs := locs) (g := F0 m pc lsJ (vs.reverse ++ rest)) (rest := rest) ⟨hx, hb, hml, hown, hts⟩ hMet ⟨⟨⟨rfl, rfl, hcb.2.1, hcb.2.2.1, pay_in hts (zT_in hcb.1), by rw [hcw]; exact List.mem_cons_self⟩, by have := hts _ hcb.1; rw [hcw] at this; exact this, hts _ hcb.2.2.2.1, hcb.2.2.2.2.1, zcb_n hcb.2.2.2.2.2, va_Nw.use rfl (hEnv.2.2.2.2.2.1 _ hwl)⟩, hts _ hwt, trivial⟩ ⟨zPre_blind, fun U hU hW => ⟨rfl, zpre_at hat hA hK hEnv U hU hW⟩⟩ rfl hnn hl.2.choose_spec.1.1 rfl (lv_room (by rw [hs'.cat]; exact hc1)) hdg hcells
  refine zrun_go hat hA hal hC hC2 hrun (fun val ws1 μ1 pos1 H1 locs1 hat1 hex hv => ?_)
  have hs1 := zrv_st hv (hs'.mono hex)
  rcases zret_some hr with ⟨hq, hr⟩ | ⟨hq, hr⟩
  · exact (hk _ _ _ _ hr).2 ws1 μ1 pos1 H1 locs1 lsJ _ hat1 (hl.mono hex) (hs1.1 hq)
  · exact (hk _ _ _ _ hr).2 ws1 μ1 pos1 H1 locs1 lsJ _ hat1 (hl.mono hex) (hs1.2 hq)
theorem zs_callvN (hx : p.tables.exec = Jvm.exec) (hb : c.code = cc) (hml : c.maxLocals = nL) (hown : s.vm.findClass own = some m.cls) (hts : ∀ w ∈ zT, w.before args s = true) (hK : va_K D zcl (ztys cA) s) (hA : ∀ q, H0.size ≤ q → A q) (hEnv : zEnv σ A s H0) (hRc : zhC (zrh r) - C0 ≤ R.cells) (hRs : zhS (zrh r) - S0 ≤ R.slots) (hk : ∀ pc ls st h, kont pc ls st h = some r → zGo p l e R s m args below meth c Q A H0 σ cA D b L xs al C0 S0 μ0 N0 nL r pc ls st h) {I : zI} {y : MethodName} {cw : Cond} {fr lo maxL n : Nat} {bytes : ByteArray} {ret : Option FieldType} {al' : Bool} {host : String} (hal : al = false → al' = false) (hcb : zcb own R I.2.2.1 y cw fr lo maxL n) (hwl : (own, I.2.2.1, y, host) ∈ zLM) (hwi : Cond.instanceMethod y ∈ zT) (hws : Cond.selects y.cls y y ∈ zT) {ci : Nat} {tl : List Nat} (hci13 : ci < 13) (hci : (zsig zPP I.2.2.2).2.2.2 = ci) (hsg : (zsig zPP I.2.2.2).2.1.reverse = (100 + ci) :: tl) (hcn : zCn ci = y.cls) (hnp : tl.length = n) (hal9 : al = true → al' = true) (hcl : ∀ (as : List Int) (h : zH) (k : Int → zH → Option zRes) (t : Nat → zH → Option zRes), call I.2.2.2 as h k t = some r → ∃ (v : Int) (h1 : zH), k v h1 = some r ∧ (zhC h ≤ zhC h1 ∧ zhS h ≤ zhS h1) ∧ zMet l al' y cw fr lo (zsig zPP I.2.2.2).2.1.reverse (zsig zPP I.2.2.2).2.2.1 as h v h1) (hdg : decode cc pc = .ok (.invokevirtual I.2.2.1, 3)) (hcw : cw = Cond.code y bytes maxL ret) {ls : List (Option zV)} {st : List zV} {h : zH} (hr : zocallv zPP al call I kont kret kthr pc ls st h = some r) : zGo p l e R s m args below meth c Q A H0 σ cA D b L xs al C0 S0 μ0 N0 nL r pc ls st h := by
  simp only [zocallv] at hr
  obtain ⟨xs0, st1, hr, hpop⟩ := zpop_sp _ _ _ hr
  rw [List.append_nil] at hr
  obtain ⟨hc, hr⟩ := zif_some hr
  obtain ⟨hc1, -⟩ := zand_t hc
  have hc1 := Nat.le_of_ble_eq_true hc1
  generalize hre : xs0.reverse = as at hr
  cases as with
  | nil => cases hr
  | cons a as =>
    obtain ⟨q, hq, hr, hp⟩ := zobm_some hr
    obtain ⟨v, h1, hr, ⟨hC, hC2⟩, hM⟩ := hcl _ _ _ _ hr
    have hm : zhC h1 ≤ zhC (zrh r) ∧ zhS h1 ≤ zhS (zrh r) := by
      rcases zret_some hr with ⟨-, hr⟩ | ⟨-, hr⟩
      · exact (hk _ _ _ _ hr).1
      · exact (hk _ _ _ _ hr).1
    refine ⟨⟨by omega, by omega⟩, fun ws μ pos H locs lsJ stJ hat hl hs => ?_⟩
    have h6 : C0 ≤ zhC h := hat.2.2.2.2.2.1
    have h7 : S0 ≤ zhS h := hat.2.2.2.2.2.2.1
    obtain ⟨vs0, rest, rfl, harg0, hs'⟩ := hpop σ μ (zhN h) stJ hs
    have harg := harg0.rev
    clear harg0 hs
    rw [hre] at harg
    obtain ⟨vs, rfl⟩ : ∃ vs : List Value, vs0 = vs.reverse := ⟨vs0.reverse, by simp⟩
    rw [List.reverse_reverse] at harg
    rw [hsg] at harg
    obtain ⟨v1, As, rfl, hv1, hAs⟩ : ∃ v1 As, vs = v1 :: As ∧ zvr σ μ (zhN h) (100 + ci) a v1 ∧ zARG σ μ (zhN h) tl as As := by
      cases vs with
      | nil => exact harg.elim
      | cons v1 As => exact ⟨v1, As, rfl, harg.1, harg.2⟩
    cases zref_at hq hv1
    rw [hci] at hp
    have hp' := zat_N hat hp
    obtain ⟨fs, f1, f2, f3⟩ := hat.1.obj hci13 hp'
    have hrec := va_recv hK hat.2.1 (zcl_at hci13) f1
    rw [hcn] at hrec
    have hcells : zhC h - C0 + (zhC h1 - zhC h) ≤ R.cells ∧ zhS h - S0 + (zhS h1 - zhS h) ≤ R.slots := ⟨by omega, by omega⟩
    have hMet := hM σ cA D b L xs ws μ pos (.ref (μ ci q) :: As) H.size hat.1 (fun z => hat.2.2.2.2.2.2.2.1 (by cases hq9 : al with
      | false => rfl
      | true => exact absurd z (by rw [hal9 hq9]; decide))) hat.2.2.2.2.2.2.2.2 (by rw [hsg]; exact ⟨hv1, hAs⟩)
    have hnn : As.length = n := by rw [← hnp]; exact hAs.len.symm
    have hrun := va_runVN (C := y.cls) (e := e) (below := below) (meth := meth) (locs := locs) (g := F0 m pc lsJ ((Value.ref (μ ci q) :: As).reverse ++ rest)) (rest := rest) ⟨hx, hb, hml, hown, hts⟩ hMet ⟨⟨⟨rfl, rfl, hcb.2.1, hcb.2.2.1, pay_in hts (zT_in hcb.1), by rw [hcw]; exact List.mem_cons_self⟩, by have := hts _ hcb.1; rw [hcw] at this; exact this, hts _ hcb.2.2.2.1, hcb.2.2.2.2.1, zcb_n hcb.2.2.2.2.2, va_Nw.use rfl (hEnv.2.2.2.2.2.1 _ hwl)⟩, hts _ hwi, hts _ hws⟩ ⟨zPre_blind, hrec, fun U hU hW => ⟨rfl, zpre_at hat hA hK hEnv U hU hW⟩⟩ rfl hnn hl.2.choose_spec.1.1 (by simp) (lv_room (by rw [hs'.cat]; exact hc1)) hdg hcells
    refine zrun_go hat hA hal hC hC2 hrun (fun val ws1 μ1 pos1 H1 locs1 hat1 hex hv => ?_)
    have hs1 := zrv_st hv (hs'.mono hex)
    rcases zret_some hr with ⟨hq, hr⟩ | ⟨hq, hr⟩
    · exact (hk _ _ _ _ hr).2 ws1 μ1 pos1 H1 locs1 lsJ _ hat1 (hl.mono hex) (hs1.1 hq)
    · exact (hk _ _ _ _ hr).2 ws1 μ1 pos1 H1 locs1 lsJ _ hat1 (hl.mono hex) (hs1.2 hq)
theorem zs_calli (hx : p.tables.exec = Jvm.exec) (hb : c.code = cc) (hml : c.maxLocals = nL) (hown : s.vm.findClass own = some m.cls) (hts : ∀ w ∈ zT, w.before args s = true) (hK : va_K D zcl (ztys cA) s) (hA : ∀ q, H0.size ≤ q → A q) (hEnv : zEnv σ A s H0) (hRc : zhC (zrh r) - C0 ≤ R.cells) (hRs : zhS (zrh r) - S0 ≤ R.slots) (hk : ∀ pc ls st h, kont pc ls st h = some r → zGo p l e R s m args below meth c Q A H0 σ cA D b L xs al C0 S0 μ0 N0 nL r pc ls st h) {I : zI} {y : MethodName} {cw : Cond} {fr lo maxL n : Nat} {bytes : ByteArray} {ret : Option FieldType} {al' : Bool} (hal : al = false → al' = false) (hcb : zcb own R I.2.2.1 y cw fr lo maxL n) (hwl : Cond.methodLink own I.2.2.1 y ∈ zT) (hwi : Cond.instanceMethod y ∈ zT) (hyn : y.name = "<init>") (hrt9 : (zsig zPP I.2.2.2).2.2.1 = 9) {ci : Nat} {tl : List Nat} (hci13 : ci < 13) (hci : (zsig zPP I.2.2.2).2.2.2 = ci) (hsg : (zsig zPP I.2.2.2).2.1.reverse = (100 + ci) :: tl) (hcn : zCn ci = y.cls) (hnp : tl.length = n) (hal9 : al = true → al' = true) (hcl : ∀ (as : List Int) (h : zH) (k : Int → zH → Option zRes) (t : Nat → zH → Option zRes), call I.2.2.2 as h k t = some r → ∃ (v : Int) (h1 : zH), k v h1 = some r ∧ (zhC h ≤ zhC h1 ∧ zhS h ≤ zhS h1) ∧ zMet l al' y cw fr lo (zsig zPP I.2.2.2).2.1.reverse (zsig zPP I.2.2.2).2.2.1 as h v h1) (hdg : decode cc pc = .ok (.invokespecial I.2.2.1, 3)) (hcw : cw = Cond.code y bytes maxL none) {ls : List (Option zV)} {st : List zV} {h : zH} (hr : zocalli zPP al call I kont kret kthr pc ls st h = some r) : zGo p l e R s m args below meth c Q A H0 σ cA D b L xs al C0 S0 μ0 N0 nL r pc ls st h := by
  simp only [zocalli] at hr
  obtain ⟨xs0, st1, hr, hpop⟩ := zpop_sp _ _ _ hr
  rw [List.append_nil] at hr
  obtain ⟨hc, hr⟩ := zif_some hr
  obtain ⟨hc1, -⟩ := zand_t hc
  have hc1 := Nat.le_of_ble_eq_true hc1
  generalize hre : xs0.reverse = as at hr
  cases as with
  | nil => cases hr
  | cons a as =>
    obtain ⟨q, hq, hr, hp⟩ := zobm_some hr
    obtain ⟨v, h1, hr, ⟨hC, hC2⟩, hM⟩ := hcl _ _ _ _ hr
    have hm := (hk _ _ _ _ hr).1
    refine ⟨⟨by omega, by omega⟩, fun ws μ pos H locs lsJ stJ hat hl hs => ?_⟩
    have h6 : C0 ≤ zhC h := hat.2.2.2.2.2.1
    have h7 : S0 ≤ zhS h := hat.2.2.2.2.2.2.1
    obtain ⟨vs0, rest, rfl, harg0, hs'⟩ := hpop σ μ (zhN h) stJ hs
    have harg := harg0.rev
    clear harg0 hs
    rw [hre] at harg
    obtain ⟨vs, rfl⟩ : ∃ vs : List Value, vs0 = vs.reverse := ⟨vs0.reverse, by simp⟩
    rw [List.reverse_reverse] at harg
    rw [hsg] at harg
    obtain ⟨v1, As, rfl, hv1, hAs⟩ : ∃ v1 As, vs = v1 :: As ∧ zvr σ μ (zhN h) (100 + ci) a v1 ∧ zARG σ μ (zhN h) tl as As := by
      cases vs with
      | nil => exact harg.elim
      | cons v1 As => exact ⟨v1, As, rfl, harg.1, harg.2⟩
    cases zref_at hq hv1
    rw [hci] at hp
    have hp' := zat_N hat hp
    obtain ⟨fs, f1, f2, f3⟩ := hat.1.obj hci13 hp'
    have hrec := va_recv hK hat.2.1 (zcl_at hci13) f1
    rw [hcn] at hrec
    have hcells : zhC h - C0 + (zhC h1 - zhC h) ≤ R.cells ∧ zhS h - S0 + (zhS h1 - zhS h) ≤ R.slots := ⟨by omega, by omega⟩
    have hMet := hM σ cA D b L xs ws μ pos (.ref (μ ci q) :: As) H.size hat.1 (fun z => hat.2.2.2.2.2.2.2.1 (by cases hq9 : al with
      | false => rfl
      | true => exact absurd z (by rw [hal9 hq9]; decide))) hat.2.2.2.2.2.2.2.2 (by rw [hsg]; exact ⟨hv1, hAs⟩)
    have hnn : As.length = n := by rw [← hnp]; exact hAs.len.symm
    have hrun := va_runI (e := e) (below := below) (meth := meth) (locs := locs) (g := F0 m pc lsJ ((Value.ref (μ ci q) :: As).reverse ++ rest)) (rest := rest) ⟨hx, hb, hml, hown, hts⟩ hMet ⟨⟨rfl, rfl, hcb.2.1, hcb.2.2.1, pay_in hts (zT_in hcb.1), by rw [hcw]; exact List.mem_cons_self, by have := hts _ hcb.1; rw [hcw] at this; exact this, hts _ hcb.2.2.2.1, hcb.2.2.2.2.1, zcb_n hcb.2.2.2.2.2, hts _ hwl⟩, hyn, hts _ hwi⟩ ⟨zPre_blind, fun U hU hW => ⟨rfl, zpre_at hat hA hK hEnv U hU hW⟩⟩ rfl hnn hl.2.choose_spec.1.1 (by simp) (lv_room (by rw [hs'.cat]; exact hc1)) hdg hcells
    refine zrun_go hat hA hal hC hC2 hrun (fun val ws1 μ1 pos1 H1 locs1 hat1 hex hv => ?_)
    have hs1 := zrv_st hv (hs'.mono hex)
    exact (hk _ _ _ _ hr).2 ws1 μ1 pos1 H1 locs1 lsJ _ hat1 (hl.mono hex) (hs1.1 hrt9)
theorem zs_calliN (hx : p.tables.exec = Jvm.exec) (hb : c.code = cc) (hml : c.maxLocals = nL) (hown : s.vm.findClass own = some m.cls) (hts : ∀ w ∈ zT, w.before args s = true) (hK : va_K D zcl (ztys cA) s) (hA : ∀ q, H0.size ≤ q → A q) (hEnv : zEnv σ A s H0) (hRc : zhC (zrh r) - C0 ≤ R.cells) (hRs : zhS (zrh r) - S0 ≤ R.slots) (hk : ∀ pc ls st h, kont pc ls st h = some r → zGo p l e R s m args below meth c Q A H0 σ cA D b L xs al C0 S0 μ0 N0 nL r pc ls st h) {I : zI} {y : MethodName} {cw : Cond} {fr lo maxL n : Nat} {bytes : ByteArray} {ret : Option FieldType} {al' : Bool} {host : String} (hal : al = false → al' = false) (hcb : zcb own R I.2.2.1 y cw fr lo maxL n) (hwl : (own, I.2.2.1, y, host) ∈ zLM) (hwi : Cond.instanceMethod y ∈ zT) (hyn : y.name = "<init>") (hrt9 : (zsig zPP I.2.2.2).2.2.1 = 9) {ci : Nat} {tl : List Nat} (hci13 : ci < 13) (hci : (zsig zPP I.2.2.2).2.2.2 = ci) (hsg : (zsig zPP I.2.2.2).2.1.reverse = (100 + ci) :: tl) (hcn : zCn ci = y.cls) (hnp : tl.length = n) (hal9 : al = true → al' = true) (hcl : ∀ (as : List Int) (h : zH) (k : Int → zH → Option zRes) (t : Nat → zH → Option zRes), call I.2.2.2 as h k t = some r → ∃ (v : Int) (h1 : zH), k v h1 = some r ∧ (zhC h ≤ zhC h1 ∧ zhS h ≤ zhS h1) ∧ zMet l al' y cw fr lo (zsig zPP I.2.2.2).2.1.reverse (zsig zPP I.2.2.2).2.2.1 as h v h1) (hdg : decode cc pc = .ok (.invokespecial I.2.2.1, 3)) (hcw : cw = Cond.code y bytes maxL none) {ls : List (Option zV)} {st : List zV} {h : zH} (hr : zocalli zPP al call I kont kret kthr pc ls st h = some r) : zGo p l e R s m args below meth c Q A H0 σ cA D b L xs al C0 S0 μ0 N0 nL r pc ls st h := by
  simp only [zocalli] at hr
  obtain ⟨xs0, st1, hr, hpop⟩ := zpop_sp _ _ _ hr
  rw [List.append_nil] at hr
  obtain ⟨hc, hr⟩ := zif_some hr
  obtain ⟨hc1, -⟩ := zand_t hc
  have hc1 := Nat.le_of_ble_eq_true hc1
  generalize hre : xs0.reverse = as at hr
  cases as with
  | nil => cases hr
  | cons a as =>
    obtain ⟨q, hq, hr, hp⟩ := zobm_some hr
    obtain ⟨v, h1, hr, ⟨hC, hC2⟩, hM⟩ := hcl _ _ _ _ hr
    have hm := (hk _ _ _ _ hr).1
    refine ⟨⟨by omega, by omega⟩, fun ws μ pos H locs lsJ stJ hat hl hs => ?_⟩
    have h6 : C0 ≤ zhC h := hat.2.2.2.2.2.1
    have h7 : S0 ≤ zhS h := hat.2.2.2.2.2.2.1
    obtain ⟨vs0, rest, rfl, harg0, hs'⟩ := hpop σ μ (zhN h) stJ hs
    have harg := harg0.rev
    clear harg0 hs
    rw [hre] at harg
    obtain ⟨vs, rfl⟩ : ∃ vs : List Value, vs0 = vs.reverse := ⟨vs0.reverse, by simp⟩
    rw [List.reverse_reverse] at harg
    rw [hsg] at harg
    obtain ⟨v1, As, rfl, hv1, hAs⟩ : ∃ v1 As, vs = v1 :: As ∧ zvr σ μ (zhN h) (100 + ci) a v1 ∧ zARG σ μ (zhN h) tl as As := by
      cases vs with
      | nil => exact harg.elim
      | cons v1 As => exact ⟨v1, As, rfl, harg.1, harg.2⟩
    cases zref_at hq hv1
    rw [hci] at hp
    have hp' := zat_N hat hp
    obtain ⟨fs, f1, f2, f3⟩ := hat.1.obj hci13 hp'
    have hrec := va_recv hK hat.2.1 (zcl_at hci13) f1
    rw [hcn] at hrec
    have hcells : zhC h - C0 + (zhC h1 - zhC h) ≤ R.cells ∧ zhS h - S0 + (zhS h1 - zhS h) ≤ R.slots := ⟨by omega, by omega⟩
    have hMet := hM σ cA D b L xs ws μ pos (.ref (μ ci q) :: As) H.size hat.1 (fun z => hat.2.2.2.2.2.2.2.1 (by cases hq9 : al with
      | false => rfl
      | true => exact absurd z (by rw [hal9 hq9]; decide))) hat.2.2.2.2.2.2.2.2 (by rw [hsg]; exact ⟨hv1, hAs⟩)
    have hnn : As.length = n := by rw [← hnp]; exact hAs.len.symm
    have hrun := va_runIN (e := e) (below := below) (meth := meth) (locs := locs) (g := F0 m pc lsJ ((Value.ref (μ ci q) :: As).reverse ++ rest)) (rest := rest) ⟨hx, hb, hml, hown, hts⟩ hMet ⟨⟨⟨rfl, rfl, hcb.2.1, hcb.2.2.1, pay_in hts (zT_in hcb.1), by rw [hcw]; exact List.mem_cons_self⟩, by have := hts _ hcb.1; rw [hcw] at this; exact this, hts _ hcb.2.2.2.1, hcb.2.2.2.2.1, zcb_n hcb.2.2.2.2.2, va_Nw.use rfl (hEnv.2.2.2.2.2.1 _ hwl)⟩, hyn, hts _ hwi⟩ ⟨zPre_blind, fun U hU hW => ⟨rfl, zpre_at hat hA hK hEnv U hU hW⟩⟩ rfl hnn hl.2.choose_spec.1.1 (by simp) (lv_room (by rw [hs'.cat]; exact hc1)) hdg hcells
    refine zrun_go hat hA hal hC hC2 hrun (fun val ws1 μ1 pos1 H1 locs1 hat1 hex hv => ?_)
    have hs1 := zrv_st hv (hs'.mono hex)
    exact (hk _ _ _ _ hr).2 ws1 μ1 pos1 H1 locs1 lsJ _ hat1 (hl.mono hex) (hs1.1 hrt9)
theorem zs_callsW (hx : p.tables.exec = Jvm.exec) (hb : c.code = cc) (hml : c.maxLocals = nL) (hown : s.vm.findClass own = some m.cls) (hts : ∀ w ∈ zT, w.before args s = true) (hK : va_K D zcl (ztys cA) s) (hA : ∀ q, H0.size ≤ q → A q) (hEnv : zEnv σ A s H0) (hRc : zhC (zrh r) - C0 ≤ R.cells) (hRs : zhS (zrh r) - S0 ≤ R.slots) (hk : ∀ pc ls st h, kont pc ls st h = some r → zGo p l e R s m args below meth c Q A H0 σ cA D b L xs al C0 S0 μ0 N0 nL r pc ls st h) {I : zI} {y : MethodName} {cw : Cond} {fr lo maxL n : Nat} {bytes : ByteArray} {ret : Option FieldType} {al' : Bool} {hh : List (Nat × Nat × Nat × Nat)} (hal : al = false → al' = false) (hcb : zcb own R I.2.2.1 y cw fr lo maxL n) (hwl : Cond.methodLink own I.2.2.1 y ∈ zT) (hwt : Cond.static y ∈ zT) (hnp : (zsig zPP I.2.2.2).2.1.reverse.length = n) (hal9 : al = true → al' = true) (hcl : ∀ (as : List Int) (h : zH) (k : Int → zH → Option zRes) (t : Nat → zH → Option zRes), call I.2.2.2 as h k t = some r → ∃ (v : Int) (h1 : zH), k v h1 = some r ∧ (zhC h ≤ zhC h1 ∧ zhS h ≤ zhS h1) ∧ zMet l al' y cw fr lo (zsig zPP I.2.2.2).2.1.reverse (zsig zPP I.2.2.2).2.2.1 as h v h1) (hdg : decode cc pc = .ok (.invokestatic I.2.2.1, 3)) (hcw : cw = Cond.codeWith y bytes maxL ret hh) {ls : List (Option zV)} {st : List zV} {h : zH} (hr : zocalls zPP al call I kont kret kthr pc ls st h = some r) : zGo p l e R s m args below meth c Q A H0 σ cA D b L xs al C0 S0 μ0 N0 nL r pc ls st h := by
  simp only [zocalls] at hr
  obtain ⟨xs0, st1, hr, hpop⟩ := zpop_sp _ _ _ hr
  rw [List.append_nil] at hr
  obtain ⟨hc, hr⟩ := zif_some hr
  obtain ⟨hc1, -⟩ := zand_t hc
  have hc1 := Nat.le_of_ble_eq_true hc1
  generalize hre : xs0.reverse = as at hr
  obtain ⟨v, h1, hr, ⟨hC, hC2⟩, hM⟩ := hcl _ _ _ _ hr
  have hm : zhC h1 ≤ zhC (zrh r) ∧ zhS h1 ≤ zhS (zrh r) := by
    rcases zret_some hr with ⟨-, hr⟩ | ⟨-, hr⟩
    · exact (hk _ _ _ _ hr).1
    · exact (hk _ _ _ _ hr).1
  refine ⟨⟨by omega, by omega⟩, fun ws μ pos H locs lsJ stJ hat hl hs => ?_⟩
  have h6 : C0 ≤ zhC h := hat.2.2.2.2.2.1
  have h7 : S0 ≤ zhS h := hat.2.2.2.2.2.2.1
  obtain ⟨vs0, rest, rfl, harg0, hs'⟩ := hpop σ μ (zhN h) stJ hs
  have harg := harg0.rev
  clear harg0 hs
  rw [hre] at harg
  obtain ⟨vs, rfl⟩ : ∃ vs : List Value, vs0 = vs.reverse := ⟨vs0.reverse, by simp⟩
  rw [List.reverse_reverse] at harg
  have hcells : zhC h - C0 + (zhC h1 - zhC h) ≤ R.cells ∧ zhS h - S0 + (zhS h1 - zhS h) ≤ R.slots := ⟨by omega, by omega⟩
  have hMet := hM σ cA D b L xs ws μ pos vs H.size hat.1 (fun z => hat.2.2.2.2.2.2.2.1 (by cases hq9 : al with
    | false => rfl
    | true => exact absurd z (by rw [hal9 hq9]; decide))) hat.2.2.2.2.2.2.2.2 harg
  have hnn : vs.length = n := by rw [← hnp]; exact harg.len.symm
  have hrun := vx_runSW (e := e) (below := below) (meth := meth) (locs := locs) (g := F0 m pc lsJ (vs.reverse ++ rest)) (rest := rest) ⟨hx, hb, hml, hown, hts⟩ hMet ⟨⟨rfl, rfl, hcb.2.1, hcb.2.2.1, pay_in hts (zT_in hcb.1), by rw [hcw]; exact List.mem_cons_self⟩, by have := hts _ hcb.1; rw [hcw] at this; exact this, hts _ hcb.2.2.2.1, hcb.2.2.2.2.1, zcb_n hcb.2.2.2.2.2, hts _ hwl, hts _ hwt⟩ ⟨zPre_blind, fun U hU hW => ⟨rfl, zpre_at hat hA hK hEnv U hU hW⟩⟩ rfl hnn hl.2.choose_spec.1.1 rfl (lv_room (by rw [hs'.cat]; exact hc1)) hdg hcells
  refine zrun_go hat hA hal hC hC2 hrun (fun val ws1 μ1 pos1 H1 locs1 hat1 hex hv => ?_)
  have hs1 := zrv_st hv (hs'.mono hex)
  rcases zret_some hr with ⟨hq, hr⟩ | ⟨hq, hr⟩
  · exact (hk _ _ _ _ hr).2 ws1 μ1 pos1 H1 locs1 lsJ _ hat1 (hl.mono hex) (hs1.1 hq)
  · exact (hk _ _ _ _ hr).2 ws1 μ1 pos1 H1 locs1 lsJ _ hat1 (hl.mono hex) (hs1.2 hq)
end
