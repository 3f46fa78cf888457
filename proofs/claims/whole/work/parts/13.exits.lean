/-! INSTRUCTIONS: handlers, throws, indexOf -/
theorem zhnd_sp {α : Type} {n : Nat} {k : Nat → Option α} {y : α} : ∀ l : List (Nat × Nat), zhnd l n k = some y → ∃ pre t suf, l = pre ++ (n, t) :: suf ∧ (∀ q ∈ pre, q.1 ≠ n) ∧ k t = some y
  | [], h => by cases h
  | (e, t) :: l, h => by
    unfold zhnd at h
    split at h
    · rename_i he
      subst he
      exact ⟨[], t, l, rfl, fun _ h => absurd h List.not_mem_nil, h⟩
    · rename_i he
      obtain ⟨pre, t', suf, rfl, h2, h3⟩ := zhnd_sp l h
      exact ⟨(e, t) :: pre, t', suf, rfl, fun q hq => by
        rcases List.mem_cons.mp hq with rfl | hq
        · exact fun z => he z.symm
        · exact h2 q hq, h3⟩
/-- the static facts of a call under handlers -/
def zhok (own : String) (pc : Nat) (tb : List ExceptionTableEntry) (hl : List (Nat × Nat)) : Prop :=
  tb.length = hl.length ∧ (∀ z ∈ tb.zip hl, covers z.1 pc = true ∧ z.1.handlerPc = z.2.2 ∧ z.1.catchType ≠ 0 ∧ Cond.classLink own z.1.catchType (zexc z.2.1) ∈ zT ∧ (zexc z.2.1, zexc z.2.1) ∈ zLC) ∧ (∀ i j : Nat, i < j → ∀ q q' : Nat × Nat, hl[i]? = some q → hl[j]? = some q' → (zexc q'.1, zexc q.1) ∈ zNC)
section
variable {p : Program} {l : Launch} {e : Env} {R : Room} {s : State} {m : MethodId} {args : Array Value} {below : List Frame} {meth : Method} {c : Code} {Q : State → Prop} {A : Nat → Prop} {H0 : Heap} {σ : Nat → Nat} {cA : Nat → ClassId} {D : va_G} {b L : Nat} {xs : Nat → Int32} {al : Bool} {C0 S0 : Nat} {μ0 : Nat → Nat → Nat} {N0 : Nat → Nat} {nL : Nat}
variable {r : zRes} {kont : Nat → List (Option zV) → List zV → zH → Option zRes} {kret : Int → zH → Option zRes} {kthr : Nat → zH → Option zRes} {call : Nat → List Int → zH → (Int → zH → Option zRes) → (Nat → zH → Option zRes) → Option zRes} {cc : ByteArray} {own : String} {pc : Nat}
theorem zcatch_go (hown : s.vm.findClass own = some m.cls) (hts : ∀ w ∈ zT, w.before args s = true) (hEnv : zEnv σ A s H0) (hk : ∀ pc ls st h, kont pc ls st h = some r → zGo p l e R s m args below meth c Q A H0 σ cA D b L xs al C0 S0 μ0 N0 nL r pc ls st h) {tb : List ExceptionTableEntry} (htab : c.exceptionTable.toList = tb) {hlist : List (Nat × Nat)} (hok : zhok own pc tb hlist) {n : Nat} {h1 : zH} {ls : List (Option zV)} (hr : zhnd hlist n (fun t => kont t ls [(4, 0)] h1) = some r)
    {ws : va_W} {μ pos : Nat → Nat → Nat} {H : Heap} {locs : List Loc} {lsJ : Array Slot} {rest : List Value} {q9 : Addr} {ce : Cell} (hat : zAt s A H0 σ cA D b L xs al C0 S0 μ0 N0 h1 ws μ pos H locs) (hl : zLR σ μ (zhN h1) nL ls lsJ) (g1 : H[q9]? = some ce) (g2 : ce.vm = .none) (g3 : s.vm.findClass (zexc n) = some ce.cls) : vx_W p l e R s m args below meth c H locs (zhC h1 - C0) (zhS h1 - S0) Q (F0 m pc lsJ rest) q9 := by
  obtain ⟨pre, t, suf, rfl, h2, h3⟩ := zhnd_sp _ hr
  obtain ⟨hlen, hz, hnc⟩ := hok
  have hlt : pre.length < tb.length := by rw [hlen]; simp
  have hat1 : (pre ++ (n, t) :: suf)[pre.length]? = some (n, t) := by simp
  have hx : tb[pre.length]? = some tb[pre.length] := List.getElem?_eq_getElem hlt
  obtain ⟨k1, k2, k3, k4, k5⟩ := hz (tb[pre.length], (n, t)) (List.mem_of_getElem? (i := pre.length) (by rw [List.getElem?_zip_eq_some]; exact ⟨hx, hat1⟩))
  refine vx_catch (E := zexc n) (name := zexc n) hown (tb.take pre.length) tb[pre.length] (tb.drop (pre.length + 1)) (by rw [htab, List.getElem_cons_drop, List.take_append_drop]) (fun z hzm => ?_) k1 k3 (hts _ k4) (va_Nw.use rfl (hEnv.2.2.2.2.2.2.2.1 _ k5)) g1 g2 g3 ?_
  · obtain ⟨i, hi⟩ := List.mem_iff_getElem?.mp hzm
    have hil : i < pre.length := by
      have := (List.getElem?_eq_some_iff.mp hi).1
      rw [List.length_take] at this
      omega
    rw [List.getElem?_take_of_lt hil] at hi
    have hpi : (pre ++ (n, t) :: suf)[i]? = some pre[i] := by rw [List.getElem?_append_left hil]; exact List.getElem?_eq_getElem hil
    obtain ⟨j1, j2, j3, j4, j5⟩ := hz (z, pre[i]) (List.mem_of_getElem? (i := i) (by rw [List.getElem?_zip_eq_some]; exact ⟨hi, hpi⟩))
    exact Or.inr ⟨j3, _, hts _ j4, hEnv.2.2.2.2.2.2.2.2.1 _ (hnc i pre.length hil pre[i] (n, t) hpi hat1)⟩
  · rw [k2]
    exact (hk _ _ _ _ h3).2 ws μ pos H locs lsJ _ hat hl ⟨Or.inr (Or.inr (Or.inr (Or.inl ⟨rfl, _, rfl⟩))), trivial⟩
theorem zs_callh (hx : p.tables.exec = Jvm.exec) (hb : c.code = cc) (hml : c.maxLocals = nL) (hown : s.vm.findClass own = some m.cls) (hts : ∀ w ∈ zT, w.before args s = true) (hK : va_K D zcl (ztys cA) s) (hA : ∀ q, H0.size ≤ q → A q) (hEnv : zEnv σ A s H0) (hRc : zhC (zrh r) - C0 ≤ R.cells) (hRs : zhS (zrh r) - S0 ≤ R.slots) (hk : ∀ pc ls st h, kont pc ls st h = some r → zGo p l e R s m args below meth c Q A H0 σ cA D b L xs al C0 S0 μ0 N0 nL r pc ls st h) {I : zI} {y : MethodName} {cw : Cond} {fr lo maxL n : Nat} {bytes : ByteArray} {ret : Option FieldType} {al' : Bool} (hal : al = false → al' = false) (hcb : zcb own R I.2.2.1 y cw fr lo maxL n) (hwl : Cond.methodLink own I.2.2.1 y ∈ zT) (hwi : Cond.instanceMethod y ∈ zT) (hws : Cond.selects y.cls y y ∈ zT) {tb : List ExceptionTableEntry} (htab : c.exceptionTable.toList = tb) (hok : zhok own pc tb (zget [] zPP.2.2.2 I.2.1.toNat)) {ci : Nat} {tl : List Nat} (hci13 : ci < 13) (hci : (zsig zPP I.2.2.2).2.2.2 = ci) (hsg : (zsig zPP I.2.2.2).2.1.reverse = (100 + ci) :: tl) (hcn : zCn ci = y.cls) (hnp : tl.length = n) (hal9 : al = true → al' = true) (hcl : ∀ (as : List Int) (h : zH) (k : Int → zH → Option zRes) (t : Nat → zH → Option zRes), call I.2.2.2 as h k t = some r → ∃ r1 : zRes, zel k t r1 = some r ∧ (zhC h ≤ zhC (zrh r1) ∧ zhS h ≤ zhS (zrh r1)) ∧ zMetX l al' y cw fr lo (zsig zPP I.2.2.2).2.1.reverse (zsig zPP I.2.2.2).2.2.1 as h r1) (hdg : decode cc pc = .ok (.invokevirtual I.2.2.1, 3)) (hcw : cw = Cond.code y bytes maxL ret) {ls : List (Option zV)} {st : List zV} {h : zH} (hr : zocallh zPP al call I kont kret kthr pc ls st h = some r) : zGo p l e R s m args below meth c Q A H0 σ cA D b L xs al C0 S0 μ0 N0 nL r pc ls st h := by
  simp only [zocallh] at hr
  obtain ⟨xs0, st1, hr, hpop⟩ := zpop_sp _ _ _ hr
  rw [List.append_nil] at hr
  obtain ⟨hc, hr⟩ := zif_some hr
  obtain ⟨hc1, -⟩ := zand_t hc
  have hc1 := Nat.le_of_ble_eq_true hc1
  generalize hre : xs0.reverse = as at hr
  cases as with
  | nil => cases hr
  | cons a as =>
    obtain ⟨q, hq, hr, hp⟩ := zobm_some hr
    obtain ⟨r1, hr, ⟨hC, hC2⟩, hM⟩ := hcl _ _ _ _ hr
    have hm : zhC (zrh r1) ≤ zhC (zrh r) ∧ zhS (zrh r1) ≤ zhS (zrh r) := by
      cases r1 with
      | inl z =>
        have hr2 : zret (zsig zPP I.2.2.2).2.2.1 z.1 st1 (fun st => kont (pc + 3) ls st z.2) = some r := hr
        rcases zret_some hr2 with ⟨-, hr⟩ | ⟨-, hr⟩
        · exact (hk _ _ _ _ hr).1
        · exact (hk _ _ _ _ hr).1
      | inr z =>
        obtain ⟨pre9, t9, suf9, -, -, g9⟩ := zhnd_sp _ (show zhnd (zget [] zPP.2.2.2 I.2.1.toNat) z.1 (fun t => kont t ls [(4, 0)] z.2) = some r from hr)
        exact (hk _ _ _ _ g9).1
    refine ⟨⟨by omega, by omega⟩, fun ws μ pos H locs lsJ stJ hat hl hs => ?_⟩
    have h6 : C0 ≤ zhC h := hat.2.2.2.2.2.1
    have h7 : S0 ≤ zhS h := hat.2.2.2.2.2.2.1
    obtain ⟨vs0, rest, rfl, harg0, hs'⟩ := hpop σ μ (zhN h) stJ hs
    have harg := harg0.rev
    clear harg0 hs
    rw [hre] at harg
    obtain ⟨vs, rfl⟩ : ∃ vs : List Value, vs0 = vs.reverse := ⟨vs0.reverse, by simp⟩
    rw [List.reverse_reverse] at harg
    rw [hsg] at harg
    obtain ⟨v1, As, rfl, hv1, hAs⟩ : ∃ v1 As, vs = v1 :: As ∧ zvr σ μ (zhN h) (100 + ci) a v1 ∧ zARG σ μ (zhN h) tl as As := by
      cases vs with
      | nil => exact harg.elim
      | cons v1 As => exact ⟨v1, As, rfl, harg.1, harg.2⟩
    cases zref_at hq hv1
    rw [hci] at hp
    have hp' := zat_N hat hp
    obtain ⟨fs, f1, f2, f3⟩ := hat.1.obj hci13 hp'
    have hrec := va_recv hK hat.2.1 (zcl_at hci13) f1
    rw [hcn] at hrec
    have hcells : zhC h - C0 + (zhC (zrh r1) - zhC h) ≤ R.cells ∧ zhS h - S0 + (zhS (zrh r1) - zhS h) ≤ R.slots := ⟨by omega, by omega⟩
    have hMet := hM σ cA D b L xs ws μ pos (.ref (μ ci q) :: As) H.size hat.1 (fun z => hat.2.2.2.2.2.2.2.1 (by cases hq9 : al with
      | false => rfl
      | true => exact absurd z (by rw [hal9 hq9]; decide))) hat.2.2.2.2.2.2.2.2 (by rw [hsg]; exact ⟨hv1, hAs⟩)
    have hnn : As.length = n := by rw [← hnp]; exact hAs.len.symm
    have hrun := vx_runV (C := y.cls) (e := e) (below := below) (meth := meth) (locs := locs) (g := F0 m pc lsJ ((Value.ref (μ ci q) :: As).reverse ++ rest)) (rest := rest) ⟨hx, hb, hml, hown, hts⟩ hMet ⟨⟨rfl, rfl, hcb.2.1, hcb.2.2.1, pay_in hts (zT_in hcb.1), by rw [hcw]; exact List.mem_cons_self, by have := hts _ hcb.1; rw [hcw] at this; exact this, hts _ hcb.2.2.2.1, hcb.2.2.2.2.1, zcb_n hcb.2.2.2.2.2, hts _ hwl⟩, hts _ hwi, hts _ hws⟩ ⟨zPre_blind, hrec, fun U hU hW => ⟨rfl, zpre_at hat hA hK hEnv U hU hW⟩⟩ rfl hnn hl.2.choose_spec.1.1 (by simp) (lv_room (by rw [hs'.cat]; exact hc1)) hdg hcells
    refine zrunx_go hat hA hal hC hC2 hrun (fun v h1 hz val ws1 μ1 pos1 H1 locs1 hat1 hex hv => ?_) (fun n9 h1 hz ws1 μ1 pos1 H1 locs1 q9 ce hat1 hex g1 g2 g3 => ?_)
    · subst hz
      have hs1 := zrv_st hv (hs'.mono hex)
      have hr2 : zret (zsig zPP I.2.2.2).2.2.1 v st1 (fun st => kont (pc + 3) ls st h1) = some r := hr
      rcases zret_some hr2 with ⟨hq, hr⟩ | ⟨hq, hr⟩
      · exact (hk _ _ _ _ hr).2 ws1 μ1 pos1 H1 locs1 lsJ _ hat1 (hl.mono hex) (hs1.1 hq)
      · exact (hk _ _ _ _ hr).2 ws1 μ1 pos1 H1 locs1 lsJ _ hat1 (hl.mono hex) (hs1.2 hq)
    · subst hz
      exact zcatch_go hown hts hEnv hk htab hok (show zhnd (zget [] zPP.2.2.2 I.2.1.toNat) n9 (fun t => kont t ls [(4, 0)] h1) = some r from hr) hat1 (hl.mono hex) g1 g2 g3
theorem zs_thr {Qc : Array Value → State → Outcome → State → Prop} {XC : String → State → State → Prop} (hH0 : H0 = s.heap) (hlocks : meth.locks = false) (hx : p.tables.exec = Jvm.exec) (hb : c.code = cc) (hml : c.maxLocals = nL) (hkt : ∀ n h, kthr n h = zth n h) (hflag : l.stackTraces = false) (hown : s.vm.findClass own = some m.cls) (hts : ∀ w ∈ zT, w.before args s = true) (hEnv : zEnv σ A s H0) (hRc : zhC (zrh r) - C0 ≤ R.cells) (hRs : zhS (zrh r) - S0 ≤ R.slots)
    {I : zI} {ic : Nat} {names : List String} (hcls : Bundle.fit (zexc I.2.2.2) = true) (hnames : ∀ n ∈ names, Bundle.fit n = true) (hw1 : Cond.classLink own I.2.2.1 (zexc I.2.2.2) ∈ zT) (hw2 : Cond.initialized (zexc I.2.2.2) ∈ zT) (hat2 : ∀ w ∈ vx_at0 own ic (zexc I.2.2.2) names, w ∈ zT ∨ (∃ q ∈ zLC, w = .castable q.1 q.2) ∨ ∃ x ∈ zDL, w = .declares x) (hgood : ∀ w ∈ Cond.classLink own I.2.2.1 (zexc I.2.2.2) :: Cond.initialized (zexc I.2.2.2) :: vx_at0 own ic (zexc I.2.2.2) names, vx_ot w = true)
    (d0 : decode cc pc = .ok (.new I.2.2.1, 3)) (d3 : decode cc (pc + 3) = .ok (.dup, 1)) (d4 : decode cc (pc + 4) = .ok (.invokespecial ic, 3)) (d7 : decode cc (pc + 7) = .ok (.athrow, 1)) (hout : ∀ x ∈ c.exceptionTable.toList, covers x (pc + 7) = false) (hRf : names.length + 3 < R.frames) (hRl : 13 * (names.length + 1) + 42 ≤ R.locals)
    (hXC : ∀ (h : zH) (ws : va_W) (μ pos : Nat → Nat → Nat) (H : Heap) (locs : List Loc) (t : State), r = .inr (I.2.2.2, zthrown h) → zAt s A H0 σ cA D b L xs al C0 S0 μ0 N0 h ws μ pos H locs → s.vm.Alike t.vm → H.size ≤ t.heap.size → (∀ q : Nat, q < H.size → t.heap[q]? = H[q]?) → XC (zexc I.2.2.2) s t) {ls : List (Option zV)} {st : List zV} {h : zH} (hr : zothr zPP al call I kont kret kthr pc ls st h = some r) : zGo p l e R s m args below meth c (vx_MQ below Qc XC args s (zhC (zrh r) - C0) (zhS (zrh r) - S0) A) A H0 σ cA D b L xs al C0 S0 μ0 N0 nL r pc ls st h := by
  rcases st with _ | ⟨z, st⟩
  · simp only [zothr] at hr
    have hr : kthr I.2.2.2 (zthrown h) = some r := hr
    rw [hkt] at hr
    obtain rfl : r = .inr (I.2.2.2, zthrown h) := (Option.some.inj hr).symm
    refine ⟨⟨Nat.le_succ _, Nat.le_add_right _ _⟩, fun ws μ pos H locs lsJ stJ hat hl hs => ?_⟩
    cases hs.nil
    have h6 : C0 ≤ zhC h := hat.2.2.2.2.2.1
    have h7 : S0 ≤ zhS h := hat.2.2.2.2.2.2.1
    have hS := hat.2.2.2.1
    have e1 : zhC (zrh (.inr (I.2.2.2, zthrown h))) = zhC h + 1 := rfl
    have e2 : zhS (zrh (.inr (I.2.2.2, zthrown h))) = zhS h + 6 := rfl
    rw [e1] at hRc
    rw [e2] at hRs
    have hcast := hEnv.2.2.2.2.2.2.2.1
    have hdecl := hEnv.2.2.2.1.2
    obtain ⟨hU, hN, -⟩ := hEnv
    rw [hH0] at hU hN
    refine vx_throw0 (A := A) hx hb hflag hown hcls hnames (hts _ hw1) (hts _ hw2) (fun w hw => ?_) hgood hU hN (hH0 ▸ hS) (hl.2.choose_spec.1.1.trans hml.symm) d0 d3 d4 d7 hout hRf (by simpa using hRl) (by omega) (by omega) hlocks (fun t k1 k2 k3 => hXC h ws μ pos H locs t rfl hat k1 k2 k3) hS.2.2 (by rw [e1]; omega) (by rw [e2]; omega)
    rcases hat2 w hw with q | ⟨q, hq, rfl⟩ | ⟨q, hq, rfl⟩
    · exact hts w q
    · exact va_Nw.use rfl (hcast q hq)
    · exact va_Nw.use rfl (hdecl q hq)
  · cases hr
theorem zs_stix (hx : p.tables.exec = Jvm.exec) (hb : c.code = cc) (hml : c.maxLocals = nL) (hown : s.vm.findClass own = some m.cls) (hts : ∀ w ∈ zT, w.before args s = true) (hK : va_K D zcl (ztys cA) s) (hA : ∀ q, H0.size ≤ q → A q) (hEnv : zEnv σ A s H0) (hRc : zhC (zrh r) - C0 ≤ R.cells) (hRs : zhS (zrh r) - S0 ≤ R.slots) (hH0 : H0 = s.heap) (hk : ∀ pc ls st h, kont pc ls st h = some r → zGo p l e R s m args below meth c Q A H0 σ cA D b L xs al C0 S0 μ0 N0 nL r pc ls st h) {I : zI} {y : MethodName} {cw : Cond} {fr lo maxL : Nat} {bytes : ByteArray} {ret : Option FieldType} (hcb : zcb own R I.2.2.1 y cw fr lo maxL 1) (hyc : y.cls = "java/lang/String") (hwl : Cond.methodLink own I.2.2.1 y ∈ zT) (hwi : Cond.instanceMethod y ∈ zT) (hws : Cond.selects "java/lang/String" y y ∈ zT) (hcw : cw = Cond.code y bytes maxL ret)
    (hM : ∀ (t x : Int) (h : zH), zMet l al y cw fr lo [3, 0] 0 [t, x] h (zfind (zget [] zstrs t.toNat) x 0) h) (hdg : decode cc pc = .ok (.invokevirtual I.2.2.1, 3)) {ls : List (Option zV)} {st : List zV} {h : zH} (hr : zostix zPP al call I kont kret kthr pc ls st h = some r) : zGo p l e R s m args below meth c Q A H0 σ cA D b L xs al C0 S0 μ0 N0 nL r pc ls st h := by
  rcases st with _ | ⟨⟨t1, x1⟩, _ | ⟨⟨t2, x2⟩, st⟩⟩
  · cases hr
  · cases hr
  · simp only [zostix] at hr
    obtain ⟨hc, hr⟩ := zif_some hr
    obtain ⟨hc, hc8⟩ := zand_t hc
    obtain ⟨hc1, hc2⟩ := zand_t hc
    have hc8 := Nat.le_of_ble_eq_true hc8
    unfold zstix at hr
    obtain ⟨hm, hg⟩ := hk _ _ _ _ hr
    refine ⟨hm, fun ws μ pos H locs lsJ stJ hat hl hs => ?_⟩
    obtain ⟨v1, sJ1, rfl, hv1, hs1⟩ := hs.cons
    obtain ⟨v2, sJ2, rfl, hv2, hs2⟩ := hs1.cons
    rw [Nat.eq_of_beq_eq_true hc1] at hv1
    rw [Nat.eq_of_beq_eq_true hc2] at hv2
    obtain ⟨j1, j2, rfl⟩ := hv2.str
    have hS := hat.2.2.2.1
    obtain ⟨adV, hvk⟩ := hEnv.2.2.1
    rw [hH0] at hvk
    have hrec := vk_recv (i := x2.toNat) hvk (by omega) (hH0 ▸ hS)
    have hcells : zhC h - C0 + (zhC h - zhC h) ≤ R.cells ∧ zhS h - S0 + (zhS h - zhS h) ≤ R.slots := ⟨by have := hm.1; omega, by have := hm.2; omega⟩
    have hMet := hM x2 x1 h σ cA D b L xs ws μ pos [.ref (σ x2.toNat), v1] H.size hat.1 hat.2.2.2.2.2.2.2.1 hat.2.2.2.2.2.2.2.2 ⟨hv2, hv1, trivial⟩
    have hrun := va_runV (C := "java/lang/String") (e := e) (below := below) (meth := meth) (locs := locs) (g := F0 m pc lsJ ([Value.ref (σ x2.toNat), v1].reverse ++ sJ2)) (rest := sJ2) ⟨hx, hb, hml, hown, hts⟩ hMet ⟨⟨rfl, rfl, hcb.2.1, hcb.2.2.1, pay_in hts (zT_in hcb.1), by rw [hcw]; exact List.mem_cons_self, by have := hts _ hcb.1; rw [hcw] at this; exact this, hts _ hcb.2.2.2.1, hcb.2.2.2.2.1, zcb_n hcb.2.2.2.2.2, hts _ hwl⟩, hts _ hwi, hts _ hws⟩ ⟨zPre_blind, hrec, fun U hU hW => ⟨rfl, zpre_at hat hA hK hEnv U hU hW⟩⟩ rfl (n := 1) rfl hl.2.choose_spec.1.1 (by simp) (lv_room (by rw [hs2.cat]; exact hc8)) hdg hcells
    refine zrun_go hat hA (fun z => z) (Nat.le_refl _) (Nat.le_refl _) hrun (fun val ws1 μ1 pos1 H1 locs1 hat1 hex hv => ?_)
    exact hg ws1 μ1 pos1 H1 locs1 lsJ _ hat1 (hl.mono hex) ((zrv_st hv (hs2.mono hex)).2 (by decide))
end
