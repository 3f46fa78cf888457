/-! METHODS THAT THROW -/
def zxnm : List String := ["java/lang/RuntimeException", "java/lang/Exception"]
def zxst (n : Nat) : Nat × Nat := zget (0, 0) [(0, 0), (412, 67), (480, 14), (582, 14), (789, 14), (942, 14), (1609, 23)] n
def zxL (n : Nat) : List Cond := (lw_tbl.drop 110).take 32 ++ (lw_tbl.drop 139).take 2 ++ ((lw_tbl.drop 412).take 82 ++ (lw_tbl.drop (zxst n).1).take (zxst n).2)
def zxw (n : Nat) (w : Cond) : Bool := zLC.any (fun q => decide (w = .castable q.1 q.2)) || zDL.any (fun x => decide (w = .declares x)) || ((zxL n).any (fun x => decide (x = w)) && goodWord w)
def zxa0 (X : String) : List Cond := Bundle.throwableAtoms ++ Bundle.chain0Atoms X zxnm
def zxa (X : String) : List Cond := (zxa0 X ++ (Bundle.ownAtoms0 "" 0 X zxnm).drop ((zxa0 X).length + 1)).filter vx_no
def zxn (n : Nat) : Bool := Bundle.fit (zexc n) && zxnm.all Bundle.fit && zxw n (.initialized (zexc n)) && (zxa (zexc n)).all (fun w => zxw n w && vx_ot w)
set_option maxRecDepth 1000000 in
set_option maxHeartbeats 0 in
theorem zxn_1 : zxn 1 = true := by decide +kernel
set_option maxRecDepth 1000000 in
set_option maxHeartbeats 0 in
theorem zxn_2 : zxn 2 = true := by decide +kernel
set_option maxRecDepth 1000000 in
set_option maxHeartbeats 0 in
theorem zxn_3 : zxn 3 = true := by decide +kernel
set_option maxRecDepth 1000000 in
set_option maxHeartbeats 0 in
theorem zxn_4 : zxn 4 = true := by decide +kernel
set_option maxRecDepth 1000000 in
set_option maxHeartbeats 0 in
theorem zxn_5 : zxn 5 = true := by decide +kernel
set_option maxRecDepth 1000000 in
set_option maxHeartbeats 0 in
theorem zxn_6 : zxn 6 = true := by decide +kernel
theorem zxn_all {n : Nat} (h : Nat.blt 0 n = true) (h6 : Nat.blt n 7 = true) : zxn n = true := by
  have h1 : 0 < n := Nat.le_of_ble_eq_true h
  have h2 : n < 7 := Nat.le_of_ble_eq_true h6
  match n, h1, h2 with
  | 1, _, _ => exact zxn_1
  | 2, _, _ => exact zxn_2
  | 3, _, _ => exact zxn_3
  | 4, _, _ => exact zxn_4
  | 5, _, _ => exact zxn_5
  | 6, _, _ => exact zxn_6
theorem zxL_in {n : Nat} {w : Cond} (h : w ∈ zxL n) : w ∈ lw_tbl := by
  unfold zxL at h
  rcases List.mem_append.mp h with h | h
  · rcases List.mem_append.mp h with h | h
    · exact List.mem_of_mem_drop (List.mem_of_mem_take h)
    · exact List.mem_of_mem_drop (List.mem_of_mem_take h)
  · rcases List.mem_append.mp h with h | h
    · exact List.mem_of_mem_drop (List.mem_of_mem_take h)
    · exact List.mem_of_mem_drop (List.mem_of_mem_take h)
theorem zxw_go {n : Nat} {w : Cond} (h : zxw n w = true) : ((∃ q ∈ zLC, w = .castable q.1 q.2) ∨ ∃ x ∈ zDL, w = .declares x) ∨ w ∈ zT := by
  unfold zxw at h
  rcases Bool.or_eq_true_iff.mp h with h | h
  · rcases Bool.or_eq_true_iff.mp h with h | h
    · obtain ⟨q, hq, h⟩ := List.any_eq_true.mp h
      exact Or.inl (Or.inl ⟨q, hq, of_decide_eq_true h⟩)
    · obtain ⟨q, hq, h⟩ := List.any_eq_true.mp h
      exact Or.inl (Or.inr ⟨q, hq, of_decide_eq_true h⟩)
  · obtain ⟨h, hg⟩ := zand_t h
    obtain ⟨x, hx, h⟩ := List.any_eq_true.mp h
    have h := of_decide_eq_true h
    subst h
    exact Or.inr (List.mem_filter.mpr ⟨zxL_in hx, hg⟩)
theorem zdrop_mid {α : Type} (A t : List α) (m : α) : (A ++ m :: t).drop (A.length + 1) = t := by
  induction A with
  | nil => rfl
  | cons a A ih => exact ih
theorem vx_at0_own {own X : String} {ic : Nat} {w : Cond} (h : w ∈ vx_at0 own ic X zxnm) : w = .methodLink own ic (Bundle.init0 X) ∨ w ∈ zxa X := by
  unfold vx_at0 at h
  obtain ⟨h, hn⟩ := List.mem_filter.mp h
  have hd : ∀ ow k, (Bundle.ownAtoms0 ow k X zxnm) = zxa0 X ++ (.methodLink ow k (Bundle.init0 X)) :: (Bundle.ownAtoms0 "" 0 X zxnm).drop ((zxa0 X).length + 1) := fun ow k => by
    exact congrArg (fun z => zxa0 X ++ (Cond.methodLink ow k (Bundle.init0 X)) :: z) (Eq.symm (zdrop_mid (zxa0 X) _ (Cond.methodLink "" 0 (Bundle.init0 X))))
  rw [hd own ic] at h
  rcases List.mem_append.mp h with h | h
  · exact Or.inr (List.mem_filter.mpr ⟨List.mem_append.mpr (Or.inl h), hn⟩)
  · rcases List.mem_cons.mp h with h | h
    · exact Or.inl h
    · exact Or.inr (List.mem_filter.mpr ⟨List.mem_append.mpr (Or.inr h), hn⟩)
theorem vx_ot_T {w : Cond} (h : w ∈ zT) : vx_ot w = true := by
  unfold vx_ot
  rw [(List.mem_filter.mp h).2, Bool.or_true]
def zxckt (cc : ByteArray) (own : String) (fr lo pc : Nat) (I : zI) (wi : List Nat) : Bool :=
  Nat.beq I.1 134 && zok cc pc (.new I.2.2.1) 3 && zok cc (pc + 3) .dup 1 && zok cc (pc + 4) (.invokespecial I.2.1.toNat) 3 && zok cc (pc + 7) .athrow 1 && zw wi 0 (.classLink own I.2.2.1 (zexc I.2.2.2)) && zw wi 1 (.methodLink own I.2.1.toNat (Bundle.init0 (zexc I.2.2.2))) && Nat.blt 0 I.2.2.2 && Nat.blt I.2.2.2 7 && Nat.ble 6 fr && Nat.ble 81 lo
/-- all that is to be checked of a method -/
def zck9 (zi : Nat → zinfo) (j : Nat) (isI : Bool) (pc : Nat) (I : zI) (wi : List Nat) : Bool :=
  bif zexi I.1 then (zxck (zi j).2.2.2.2.2.2.1 (zi j).2.2.2.2.2.2.2.1 (zsig zPP j).2.2.1 pc I || ((zi j).2.2.2.2.2.1 && zxckt (zi j).2.2.2.2.2.2.1 (zi j).1.cls (zi j).2.1 (zi j).2.2.1 pc I wi))
  else zchk (zi j).2.2.2.2.2.2.1 (zi j).1.cls isI (zi j).2.1 (zi j).2.2.1 (zitb (zi j)) pc I wi zi
def zca (f : Nat → zI → List Nat → Bool) : Nat → List zI → List (List Nat) → Bool
  | pc, I :: Is, w :: ws => f pc I w && zca f (pc + 1) Is ws
  | _, [], _ => true
  | _, _ :: _, [] => false
theorem zca_go {f : Nat → zI → List Nat → Bool} (h9 : ∀ pc w, f pc (999, 0, 0, 0) w = true) : ∀ (Is : List zI) (ws : List (List Nat)) (k : Nat), zca f k Is ws = true → ∀ pc, f (k + pc) (zget (999, 0, 0, 0) Is pc) (zget [] ws pc) = true
  | [], ws, k, _, pc => h9 _ _
  | I :: Is, w :: ws, k, h, 0 => (zand_t h).1
  | I :: Is, w :: ws, k, h, pc + 1 => by
    have := zca_go h9 Is ws (k + 1) (zand_t h).2 pc
    rw [show k + (pc + 1) = k + 1 + pc by omega]
    exact this
  | _ :: _, [], _, h, _ => by cases h
def zcj (zi : Nat → zinfo) (j : Nat) (isI th : Bool) (ts : List Nat) (n : Nat) (code : List zI) (wis : List (List Nat)) : Bool :=
  decide ((zi j).2.2.2.2.2.1 = th) && (plainFor (zi j).1 && (!th || plainName (zi j).1.cls)) && Nat.ble (zwid ts) n && Nat.beq (zi j).2.2.2.1 n && decide ((zsig zPP j).2.1.reverse = ts) && (!isI || decide ((zi j).1.name = "<init>")) && (!(zi j).2.2.2.2.2.1 || (zi j).2.2.2.2.2.2.2.2.isNone) && zca (zck9 zi j isI) 0 code wis
theorem zck9_9 {zi : Nat → zinfo} {j : Nat} {isI : Bool} (pc : Nat) (w : List Nat) : zck9 zi j isI pc (999, 0, 0, 0) w = true := by
  unfold zck9
  show (bif true then (true || _) else _) = true
  rfl
/-- what the check says -/
theorem zcj_go {zi : Nat → zinfo} {j : Nat} {isI th : Bool} {ts : List Nat} {n : Nat} {code : List zI} {wis : List (List Nat)} (h : zcj zi j isI th ts n code wis = true) :
    (zi j).2.2.2.2.2.1 = th ∧ (plainFor (zi j).1 = true ∧ (th = true → plainName (zi j).1.cls = true)) ∧ zwid ts ≤ n ∧ (zi j).2.2.2.1 = n ∧ (zsig zPP j).2.1.reverse = ts ∧ (isI = true → (zi j).1.name = "<init>") ∧ ((zi j).2.2.2.2.2.1 = true → (zi j).2.2.2.2.2.2.2.2.isNone = true) ∧
    (∀ pc, zexi (zget (999, 0, 0, 0) code pc).1 = true ∨ zchk (zi j).2.2.2.2.2.2.1 (zi j).1.cls isI (zi j).2.1 (zi j).2.2.1 (zitb (zi j)) pc (zget (999, 0, 0, 0) code pc) (zget [] wis pc) zi = true) ∧
    (∀ pc, zexi (zget (999, 0, 0, 0) code pc).1 = true → zxck (zi j).2.2.2.2.2.2.1 (zi j).2.2.2.2.2.2.2.1 (zsig zPP j).2.2.1 pc (zget (999, 0, 0, 0) code pc) = true ∨ ((zi j).2.2.2.2.2.1 = true ∧ zxckt (zi j).2.2.2.2.2.2.1 (zi j).1.cls (zi j).2.1 (zi j).2.2.1 pc (zget (999, 0, 0, 0) code pc) (zget [] wis pc) = true)) := by
  unfold zcj at h
  obtain ⟨h, h7⟩ := zand_t h
  obtain ⟨h, h6⟩ := zand_t h
  obtain ⟨h, h5⟩ := zand_t h
  obtain ⟨h, h4⟩ := zand_t h
  obtain ⟨h, h3⟩ := zand_t h
  obtain ⟨h, h2⟩ := zand_t h
  obtain ⟨h0, h1⟩ := zand_t h
  have key : ∀ pc, zck9 zi j isI pc (zget (999, 0, 0, 0) code pc) (zget [] wis pc) = true := fun pc => by
    have := zca_go (fun pc w => zck9_9 pc w) code wis 0 h7 pc
    rw [Nat.zero_add] at this
    exact this
  refine ⟨of_decide_eq_true h0, ⟨(zand_t h1).1, fun e => by have h9 := (zand_t h1).2; rw [e] at h9; exact h9⟩, Nat.le_of_ble_eq_true h2, Nat.eq_of_beq_eq_true h3, of_decide_eq_true h4, fun e => ?_, fun e => ?_, fun pc => ?_, fun pc e => ?_⟩
  · rw [e] at h5
    exact of_decide_eq_true h5
  · rw [e] at h6
    exact h6
  · have k := key pc
    unfold zck9 at k
    cases hx : zexi (zget (999, 0, 0, 0) code pc).1 with
    | true => exact Or.inl rfl
    | false =>
      rw [hx] at k
      exact Or.inr k
  · have k := key pc
    unfold zck9 at k
    rw [e] at k
    rcases Bool.or_eq_true_iff.mp k with k | k
    · exact Or.inl k
    · exact Or.inr (zand_t k)
section
variable {p : Program} {l : Launch} {e : Env} {R : Room} {s : State} {m : MethodId} {args : Array Value} {below : List Frame} {meth : Method} {c : Code} {Q : State → Prop} {A : Nat → Prop} {H0 : Heap} {σ : Nat → Nat} {cA : Nat → ClassId} {D : va_G} {b L : Nat} {xs : Nat → Int32} {al : Bool} {C0 S0 : Nat} {μ0 : Nat → Nat → Nat} {N0 : Nat → Nat} {nL : Nat}
variable {r : zRes} {kont : Nat → List (Option zV) → List zV → zH → Option zRes} {kret : Int → zH → Option zRes} {kthr : Nat → zH → Option zRes} {call : Nat → List Int → zH → (Int → zH → Option zRes) → (Nat → zH → Option zRes) → Option zRes} {cc : ByteArray} {own : String} {pc : Nat}
/-- a throw goes out to the caller -/
theorem zthr_out {Qc : Array Value → State → Outcome → State → Prop} {XC : String → State → State → Prop} (hH0 : H0 = s.heap) (hlocks : meth.locks = false) (htb : ∀ x ∈ c.exceptionTable.toList, False) {n : Nat} {h : zH} (he : r = .inr (n, h))
    (hXC : ∀ (ws : va_W) (μ pos : Nat → Nat → Nat) (H : Heap) (locs : List Loc) (t : State), zAt s A H0 σ cA D b L xs al C0 S0 μ0 N0 h ws μ pos H locs → t.heap = H → XC (zexc n) s t) (pc : Nat) :
    zGoX p l e R s m args below meth c (vx_MQ below Qc XC args s (zhC (zrh r) - C0) (zhS (zrh r) - S0) A) A H0 σ cA D b L xs al C0 S0 μ0 N0 nL r pc n h := by
  subst he
  refine ⟨⟨Nat.le_refl _, Nat.le_refl _⟩, fun ws μ pos H locs lsJ rest q9 ce hat g1 g2 g3 => ?_⟩
  exact vx_out (E := zexc n) (fun x hx => (htb x hx).elim) hlocks g1 g2 g3 (fun t ht _ => hXC ws μ pos H locs t hat ht) (fun z hz => hat.2.2.2.1.2.2 z hz) (Nat.le_refl _) (Nat.le_refl _)
theorem zthr_go {Qc : Array Value → State → Outcome → State → Prop} {XC : String → State → State → Prop} (hH0 : H0 = s.heap) (hlocks : meth.locks = false) (hx : p.tables.exec = Jvm.exec) (hb : c.code = cc) (hml : c.maxLocals = nL) (hkt : ∀ n h, kthr n h = zth n h) (hflag : l.stackTraces = false) (hown : s.vm.findClass own = some m.cls) (hts : ∀ w ∈ zT, w.before args s = true) (hEnv : zEnv σ A s H0) (hRc : zhC (zrh r) - C0 ≤ R.cells) (hRs : zhS (zrh r) - S0 ≤ R.slots) (htb : ∀ x ∈ c.exceptionTable.toList, False) {fr lo : Nat} (hRf : R.frames = fr) (hRl : R.locals = lo) {I : zI} {wi : List Nat} (hck : zxckt cc own fr lo pc I wi = true)
    (hXC : ∀ (h : zH) (ws : va_W) (μ pos : Nat → Nat → Nat) (H : Heap) (locs : List Loc) (t : State), r = .inr (I.2.2.2, zthrown h) → zAt s A H0 σ cA D b L xs al C0 S0 μ0 N0 h ws μ pos H locs → s.vm.Alike t.vm → H.size ≤ t.heap.size → (∀ q : Nat, q < H.size → t.heap[q]? = H[q]?) → XC (zexc I.2.2.2) s t) {ls : List (Option zV)} {st : List zV} {h : zH} (hr : zstp zPP al call I kont kret kthr pc ls st h = some r) : zGo p l e R s m args below meth c (vx_MQ below Qc XC args s (zhC (zrh r) - C0) (zhS (zrh r) - S0) A) A H0 σ cA D b L xs al C0 S0 μ0 N0 nL r pc ls st h := by
  unfold zxckt at hck
  obtain ⟨hck, h11⟩ := zand_t hck
  obtain ⟨hck, h10⟩ := zand_t hck
  obtain ⟨hck, h9⟩ := zand_t hck
  obtain ⟨hck, h8⟩ := zand_t hck
  obtain ⟨hck, h7⟩ := zand_t hck
  obtain ⟨hck, h6⟩ := zand_t hck
  obtain ⟨hck, h5⟩ := zand_t hck
  obtain ⟨hck, h4⟩ := zand_t hck
  obtain ⟨hck, h3⟩ := zand_t hck
  obtain ⟨h1, h2⟩ := zand_t hck
  have hn := zxn_all h8 h9
  unfold zxn at hn
  obtain ⟨hn, n4⟩ := zand_t hn
  obtain ⟨hn, n3⟩ := zand_t hn
  obtain ⟨n1, n2⟩ := zand_t hn
  have n4 := List.all_eq_true.mp n4
  have n3 : Cond.initialized (zexc I.2.2.2) ∈ zT := by
    rcases zxw_go n3 with (⟨q, -, k⟩ | ⟨q, -, k⟩) | k
    · cases k
    · cases k
    · exact k
  have h7 := zw_in h7
  have hr2 : zothr zPP al call I kont kret kthr pc ls st h = some r := by
    obtain ⟨o, I2⟩ := I
    cases Nat.eq_of_beq_eq_true h1
    exact hr
  refine zs_thr (I := I) (ic := I.2.1.toNat) (names := zxnm) hH0 hlocks hx hb hml hkt hflag hown hts hEnv hRc hRs n1 (List.all_eq_true.mp n2) (zw_in h6) n3 (fun w hw => ?_) (fun w hw => ?_) (zok_d h2) (zok_d h3) (zok_d h4) (zok_d h5) (fun x hx => (htb x hx).elim) ?_ ?_ hXC hr2
  · rcases vx_at0_own hw with rfl | hw
    · exact Or.inl h7
    · rcases zxw_go (zand_t (n4 w hw)).1 with k | k
      · exact Or.inr k
      · exact Or.inl k
  · rcases List.mem_cons.mp hw with rfl | hw
    · exact vx_ot_T (zw_in h6)
    · rcases List.mem_cons.mp hw with rfl | hw
      · exact vx_ot_T n3
      · rcases vx_at0_own hw with rfl | hw
        · exact vx_ot_T h7
        · exact (zand_t (n4 w hw)).2
  · have := Nat.le_of_ble_eq_true h10
    rw [hRf]
    show 2 + 3 < fr
    omega
  · have := Nat.le_of_ble_eq_true h11
    rw [hRl]
    show 13 * (2 + 1) + 42 ≤ lo
    omega
end
theorem vx_ofWL {l : Launch} {f : zinfo} {ws ws' : List Cond} {rm : Room} {Pc : Array Value → State → Prop} {Qc : Array Value → State → Outcome → State → Prop} {XC : String → State → State → Prop} {mc ms : Nat} {free : Addr → Prop} (hf : f.2.2.2.2.2.2.2.2.isNone = true) (hy : plainName f.1.cls = true) (hw : ws = zicw f :: ws')
    (body : ∀ p e s m args below meth c s₁, BodyLoose p l f.1 (headSpec ws rm) f.2.2.2.2.2.2.1 f.2.2.2.1 f.2.2.2.2.2.2.2.1 e s m args below meth c s₁ → c.maxLocals = f.2.2.2.1 → (∀ x ∈ c.exceptionTable.toList, False) → Pc args s →
      W p l e (headSpec ws rm).room s m args below meth c s.heap [] 0 0 (vx_MQ below Qc XC args s mc ms free) (entryFrame m args f.2.2.2.1)) : vx_Met l f.1 ws rm Pc Qc XC mc ms free := by
  rw [zicw_n hf] at hw
  exact vx_ofW hy hw body
theorem zitb_n {f : zinfo} (h : f.2.2.2.2.2.2.2.2.isNone = true) : zitb f = [] := by
  unfold zitb
  cases hf : f.2.2.2.2.2.2.2.2 with
  | none => rfl
  | some _ => rw [hf] at h; cases h
/-- the contract of a method that may throw -/
theorem zmetx_go {l : Launch} {al isI : Bool} {zi : Nat → zinfo} {j n : Nat} {ts : List Nat} {code : List zI} {wis : List (List Nat)} {cut : Nat → Option (List Bool)} {as : List Int} {h : zH} {r : zRes}
    (hc : zcj zi j isI true ts n code wis = true) (hflag : l.stackTraces = false) (hcwz : ∀ j, zicw (zi j) ∈ zT)
    (hIX : ∀ (t x : Int) (h : zH), zMet l al zixi.1 (zicw zixi) zixi.2.1 zixi.2.2.1 [3, 0] 0 [t, x] h (zfind (zget [] zstrs t.toNat) x 0) h)
    (hrun : ∀ GO, zSg l al zi (zget (999, 0, 0, 0) code) cut zin zth r GO → GO 0 (zent ts as n) [] h) :
    zMetX l al (zi j).1 (zicw (zi j)) (zi j).2.1 (zi j).2.2.1 (zsig zPP j).2.1.reverse (zsig zPP j).2.2.1 as h r := by
  obtain ⟨hth, c1, c2, c3, c4, c5, c6, c7, c8⟩ := zcj_go hc
  have hnn := c6 hth
  subst c3
  subst c4
  intro σ cA D b L xs ws μ pos vs sz hWd hmok hScr hARG
  refine vx_ofWL (f := zi j) hnn (c1.2 rfl) rfl (fun p e s m args below meth c s₁ B hml htb hP => ?_)
  obtain ⟨hargs, hsz, hPP, hK, hD, hEnv⟩ := hP
  subst hargs
  have hts : ∀ w ∈ zT, w.before vs.toArray s = true := fun w hw => atoms_spec B.pre w (List.mem_cons_of_mem _ hw)
  have hown : s.vm.findClass (zi j).1.cls = some m.cls := findClass_of_methodNamed B.named
  have htb0 : c.exceptionTable.toList = zitb (zi j) := by
    rw [zitb_n hnn]
    exact List.eq_nil_iff_forall_not_mem.mpr (fun x hx => htb x hx)
  have key := hrun _ (zseg_sound (p := p) (l := l) (e := e) (R := (headSpec (zicw (zi j) :: zT) (zRm (zi j).2.1 (zi j).2.2.1 (zhC (zrh r) - zhC h) (zhS (zrh r) - zhS h))).room) (s := s) (m := m) (args := vs.toArray) (below := below) (meth := meth) (c := c) (Q := vx_MQ below (zQr σ cA D b L xs al μ (zhN h) (va_A ws sz) (zsig zPP j).2.2.1 r) (zXr σ cA D b L xs al μ (zhN h) (va_A ws sz) r) vs.toArray s (zhC (zrh r) - zhC h) (zhS (zrh r) - zhS h) (va_A ws sz)) (A := va_A ws sz) (H0 := s.heap) (σ := σ) (cA := cA) (D := D) (b := b) (L := L) (xs := xs) (al := al) (C0 := zhC h) (S0 := zhS h) (μ0 := μ) (N0 := zhN h) (nL := (zi j).2.2.2.1) (r := r) (kret := zin) (kthr := zth) (cut := cut) (code := zget (999, 0, 0, 0) code) (wi := zget [] wis) (isI := isI) (zi := zi) (own := (zi j).1.cls) (cc := (zi j).2.2.2.2.2.2.1) (fr := (zi j).2.1) (lo := (zi j).2.2.1) (tb := zitb (zi j))
    B.exec B.bytes hml hown hts hK (fun q hq => Or.inr (hsz ▸ hq)) hEnv (Nat.le_refl _) (Nat.le_refl _) rfl rfl rfl
    (fun pc9 n9 h9 e9 => zthr_out rfl B.notSynchronized htb (Option.some.inj e9).symm (fun ws9 μ9 pos9 H9 locs9 t hat ht => by
      cases (Option.some.inj e9)
      obtain ⟨a1, a2, a3, a4, a5, a6, a7, a8, a9⟩ := hat
      subst ht
      exact ⟨rfl, ⟨ws9, μ9, pos9, a1, a2, a3, a5, a8, a9⟩, ⟨a4.1, a4.2.1⟩⟩) pc9)
    hcwz htb0 (fun e9 => (name_of_methodNamed B.named B.method).1.trans (c5 e9)) hIX c7
    (fun pc hx9 CALL kont hk ls st h9 hr9 => by
      rcases c8 pc hx9 with k | ⟨-, k⟩
      · have g := zxck_go (p := p) (l := l) (e := e) (R := (headSpec (zicw (zi j) :: zT) (zRm (zi j).2.1 (zi j).2.2.1 (zhC (zrh r) - zhC h) (zhS (zrh r) - zhS h))).room) (s := s) (m := m) (args := vs.toArray) (below := below) (meth := meth) (c := c) (A := va_A ws sz) (H0 := s.heap) (σ := σ) (cA := cA) (D := D) (b := b) (L := L) (xs := xs) (al := al) (C0 := zhC h) (S0 := zhS h) (μ0 := μ) (N0 := zhN h) (nL := (zi j).2.2.2.1) (r := r) (rt := (zsig zPP j).2.2.1) (kret := zin) (Qc := zQr σ cA D b L xs al μ (zhN h) (va_A ws sz) (zsig zPP j).2.2.1 r) (call := CALL) (kont := kont) (kthr := zth) rfl B.notSynchronized B.exec B.bytes (fun _ _ => rfl) (fun v9 h9 e9 val ws9 μ9 pos9 H9 locs9 t hat hv ht => by
          subst e9
          obtain ⟨a1, a2, a3, a4, a5, a6, a7, a8, a9⟩ := hat
          subst ht
          exact ⟨⟨val, ws9, μ9, pos9, rfl, ⟨a1, a2, a3, a5, a8, a9⟩, hv⟩, ⟨a4.1, a4.2.1⟩⟩) B.returns k hr9
        exact ⟨g.1, fun ws1 μ1 pos1 H1 locs1 lsJ stJ g1 g2 g3 => vx_ret (g.2 ws1 μ1 pos1 H1 locs1 lsJ stJ g1 g2 g3)⟩
      · exact zthr_go (call := CALL) (kont := kont) (kret := zin) (kthr := zth) rfl B.notSynchronized B.exec B.bytes hml (fun _ _ => rfl) hflag hown hts hEnv (Nat.le_refl _) (Nat.le_refl _) htb rfl rfl k (fun h1 ws9 μ9 pos9 H9 locs9 t e9 hat hal hsz9 hkeep => by
          subst e9
          obtain ⟨a1, a2, a3, a4, a5, a6, a7, a8, a9⟩ := hat
          refine ⟨rfl, ⟨ws9, μ9, pos9, a1, a2.kept (fun k q hq => hkeep q.1 (a2 k q hq).lt), a3, a5, a8, a9⟩, ⟨Nat.le_trans a4.1 hsz9, fun q h1 h2 => ?_⟩⟩
          rw [hkeep q (Nat.lt_of_lt_of_le h1 a4.1)]
          exact a4.2.1 q h1 h2) hr9))
  have g := key.2 ws μ pos s.heap [] _ [] ⟨hWd, hPP, ⟨hD.1, fun k q hk => va_A.in hk⟩, ⟨Nat.le_refl _, fun _ _ _ => rfl, fun _ hq => absurd hq List.not_mem_nil⟩, fun c i hi => ⟨hi, rfl⟩, Nat.le_refl _, Nat.le_refl _, hmok, hScr⟩ (zLR_entry hARG c2) trivial
  rw [Nat.sub_self, Nat.sub_self] at g
  rw [lg_entry_eq]
  exact g
/-- the contract of a method that does not throw -/
theorem zmet_of {l : Launch} {al isI : Bool} {zi : Nat → zinfo} {j n : Nat} {ts : List Nat} {code : List zI} {wis : List (List Nat)} {cut : Nat → Option (List Bool)} {as : List Int} {h h1 : zH} {v : Int}
    (hc : zcj zi j isI false ts n code wis = true) (hcwz : ∀ j, zicw (zi j) ∈ zT)
    (hIX : ∀ (t x : Int) (h : zH), zMet l al zixi.1 (zicw zixi) zixi.2.1 zixi.2.2.1 [3, 0] 0 [t, x] h (zfind (zget [] zstrs t.toNat) x 0) h)
    (hrun : ∀ GO, zSg l al zi (zget (999, 0, 0, 0) code) cut zin (fun _ _ => none) (.inl (v, h1)) GO → GO 0 (zent ts as n) [] h) :
    zMet l al (zi j).1 (zicw (zi j)) (zi j).2.1 (zi j).2.2.1 (zsig zPP j).2.1.reverse (zsig zPP j).2.2.1 as h v h1 := by
  obtain ⟨hth, c1, c2, c3, c4, c5, c6, c7, c8⟩ := zcj_go hc
  subst c3
  subst c4
  refine zmet_go (cut := cut) (wi := zget [] wis) c1.1 hcwz c2 hIX c7 (fun pc e => ?_) c5 hrun
  rcases c8 pc e with k | ⟨k, -⟩
  · exact k
  · rw [hth] at k
    cases k
/-- what a call gives -/
theorem zct_of {l : Launch} {al : Bool} (isI : Bool) {zi : Nat → zinfo} {j n : Nat} {ts : List Nat} {code : List zI} {wis : List (List Nat)} {cut : Nat → Option (List Bool)} {as : List Int} {h : zH} {k : Int → zH → Option zRes} {t : Nat → zH → Option zRes} {x : Option zRes} {r : zRes}
    (hc : zcj zi j isI false ts n code wis = true) (hcwz : ∀ j, zicw (zi j) ∈ zT)
    (hIX : ∀ (t x : Int) (h : zH), zMet l al zixi.1 (zicw zixi) zixi.2.1 zixi.2.2.1 [3, 0] 0 [t, x] h (zfind (zget [] zstrs t.toNat) x 0) h)
    (hx : x.bind (zel k (fun _ _ => none)) = some r)
    (hrun : ∀ r1, x = some r1 → ∀ GO, zSg l al zi (zget (999, 0, 0, 0) code) cut zin (fun _ _ => none) r1 GO → GO 0 (zent ts as n) [] h) : zKsp l al zi r j as h k t :=
  zct_go (zcj_go hc).1 hx hrun (fun v h1 e => zmet_of hc hcwz hIX (hrun _ e))
theorem zctx_of {l : Launch} {al : Bool} (isI : Bool) {zi : Nat → zinfo} {j n : Nat} {ts : List Nat} {code : List zI} {wis : List (List Nat)} {cut : Nat → Option (List Bool)} {as : List Int} {h : zH} {k : Int → zH → Option zRes} {t : Nat → zH → Option zRes} {x : Option zRes} {r : zRes}
    (hc : zcj zi j isI true ts n code wis = true) (hflag : l.stackTraces = false) (hcwz : ∀ j, zicw (zi j) ∈ zT)
    (hIX : ∀ (t x : Int) (h : zH), zMet l al zixi.1 (zicw zixi) zixi.2.1 zixi.2.2.1 [3, 0] 0 [t, x] h (zfind (zget [] zstrs t.toNat) x 0) h)
    (hx : x.bind (zel k t) = some r)
    (hrun : ∀ r1, x = some r1 → ∀ GO, zSg l al zi (zget (999, 0, 0, 0) code) cut zin zth r1 GO → GO 0 (zent ts as n) [] h) : zKsp l al zi r j as h k t := by
  refine ⟨fun e => (by rw [(zcj_go hc).1] at e; cases e), fun _ => ?_⟩
  cases x with
  | none => cases hx
  | some r1 => exact ⟨r1, hx, zmono_go (fun n h e => by cases e; exact ⟨Nat.le_refl _, Nat.le_refl _⟩) (hrun _ rfl), zmetx_go hc hflag hcwz hIX (hrun _ rfl)⟩
/-- a method of the model, called from outside it -/
theorem zmch_some {ρ : Type} {h : zH} {y : Int} {x : Option ρ} {r : ρ} (e : zmch h y x = some r) : y = 0 ∧ zmok h = true ∧ x = some r := by
  unfold zmch at e
  split at e
  · rename_i hc
    exact ⟨hc.1, hc.2, e⟩
  · cases e
theorem zcm_of {l : Launch} {isI : Bool} {n : Nat} {ts : List Nat} {code : List zI} {wis : List (List Nat)} {zi : Nat → zinfo} {j : Nat} {as : List Int} {h : zH} {k : Int → zH → Option zRes} {t : Nat → zH → Option zRes} {r : zRes} (hmok : zmok h = true) (hc : zcj zi j isI false ts n code wis = true) (hk : zKsp l false zi r j as h k t) : zKsp l true zi r j as h k t := by
  refine ⟨fun e => ?_, fun e => (by rw [(zcj_go hc).1] at e; cases e)⟩
  obtain ⟨v, h1, g1, g2, g3⟩ := hk.1 e
  refine ⟨v, h1, g1, g2, fun σ cA D b L xs ws μ pos vs sz hWd _ hScr hARG => ?_⟩
  refine MetFree.mono (g3 σ cA D b L xs ws μ pos vs sz hWd (fun _ => hmok) hScr hARG) (fun _ _ z => z) (fun _ _ _ _ _ z => z) (fun a s o s' _ hq => ?_)
  obtain ⟨⟨val, ws1, μ1, pos1, q1, ⟨w1, w2, w3, w4, w5, w6⟩, q3⟩, q4⟩ := hq.1
  exact ⟨⟨⟨val, ws1, μ1, pos1, q1, ⟨w1, w2, w3, w4, fun e9 => (by cases e9), w6⟩, q3⟩, q4⟩, hq.2⟩
