/-! THE ENVIRONMENT: what the walk finds outside its own cells -/
def zTXT : List String := ["vsc", "axbf", "rwax", "RW", "k+-*<=tnlzjrwRWaxvsbfce", "k+-*<=tnlzrwRWaxvsc", "+-*<=rwRWaxvs", "+-*<=axsc", "zj", "wW"]
def zbyt : List (List Int32) := zstrs.map fun l => l.map Int32.ofInt
def zlen : List Nat := zstrs.map List.length
/-- the String constants: class, entry, text -/
def zSRs : List (String × Nat × Nat) := [("LaneMill$Instruction", 31, 4), ("LaneMill$Instruction", 37, 5), ("LaneMill$Instruction", 45, 6), ("LaneMill$Instruction", 47, 7), ("LaneMill$Instruction", 49, 8), ("LaneMill$Instruction", 55, 9), ("LaneMill$Core", 221, 1), ("LaneMill$Core", 234, 2), ("LaneMill$Core", 239, 3), ("LaneMill", 247, 0), ("LaneMill$Replay", 110, 2), ("LaneMill$Replay", 120, 3)]
/-- links between nest mates -/
def zLM : List (String × Nat × MethodName × String) := [("LaneMill", 9, ⟨"LaneMill$Ledger", "<init>", "()V"⟩, "LaneMill"), ("LaneMill$Core", 17, ⟨"LaneMill$Unit", "<init>", "()V"⟩, "LaneMill"), ("LaneMill$Core", 24, ⟨"LaneMill$Figures", "<init>", "()V"⟩, "LaneMill"), ("LaneMill$Ledger", 27, ⟨"LaneMill", "isWithin", "(III)Z"⟩, "LaneMill"), ("LaneMill$Kernel", 27, ⟨"LaneMill", "isWithin", "(III)Z"⟩, "LaneMill"), ("LaneMill$Instruction", 51, ⟨"LaneMill", "isWithin", "(III)Z"⟩, "LaneMill"), ("LaneMill$Kernel", 35, ⟨"LaneMill", "groupsFor", "(I)I"⟩, "LaneMill"), ("LaneMill$Launch", 68, ⟨"LaneMill", "isCell", "(I)Z"⟩, "LaneMill"), ("LaneMill$Unit", 29, ⟨"LaneMill", "groupsFor", "(I)I"⟩, "LaneMill"), ("LaneMill$Block", 51, ⟨"LaneMill", "groupsFor", "(I)I"⟩, "LaneMill"), ("LaneMill$Core", 172, ⟨"LaneMill", "isIn", "(II)Z"⟩, "LaneMill"), ("LaneMill$Core", 272, ⟨"LaneMill", "isCell", "(I)Z"⟩, "LaneMill"), ("LaneMill$Block", 104, ⟨"LaneMill", "isClash", "(IIZ)Z"⟩, "LaneMill"), ("LaneMill$Block", 113, ⟨"LaneMill", "withTouch", "(IIZ)I"⟩, "LaneMill"), ("LaneMill$Core", 290, ⟨"LaneMill", "exchange", "([IILLaneMill$MillThread;LLaneMill$Instruction;)V"⟩, "LaneMill"), ("LaneMill$Block", 82, ⟨"LaneMill", "isWithin", "(III)Z"⟩, "LaneMill"), ("LaneMill$Unit", 25, ⟨"LaneMill", "isWithin", "(III)Z"⟩, "LaneMill"), ("LaneMill$Replay", 129, ⟨"LaneMill", "isCell", "(I)Z"⟩, "LaneMill"), ("LaneMill$Replay", 145, ⟨"LaneMill", "exchange", "([IILLaneMill$MillThread;LLaneMill$Instruction;)V"⟩, "LaneMill"), ("LaneMill$Replay", 151, ⟨"LaneMill", "isWithin", "(III)Z"⟩, "LaneMill")]
def zLF : List (String × Nat × String × String × String × String) := [("LaneMill$Core", 133, "LaneMill$Unit", "groups", "[LLaneMill$Group;", "LaneMill")]
def zLC : List (String × String) := [("java/lang/IllegalArgumentException", "java/lang/IllegalArgumentException"), ("java/lang/IllegalStateException", "java/lang/IllegalStateException"), ("java/lang/IndexOutOfBoundsException", "java/lang/IndexOutOfBoundsException"), ("java/lang/UnsupportedOperationException", "java/lang/UnsupportedOperationException"), ("java/util/NoSuchElementException", "java/util/NoSuchElementException"), ("java/lang/ArithmeticException", "java/lang/ArithmeticException")]
def zNC : List (String × String) := [("java/lang/IllegalArgumentException", "java/lang/IndexOutOfBoundsException"), ("java/lang/IllegalStateException", "java/lang/IllegalArgumentException"), ("java/lang/IllegalStateException", "java/lang/IndexOutOfBoundsException"), ("java/lang/IllegalStateException", "java/lang/UnsupportedOperationException"), ("java/lang/UnsupportedOperationException", "java/lang/IllegalArgumentException"), ("java/lang/UnsupportedOperationException", "java/lang/IndexOutOfBoundsException"), ("java/util/NoSuchElementException", "java/lang/IndexOutOfBoundsException")]
def zAOs : List String := ["LaneMill$Unit", "LaneMill$MillThread", "LaneMill$Kernel", "LaneMill$Instruction", "LaneMill$Launch", "LaneMill$Group"]
def zDL : List MethodName := [⟨"java/lang/RuntimeException", "<init>", "()V"⟩, ⟨"java/lang/Exception", "<init>", "()V"⟩, ⟨"java/lang/Throwable", "<init>", "()V"⟩]
def zEnU (σ : Nat → Nat) (U : State) : Prop :=
  (∀ q ∈ zSRs, vk_R q.1 q.2.1 (zget "" zTXT q.2.2) (σ q.2.2) U) ∧ (∀ q ∈ zLM, va_Nw (.methodLinkNest q.1 q.2.1 q.2.2.1 q.2.2.2) U) ∧ (∀ q ∈ zLF, va_Nw (.fieldLinkNest q.1 q.2.1 q.2.2.1 q.2.2.2.1 q.2.2.2.2.1 q.2.2.2.2.2) U) ∧ (∀ q ∈ zLC, va_Nw (.castable q.1 q.2) U) ∧ (∀ q ∈ zNC, va_Nc q.1 q.2 U) ∧ (∀ q ∈ zAOs, va_AO q U)
def zEnv (σ : Nat → Nat) (A : Nat → Prop) (U : State) (H : Heap) : Prop :=
  vx_Zq Bundle.tN "UNASSIGNED_STACK" Bundle.steD A U H ∧ vx_Zq Bundle.tN "SUPPRESSED_SENTINEL" Bundle.listD A U H ∧ (∃ adV : Nat → Nat, vk_S 10 zlen zbyt σ adV A U H) ∧ (va_Z "java/lang/String" "COMPACT_STRINGS" "Z" (.int 1) A U H ∧ ∀ x ∈ zDL, va_Nw (.declares x) U) ∧ zEnU σ U
theorem zEnU.warm {σ : Nat → Nat} {s U : State} (hW : s.WarmedH U.vm) (h : zEnU σ s) : zEnU σ U :=
  ⟨fun q hq => (h.1 q hq).warm hW, fun q hq => va_Nw.warmM hW (h.2.1 q hq), fun q hq => va_Nw.warmF hW (h.2.2.1 q hq), fun q hq => va_Nw.warmC hW (h.2.2.2.1 q hq), fun q hq => (h.2.2.2.2.1 q hq).moved hW.alike, fun q hq => (h.2.2.2.2.2 q hq).moved hW.alike⟩
theorem zEnU.same {σ : Nat → Nat} {u U : State} (hv : u.vm = U.vm) (h : zEnU σ u) : zEnU σ U :=
  have hA : u.vm.Alike U.vm := by rw [hv]; exact Vm.Alike.refl U.vm
  ⟨fun q hq => (h.1 q hq).same hv.symm, fun q hq => va_Nw.same rfl hv (h.2.1 q hq), fun q hq => va_Nw.same rfl hv (h.2.2.1 q hq), fun q hq => va_Nw.same rfl hv (h.2.2.2.1 q hq), fun q hq => (h.2.2.2.2.1 q hq).moved hA, fun q hq => (h.2.2.2.2.2 q hq).moved hA⟩
theorem zEnv.pass {σ : Nat → Nat} {A B : Nat → Prop} {s U : State} {H0 H : Heap} (hW : s.WarmedH U.vm) (hkeep : ∀ a : Nat, a < H0.size → ¬ A a → H[a]? = H0[a]?) (hAB : ∀ q, B q → A q) (h : zEnv σ A s H0) : zEnv σ B U H := by
  obtain ⟨h1, h2, ⟨adV, h3⟩, ⟨h4, h6⟩, h5⟩ := h
  exact ⟨((h1.moved hW.alike).kept hkeep).narrow hAB, ((h2.moved hW.alike).kept hkeep).narrow hAB, ⟨adV, ((h3.moved hW.alike).kept hkeep).narrow hAB⟩, ⟨((h4.moved hW.alike).kept hkeep).narrow hAB, fun x hx => va_Nw.warmD hW (h6 x hx)⟩, h5.warm hW⟩
theorem zEnv.same {σ : Nat → Nat} {A : Nat → Prop} {u U : State} {H : Heap} (hv : u.vm = U.vm) (h : zEnv σ A u H) : zEnv σ A U H := by
  have hA : u.vm.Alike U.vm := by rw [hv]; exact Vm.Alike.refl U.vm
  obtain ⟨h1, h2, ⟨adV, h3⟩, ⟨h4, h6⟩, h5⟩ := h
  exact ⟨h1.moved hA, h2.moved hA, ⟨adV, h3.moved hA⟩, ⟨h4.moved hA, fun x hx => va_Nw.same rfl hv (h6 x hx)⟩, h5.same hv⟩
/-! CONTRACTS -/
def zARG (σ : Nat → Nat) (μ : Nat → Nat → Nat) (N : Nat → Nat) : List Nat → List Int → List Value → Prop
  | [], [], [] => True
  | t :: ts, x :: xs, v :: vs => zvr σ μ N t x v ∧ zARG σ μ N ts xs vs
  | _, _, _ => False
theorem zARG.app {σ : Nat → Nat} {μ : Nat → Nat → Nat} {N : Nat → Nat} : ∀ {ts1 ts2 : List Nat} {xs1 xs2 : List Int} {vs1 vs2 : List Value}, zARG σ μ N ts1 xs1 vs1 → zARG σ μ N ts2 xs2 vs2 → zARG σ μ N (ts1 ++ ts2) (xs1 ++ xs2) (vs1 ++ vs2)
  | [], _, [], _, [], _, _, h => h
  | _ :: _, _, _ :: _, _, _ :: _, _, h1, h => ⟨h1.1, zARG.app h1.2 h⟩
  | [], _, _ :: _, _, _, _, h, _ => h.elim
  | [], _, [], _, _ :: _, _, h, _ => h.elim
  | _ :: _, _, [], _, _, _, h, _ => h.elim
  | _ :: _, _, _ :: _, _, [], _, h, _ => h.elim
theorem zARG.rev {σ : Nat → Nat} {μ : Nat → Nat → Nat} {N : Nat → Nat} : ∀ {ts : List Nat} {xs : List Int} {vs : List Value}, zARG σ μ N ts xs vs → zARG σ μ N ts.reverse xs.reverse vs.reverse
  | [], [], [], _ => trivial
  | t :: ts, x :: xs, v :: vs, h => by
    rw [List.reverse_cons, List.reverse_cons, List.reverse_cons]
    exact zARG.app (zARG.rev h.2) ⟨h.1, trivial⟩
  | [], _ :: _, _, h => h.elim
  | [], [], _ :: _, h => h.elim
  | _ :: _, [], _, h => h.elim
  | _ :: _, _ :: _, [], h => h.elim
theorem zpop_sp {α : Type} {k : List Int → List zV → Option α} {y : α} : ∀ (ts : List Nat) (st : List zV) (acc : List Int), zpop ts st acc k = some y → ∃ xs st', k (xs.reverse ++ acc) st' = some y ∧ ∀ (σ : Nat → Nat) (μ : Nat → Nat → Nat) (N : Nat → Nat) (stJ : List Value), zSR σ μ N st stJ → ∃ vs rest, stJ = vs ++ rest ∧ zARG σ μ N ts xs vs ∧ zSR σ μ N st' rest
  | [], st, acc, h => ⟨[], st, h, fun σ μ N stJ hs => ⟨[], stJ, rfl, trivial, hs⟩⟩
  | t :: ts, [], acc, h => by cases h
  | t :: ts, (t', x) :: st, acc, h => by
    unfold zpop at h
    split at h
    · rename_i he
      subst he
      obtain ⟨xs, st', h1, h2⟩ := zpop_sp ts st (x :: acc) h
      refine ⟨x :: xs, st', by rw [List.reverse_cons, List.append_assoc]; exact h1, fun σ μ N stJ hs => ?_⟩
      obtain ⟨v, ws, rfl, hv, hs'⟩ := hs.cons
      obtain ⟨vs, rest, rfl, h4, h5⟩ := h2 σ μ N ws hs'
      exact ⟨v :: vs, rest, rfl, ⟨hv, h4⟩, h5⟩
    · cases h
def zScr (b L : Nat) (xs : Nat → Int32) (h : zH) (μ : Nat → Nat → Nat) : Prop := ∀ i, i < zhN h 50 → i = 0 ∧ μ 50 i = b ∧ zhL h 50 i = L ∧ ∀ j, j < L → zhD h 50 i j = (xs j).toInt
/-- the world behind a method that began with the cells μ0, N0 and has the heap h -/
def zWQ (σ : Nat → Nat) (cA : Nat → ClassId) (D : va_G) (b L : Nat) (xs : Nat → Int32) (al : Bool) (μ0 : Nat → Nat → Nat) (N0 : Nat → Nat) (A1 : Nat → Prop) (h : zH) (ws : va_W) (μ pos : Nat → Nat → Nat) (t : State) : Prop :=
  zWd σ cA h ws μ pos ∧ va_P D zcl ws t.heap ∧ va_D A1 ws ∧ (∀ c i, i < N0 c → i < zhN h c ∧ μ c i = μ0 c i) ∧ (al = false → zmok h = true) ∧ zScr b L xs h μ
def zrv (σ : Nat → Nat) (μ : Nat → Nat → Nat) (N : Nat → Nat) (rt : Nat) (v : Int) (val : Option Value) : Prop := (rt = 9 ∧ val = none) ∨ (rt ≠ 9 ∧ ∃ w, val = some w ∧ zvr σ μ N rt v w)
def zQ (σ : Nat → Nat) (cA : Nat → ClassId) (D : va_G) (b L : Nat) (xs : Nat → Int32) (al : Bool) (μ0 : Nat → Nat → Nat) (N0 : Nat → Nat) (A1 : Nat → Prop) (rt : Nat) (v : Int) (h : zH) : Array Value → State → Outcome → State → Prop := fun _ st oc t =>
  (∃ (val : Option Value) (ws : va_W) (μ pos : Nat → Nat → Nat), oc = .returned val ∧ zWQ σ cA D b L xs al μ0 N0 A1 h ws μ pos t ∧ zrv σ μ (zhN h) rt v val) ∧ va_F A1 st t
def zexc (n : Nat) : String := zget "" ["", "java/lang/IllegalArgumentException", "java/lang/IllegalStateException", "java/lang/IndexOutOfBoundsException", "java/lang/UnsupportedOperationException", "java/util/NoSuchElementException", "java/lang/ArithmeticException"] n
def zXC (σ : Nat → Nat) (cA : Nat → ClassId) (D : va_G) (b L : Nat) (xs : Nat → Int32) (al : Bool) (μ0 : Nat → Nat → Nat) (N0 : Nat → Nat) (A1 : Nat → Prop) (n : Nat) (h : zH) : String → State → State → Prop := fun E st t =>
  E = zexc n ∧ (∃ (ws : va_W) (μ pos : Nat → Nat → Nat), zWQ σ cA D b L xs al μ0 N0 A1 h ws μ pos t) ∧ va_F A1 st t
def zQr (σ : Nat → Nat) (cA : Nat → ClassId) (D : va_G) (b L : Nat) (xs : Nat → Int32) (al : Bool) (μ0 : Nat → Nat → Nat) (N0 : Nat → Nat) (A1 : Nat → Prop) (rt : Nat) (r : zRes) : Array Value → State → Outcome → State → Prop := fun a st oc t => match r with
  | .inl q => zQ σ cA D b L xs al μ0 N0 A1 rt q.1 q.2 a st oc t
  | .inr _ => False
def zXr (σ : Nat → Nat) (cA : Nat → ClassId) (D : va_G) (b L : Nat) (xs : Nat → Int32) (al : Bool) (μ0 : Nat → Nat → Nat) (N0 : Nat → Nat) (A1 : Nat → Prop) (r : zRes) : String → State → State → Prop := fun E st t => match r with
  | .inl _ => False
  | .inr q => zXC σ cA D b L xs al μ0 N0 A1 q.1 q.2 E st t
def zPre (σ : Nat → Nat) (cA : Nat → ClassId) (D : va_G) (ws : va_W) (sz : Nat) : State → Prop := fun U => U.heap.size = sz ∧ va_P D zcl ws U.heap ∧ va_K D zcl (ztys cA) U ∧ va_D (fun _ => True) ws ∧ zEnv σ (va_A ws sz) U U.heap
def zRm (fr lo mc ms : Nat) : Room := { frames := fr, cells := mc, slots := ms, locals := lo }
/-- a method that returns v with the heap h1 from h -/
def zMet (l : Launch) (al : Bool) (y : MethodName) (cw : Cond) (fr lo : Nat) (tg : List Nat) (rt : Nat) (as : List Int) (h : zH) (v : Int) (h1 : zH) : Prop :=
  ∀ (σ : Nat → Nat) (cA : Nat → ClassId) (D : va_G) (b L : Nat) (xs : Nat → Int32) (ws : va_W) (μ pos : Nat → Nat → Nat) (vs : List Value) (sz : Nat), zWd σ cA h ws μ pos → (al = false → zmok h = true) → zScr b L xs h μ → zARG σ μ (zhN h) tg as vs →
    Met l y (cw :: zT) (zRm fr lo (zhC h1 - zhC h) (zhS h1 - zhS h)) (va_Pc vs (zPre σ cA D ws sz)) (zQ σ cA D b L xs al μ (zhN h) (va_A ws sz) rt v h1) (zhC h1 - zhC h) (zhS h1 - zhS h) (va_A ws sz)
/-- .. or throws -/
def zMetX (l : Launch) (al : Bool) (y : MethodName) (cw : Cond) (fr lo : Nat) (tg : List Nat) (rt : Nat) (as : List Int) (h : zH) (r : zRes) : Prop :=
  ∀ (σ : Nat → Nat) (cA : Nat → ClassId) (D : va_G) (b L : Nat) (xs : Nat → Int32) (ws : va_W) (μ pos : Nat → Nat → Nat) (vs : List Value) (sz : Nat), zWd σ cA h ws μ pos → (al = false → zmok h = true) → zScr b L xs h μ → zARG σ μ (zhN h) tg as vs →
    vx_Met l y (cw :: zT) (zRm fr lo (zhC (zrh r) - zhC h) (zhS (zrh r) - zhS h)) (va_Pc vs (zPre σ cA D ws sz)) (zQr σ cA D b L xs al μ (zhN h) (va_A ws sz) rt r) (zXr σ cA D b L xs al μ (zhN h) (va_A ws sz) r) (zhC (zrh r) - zhC h) (zhS (zrh r) - zhS h) (va_A ws sz)
theorem zPre_blind {σ : Nat → Nat} {cA : Nat → ClassId} {D : va_G} {ws : va_W} {sz : Nat} {vs : List Value} : FrameBlind (va_Pc vs (zPre σ cA D ws sz)) := fun a U g mk h => by
  obtain ⟨h0, h1, h2, h3, h4, h5⟩ := h
  exact ⟨h0, h1, h2, va_K.moved (u := U) (U := U.calling g mk a) (Vm.Alike.refl U.vm) h3, h4, h5.same rfl⟩
