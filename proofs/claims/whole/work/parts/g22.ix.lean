/-! String.indexOf: a constant text, a character -/
def zx1 : zinfo := (⟨"java/lang/String", "indexOf", "(I)I"⟩, 5, 120, 2, 1, false, prog_28_method_79_code, (.some Jvm.ClassFile.FieldType.int), none)
theorem zx1_T : zicw zx1 ∈ zT := zw_in (wi := [9061]) (k := 0) (by decide +kernel)
def zx2 : zinfo := (⟨"java/lang/String", "indexOf", "(II)I"⟩, 3, 60, 3, 2, false, prog_28_method_80_code, (.some Jvm.ClassFile.FieldType.int), none)
theorem zx2_T : zicw zx2 ∈ zT := zw_in (wi := [9065]) (k := 0) (by decide +kernel)
def zx3 : zinfo := (⟨"java/lang/String", "isLatin1", "()Z"⟩, 0, 0, 1, 0, false, prog_28_method_154_code, (.some Jvm.ClassFile.FieldType.boolean), none)
theorem zx3_T : zicw zx3 ∈ zT := zw_in (wi := [9069]) (k := 0) (by decide +kernel)
def zx4 : zinfo := (⟨"java/lang/String", "length", "()I"⟩, 1, 20, 1, 0, false, prog_28_method_54_code, (.some Jvm.ClassFile.FieldType.int), none)
theorem zx4_T : zicw zx4 ∈ zT := zw_in (wi := [9075]) (k := 0) (by decide +kernel)
def zx5 : zinfo := (⟨"java/lang/String", "coder", "()B"⟩, 0, 0, 1, 0, false, prog_28_method_152_code, (.some Jvm.ClassFile.FieldType.byte), none)
theorem zx5_T : zicw zx5 ∈ zT := zw_in (wi := [9079]) (k := 0) (by decide +kernel)
def zx6 : zinfo := (⟨"java/lang/StringLatin1", "indexOf", "([BIII)I"⟩, 1, 30, 4, 4, false, prog_29_method_22_code, (.some Jvm.ClassFile.FieldType.int), none)
theorem zx6_T : zicw zx6 ∈ zT := zw_in (wi := [9082]) (k := 0) (by decide +kernel)
def zx7 : zinfo := (⟨"java/lang/StringLatin1", "canEncode", "(I)Z"⟩, 0, 0, 1, 1, false, prog_29_method_4_code, (.some Jvm.ClassFile.FieldType.boolean), none)
theorem zx7_T : zicw zx7 ∈ zT := zw_in (wi := [9085]) (k := 0) (by decide +kernel)
def zx8 : zinfo := (⟨"java/lang/Math", "max", "(II)I"⟩, 0, 0, 2, 2, false, prog_26_method_65_code, (.some Jvm.ClassFile.FieldType.int), none)
theorem zx8_T : zicw zx8 ∈ zT := zw_in (wi := [7192]) (k := 0) (by decide +kernel)
def zx9 : zinfo := (⟨"java/lang/Math", "min", "(II)I"⟩, 0, 0, 2, 2, false, prog_26_method_69_code, (.some Jvm.ClassFile.FieldType.int), none)
theorem zx9_T : zicw zx9 ∈ zT := zw_in (wi := [9089]) (k := 0) (by decide +kernel)
def zx10 : zinfo := (⟨"java/lang/StringLatin1", "indexOfChar", "([BIII)I"⟩, 0, 0, 6, 4, false, prog_29_method_23_code, (.some Jvm.ClassFile.FieldType.int), none)
theorem zx10_T : zicw zx10 ∈ zT := zw_in (wi := [9092]) (k := 0) (by decide +kernel)
def zxP (σ adV : Nat → Nat) : State → Prop := fun U => vk_S 10 zlen zbyt σ adV (fun _ => False) U U.heap ∧ va_Z "java/lang/String" "COMPACT_STRINGS" "Z" (.int 1) (fun _ => False) U U.heap
def zxM (l : Launch) (f : zinfo) (P : State → Prop) (as : List Value) (v : Value) : Prop :=
  Met l f.1 (zicw f :: zT) (zRm f.2.1 f.2.2.1 0 0) (va_Pc as P) (fun _ st oc t => oc = .returned (some v) ∧ t.heap = st.heap) 0 0 (fun _ => False)
theorem zx_body {l : Launch} {f : zinfo} {P : State → Prop} {as : List Value} {v : Value} (hy : plainFor f.1 = true) (hlen : (lg_sl as).length ≤ f.2.2.2.1)
    (body : ∀ p e s m below meth c (ls : Array Slot) (R : Room), R = zRm f.2.1 f.2.2.1 0 0 → c.code = f.2.2.2.2.2.2.1 → p.tables.exec = Jvm.exec → c.maxLocals = f.2.2.2.1 → s.vm.findClass f.1.cls = some m.cls → (∀ w ∈ zT, w.before as.toArray s = true) → P s → meth.sig.returnType = f.2.2.2.2.2.2.2.1 → meth.locks = false → lv_has ls f.2.2.2.1 (lv_args 0 as) →
      W p l e R s m as.toArray below meth c s.heap [] 0 0 (MQ below (fun _ st oc t => oc = .returned (some v) ∧ t.heap = st.heap) as.toArray s 0 0 (fun _ => False)) (F0 m 0 ls [])) : zxM l f P as v := by
  refine zMet_ofB (f := f) hy rfl (fun p e s m args below meth c s₁ B hml htb hP => ?_)
  obtain ⟨hargs, hP⟩ := hP
  subst hargs
  have hts : ∀ w ∈ zT, w.before as.toArray s = true := fun w hw => atoms_spec B.pre w (List.mem_cons_of_mem _ hw)
  rw [lg_entry_eq]
  exact body p e s m below meth c _ _ rfl B.bytes B.exec hml (findClass_of_methodNamed B.named) hts hP B.returns B.notSynchronized (lv_entry as hlen)
section
variable {p : Program} {l : Launch} {e : Env} {R : Room} {s : State} {m : MethodId} {args : Array Value} {below : List Frame} {meth : Method} {c : Code} {Q : State → Prop} {cc : ByteArray} {own : String} {pc nL : Nat} {ls : Array Slot} {H : Heap}
theorem zxRun {st rest : List Value} {Qa : State → Outcome → State → Prop} {v : Value} (hrun : va_Run p l e R s m args below meth c H [] 0 0 0 0 (F0 m pc ls st) rest Qa (fun _ => False))
    (hQ : ∀ st o t, Qa st o t → o = .returned (some v) ∧ t.heap = st.heap) (k : W p l e R s m args below meth c H [] 0 0 Q (F0 m (pc + 3) ls (v :: rest))) : W p l e R s m args below meth c H [] 0 0 Q (F0 m pc ls st) := by
  intro T hT X
  obtain ⟨v0, st₀, t, T', L, h0, X', hL, e1, e2, hq, st⟩ := hrun T hT X
  obtain ⟨hv, hh⟩ := hQ _ _ _ hq
  cases hv
  have hL0 : L = [] := List.eq_nil_iff_forall_not_mem.mpr (fun q hq => hL q hq)
  subst hL0
  obtain ⟨t2, a1, b1⟩ := k T' (by rw [e1, hh, h0]) X'
  exact ⟨t2, st t2 a1, b1⟩
theorem zxS {f : zinfo} {P : State → Prop} {as rest : List Value} {v : Value} {ix : Nat} (hx : p.tables.exec = Jvm.exec) (hb : c.code = cc) (hml : c.maxLocals = nL) (hown : s.vm.findClass own = some m.cls) (hts : ∀ w ∈ zT, w.before args s = true) (hsz : ls.size = nL)
    (hM : zxM l f P as v) (hn9 : f.2.2.2.2.2.2.2.2 = none) (hcb : zcb own R ix f.1 (zicw f) f.2.1 f.2.2.1 f.2.2.2.1 f.2.2.2.2.1) (hwl : Cond.methodLink own ix f.1 ∈ zT) (hwt : Cond.static f.1 ∈ zT) (hbl : FrameBlind (va_Pc as P)) (hP : ∀ U : State, U.heap = H → s.WarmedH U.vm → P U) (hnn : as.length = f.2.2.2.2.1) (hdg : decode cc pc = .ok (.invokestatic ix, 3)) (hW : (rest.map fun v => v.category).sum ≤ 8)
    (k : W p l e R s m args below meth c H [] 0 0 Q (F0 m (pc + 3) ls (v :: rest))) : W p l e R s m args below meth c H [] 0 0 Q (F0 m pc ls (as.reverse ++ rest)) := by
  have hcw := zicw_n (f := f) (by rw [hn9]; rfl)
  have hrun := va_runS (e := e) (below := below) (meth := meth) (locs := []) (cells := 0) (slots := 0) (g := F0 m pc ls (as.reverse ++ rest)) (rest := rest) ⟨hx, hb, hml, hown, hts⟩ hM ⟨⟨rfl, rfl, hcb.2.1, hcb.2.2.1, pay_in hts (zT_in hcb.1), by rw [hcw]; exact List.mem_cons_self, by have := hts _ hcb.1; rw [hcw] at this; exact this, hts _ hcb.2.2.2.1, hcb.2.2.2.2.1, zcb_n hcb.2.2.2.2.2, hts _ hwl⟩, hts _ hwt⟩ ⟨hbl, fun U hU hW => ⟨rfl, hP U hU hW⟩⟩ rfl hnn hsz rfl (lv_room hW) hdg ⟨Nat.zero_le _, Nat.zero_le _⟩
  exact zxRun hrun (fun st o t h => h) k
theorem zxV {f : zinfo} {P : State → Prop} {as rest : List Value} {v : Value} {ix a : Nat} (hx : p.tables.exec = Jvm.exec) (hb : c.code = cc) (hml : c.maxLocals = nL) (hown : s.vm.findClass own = some m.cls) (hts : ∀ w ∈ zT, w.before args s = true) (hsz : ls.size = nL)
    (hM : zxM l f P (.ref a :: as) v) (hn9 : f.2.2.2.2.2.2.2.2 = none) (hcb : zcb own R ix f.1 (zicw f) f.2.1 f.2.2.1 f.2.2.2.1 f.2.2.2.2.1) (hwl : Cond.methodLink own ix f.1 ∈ zT) (hwi : Cond.instanceMethod f.1 ∈ zT) (hws : Cond.selects "java/lang/String" f.1 f.1 ∈ zT) (hbl : FrameBlind (va_Pc (.ref a :: as) P)) (hrec : ∃ cell : Cell, H[a]? = some cell ∧ cell.vm.isStatics = false ∧ s.vm.findClass "java/lang/String" = some cell.cls) (hP : ∀ U : State, U.heap = H → s.WarmedH U.vm → P U) (hnn : as.length = f.2.2.2.2.1) (hdg : decode cc pc = .ok (.invokevirtual ix, 3)) (hW : (rest.map fun v => v.category).sum ≤ 8)
    (k : W p l e R s m args below meth c H [] 0 0 Q (F0 m (pc + 3) ls (v :: rest))) : W p l e R s m args below meth c H [] 0 0 Q (F0 m pc ls (as.reverse ++ .ref a :: rest)) := by
  have hcw := zicw_n (f := f) (by rw [hn9]; rfl)
  have hrun := va_runV (C := "java/lang/String") (e := e) (below := below) (meth := meth) (locs := []) (cells := 0) (slots := 0) (g := F0 m pc ls (as.reverse ++ .ref a :: rest)) (rest := rest) ⟨hx, hb, hml, hown, hts⟩ hM ⟨⟨rfl, rfl, hcb.2.1, hcb.2.2.1, pay_in hts (zT_in hcb.1), by rw [hcw]; exact List.mem_cons_self, by have := hts _ hcb.1; rw [hcw] at this; exact this, hts _ hcb.2.2.2.1, hcb.2.2.2.2.1, zcb_n hcb.2.2.2.2.2, hts _ hwl⟩, hts _ hwi, hts _ hws⟩ ⟨hbl, hrec, fun U hU hW => ⟨rfl, hP U hU hW⟩⟩ rfl hnn hsz rfl (lv_room hW) hdg ⟨Nat.zero_le _, Nat.zero_le _⟩
  exact zxRun hrun (fun st o t h => h) k
end
theorem zxP_bl {σ adV : Nat → Nat} {as : List Value} : FrameBlind (va_Pc as (zxP σ adV)) := fun a U g mk h =>
  ⟨h.1, vk_S.moved (u := U) (U := U.calling g mk a) (Vm.Alike.refl U.vm) h.2.1, va_Z.moved (u := U) (U := U.calling g mk a) (Vm.Alike.refl U.vm) h.2.2⟩
theorem zxP_at {σ adV : Nat → Nat} {s : State} (h : zxP σ adV s) : ∀ U : State, U.heap = s.heap → s.WarmedH U.vm → zxP σ adV U := fun U hU hW => by
  unfold zxP
  rw [hU]
  exact ⟨h.1.moved hW.alike, h.2.moved hW.alike⟩
theorem zxS0 {H : Heap} : va_S (fun _ => False) H H [] := ⟨Nat.le_refl _, fun _ _ _ => rfl, fun _ h => by cases h⟩
theorem zx8_M {l : Launch} {P : State → Prop} (x y : Int32) : zxM l zx8 P [.int x, .int y] (.int (if x < y then y else x)) := by
  refine zx_body (by decide +kernel) (Nat.le_of_ble_eq_true rfl) (fun p e s m below meth c ls R hR hb hx hml hown hts hP hret hlk hl => ?_)
  have hb : c.code = prog_26_method_65_code := hb
  have hret : meth.sig.returnType = (.some Jvm.ClassFile.FieldType.int) := hret
  have hl : lv_has ls 2 [(0, .int x), (1, .int y)] := hl
  refine lv_iload_n hx hb (by decide +kernel : decode prog_26_method_65_code 0 = .ok (.iload_n 0, 1)) rfl (lv_at hl 0 rfl) ?_
  refine lv_iload_n hx hb (by decide +kernel : decode prog_26_method_65_code 1 = .ok (.iload_n 1, 1)) rfl (lv_at hl 1 rfl) ?_
  refine lv_icmp_lt hx hb (tgt := 9) (by decide +kernel : decode prog_26_method_65_code 2 = .ok (.if_icmp .lt 7, 3)) rfl (fun q => ?_) (fun q => ?_)
  · refine lv_iload_n hx hb (by decide +kernel : decode prog_26_method_65_code 9 = .ok (.iload_n 1, 1)) rfl (lv_at hl 1 rfl) ?_
    exact W.zret hx hb hret rfl (fun t ht _ => ⟨by rw [if_pos q], ht⟩) (fun _ h => nomatch h) (by decide +kernel : decode prog_26_method_65_code 10 = .ok (.ireturn, 1)) hlk
  · refine lv_iload_n hx hb (by decide +kernel : decode prog_26_method_65_code 5 = .ok (.iload_n 0, 1)) rfl (lv_at hl 0 rfl) ?_
    refine lv_goto hx hb (tgt := 10) (by decide +kernel : decode prog_26_method_65_code 6 = .ok (.goto 4, 3)) rfl ?_
    exact W.zret hx hb hret rfl (fun t ht _ => ⟨by rw [if_neg q], ht⟩) (fun _ h => nomatch h) (by decide +kernel : decode prog_26_method_65_code 10 = .ok (.ireturn, 1)) hlk
theorem zx9_M {l : Launch} {P : State → Prop} (x y : Int32) : zxM l zx9 P [.int x, .int y] (.int (if y < x then y else x)) := by
  refine zx_body (by decide +kernel) (Nat.le_of_ble_eq_true rfl) (fun p e s m below meth c ls R hR hb hx hml hown hts hP hret hlk hl => ?_)
  have hb : c.code = prog_26_method_69_code := hb
  have hret : meth.sig.returnType = (.some Jvm.ClassFile.FieldType.int) := hret
  have hl : lv_has ls 2 [(0, .int x), (1, .int y)] := hl
  refine lv_iload_n hx hb (by decide +kernel : decode prog_26_method_69_code 0 = .ok (.iload_n 0, 1)) rfl (lv_at hl 0 rfl) ?_
  refine lv_iload_n hx hb (by decide +kernel : decode prog_26_method_69_code 1 = .ok (.iload_n 1, 1)) rfl (lv_at hl 1 rfl) ?_
  refine lv_icmp_gt hx hb (tgt := 9) (by decide +kernel : decode prog_26_method_69_code 2 = .ok (.if_icmp .gt 7, 3)) rfl (fun q => ?_) (fun q => ?_)
  · refine lv_iload_n hx hb (by decide +kernel : decode prog_26_method_69_code 9 = .ok (.iload_n 1, 1)) rfl (lv_at hl 1 rfl) ?_
    exact W.zret hx hb hret rfl (fun t ht _ => ⟨by rw [if_pos q], ht⟩) (fun _ h => nomatch h) (by decide +kernel : decode prog_26_method_69_code 10 = .ok (.ireturn, 1)) hlk
  · refine lv_iload_n hx hb (by decide +kernel : decode prog_26_method_69_code 5 = .ok (.iload_n 0, 1)) rfl (lv_at hl 0 rfl) ?_
    refine lv_goto hx hb (tgt := 10) (by decide +kernel : decode prog_26_method_69_code 6 = .ok (.goto 4, 3)) rfl ?_
    exact W.zret hx hb hret rfl (fun t ht _ => ⟨by rw [if_neg q], ht⟩) (fun _ h => nomatch h) (by decide +kernel : decode prog_26_method_69_code 10 = .ok (.ireturn, 1)) hlk
theorem zx7_M {l : Launch} {P : State → Prop} (x : Int32) : zxM l zx7 P [.int x] (.int (if x < 0 ∨ 255 < x then 0 else 1)) := by
  refine zx_body (by decide +kernel) (Nat.le_of_ble_eq_true rfl) (fun p e s m below meth c ls R hR hb hx hml hown hts hP hret hlk hl => ?_)
  have hb : c.code = prog_29_method_4_code := hb
  have hret : meth.sig.returnType = (.some Jvm.ClassFile.FieldType.boolean) := hret
  have hl : lv_has ls 1 [(0, .int x)] := hl
  refine lv_iload_n hx hb (by decide +kernel : decode prog_29_method_4_code 0 = .ok (.iload_n 0, 1)) rfl (lv_at hl 0 rfl) ?_
  refine lv_if_lt hx hb (tgt := 15) (by decide +kernel : decode prog_29_method_4_code 1 = .ok (.ifCond .lt 14, 3)) rfl (fun q => ?_) (fun q => ?_)
  · refine lv_iconst hx hb (by decide +kernel : decode prog_29_method_4_code 15 = .ok (.iconst 0, 1)) rfl ?_
    exact W.zret hx hb hret rfl (fun t ht _ => ⟨by rw [if_pos (Or.inl q)]; rfl, ht⟩) (fun _ h => nomatch h) (by decide +kernel : decode prog_29_method_4_code 16 = .ok (.ireturn, 1)) hlk
  · refine lv_iload_n hx hb (by decide +kernel : decode prog_29_method_4_code 4 = .ok (.iload_n 0, 1)) rfl (lv_at hl 0 rfl) ?_
    refine lv_sipush hx hb (v := 255) (by decide +kernel : decode prog_29_method_4_code 5 = .ok (.sipush 255, 3)) rfl ?_
    refine lv_icmp_gt hx hb (tgt := 15) (by decide +kernel : decode prog_29_method_4_code 8 = .ok (.if_icmp .gt 7, 3)) rfl (fun q2 => ?_) (fun q2 => ?_)
    · refine lv_iconst hx hb (by decide +kernel : decode prog_29_method_4_code 15 = .ok (.iconst 0, 1)) rfl ?_
      exact W.zret hx hb hret rfl (fun t ht _ => ⟨by rw [if_pos (Or.inr q2)]; rfl, ht⟩) (fun _ h => nomatch h) (by decide +kernel : decode prog_29_method_4_code 16 = .ok (.ireturn, 1)) hlk
    · refine lv_iconst hx hb (by decide +kernel : decode prog_29_method_4_code 11 = .ok (.iconst 1, 1)) rfl ?_
      refine lv_goto hx hb (tgt := 16) (by decide +kernel : decode prog_29_method_4_code 12 = .ok (.goto 4, 3)) rfl ?_
      exact W.zret hx hb hret rfl (fun t ht _ => ⟨by rw [if_neg (fun z => z.elim q q2)]; rfl, ht⟩) (fun _ h => nomatch h) (by decide +kernel : decode prog_29_method_4_code 16 = .ok (.ireturn, 1)) hlk
theorem zx3_M {l : Launch} {σ adV : Nat → Nat} {i : Nat} (hi : i < 10) : zxM l zx3 (zxP σ adV) [.ref (σ i)] (.int 1) := by
  refine zx_body (by decide +kernel) (Nat.le_of_ble_eq_true rfl) (fun p e s m below meth c ls R hR hb hx hml hown hts hP hret hlk hl => ?_)
  have hb : c.code = prog_28_method_154_code := hb
  have hret : meth.sig.returnType = (.some Jvm.ClassFile.FieldType.boolean) := hret
  have hl : lv_has ls 1 [(0, .ref (σ i))] := hl
  refine va_gets hx hb (C := "java/lang/String") (n := "COMPACT_STRINGS") (d := "Z") (own := "java/lang/String") (ref := "java/lang/String") hP.2 zxS0 hown (hts _ (zw_in (wi := [9070]) (k := 0) (by decide +kernel))) (fun _ h => h) (by decide +kernel : decode prog_28_method_154_code 0 = .ok (.getstatic 38, 3)) ?_
  refine lv_if_eq hx hb (tgt := 17) (by decide +kernel : decode prog_28_method_154_code 3 = .ok (.ifCond .eq 14, 3)) rfl (fun q => ?_) (fun q => ?_)
  · exact absurd q (by decide)
  · refine lv_aload_n hx hb (by decide +kernel : decode prog_28_method_154_code 6 = .ok (.aload_n 0, 1)) rfl (lv_at hl 0 rfl) ?_
    refine vk_getf hx hb (o := "java/lang/String") (n := "coder") (d := "B") (own := "java/lang/String") (ref := "java/lang/String") (hP.1.1 i hi).2.1 zxS0 hown (hts _ (zw_in (wi := [16049]) (k := 0) (by decide +kernel))) (fun _ h => h) (by decide +kernel : decode prog_28_method_154_code 7 = .ok (.getfield 15, 3)) ?_
    refine lv_if_ne hx hb (tgt := 17) (by decide +kernel : decode prog_28_method_154_code 10 = .ok (.ifCond .ne 7, 3)) rfl (fun q2 => ?_) (fun q2 => ?_)
    · exact absurd rfl q2
    · refine lv_iconst hx hb (by decide +kernel : decode prog_28_method_154_code 13 = .ok (.iconst 1, 1)) rfl ?_
      refine lv_goto hx hb (tgt := 18) (by decide +kernel : decode prog_28_method_154_code 14 = .ok (.goto 4, 3)) rfl ?_
      exact W.zret hx hb hret rfl (fun t ht _ => ⟨rfl, ht⟩) (fun _ h => nomatch h) (by decide +kernel : decode prog_28_method_154_code 18 = .ok (.ireturn, 1)) hlk
theorem zx5_M {l : Launch} {σ adV : Nat → Nat} {i : Nat} (hi : i < 10) : zxM l zx5 (zxP σ adV) [.ref (σ i)] (.int 0) := by
  refine zx_body (by decide +kernel) (Nat.le_of_ble_eq_true rfl) (fun p e s m below meth c ls R hR hb hx hml hown hts hP hret hlk hl => ?_)
  have hb : c.code = prog_28_method_152_code := hb
  have hret : meth.sig.returnType = (.some Jvm.ClassFile.FieldType.byte) := hret
  have hl : lv_has ls 1 [(0, .ref (σ i))] := hl
  refine va_gets hx hb (C := "java/lang/String") (n := "COMPACT_STRINGS") (d := "Z") (own := "java/lang/String") (ref := "java/lang/String") hP.2 zxS0 hown (hts _ (zw_in (wi := [9070]) (k := 0) (by decide +kernel))) (fun _ h => h) (by decide +kernel : decode prog_28_method_152_code 0 = .ok (.getstatic 38, 3)) ?_
  refine lv_if_eq hx hb (tgt := 13) (by decide +kernel : decode prog_28_method_152_code 3 = .ok (.ifCond .eq 10, 3)) rfl (fun q => ?_) (fun q => ?_)
  · exact absurd q (by decide)
  · refine lv_aload_n hx hb (by decide +kernel : decode prog_28_method_152_code 6 = .ok (.aload_n 0, 1)) rfl (lv_at hl 0 rfl) ?_
    refine vk_getf hx hb (o := "java/lang/String") (n := "coder") (d := "B") (own := "java/lang/String") (ref := "java/lang/String") (hP.1.1 i hi).2.1 zxS0 hown (hts _ (zw_in (wi := [16049]) (k := 0) (by decide +kernel))) (fun _ h => h) (by decide +kernel : decode prog_28_method_152_code 7 = .ok (.getfield 15, 3)) ?_
    refine lv_goto hx hb (tgt := 14) (by decide +kernel : decode prog_28_method_152_code 10 = .ok (.goto 4, 3)) rfl ?_
    exact W.zret hx hb hret rfl (fun t ht _ => ⟨rfl, ht⟩) (fun _ h => nomatch h) (by decide +kernel : decode prog_28_method_152_code 14 = .ok (.ireturn, 1)) hlk
def zxlen (i : Nat) : Nat := zlen.getD i 0
def zxb (i : Nat) : List Int32 := zbyt.getD i []
theorem zx_all : ∀ i, i < 10 → (zxlen i = (zxb i).length ∧ zxlen i < 1000 ∧ (∀ b ∈ zxb i, 0 ≤ b ∧ b < 128) ∧ (zxb i).map Int32.toInt = zget [] zstrs i) := by decide +kernel
theorem zx4_M {l : Launch} {σ adV : Nat → Nat} {i : Nat} (hi : i < 10) : zxM l zx4 (zxP σ adV) [.ref (σ i)] (.int (nI (zxlen i))) := by
  refine zx_body (by decide +kernel) (Nat.le_of_ble_eq_true rfl) (fun p e s m below meth c ls R hR hb hx hml hown hts hP hret hlk hl => ?_)
  have hb : c.code = prog_28_method_54_code := hb
  have hret : meth.sig.returnType = (.some Jvm.ClassFile.FieldType.int) := hret
  have hl : lv_has ls 1 [(0, .ref (σ i))] := hl
  refine lv_aload_n hx hb (by decide +kernel : decode prog_28_method_54_code 0 = .ok (.aload_n 0, 1)) rfl (lv_at hl 0 rfl) ?_
  refine vk_getf hx hb (o := "java/lang/String") (n := "value") (d := "[B") (own := "java/lang/String") (ref := "java/lang/String") (hP.1.1 i hi).2.2.1 zxS0 hown (hts _ (zw_in (wi := [16050]) (k := 0) (by decide +kernel))) (fun _ h => h) (by decide +kernel : decode prog_28_method_54_code 1 = .ok (.getfield 9, 3)) ?_
  refine va_tlen hx hb (hP.1.1 i hi).2.2.2 zxS0 (v := nI (zxlen i)) rfl (by decide +kernel : decode prog_28_method_54_code 4 = .ok (.arraylength, 1)) ?_
  refine lv_aload_n hx hb (by decide +kernel : decode prog_28_method_54_code 5 = .ok (.aload_n 0, 1)) rfl (lv_at hl 0 rfl) ?_
  refine zxV (f := zx5) (as := []) (rest := [.int (nI (zxlen i))]) (ix := 335) hx hb hml hown hts hl.1 (zx5_M hi) rfl ⟨zx5_T, by rw [hR]; decide, by rw [hR]; decide, (zw_in (wi := [7018]) (k := 0) (by decide +kernel)), by decide, by decide +kernel⟩ (zw_in (wi := [9076]) (k := 0) (by decide +kernel)) (zw_in (wi := [9077]) (k := 0) (by decide +kernel)) (zw_in (wi := [9078]) (k := 0) (by decide +kernel)) zxP_bl (vk_recv hP.1 hi zxS0) (zxP_at hP) rfl (by decide +kernel : decode prog_28_method_54_code 6 = .ok (.invokevirtual 335, 3)) (Nat.le_of_ble_eq_true rfl) ?_
  refine lv_ishr hx hb (by decide +kernel : decode prog_28_method_54_code 9 = .ok (.ishr, 1)) ?_
  have e9 : nI (zxlen i) >>> ((0 : Int32) &&& 31) = nI (zxlen i) := by rw [show (0 : Int32) &&& 31 = 0 from rfl]; exact Int32.shiftRight_zero
  rw [e9]
  exact W.zret hx hb hret rfl (fun t ht _ => ⟨rfl, ht⟩) (fun _ h => nomatch h) (by decide +kernel : decode prog_28_method_54_code 10 = .ok (.ireturn, 1)) hlk
def zxF (c : Int32) : List Int32 → Nat → Int32
  | [], _ => -1
  | b :: l, k => if b = c then nI k else zxF c l (k + 1)
theorem zx10_L {p : Program} {l : Launch} {e : Env} {R : Room} {s : State} {m : MethodId} {args : Array Value} {below : List Frame} {meth : Method} {c : Code} {σ adV : Nat → Nat} {i : Nat} (hi : i < 10) {cb ch : Int32} {v : Value} (hb : c.code = prog_29_method_23_code) (hx : p.tables.exec = Jvm.exec) (hP : zxP σ adV s) (hret : meth.sig.returnType = (.some Jvm.ClassFile.FieldType.int)) (hlk : meth.locks = false) :
    ∀ (xs : List Int32) (k : Nat), k ≤ zxlen i → (zxb i).drop k = xs → v = .int (zxF cb xs k) → ∀ ls : Array Slot, lv_has ls 6 [(5, .int (nI k)), (4, .int cb), (0, .ref (adV i)), (1, .int ch), (2, .int 0), (3, .int (nI (zxlen i)))] →
      W p l e R s m args below meth c s.heap [] 0 0 (MQ below (fun _ st oc t => oc = .returned (some v) ∧ t.heap = st.heap) args s 0 0 (fun _ => False)) (F0 m 7 ls [])
  | [], k, hk, hd, hv, ls, hl => by
    obtain ⟨a1, a2, a3, a4⟩ := zx_all i hi
    have hkl : zxlen i ≤ k := by rw [a1]; exact List.drop_eq_nil_iff.mp hd
    have hke : k = zxlen i := Nat.le_antisymm hk hkl
    refine lv_iload hx hb (by decide +kernel : decode prog_29_method_23_code 7 = .ok (.iload 5, 2)) (lv_at hl 0 rfl) ?_
    refine lv_iload_n hx hb (by decide +kernel : decode prog_29_method_23_code 9 = .ok (.iload_n 3, 1)) rfl (lv_at hl 5 rfl) ?_
    refine lv_icmp_ge hx hb (tgt := 31) (by decide +kernel : decode prog_29_method_23_code 10 = .ok (.if_icmp .ge 21, 3)) rfl (fun q => ?_) (fun q => ?_)
    · refine lv_iconst hx hb (by decide +kernel : decode prog_29_method_23_code 31 = .ok (.iconst (-1), 1)) rfl ?_
      exact W.zret hx hb hret rfl (fun t ht _ => ⟨by rw [hv]; rfl, ht⟩) (fun _ h => nomatch h) (by decide +kernel : decode prog_29_method_23_code 32 = .ok (.ireturn, 1)) hlk
    · exact absurd (nI_le hkl (by omega)) q
  | b :: xs, k, hk, hd, hv, ls, hl => by
    obtain ⟨a1, a2, a3, a4⟩ := zx_all i hi
    have hkl : k < zxlen i := by rw [a1]; exact Nat.lt_of_not_le (fun z => by rw [List.drop_eq_nil_iff.mpr z] at hd; cases hd)
    have a5 : zlen.getD i 0 < 2 ^ 31 := Nat.lt_trans a2 (by decide)
    have hge : (zxb i)[k]? = some b := by have := congrArg (fun z => z[0]?) hd; rw [List.getElem?_drop] at this; exact this
    have hd1 : (zxb i).drop (k + 1) = xs := by have := congrArg (List.drop 1) hd; rw [List.drop_drop] at this; exact this
    refine lv_iload hx hb (by decide +kernel : decode prog_29_method_23_code 7 = .ok (.iload 5, 2)) (lv_at hl 0 rfl) ?_
    refine lv_iload_n hx hb (by decide +kernel : decode prog_29_method_23_code 9 = .ok (.iload_n 3, 1)) rfl (lv_at hl 5 rfl) ?_
    refine lv_icmp_ge hx hb (tgt := 31) (by decide +kernel : decode prog_29_method_23_code 10 = .ok (.if_icmp .ge 21, 3)) rfl (fun q => ?_) (fun q => ?_)
    · exact absurd q (nI_ge hkl (by omega))
    · refine lv_aload_n hx hb (by decide +kernel : decode prog_29_method_23_code 13 = .ok (.aload_n 0, 1)) rfl (lv_at hl 2 rfl) ?_
      refine lv_iload hx hb (by decide +kernel : decode prog_29_method_23_code 14 = .ok (.iload 5, 2)) (lv_at hl 0 rfl) ?_
      refine va_tb hx hb (hP.1.1 i hi).2.2.2 zxS0 (nI_in hkl a5) (v := .int b) (by rw [nI_clamp (by omega)]; show Value.int ((zxb i).getD k 0) = _; rw [List.getD_eq_getElem?_getD, hge]; rfl) (by decide +kernel : decode prog_29_method_23_code 16 = .ok (.baload, 1)) ?_
      refine lv_iload hx hb (by decide +kernel : decode prog_29_method_23_code 17 = .ok (.iload 4, 2)) (lv_at hl 1 rfl) ?_
      refine lv_icmp_ne hx hb (tgt := 25) (by decide +kernel : decode prog_29_method_23_code 19 = .ok (.if_icmp .ne 6, 3)) rfl (fun q2 => ?_) (fun q2 => ?_)
      · refine lv_iinc hx hb (n := 1) (v := nI (k + 1)) (by decide +kernel : decode prog_29_method_23_code 25 = .ok (.iinc 5 1, 3)) hl (k := 0) rfl (nI_1 k) (by decide) rfl (fun ls1 hl1 => ?_)
        refine lv_goto hx hb (tgt := 7) (by decide +kernel : decode prog_29_method_23_code 28 = .ok (.goto (-21), 3)) rfl ?_
        exact zx10_L hi hb hx hP hret hlk xs (k + 1) hkl hd1 (by rw [hv]; show Value.int (if b = cb then _ else _) = _; rw [if_neg q2]) ls1 hl1
      · refine lv_iload hx hb (by decide +kernel : decode prog_29_method_23_code 22 = .ok (.iload 5, 2)) (lv_at hl 0 rfl) ?_
        exact W.zret hx hb hret rfl (fun t ht _ => ⟨by rw [hv]; unfold zxF; rw [if_pos q2], ht⟩) (fun _ h => nomatch h) (by decide +kernel : decode prog_29_method_23_code 24 = .ok (.ireturn, 1)) hlk
theorem zx10_M {l : Launch} {σ adV : Nat → Nat} {i : Nat} (hi : i < 10) (ch : Int32) : zxM l zx10 (zxP σ adV) [.ref (adV i), .int ch, .int 0, .int (nI (zxlen i))] (.int (zxF ch.toInt8.toInt32 (zxb i) 0)) := by
  refine zx_body (by decide +kernel) (Nat.le_of_ble_eq_true rfl) (fun p e s m below meth c ls R hR hb hx hml hown hts hP hret hlk hl => ?_)
  have hb : c.code = prog_29_method_23_code := hb
  have hret : meth.sig.returnType = (.some Jvm.ClassFile.FieldType.int) := hret
  have hl : lv_has ls 6 [(0, .ref (adV i)), (1, .int ch), (2, .int 0), (3, .int (nI (zxlen i)))] := hl
  refine lv_iload_n hx hb (by decide +kernel : decode prog_29_method_23_code 0 = .ok (.iload_n 1, 1)) rfl (lv_at hl 1 rfl) ?_
  refine lv_i2b hx hb (by decide +kernel : decode prog_29_method_23_code 1 = .ok (.i2b, 1)) rfl ?_
  refine lv_istore hx hb (by decide +kernel : decode prog_29_method_23_code 2 = .ok (.istore 4, 2)) hl (by decide) rfl (fun ls1 hl => ?_)
  refine lv_iload_n hx hb (by decide +kernel : decode prog_29_method_23_code 4 = .ok (.iload_n 2, 1)) rfl (lv_at hl 3 rfl) ?_
  refine lv_istore hx hb (by decide +kernel : decode prog_29_method_23_code 5 = .ok (.istore 5, 2)) hl (by decide) rfl (fun ls2 hl => ?_)
  exact zx10_L hi hb hx hP hret hlk (zxb i) 0 (Nat.zero_le _) rfl rfl ls2 hl
theorem zx6_M {l : Launch} {σ adV : Nat → Nat} {i : Nat} (hi : i < 10) (ch : Int32) : zxM l zx6 (zxP σ adV) [.ref (adV i), .int ch, .int 0, .int (nI (zxlen i))] (.int (if ch < 0 ∨ 255 < ch then -1 else zxF ch.toInt8.toInt32 (zxb i) 0)) := by
  refine zx_body (by decide +kernel) (Nat.le_of_ble_eq_true rfl) (fun p e s m below meth c ls R hR hb hx hml hown hts hP hret hlk hl => ?_)
  have hb : c.code = prog_29_method_22_code := hb
  have hret : meth.sig.returnType = (.some Jvm.ClassFile.FieldType.int) := hret
  have hl : lv_has ls 4 [(0, .ref (adV i)), (1, .int ch), (2, .int 0), (3, .int (nI (zxlen i)))] := hl
  obtain ⟨a1, a2, a3, a4⟩ := zx_all i hi
  refine lv_iload_n hx hb (by decide +kernel : decode prog_29_method_22_code 0 = .ok (.iload_n 1, 1)) rfl (lv_at hl 1 rfl) ?_
  refine zxS (f := zx7) (as := [.int ch]) (rest := []) (ix := 88) hx hb hml hown hts hl.1 (zx7_M ch) rfl ⟨zx7_T, by rw [hR]; decide, by rw [hR]; decide, (zw_in (wi := [7020]) (k := 0) (by decide +kernel)), by decide, by decide +kernel⟩ (zw_in (wi := [9083]) (k := 0) (by decide +kernel)) (zw_in (wi := [9084]) (k := 0) (by decide +kernel)) zxP_bl (zxP_at hP) rfl (by decide +kernel : decode prog_29_method_22_code 1 = .ok (.invokestatic 88, 3)) (Nat.le_of_ble_eq_true rfl) ?_
  refine lv_if_ne hx hb (tgt := 9) (by decide +kernel : decode prog_29_method_22_code 4 = .ok (.ifCond .ne 5, 3)) rfl (fun q => ?_) (fun q => ?_)
  · have q1 : ¬ (ch < 0 ∨ 255 < ch) := fun z => q (if_pos z)
    refine lv_iload_n hx hb (by decide +kernel : decode prog_29_method_22_code 9 = .ok (.iload_n 2, 1)) rfl (lv_at hl 2 rfl) ?_
    refine lv_iconst hx hb (by decide +kernel : decode prog_29_method_22_code 10 = .ok (.iconst 0, 1)) rfl ?_
    refine zxS (f := zx8) (as := [.int 0, .int 0]) (rest := []) (ix := 92) hx hb hml hown hts hl.1 (zx8_M 0 0) rfl ⟨zx8_T, by rw [hR]; decide, by rw [hR]; decide, (zw_in (wi := [7008]) (k := 0) (by decide +kernel)), by decide, by decide +kernel⟩ (zw_in (wi := [9086]) (k := 0) (by decide +kernel)) (zw_in (wi := [7191]) (k := 0) (by decide +kernel)) zxP_bl (zxP_at hP) rfl (by decide +kernel : decode prog_29_method_22_code 11 = .ok (.invokestatic 92, 3)) (Nat.le_of_ble_eq_true rfl) ?_
    refine lv_istore_n hx hb (by decide +kernel : decode prog_29_method_22_code 14 = .ok (.istore_n 2, 1)) rfl hl (by decide) rfl (fun ls1 hl => ?_)
    refine lv_iload_n hx hb (by decide +kernel : decode prog_29_method_22_code 15 = .ok (.iload_n 3, 1)) rfl (lv_at hl 3 rfl) ?_
    refine lv_aload_n hx hb (by decide +kernel : decode prog_29_method_22_code 16 = .ok (.aload_n 0, 1)) rfl (lv_at hl 1 rfl) ?_
    refine va_tlen hx hb (hP.1.1 i hi).2.2.2 zxS0 (v := nI (zxlen i)) rfl (by decide +kernel : decode prog_29_method_22_code 17 = .ok (.arraylength, 1)) ?_
    refine zxS (f := zx9) (as := [.int (nI (zxlen i)), .int (nI (zxlen i))]) (rest := []) (ix := 38) hx hb hml hown hts hl.1 (zx9_M _ _) rfl ⟨zx9_T, by rw [hR]; decide, by rw [hR]; decide, (zw_in (wi := [7008]) (k := 0) (by decide +kernel)), by decide, by decide +kernel⟩ (zw_in (wi := [9087]) (k := 0) (by decide +kernel)) (zw_in (wi := [9088]) (k := 0) (by decide +kernel)) zxP_bl (zxP_at hP) rfl (by decide +kernel : decode prog_29_method_22_code 18 = .ok (.invokestatic 38, 3)) (Nat.le_of_ble_eq_true rfl) ?_
    rw [ite_self]
    refine lv_istore_n hx hb (by decide +kernel : decode prog_29_method_22_code 21 = .ok (.istore_n 3, 1)) rfl hl (by decide) rfl (fun ls2 hl => ?_)
    refine lv_iload_n hx hb (by decide +kernel : decode prog_29_method_22_code 22 = .ok (.iload_n 2, 1)) rfl (lv_at hl 1 rfl) ?_
    refine lv_iload_n hx hb (by decide +kernel : decode prog_29_method_22_code 23 = .ok (.iload_n 3, 1)) rfl (lv_at hl 0 rfl) ?_
    refine lv_icmp_lt hx hb (tgt := 29) (by decide +kernel : decode prog_29_method_22_code 24 = .ok (.if_icmp .lt 5, 3)) rfl (fun q2 => ?_) (fun q2 => ?_)
    · refine lv_aload_n hx hb (by decide +kernel : decode prog_29_method_22_code 29 = .ok (.aload_n 0, 1)) rfl (lv_at hl 2 rfl) ?_
      refine lv_iload_n hx hb (by decide +kernel : decode prog_29_method_22_code 30 = .ok (.iload_n 1, 1)) rfl (lv_at hl 3 rfl) ?_
      refine lv_iload_n hx hb (by decide +kernel : decode prog_29_method_22_code 31 = .ok (.iload_n 2, 1)) rfl (lv_at hl 1 rfl) ?_
      refine lv_iload_n hx hb (by decide +kernel : decode prog_29_method_22_code 32 = .ok (.iload_n 3, 1)) rfl (lv_at hl 0 rfl) ?_
      refine zxS (f := zx10) (as := [.ref (adV i), .int ch, .int 0, .int (nI (zxlen i))]) (rest := []) (ix := 95) hx hb hml hown hts hl.1 (zx10_M hi ch) rfl ⟨zx10_T, by rw [hR]; decide, by rw [hR]; decide, (zw_in (wi := [7020]) (k := 0) (by decide +kernel)), by decide, by decide +kernel⟩ (zw_in (wi := [9090]) (k := 0) (by decide +kernel)) (zw_in (wi := [9091]) (k := 0) (by decide +kernel)) zxP_bl (zxP_at hP) rfl (by decide +kernel : decode prog_29_method_22_code 33 = .ok (.invokestatic 95, 3)) (Nat.le_of_ble_eq_true rfl) ?_
      exact W.zret hx hb hret rfl (fun t ht _ => ⟨by rw [if_neg q1], ht⟩) (fun _ h => nomatch h) (by decide +kernel : decode prog_29_method_22_code 36 = .ok (.ireturn, 1)) hlk
    · have h0 : zxb i = [] := by
        rcases Nat.eq_zero_or_pos (zxlen i) with z | z
        · exact List.length_eq_zero_iff.mp (a1 ▸ z)
        · exact absurd (nI_lt z (by omega)) q2
      refine lv_iconst hx hb (by decide +kernel : decode prog_29_method_22_code 27 = .ok (.iconst (-1), 1)) rfl ?_
      exact W.zret hx hb hret rfl (fun t ht _ => ⟨by rw [if_neg q1, h0]; rfl, ht⟩) (fun _ h => nomatch h) (by decide +kernel : decode prog_29_method_22_code 28 = .ok (.ireturn, 1)) hlk
  · have q1 : ch < 0 ∨ 255 < ch := Classical.byContradiction (fun z => by rw [if_neg z] at q; exact absurd q (by decide))
    refine lv_iconst hx hb (by decide +kernel : decode prog_29_method_22_code 7 = .ok (.iconst (-1), 1)) rfl ?_
    exact W.zret hx hb hret rfl (fun t ht _ => ⟨by rw [if_pos q1]; rfl, ht⟩) (fun _ h => nomatch h) (by decide +kernel : decode prog_29_method_22_code 8 = .ok (.ireturn, 1)) hlk
theorem zx2_M {l : Launch} {σ adV : Nat → Nat} {i : Nat} (hi : i < 10) (ch : Int32) : zxM l zx2 (zxP σ adV) [.ref (σ i), .int ch, .int 0] (.int (if ch < 0 ∨ 255 < ch then -1 else zxF ch.toInt8.toInt32 (zxb i) 0)) := by
  refine zx_body (by decide +kernel) (Nat.le_of_ble_eq_true rfl) (fun p e s m below meth c ls R hR hb hx hml hown hts hP hret hlk hl => ?_)
  have hb : c.code = prog_28_method_80_code := hb
  have hret : meth.sig.returnType = (.some Jvm.ClassFile.FieldType.int) := hret
  have hl : lv_has ls 3 [(0, .ref (σ i)), (1, .int ch), (2, .int 0)] := hl
  refine lv_aload_n hx hb (by decide +kernel : decode prog_28_method_80_code 0 = .ok (.aload_n 0, 1)) rfl (lv_at hl 0 rfl) ?_
  refine zxV (f := zx3) (as := []) (rest := []) (ix := 492) hx hb hml hown hts hl.1 (zx3_M hi) rfl ⟨zx3_T, by rw [hR]; decide, by rw [hR]; decide, (zw_in (wi := [7018]) (k := 0) (by decide +kernel)), by decide, by decide +kernel⟩ (zw_in (wi := [9066]) (k := 0) (by decide +kernel)) (zw_in (wi := [9067]) (k := 0) (by decide +kernel)) (zw_in (wi := [9068]) (k := 0) (by decide +kernel)) zxP_bl (vk_recv hP.1 hi zxS0) (zxP_at hP) rfl (by decide +kernel : decode prog_28_method_80_code 1 = .ok (.invokevirtual 492, 3)) (Nat.le_of_ble_eq_true rfl) ?_
  refine lv_if_eq hx hb (tgt := 23) (by decide +kernel : decode prog_28_method_80_code 4 = .ok (.ifCond .eq 19, 3)) rfl (fun q => ?_) (fun q => ?_)
  · exact absurd q (by decide)
  · refine lv_aload_n hx hb (by decide +kernel : decode prog_28_method_80_code 7 = .ok (.aload_n 0, 1)) rfl (lv_at hl 0 rfl) ?_
    refine vk_getf hx hb (o := "java/lang/String") (n := "value") (d := "[B") (own := "java/lang/String") (ref := "java/lang/String") (hP.1.1 i hi).2.2.1 zxS0 hown (hts _ (zw_in (wi := [16050]) (k := 0) (by decide +kernel))) (fun _ h => h) (by decide +kernel : decode prog_28_method_80_code 8 = .ok (.getfield 9, 3)) ?_
    refine lv_iload_n hx hb (by decide +kernel : decode prog_28_method_80_code 11 = .ok (.iload_n 1, 1)) rfl (lv_at hl 1 rfl) ?_
    refine lv_iload_n hx hb (by decide +kernel : decode prog_28_method_80_code 12 = .ok (.iload_n 2, 1)) rfl (lv_at hl 2 rfl) ?_
    refine lv_aload_n hx hb (by decide +kernel : decode prog_28_method_80_code 13 = .ok (.aload_n 0, 1)) rfl (lv_at hl 0 rfl) ?_
    refine zxV (f := zx4) (as := []) (rest := [.int 0, .int ch, .ref (adV i)]) (ix := 505) hx hb hml hown hts hl.1 (zx4_M hi) rfl ⟨zx4_T, by rw [hR]; decide, by rw [hR]; decide, (zw_in (wi := [7018]) (k := 0) (by decide +kernel)), by decide, by decide +kernel⟩ (zw_in (wi := [9072]) (k := 0) (by decide +kernel)) (zw_in (wi := [9073]) (k := 0) (by decide +kernel)) (zw_in (wi := [9074]) (k := 0) (by decide +kernel)) zxP_bl (vk_recv hP.1 hi zxS0) (zxP_at hP) rfl (by decide +kernel : decode prog_28_method_80_code 14 = .ok (.invokevirtual 505, 3)) (Nat.le_of_ble_eq_true rfl) ?_
    refine zxS (f := zx6) (as := [.ref (adV i), .int ch, .int 0, .int (nI (zxlen i))]) (rest := []) (ix := 637) hx hb hml hown hts hl.1 (zx6_M hi ch) rfl ⟨zx6_T, by rw [hR]; decide, by rw [hR]; decide, (zw_in (wi := [7020]) (k := 0) (by decide +kernel)), by decide, by decide +kernel⟩ (zw_in (wi := [9080]) (k := 0) (by decide +kernel)) (zw_in (wi := [9081]) (k := 0) (by decide +kernel)) zxP_bl (zxP_at hP) rfl (by decide +kernel : decode prog_28_method_80_code 17 = .ok (.invokestatic 637, 3)) (Nat.le_of_ble_eq_true rfl) ?_
    refine lv_goto hx hb (tgt := 36) (by decide +kernel : decode prog_28_method_80_code 20 = .ok (.goto 16, 3)) rfl ?_
    exact W.zret hx hb hret rfl (fun t ht _ => ⟨rfl, ht⟩) (fun _ h => nomatch h) (by decide +kernel : decode prog_28_method_80_code 36 = .ok (.ireturn, 1)) hlk
theorem zx1_M {l : Launch} {σ adV : Nat → Nat} {i : Nat} (hi : i < 10) (ch : Int32) : zxM l zx1 (zxP σ adV) [.ref (σ i), .int ch] (.int (if ch < 0 ∨ 255 < ch then -1 else zxF ch.toInt8.toInt32 (zxb i) 0)) := by
  refine zx_body (by decide +kernel) (Nat.le_of_ble_eq_true rfl) (fun p e s m below meth c ls R hR hb hx hml hown hts hP hret hlk hl => ?_)
  have hb : c.code = prog_28_method_79_code := hb
  have hret : meth.sig.returnType = (.some Jvm.ClassFile.FieldType.int) := hret
  have hl : lv_has ls 2 [(0, .ref (σ i)), (1, .int ch)] := hl
  refine lv_aload_n hx hb (by decide +kernel : decode prog_28_method_79_code 0 = .ok (.aload_n 0, 1)) rfl (lv_at hl 0 rfl) ?_
  refine lv_iload_n hx hb (by decide +kernel : decode prog_28_method_79_code 1 = .ok (.iload_n 1, 1)) rfl (lv_at hl 1 rfl) ?_
  refine lv_iconst hx hb (by decide +kernel : decode prog_28_method_79_code 2 = .ok (.iconst 0, 1)) rfl ?_
  refine zxV (f := zx2) (as := [.int ch, .int 0]) (rest := []) (ix := 633) hx hb hml hown hts hl.1 (zx2_M hi ch) rfl ⟨zx2_T, by rw [hR]; decide, by rw [hR]; decide, (zw_in (wi := [7018]) (k := 0) (by decide +kernel)), by decide, by decide +kernel⟩ (zw_in (wi := [9062]) (k := 0) (by decide +kernel)) (zw_in (wi := [9063]) (k := 0) (by decide +kernel)) (zw_in (wi := [9064]) (k := 0) (by decide +kernel)) zxP_bl (vk_recv hP.1 hi zxS0) (zxP_at hP) rfl (by decide +kernel : decode prog_28_method_79_code 3 = .ok (.invokevirtual 633, 3)) (Nat.le_of_ble_eq_true rfl) ?_
  exact W.zret hx hb hret rfl (fun t ht _ => ⟨rfl, ht⟩) (fun _ h => nomatch h) (by decide +kernel : decode prog_28_method_79_code 6 = .ok (.ireturn, 1)) hlk
theorem zx1_w : zat 9061 = some (zicw zx1) := by decide +kernel
theorem zx1_eq : zixi = zx1 := by
  unfold zixi zinf
  rw [zx1_w]
  rfl
theorem zxF_find {c : Int32} {x : Int} (hcx : ∀ b : Int32, 0 ≤ b → b < 128 → (b = c ↔ b.toInt = x)) : ∀ (l : List Int32) (k : Nat), k + l.length < 2 ^ 31 → (∀ b ∈ l, 0 ≤ b ∧ b < 128) → (zxF c l k).toInt = zfind (l.map Int32.toInt) x (k : Int)
  | [], k, _, _ => rfl
  | b :: l, k, hk, hb => by
    have h1 := hb b List.mem_cons_self
    have hk2 : k + (l.length + 1) < 2 ^ 31 := hk
    have h2 := hcx b h1.1 h1.2
    unfold zxF
    show _ = if b.toInt = x then (k : Int) else zfind (l.map Int32.toInt) x ((k : Int) + 1)
    by_cases hq : b = c
    · rw [if_pos hq, if_pos (h2.mp hq)]
      exact nI_toInt (by omega)
    · rw [if_neg hq, if_neg (fun z => hq (h2.mpr z))]
      exact zxF_find hcx l (k + 1) (by omega) (fun b hb9 => hb b (List.mem_cons_of_mem _ hb9))
theorem zx_res {i : Nat} (hi : i < 10) (ch : Int32) : (if ch < 0 ∨ 255 < ch then (-1 : Int32) else zxF ch.toInt8.toInt32 (zxb i) 0).toInt = zfind (zget [] zstrs i) ch.toInt 0 := by
  obtain ⟨a1, a2, a3, a4⟩ := zx_all i hi
  rw [← a4]
  by_cases hq : ch < 0 ∨ 255 < ch
  · rw [if_pos hq]
    symm
    refine zfind_no _ _ (fun b hb => ?_)
    obtain ⟨b0, hb0, rfl⟩ := List.mem_map.mp hb
    have h1 := a3 b0 hb0
    have g1 := Int32.le_iff_toInt_le.mp h1.1
    have g2 := Int32.lt_iff_toInt_lt.mp h1.2
    have e0 : (0 : Int32).toInt = 0 := by decide
    have e1 : (128 : Int32).toInt = 128 := by decide
    have e2 : (255 : Int32).toInt = 255 := by decide
    rcases hq with hq | hq
    · have g3 := Int32.lt_iff_toInt_lt.mp hq
      omega
    · have g3 := Int32.lt_iff_toInt_lt.mp hq
      omega
  · rw [if_neg hq]
    refine zxF_find (fun b hb0 hb1 => ?_) _ 0 (by omega) a3
    have hn0 : ¬ ch < 0 := fun z => hq (Or.inl z)
    have hn1 : ¬ 255 < ch := fun z => hq (Or.inr z)
    have e0 : (0 : Int32).toInt = 0 := by decide
    have e1 : (128 : Int32).toInt = 128 := by decide
    have e2 : (255 : Int32).toInt = 255 := by decide
    have g1 := Int32.le_iff_toInt_le.mp hb0
    have g2 := Int32.lt_iff_toInt_lt.mp hb1
    have g3 : ¬ ch.toInt < (0 : Int32).toInt := fun z => hn0 (Int32.lt_iff_toInt_lt.mpr z)
    have g4 : ¬ (255 : Int32).toInt < ch.toInt := fun z => hn1 (Int32.lt_iff_toInt_lt.mpr z)
    have e3 : (ch.toInt8.toInt32).toInt = ch.toInt.bmod 256 := by
      rw [Int8.toInt_toInt32, Int32.toInt_toInt8]
    have e4 : ch.toInt.bmod 256 = if ch.toInt < 128 then ch.toInt else ch.toInt - 256 := by
      rw [Int.bmod_def]
      split <;> split <;> omega
    constructor
    · intro hbc
      have := congrArg Int32.toInt hbc
      rw [e3, e4] at this
      split at this <;> omega
    · intro hbc
      apply Int32.toInt_inj.mp
      rw [e3, e4]
      split <;> omega
theorem zIX (l : Launch) (al : Bool) : zIXc l al := by
  intro t x h σ cA D b L xs ws μ pos vs sz hWd hmok hScr hARG
  rw [zx1_eq, Nat.sub_self, Nat.sub_self]
  rcases vs with _ | ⟨v1, _ | ⟨v2, _ | ⟨v3, vs⟩⟩⟩
  · exact hARG.elim
  · exact hARG.2.elim
  · obtain ⟨hv1, hv2, -⟩ := hARG
    obtain ⟨j1, j2, rfl⟩ := hv1.str
    obtain ⟨ch, rfl, hch⟩ := hv2.int
    have j3 : t.toNat < 10 := by omega
    have hres := zx_res j3 ch
    rw [hch] at hres
    intro p e ha hc hk s m args below hf happ hp hk'
    obtain ⟨hargs, hsz, hPP, hK, hD, hEnv⟩ := hp
    obtain ⟨adV, hvk⟩ := hEnv.2.2.1
    have hz : zxP σ adV s := ⟨hvk.narrow (fun _ h => h.elim), hEnv.2.2.2.1.1.narrow (fun _ h => h.elim)⟩
    obtain ⟨n, o, h1, h2, h3, h4⟩ := zx1_M (l := l) (σ := σ) (adV := adV) j3 ch p e ha hc hk s m args below hf happ ⟨hargs, hz⟩ hk'
    refine ⟨n, o, h1, h2, h3, ?_⟩
    obtain ⟨⟨rfl, hh⟩, L9, hF, hL⟩ := h4
    exact ⟨⟨⟨_, ws, μ, pos, rfl, ⟨hWd, by rw [hh]; exact hPP, hD.self, fun c i hi => ⟨hi, rfl⟩, hmok, hScr⟩, Or.inr ⟨by decide, _, rfl, zvr.i' hres⟩⟩, ⟨by rw [hh]; exact Nat.le_refl _, fun q _ _ => by rw [hh]⟩⟩, L9, hF, fun q hq => (hL q hq).elim⟩
  · exact hARG.2.2.elim
