/-! OUT OF THE LAW -/
/-- the heap at the entry: the script alone -/
def zh0 (L : Nat) (xs : Nat → Int32) : zH := (fun c => if c = 50 then 1 else 0, fun c p => if c = 50 ∧ p = 0 then L else 0, fun c p j => if c = 50 ∧ p = 0 then (xs j).toInt else 0, 0, 0)
section
variable {p : Program} {l : Launch} {e : Env} {R : Room} {s : State} {m : MethodId} {args : Array Value} {below : List Frame} {meth : Method} {c : Code} {Q : State → Prop} {A : Nat → Prop} {H0 : Heap} {σ : Nat → Nat} {cA : Nat → ClassId} {D : va_G} {b L : Nat} {xs : Nat → Int32} {al : Bool} {C0 S0 : Nat} {μ0 : Nat → Nat → Nat} {N0 : Nat → Nat} {nL : Nat}
variable {r : zRes} {kont : Nat → List (Option zV) → List zV → zH → Option zRes} {kret : Int → zH → Option zRes} {kthr : Nat → zH → Option zRes} {call : Nat → List Int → zH → (Int → zH → Option zRes) → (Nat → zH → Option zRes) → Option zRes} {cc : ByteArray} {own : String} {pc : Nat}
theorem zs_lwret (hx : p.tables.exec = Jvm.exec) (hb : c.code = code) (hty : meth.sig.returnType = ret) (hlocks : meth.locks = false) (hA9 : ∀ q, A q → s.heap.size ≤ q) (hkr : ∀ v h, kret v h = zin v h) {h1 : zH} (hr1 : r = .inl (1, h1)) (hC : zhC h1 ≤ 603072) (hS : zhS h1 ≤ 7207018) (hdg : decode code pc = .ok (.ireturn, 1)) {I : zI} {ls : List (Option zV)} {st : List zV} {h : zH} (hr : zoret 0 zPP al call I kont kret kthr pc ls st h = some r) : zGo p l e room_1 s m #[Value.ref b] below meth c (lw_Z below #[Value.ref b] s) A H0 σ cA D b L xs al 0 0 μ0 N0 nL r pc ls st h := by
  rcases st with _ | ⟨⟨t1, x1⟩, st⟩
  · cases hr
  · rcases st with _ | ⟨z, st⟩
    · simp only [zoret] at hr
      obtain ⟨hc, hr⟩ := zif_some hr
      cases Nat.eq_of_beq_eq_true hc
      obtain ⟨hr, hn1, hn2⟩ := znar_some hr
      rw [hkr, hr1] at hr
      have e1 : x1 = 1 := congrArg (fun z => match z with | .inl q => q.1 | .inr _ => 0) (Option.some.inj hr)
      have e2 : h = h1 := congrArg (fun z => match z with | .inl q => q.2 | .inr _ => h) (Option.some.inj hr)
      subst e1
      subst e2
      subst hr1
      refine ⟨⟨Nat.le_refl _, Nat.le_refl _⟩, fun ws μ pos H locs lsJ stJ hat hl hs => ?_⟩
      obtain ⟨v1, sJ1, rfl, hv1, hs1⟩ := hs.cons
      cases hs1.nil
      obtain ⟨i1, rfl, hi1⟩ := hv1.int
      have e3 : i1 = 1 := Int32.toInt_inj.mp (hi1.trans rfl)
      subst e3
      refine va_forget (fun q hq => hA9 _ (hat.2.2.2.1.2.2 q hq)) ?_
      refine W.widen (k := 603072) (n := 7207018) (by omega) (by omega) ?_
      exact W.base (lw_ret (l := l) (Drawn.sameBut.refl s.drawn lw_cs) hx hb hty hlocks hdg)
    · simp only [zoret] at hr
      cases hr
end
/-- the claim's start out of the small machine's run -/
theorem whole_of {p : Program} {e : Env} {s : State} {m : MethodId} {below : List Frame} {meth : Method} {c : Code} (l : Launch) (hF : l.stackTraces = false) (hI : ∀ al, zIXc l al) {b L : Nat} {xs : Nat → Int32} (hL : L ≤ 3072) (C0 : lw_At p s m meth c b L xs) {h1 : zH} (hrun : Lw_law 0 (zh0 L xs) zin = some (.inl (1, h1))) (hC : zhC h1 ≤ 603072) (hS : zhS h1 ≤ 7207018) :
    W p l e room_1 s m #[Value.ref b] below meth c s.heap [] 0 0 (lw_Z below #[Value.ref b] s) (entryFrame m ([Value.ref b] : List Value).toArray 9) := by
  obtain ⟨cA, D, hK⟩ := zK0 C0
  obtain ⟨σ, hE⟩ := zE0 C0
  obtain ⟨hx, hb, hr, hml, hown, hts, hX, hbl, hlocks, hgv⟩ := C0
  have hA9 : ∀ q, va_A [] s.heap.size q → s.heap.size ≤ q := fun q h => by
    rcases h with ⟨k, e, h⟩ | h
    · cases h
    · exact h
  have key : ∀ pc, zcl9p pc (zget (999, 0, 0, 0) zc_Lw_law pc) (zget [] zwL pc) = true := c_Lw_law
  have run := s_Lw_law (l := l) (zi := zyi) (r := .inl (1, h1)) (zseg_sound (p := p) (l := l) (e := e) (R := room_1) (s := s) (m := m) (args := #[Value.ref b]) (below := below) (meth := meth) (c := c) (Q := lw_Z below #[Value.ref b] s) (A := va_A [] s.heap.size) (H0 := s.heap) (σ := σ) (cA := cA) (D := D) (b := b) (L := L) (xs := xs) (al := true) (C0 := 0) (S0 := 0) (μ0 := fun _ _ => b) (N0 := fun _ => 0) (nL := 9) (r := .inl (1, h1)) (kret := zin) (kthr := fun _ _ => none) (cut := zcut zu_Lw_law) (code := zget (999, 0, 0, 0) zc_Lw_law) (wi := zget [] zwL) (isI := false) (zi := zyi) (own := R_law) (cc := code) (fr := 25) (lo := 11088) (tb := c.exceptionTable.toList)
    hx hb hml hown (fun w hw => hts w (List.mem_filter.mp hw).1) hK (fun q hq => Or.inr hq) hE (by rw [Nat.sub_zero]; exact hC) (by rw [Nat.sub_zero]; exact hS) rfl rfl rfl (fun _ _ _ e9 => by cases e9) zyi_T rfl (fun e9 => by cases e9) (hI true)
    (fun pc => by
      have h := key pc
      unfold zcl9p at h
      obtain ⟨h1, h2⟩ := zand_t h
      cases hz : zexi (zget (999, 0, 0, 0) zc_Lw_law pc).1 with
      | true => exact Or.inl rfl
      | false =>
        rw [hz] at h2
        refine Or.inr (zchk_tb (fun e9 => ?_) h2)
        rw [e9] at h1
        cases h1)
    (fun pc hz CALL kont hk ls st h9 hr9 => by
      have h := key pc
      unfold zcl9p at h
      obtain ⟨-, h2⟩ := zand_t h
      rw [hz] at h2
      have h2 : zlx pc (zget (999, 0, 0, 0) zc_Lw_law pc) = true := h2
      generalize zget (999, 0, 0, 0) zc_Lw_law pc = I at h2 hr9
      unfold zlx at h2
      split at h2
      · rename_i w1 w2 w3
        exact zs_lwret (I := (130, w1, w2, w3)) (call := CALL) (kont := kont) (kthr := fun _ _ => none) hx hb hr hlocks hA9 (fun _ _ => rfl) rfl hC hS (zok_d h2) hr9
      · rename_i w1 w2 w3
        exact zs_sld (I := (105, w1, w2, w3)) (call := CALL) (kret := zin) (kthr := fun _ _ => none) hx hb hk hX hbl (fun h => absurd (hA9 _ h) (Nat.not_le.mpr hbl)) (by omega) (zok_d h2) hr9
      · rename_i w1 w2 w3
        exact zs_slen (I := (106, w1, w2, w3)) (call := CALL) (kret := zin) (kthr := fun _ _ => none) hx hb hk hX hbl (fun h => absurd (hA9 _ h) (Nat.not_le.mpr hbl)) (by omega) (zok_d h2) hr9
      · cases hr9
      · cases h2))
    (fun x0 h k t hr => ct_X_init hI x0 h k t hr)
    (fun x0 h k t hr => ct_X_launches hI x0 h k t hr)
    (fun x0 h k t hr => ct_X_cycle hI x0 h k t hr)
    (fun x0 h k t hr => ct_X_lanes hI x0 h k t hr)
    (fun x0 h k t hr => ct_X_misses hI x0 h k t hr)
    (fun x0 h k t hr => ct_X_lost hI x0 h k t hr)
    (fun x0 h k t hr => ct_X_barriers hI x0 h k t hr)
    (fun x0 h k t hr => ct_X_refused hI x0 h k t hr)
    (fun x0 h k t hr => ct_X_isSound hI x0 h k t hr)
    (fun x0 h k t hr => ct_M_init hI x0 h k t hr)
    (fun y h k t hr => cy_M_thrown hI y h k t hr)
    (fun y x0 x1 h k t hr => cy_M_addKernel hI y x0 x1 h k t hr)
    (fun y x0 x1 x2 x3 x4 h k t hr => cy_M_code hI y x0 x1 x2 x3 x4 h k t hr)
    (fun y x0 x1 h k t hr => cy_M_fits hI y x0 x1 h k t hr)
    (fun y x0 x1 h k t hr => cy_M_poke hI y x0 x1 h k t hr)
    (fun y x0 h k t hr => cy_M_peek hI y x0 h k t hr)
    (fun y x0 x1 x2 x3 x4 h k t hr => cy_M_launch hI y x0 x1 x2 x3 x4 h k t hr)
    (fun y x0 x1 x2 x3 x4 h k t hr => cy_M_copy hI y x0 x1 x2 x3 x4 h k t hr)
    (fun y h k t hr => cy_M_launches hI y h k t hr)
    (fun y x0 h k t hr => cy_M_state hI y x0 h k t hr)
    (fun y x0 h k t hr => cy_M_parent hI y x0 h k t hr)
    (fun y x0 h k t hr => cy_M_given hI y x0 h k t hr)
    (fun y x0 h k t hr => cy_M_step hI y x0 h k t hr)
    (fun y x0 h k t hr => cy_M_run hI y x0 h k t hr)
    (fun y x0 h k t hr => cy_M_setOrder hI y x0 h k t hr)
    (fun y h k t hr => cy_M_cycle hI y h k t hr)
    (fun y x0 h k t hr => cy_M_groups hI y x0 h k t hr)
    (fun y x0 x1 h k t hr => cy_M_threadAt hI y x0 x1 h k t hr)
    (fun y x0 x1 h k t hr => cy_M_place hI y x0 x1 h k t hr)
    (fun y x0 x1 h k t hr => cy_M_mask hI y x0 x1 h k t hr)
    (fun y x0 x1 h k t hr => cy_M_places hI y x0 x1 h k t hr)
    (fun y x0 x1 h k t hr => cy_M_reason hI y x0 x1 h k t hr)
    (fun y x0 x1 x2 x3 h k t hr => cy_M_register hI y x0 x1 x2 x3 h k t hr)
    (fun y x0 x1 x2 h k t hr => cy_M_shared hI y x0 x1 x2 h k t hr)
    (fun y x0 x1 h k t hr => cy_M_buffered hI y x0 x1 h k t hr)
    (fun y x0 h k t hr => cy_M_fault hI y x0 h k t hr)
    (fun y x0 h k t hr => cy_M_faultAt hI y x0 h k t hr)
    (fun y x0 x1 h k t hr => cy_M_isRacing hI y x0 x1 h k t hr)
    (fun y x0 h k t hr => cy_M_races hI y x0 h k t hr)
    (fun y x0 x1 x2 x3 x4 h k t hr => cy_M_serial hI y x0 x1 x2 x3 x4 h k t hr)
    (fun y h k t hr => cy_M_lanes hI y h k t hr)
    (fun y h k t hr => cy_M_misses hI y h k t hr)
    (fun y h k t hr => cy_M_lost hI y h k t hr)
    (fun y h k t hr => cy_M_barriers hI y h k t hr)
    (fun y h k t hr => cy_M_refused hI y h k t hr)
    (fun y h k t hr => cy_M_usedShare hI y h k t hr)
    (fun y h k t hr => cy_M_meanDelay hI y h k t hr)
    (fun y h k t hr => cy_M_isSound hI y h k t hr)
    (fun x0 x1 x2 x3 h k t hr => ct_Lw_addKernel hI hF x0 x1 x2 x3 h k t hr)
    (fun x0 x1 x2 x3 x4 x5 x6 h k t hr => ct_Lw_code hI hF x0 x1 x2 x3 x4 x5 x6 h k t hr)
    (fun x0 x1 x2 x3 h k t hr => ct_Lw_fits hI hF x0 x1 x2 x3 h k t hr)
    (fun x0 x1 x2 x3 h k t hr => ct_Lw_poke hI hF x0 x1 x2 x3 h k t hr)
    (fun x0 x1 x2 h k t hr => ct_Lw_peek hI hF x0 x1 x2 h k t hr)
    (fun x0 x1 x2 x3 x4 x5 x6 h k t hr => ct_Lw_launch hI hF x0 x1 x2 x3 x4 x5 x6 h k t hr)
    (fun x0 x1 x2 x3 x4 x5 x6 h k t hr => ct_Lw_copy hI hF x0 x1 x2 x3 x4 x5 x6 h k t hr)
    (fun x0 x1 x2 h k t hr => ct_Lw_state hI hF x0 x1 x2 h k t hr)
    (fun x0 x1 x2 h k t hr => ct_Lw_parent hI hF x0 x1 x2 h k t hr)
    (fun x0 x1 x2 h k t hr => ct_Lw_given hI hF x0 x1 x2 h k t hr)
    (fun x0 x1 x2 h k t hr => ct_Lw_step hI hF x0 x1 x2 h k t hr)
    (fun x0 x1 x2 h k t hr => ct_Lw_run hI hF x0 x1 x2 h k t hr)
    (fun x0 x1 x2 h k t hr => ct_Lw_setOrder hI hF x0 x1 x2 h k t hr)
    (fun x0 x1 x2 h k t hr => ct_Lw_groups hI hF x0 x1 x2 h k t hr)
    (fun x0 x1 x2 x3 h k t hr => ct_Lw_threadAt hI hF x0 x1 x2 x3 h k t hr)
    (fun x0 x1 x2 x3 h k t hr => ct_Lw_place hI hF x0 x1 x2 x3 h k t hr)
    (fun x0 x1 x2 x3 h k t hr => ct_Lw_mask hI hF x0 x1 x2 x3 h k t hr)
    (fun x0 x1 x2 x3 h k t hr => ct_Lw_places hI hF x0 x1 x2 x3 h k t hr)
    (fun x0 x1 x2 x3 h k t hr => ct_Lw_reason hI hF x0 x1 x2 x3 h k t hr)
    (fun x0 x1 x2 x3 x4 x5 h k t hr => ct_Lw_register hI hF x0 x1 x2 x3 x4 x5 h k t hr)
    (fun x0 x1 x2 x3 x4 h k t hr => ct_Lw_shared hI hF x0 x1 x2 x3 x4 h k t hr)
    (fun x0 x1 x2 x3 h k t hr => ct_Lw_buffered hI hF x0 x1 x2 x3 h k t hr)
    (fun x0 x1 x2 h k t hr => ct_Lw_fault hI hF x0 x1 x2 h k t hr)
    (fun x0 x1 x2 h k t hr => ct_Lw_faultAt hI hF x0 x1 x2 h k t hr)
    (fun x0 x1 x2 x3 h k t hr => ct_Lw_isRacing hI hF x0 x1 x2 x3 h k t hr)
    (fun x0 x1 x2 h k t hr => ct_Lw_races hI hF x0 x1 x2 h k t hr)
    (fun x0 x1 x2 x3 x4 x5 x6 h k t hr => ct_Lw_serial hI hF x0 x1 x2 x3 x4 x5 x6 h k t hr)
    (fun x0 x1 h k t hr => ct_Lw_usedShare hI hF x0 x1 h k t hr)
    (fun x0 x1 h k t hr => ct_Lw_meanDelay hI hF x0 x1 h k t hr) 0 (zh0 L xs) hrun
  have hl := zLR_entry (σ := σ) (μ := fun _ _ => b) (N := zhN (zh0 L xs)) (ts := [150]) (xs := [0]) (vs := [.ref b]) (nL := 9) ⟨?_, trivial⟩ (Nat.le_of_ble_eq_true rfl)
  · have g := run.2 [] (fun _ _ => b) (fun _ _ => 0) s.heap [] _ [] ⟨⟨fun c i hc hi => ?_, fun c i c' i' hc _ hi => ?_⟩, (fun k q hk => by cases hk), ⟨(fun i j p q hi => by cases hi), (fun k q hk => by cases hk)⟩, va_S.rf, fun c i hi => absurd hi (Nat.not_lt_zero _), Nat.le_refl _, Nat.le_refl _, (fun e9 => by cases e9), fun i hi => ?_⟩ hl trivial
    · rw [lg_entry_eq]
      exact g
    · exfalso
      have : (if c = 50 then 1 else 0) > i := hi
      rw [if_neg hc] at this
      omega
    · exfalso
      have : (if c = 50 then 1 else 0) > i := hi
      rw [if_neg hc] at this
      omega
    · have hi0 : i = 0 := by
        have : i < 1 := hi
        omega
      subst hi0
      exact ⟨rfl, rfl, rfl, fun j hj => rfl⟩
  · exact Or.inr (Or.inr (Or.inr (Or.inr (Or.inr (Or.inr ⟨by decide, Or.inr ⟨Int.le_refl _, Int.zero_lt_one, rfl⟩⟩)))))
