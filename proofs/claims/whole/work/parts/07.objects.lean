/-! INSTRUCTIONS: objects and rows -/
def zT : List Cond := lw_tbl.filter goodWord
theorem zT_of {w : Cond} {i : Nat} (h : (decide (lw_tbl[i]? = some w) && goodWord w) = true) : w ∈ zT := by
  obtain ⟨h1, h2⟩ := zand_t h
  exact List.mem_filter.mpr ⟨List.mem_of_getElem? (of_decide_eq_true h1), h2⟩
theorem zobm_some {α : Type} {al : Bool} {h : zH} {c : Nat} {a : Int} {k : Nat → Option α} {y : α} (hr : zobm al h c a k = some y) : ∃ p : Nat, a = (p : Int) ∧ k p = some y ∧ ((al = true ∧ p < zhN h c) ∨ (al = false ∧ zmk c = true ∧ p = 0)) := by
  unfold zobm at hr
  cases al with
  | true =>
    unfold zob at hr
    dsimp only at hr
    split at hr
    · rename_i h1
      exact ⟨a.toNat, by omega, hr, Or.inl ⟨rfl, by omega⟩⟩
    · cases hr
  | false =>
    dsimp only at hr
    split at hr
    · split at hr
      · rename_i h1
        exact ⟨0, rfl, hr, Or.inr ⟨rfl, h1, rfl⟩⟩
      · cases hr
    · cases hr
theorem zix_some {α : Type} {n : Nat} {a : Int} {k : Nat → Option α} {y : α} (hr : zix n a k = some y) : ∃ j : Nat, a = (j : Int) ∧ j < n ∧ k j = some y := by
  unfold zix at hr
  split at hr
  · rename_i h1
    exact ⟨a.toNat, by omega, by omega, hr⟩
  · cases hr
theorem znar_some {α : Type} {t : Nat} {x : Int} {k : Int → Option α} {y : α} (hr : znar t x k = some y) : k x = some y ∧ (t = 1 → x = 0 ∨ x = 1) ∧ (t = 2 → 0 ≤ x ∧ x < 65536) := by
  unfold znar at hr
  split at hr
  · split at hr
    · rename_i h1
      exact ⟨hr, fun _ => h1, fun h => by cases h⟩
    · cases hr
  · split at hr
    · rename_i h1
      exact ⟨hr, (fun h => by cases h), fun _ => h1⟩
    · cases hr
  · rename_i h1 h2
    exact ⟨hr, fun h => absurd h h1, fun h => absurd h h2⟩
theorem zmok_sp {h : zH} (hm : zmok h = true) : zhN h 12 = 1 ∧ (∀ c ∈ zmks, zhN h c = 1 ∧ zhL h c 0 = zml c) ∧ ∀ k ∈ zmfs, zhD h 12 0 k = 0 := by
  unfold zmok at hm
  obtain ⟨hm, h3⟩ := zand_t hm
  obtain ⟨h1, h2⟩ := zand_t hm
  refine ⟨Nat.eq_of_beq_eq_true h1, fun c hc => ?_, fun k hk => ?_⟩
  · obtain ⟨q1, q2⟩ := zand_t (List.all_eq_true.mp h2 c hc)
    exact ⟨Nat.eq_of_beq_eq_true q1, Nat.eq_of_beq_eq_true q2⟩
  · exact eq_of_beq (List.all_eq_true.mp h3 k hk)
theorem zmok_mk {h : zH} (h1 : zhN h 12 = 1) (h2 : ∀ c ∈ zmks, zhN h c = 1 ∧ zhL h c 0 = zml c) (h3 : ∀ k ∈ zmfs, zhD h 12 0 k = 0) : zmok h = true := by
  unfold zmok
  rw [Bool.and_eq_true, Bool.and_eq_true]
  refine ⟨⟨by rw [h1]; rfl, List.all_eq_true.mpr fun c hc => ?_⟩, List.all_eq_true.mpr fun k hk => ?_⟩
  · rw [(h2 c hc).1, (h2 c hc).2, Bool.and_eq_true]
    exact ⟨rfl, Nat.beq_refl _⟩
  · rw [h3 k hk]; rfl
theorem zmk_in : ∀ c, c < 116 → zmk c = true → c = 12 ∨ c ∈ zmks := by decide +kernel
theorem zmk_N {h : zH} (hm : zmok h = true) {c : Nat} (hc : zmk c = true) : zhN h c = 1 ∧ (c ≠ 12 → zhL h c 0 = zml c) := by
  have hlt : c < 116 := by
    unfold zmk at hc
    rcases zor_t hc with q | q
    · rw [Nat.eq_of_beq_eq_true q]; decide
    · exact Nat.lt_succ_of_le (Nat.le_of_ble_eq_true (zand_t q).2)
  obtain ⟨h1, h2, -⟩ := zmok_sp hm
  rcases zmk_in c hlt hc with rfl | q
  · exact ⟨h1, fun h => absurd rfl h⟩
  · exact ⟨(h2 c q).1, fun _ => (h2 c q).2⟩
theorem zmfs_in : ∀ k, k < znf zPP 12 → 100 ≤ zft zPP 12 k → k ∈ zmfs := by decide +kernel
theorem zmfs_ge : ∀ k, k ∈ zmfs → 100 ≤ zft zPP 12 k := by decide +kernel
theorem zmok_set {h : zH} (hm : zmok h = true) {c p k : Nat} {x : Int} (hne : c = 12 → k ∉ zmfs) : zmok (zset h c p k x) = true := by
  obtain ⟨h1, h2, h3⟩ := zmok_sp hm
  refine zmok_mk h1 h2 fun k' hk' => ?_
  have : zhD (zset h c p k x) 12 0 k' = if 12 = c ∧ 0 = p ∧ k' = k then x else zhD h 12 0 k' := rfl
  rw [this, if_neg]
  · exact h3 k' hk'
  · rintro ⟨q1, -, rfl⟩
    exact hne q1.symm hk'
section
variable {p : Program} {l : Launch} {e : Env} {R : Room} {s : State} {m : MethodId} {args : Array Value} {below : List Frame} {meth : Method} {c : Code} {Q : State → Prop} {A : Nat → Prop} {H0 : Heap} {σ : Nat → Nat} {cA : Nat → ClassId} {D : va_G} {b L : Nat} {xs : Nat → Int32} {al : Bool} {C0 S0 : Nat} {μ0 : Nat → Nat → Nat} {N0 : Nat → Nat} {nL : Nat}
variable {r : zRes} {kont : Nat → List (Option zV) → List zV → zH → Option zRes} {kret : Int → zH → Option zRes} {kthr : Nat → zH → Option zRes} {call : Nat → List Int → zH → (Int → zH → Option zRes) → (Nat → zH → Option zRes) → Option zRes} {cc : ByteArray} {own : String} {pc : Nat}
/-- a cell that is named is there -/
theorem zat_N {h : zH} {ws : va_W} {μ pos : Nat → Nat → Nat} {H : Heap} {locs : List Loc} (hat : zAt s A H0 σ cA D b L xs al C0 S0 μ0 N0 h ws μ pos H locs) {c p : Nat} (hp : (al = true ∧ p < zhN h c) ∨ (al = false ∧ zmk c = true ∧ p = 0)) : p < zhN h c := by
  rcases hp with ⟨-, h1⟩ | ⟨h1, h2, rfl⟩
  · exact h1
  · rw [(zmk_N (hat.2.2.2.2.2.2.2.1 h1) h2).1]; decide
theorem zat_L {h : zH} {ws : va_W} {μ pos : Nat → Nat → Nat} {H : Heap} {locs : List Loc} (hat : zAt s A H0 σ cA D b L xs al C0 S0 μ0 N0 h ws μ pos H locs) {c p : Nat} (hc : c ≠ 12) (hp : (al = true ∧ p < zhN h c) ∨ (al = false ∧ zmk c = true ∧ p = 0)) : zlenm al h c p = zhL h c p := by
  rcases hp with ⟨rfl, h1⟩ | ⟨rfl, h2, rfl⟩
  · rfl
  · exact ((zmk_N (hat.2.2.2.2.2.2.2.1 rfl) h2).2 hc).symm
theorem zat_D {h : zH} {ws : va_W} {μ pos : Nat → Nat → Nat} {H : Heap} {locs : List Loc} (hat : zAt s A H0 σ cA D b L xs al C0 S0 μ0 N0 h ws μ pos H locs) {c p k : Nat} (hc : c < 13) (hk : k < znf zPP c) (hp : (al = true ∧ p < zhN h c) ∨ (al = false ∧ zmk c = true ∧ p = 0)) : zrdm al h c p k (zft zPP c k) = zhD h c p k := by
  rcases hp with ⟨rfl, h1⟩ | ⟨rfl, h2, rfl⟩
  · rfl
  · unfold zrdm
    dsimp only
    split
    · rename_i h3
      have hc12 : c = 12 := by
        unfold zmk at h2
        rcases zor_t h2 with q | q
        · exact Nat.eq_of_beq_eq_true q
        · exact absurd (Nat.le_of_ble_eq_true (zand_t q).1) (by omega)
      subst hc12
      exact ((zmok_sp (hat.2.2.2.2.2.2.2.1 rfl)).2.2 k (zmfs_in k hk (Nat.le_of_ble_eq_true h3))).symm
    · rfl
/-- behind a store -/
theorem zAt.put {h : zH} {ws : va_W} {μ pos : Nat → Nat → Nat} {H H1 : Heap} {locs locs1 : List Loc} (hat : zAt s A H0 σ cA D b L xs al C0 S0 μ0 N0 h ws μ pos H locs) {c p k : Nat} {x : Int} (hc : c ≠ 50) (hp : p < zhN h c) {E : va_E} (hE : zce σ μ (zhN h) cA (zhL h c p) (zhD (zset h c p k x) c p) c E) (hne : al = false → c = 12 → k ∉ zmfs)
    (hP : va_P D zcl (ws.set (pos c p) (μ c p, E)) H1) (hD : va_D A (ws.set (pos c p) (μ c p, E))) (hS : va_S A H0 H1 locs1) : zAt s A H0 σ cA D b L xs al C0 S0 μ0 N0 (zset h c p k x) (ws.set (pos c p) (μ c p, E)) μ pos H1 locs1 := by
  obtain ⟨a1, a2, a3, a4, a5, a6, a7, a8, a9⟩ := hat
  refine ⟨a1.set hc hp hE, hP, hD, hS, a5, a6, a7, fun q => zmok_set (a8 q) (hne q), fun i hi => ?_⟩
  obtain ⟨b1, b2, b3, b4⟩ := a9 i hi
  refine ⟨b1, b2, b3, fun j hj => ?_⟩
  rw [zhD_set_ne (fun q => hc q.1.symm)]
  exact b4 j hj
/-- behind a making -/
theorem zAt.new {h : zH} {ws : va_W} {μ pos : Nat → Nat → Nat} {H H1 : Heap} {locs : List Loc} (hat : zAt s A H0 σ cA D b L xs al C0 S0 μ0 N0 h ws μ pos H locs) {c len slots q : Nat} {f : Nat → Int} (hc : c ≠ 50) (hal : al = true) {E : va_E} (hE : zce σ (zmu h c μ q) (zhN (znew h c len slots f)) cA len f c E)
    (hP : va_P D zcl (ws ++ [(q, E)]) H1) (hD : va_D A (ws ++ [(q, E)])) (hS : va_S A H0 H1 locs) : zAt s A H0 σ cA D b L xs al C0 S0 μ0 N0 (znew h c len slots f) (ws ++ [(q, E)]) (zmu h c μ q) (zmu h c pos ws.length) H1 locs := by
  obtain ⟨a1, a2, a3, a4, a5, a6, a7, a8, a9⟩ := hat
  refine ⟨a1.new hE, hP, hD, hS, fun c' i hi => ?_, Nat.le_succ_of_le a6, Nat.le_trans a7 (Nat.le_add_right _ _), (fun z => by rw [hal] at z; cases z), fun i hi => ?_⟩
  · obtain ⟨b1, b2⟩ := a5 c' i hi
    exact ⟨Nat.lt_of_lt_of_le b1 (zhN_new_le c'), by rw [zmu_old b1]; exact b2⟩
  · have hi : i < zhN h 50 := by rw [zhN_new, if_neg (Ne.symm hc)] at hi; exact hi
    obtain ⟨b1, b2, b3, b4⟩ := a9 i hi
    refine ⟨b1, by rw [zmu_old hi]; exact b2, by rw [zhL_new_old hi]; exact b3, fun j hj => ?_⟩
    rw [zhD_new_old hi]
    exact b4 j hj
theorem zref_at {h : zH} {μ : Nat → Nat → Nat} {c : Nat} {a : Int} {p : Nat} {v : Value} (ha : a = (p : Int)) (hv : zvr σ μ (zhN h) (100 + c) a v) : v = .ref (μ c p) := by
  subst ha
  rcases hv.ref (by omega) with ⟨h1, -⟩ | ⟨-, -, h1⟩
  · omega
  · rw [Nat.add_sub_cancel_left] at h1
    exact h1
theorem zs_getf (hx : p.tables.exec = Jvm.exec) (hb : c.code = cc) (hk : ∀ pc ls st h, kont pc ls st h = some r → zGo p l e R s m args below meth c Q A H0 σ cA D b L xs al C0 S0 μ0 N0 nL r pc ls st h) (hts : ∀ w ∈ zT, w.before args s = true) (hcw : ∀ c, c < 13 → ∀ w ∈ u_ws (zCn c) (zCf c) (zCk c), w ∈ zT) (hown : s.vm.findClass own = some m.cls) (hK : va_K D zcl (ztys cA) s) {I : zI} (hdg : decode cc pc = .ok (.getfield I.2.2.1, 3)) (hw : Cond.fieldLink own I.2.2.1 (zCn I.2.1.toNat) (zCf I.2.1.toNat I.2.2.2).2.1 (zCf I.2.1.toNat I.2.2.2).2.2.1 ∈ zT) {ls : List (Option zV)} {st : List zV} {h : zH} (hr : zogetf zPP al call I kont kret kthr pc ls st h = some r) : zGo p l e R s m args below meth c Q A H0 σ cA D b L xs al C0 S0 μ0 N0 nL r pc ls st h := by
  rcases st with _ | ⟨⟨t1, x1⟩, st⟩
  · cases hr
  · simp only [zogetf] at hr
    obtain ⟨hc, hr⟩ := zif_some hr
    obtain ⟨hc, hk3⟩ := zand_t hc
    obtain ⟨hc1, hc2⟩ := zand_t hc
    have hc13 : I.2.1.toNat < 13 := Nat.lt_succ_of_le (Nat.le_of_ble_eq_true hc2)
    have hk3 : I.2.2.2 < znf zPP I.2.1.toNat := Nat.le_of_ble_eq_true hk3
    obtain ⟨q, hq, hr, hp⟩ := zobm_some hr
    obtain ⟨hm, hg⟩ := hk _ _ _ _ hr
    refine ⟨hm, fun ws μ pos H locs lsJ stJ hat hl hs => ?_⟩
    obtain ⟨v1, sJ1, rfl, hv1, hs1⟩ := hs.cons
    rw [Nat.eq_of_beq_eq_true hc1] at hv1
    cases zref_at hq hv1
    have hp' := zat_N hat hp
    obtain ⟨fs, f1, f2, f3⟩ := hat.1.obj hc13 hp'
    obtain ⟨v, f4, f5⟩ := f3 _ hk3
    rw [zat_D hat hc13 hk3 hp] at hg
    refine va_get hx hb hts (hcw _ hc13) hown hK hat.2.1 (pos I.2.1.toNat q) f1 (zcl_at hc13) I.2.2.2 (by rw [(zC_ok _ hc13).1]; exact hk3) (hts _ hw) (fun x h9 => by rw [zC_own _ hc13 _ (by rw [(zC_ok _ hc13).1]; exact hk3)] at h9; exact h9) f4 hdg ?_
    exact hg ws μ pos H locs lsJ _ hat hl ⟨f5, hs1⟩
theorem zs_getfN (hx : p.tables.exec = Jvm.exec) (hb : c.code = cc) (hk : ∀ pc ls st h, kont pc ls st h = some r → zGo p l e R s m args below meth c Q A H0 σ cA D b L xs al C0 S0 μ0 N0 nL r pc ls st h) (hts : ∀ w ∈ zT, w.before args s = true) (hcw : ∀ c, c < 13 → ∀ w ∈ u_ws (zCn c) (zCf c) (zCk c), w ∈ zT) (hown : s.vm.findClass own = some m.cls) (hK : va_K D zcl (ztys cA) s) {I : zI} {host : String} (hdg : decode cc pc = .ok (.getfield I.2.2.1, 3)) (hw : Cond.fieldLinkNest own I.2.2.1 (zCn I.2.1.toNat) (zCf I.2.1.toNat I.2.2.2).2.1 (zCf I.2.1.toNat I.2.2.2).2.2.1 host ∈ zT) {ls : List (Option zV)} {st : List zV} {h : zH} (hr : zogetf zPP al call I kont kret kthr pc ls st h = some r) : zGo p l e R s m args below meth c Q A H0 σ cA D b L xs al C0 S0 μ0 N0 nL r pc ls st h := by
  rcases st with _ | ⟨⟨t1, x1⟩, st⟩
  · cases hr
  · simp only [zogetf] at hr
    obtain ⟨hc, hr⟩ := zif_some hr
    obtain ⟨hc, hk3⟩ := zand_t hc
    obtain ⟨hc1, hc2⟩ := zand_t hc
    have hc13 : I.2.1.toNat < 13 := Nat.lt_succ_of_le (Nat.le_of_ble_eq_true hc2)
    have hk3 : I.2.2.2 < znf zPP I.2.1.toNat := Nat.le_of_ble_eq_true hk3
    obtain ⟨q, hq, hr, hp⟩ := zobm_some hr
    obtain ⟨hm, hg⟩ := hk _ _ _ _ hr
    refine ⟨hm, fun ws μ pos H locs lsJ stJ hat hl hs => ?_⟩
    obtain ⟨v1, sJ1, rfl, hv1, hs1⟩ := hs.cons
    rw [Nat.eq_of_beq_eq_true hc1] at hv1
    cases zref_at hq hv1
    have hp' := zat_N hat hp
    obtain ⟨fs, f1, f2, f3⟩ := hat.1.obj hc13 hp'
    obtain ⟨v, f4, f5⟩ := f3 _ hk3
    rw [zat_D hat hc13 hk3 hp] at hg
    refine va_getN hx hb hts (hcw _ hc13) hown hK hat.2.1 (pos I.2.1.toNat q) f1 (zcl_at hc13) I.2.2.2 (by rw [(zC_ok _ hc13).1]; exact hk3) (hts _ hw) (fun x h9 => by rw [zC_own _ hc13 _ (by rw [(zC_ok _ hc13).1]; exact hk3)] at h9; exact h9) f4 hdg ?_
    exact hg ws μ pos H locs lsJ _ hat hl ⟨f5, hs1⟩
theorem zfit {μ : Nat → Nat → Nat} {N : Nat → Nat} {e : Nat} {ty : FieldType} {x : Int} {v : Value} (ht : ztr e ty = true) (hv : zvr σ μ N (ztag e) x v) (h1 : e = 1 → x = 0 ∨ x = 1) (h2 : e = 2 → 0 ≤ x ∧ x < 65536) : narrow ty v = v ∧ fits ty v = true := by
  unfold ztr at ht
  split at ht
  · obtain ⟨i, rfl, -⟩ := hv.int
    exact ⟨rfl, rfl⟩
  · obtain ⟨i, rfl, rfl⟩ := hv.int
    have h3 : i = 0 ∨ i = 1 := by
      rcases h1 rfl with q | q
      · exact Or.inl ((z_eq i 0).mpr q)
      · exact Or.inr ((z_eq i 1).mpr q)
    rcases h3 with rfl | rfl
    · exact ⟨rfl, rfl⟩
    · exact ⟨rfl, rfl⟩
  · obtain ⟨i, rfl, rfl⟩ := hv.int
    obtain ⟨q1, q2⟩ := h2 rfl
    obtain ⟨j, hj, rfl⟩ : ∃ j : Nat, j < 65536 ∧ i = nI j := by
      obtain ⟨j, hj, rfl⟩ := nI_of (x := i) (fun z => by have := (z_lt i 0).mp z; rw [z_0] at this; omega)
      rw [nI_toInt hj] at q2
      exact ⟨j, by omega, rfl⟩
    exact pk_charN hj
  · obtain ⟨i, rfl, -⟩ := hv.long
    exact ⟨rfl, rfl⟩
  · have h3 := Nat.le_of_ble_eq_true ht
    have h4 : ztag e = e := by unfold ztag; split <;> first | omega | rfl
    rw [h4] at hv
    rcases hv.ref h3 with ⟨-, rfl⟩ | ⟨-, -, rfl⟩
    · exact ⟨rfl, rfl⟩
    · exact ⟨rfl, rfl⟩
  · have h3 := Nat.le_of_ble_eq_true ht
    have h4 : ztag e = e := by unfold ztag; split <;> first | omega | rfl
    rw [h4] at hv
    rcases hv.ref h3 with ⟨-, rfl⟩ | ⟨-, -, rfl⟩
    · exact ⟨rfl, rfl⟩
    · exact ⟨rfl, rfl⟩
  · cases ht
theorem zs_putf (hx : p.tables.exec = Jvm.exec) (hb : c.code = cc) (hk : ∀ pc ls st h, kont pc ls st h = some r → zGo p l e R s m args below meth c Q A H0 σ cA D b L xs al C0 S0 μ0 N0 nL r pc ls st h) (hts : ∀ w ∈ zT, w.before args s = true) (hcw : ∀ c, c < 13 → ∀ w ∈ u_ws (zCn c) (zCf c) (zCk c), w ∈ zT) (hown : s.vm.findClass own = some m.cls) (hK : va_K D zcl (ztys cA) s) {I : zI} (hdg : decode cc pc = .ok (.putfield I.2.2.1, 3)) (hw : Cond.fieldLink own I.2.2.1 (zCn I.2.1.toNat) (zCf I.2.1.toNat I.2.2.2).2.1 (zCf I.2.1.toNat I.2.2.2).2.2.1 ∈ zT) (hfin : (zCf I.2.1.toNat I.2.2.2).2.2.2 = false) {ls : List (Option zV)} {st : List zV} {h : zH} (hr : zoputf zPP al call I kont kret kthr pc ls st h = some r) : zGo p l e R s m args below meth c Q A H0 σ cA D b L xs al C0 S0 μ0 N0 nL r pc ls st h := by
  rcases st with _ | ⟨⟨t1, x1⟩, _ | ⟨⟨t2, x2⟩, st⟩⟩
  · cases hr
  · cases hr
  · simp only [zoputf] at hr
    obtain ⟨hc, hr⟩ := zif_some hr
    obtain ⟨hc, hfm⟩ := zand_t hc
    obtain ⟨hc, hct⟩ := zand_t hc
    obtain ⟨hc, hk3⟩ := zand_t hc
    obtain ⟨hc1, hc2⟩ := zand_t hc
    have hc13 : I.2.1.toNat < 13 := Nat.lt_succ_of_le (Nat.le_of_ble_eq_true hc2)
    have hk3 : I.2.2.2 < znf zPP I.2.1.toNat := Nat.le_of_ble_eq_true hk3
    obtain ⟨q, hq, hr, hp⟩ := zobm_some hr
    obtain ⟨hr, hn1, hn2⟩ := znar_some hr
    unfold zlet at hr
    obtain ⟨hm, hg⟩ := hk _ _ _ _ hr
    refine ⟨hm, fun ws μ pos H locs lsJ stJ hat hl hs => ?_⟩
    obtain ⟨v2, sJ1, rfl, hv2, hs1⟩ := hs.cons
    obtain ⟨v1, sJ2, rfl, hv1, hs2⟩ := hs1.cons
    rw [Nat.eq_of_beq_eq_true hc1] at hv1
    rw [Nat.eq_of_beq_eq_true hct] at hv2
    cases zref_at hq hv1
    have hp' := zat_N hat hp
    obtain ⟨fs, f1, f2, f3⟩ := hat.1.obj hc13 hp'
    have hkc : I.2.2.2 < zCk I.2.1.toNat := by rw [(zC_ok _ hc13).1]; exact hk3
    obtain ⟨g1, g2⟩ := (zC_ok _ hc13).2 _ hkc
    obtain ⟨g3, g4⟩ := zfit g1 hv2 hn1 hn2
    refine va_put hx hb hts (hcw _ hc13) (zCt I.2.1.toNat) (fun k hk => ((zC_ok _ hc13).2 k hk).2) (zC_nm _ hc13) hown hK hat.2.1 hat.2.2.1 hat.2.2.2.1 (pos I.2.1.toNat q) f1 (zcl_at hc13) I.2.2.2 hkc (hts _ hw) (fun x h9 => by rw [zC_own _ hc13 _ hkc] at h9; exact h9) hfin g2 g3 g4 (by rw [f2]; exact hk3) hdg (fun H1 locs1 hP1 hD1 hS1 => ?_)
    refine hg _ μ pos H1 locs1 lsJ _ (hat.put (by omega) hp' (Or.inl ⟨hc13, fs.set I.2.2.2 v2, rfl, (by rw [List.length_set]; exact f2), fun k hk => ?_⟩) (fun z h12 hin => ?_) hP1 hD1 hS1) hl hs2
    · rw [zhD_set_at]
      by_cases hkk : k = I.2.2.2
      · subst hkk
        rw [if_pos rfl]
        exact ⟨v2, List.getElem?_set_self (by rw [f2]; exact hk3), hv2⟩
      · rw [if_neg hkk]
        obtain ⟨v, f4, f5⟩ := f3 k hk
        exact ⟨v, by rw [List.getElem?_set_ne (Ne.symm hkk)]; exact f4, f5⟩
    · rw [z] at hfm
      have h100 : 100 ≤ zft zPP 12 I.2.2.2 := zmfs_ge _ hin
      have ht1 : t1 = ztag (zft zPP I.2.1.toNat I.2.2.2) := Nat.eq_of_beq_eq_true hct
      have ht2 : Nat.ble 100 t1 = false := znot_t hfm
      rw [ht1, h12] at ht2
      have h4 : ztag (zft zPP 12 I.2.2.2) = zft zPP 12 I.2.2.2 := by unfold ztag; split <;> first | omega | rfl
      rw [h4] at ht2
      exact absurd (Nat.le_of_ble_eq_true (by rw [Nat.ble_eq]; exact h100) : 100 ≤ zft zPP 12 I.2.2.2) (Nat.not_le.mpr (Nat.lt_of_not_le fun z => by rw [Nat.ble_eq_true_of_le z] at ht2; cases ht2))
theorem zs_putfF (hx : p.tables.exec = Jvm.exec) (hb : c.code = cc) (hk : ∀ pc ls st h, kont pc ls st h = some r → zGo p l e R s m args below meth c Q A H0 σ cA D b L xs al C0 S0 μ0 N0 nL r pc ls st h) (hts : ∀ w ∈ zT, w.before args s = true) (hcw : ∀ c, c < 13 → ∀ w ∈ u_ws (zCn c) (zCf c) (zCk c), w ∈ zT) (hown : s.vm.findClass own = some m.cls) (hK : va_K D zcl (ztys cA) s) {I : zI} (hdg : decode cc pc = .ok (.putfield I.2.2.1, 3)) (hw : Cond.fieldLink own I.2.2.1 (zCn I.2.1.toNat) (zCf I.2.1.toNat I.2.2.2).2.1 (zCf I.2.1.toNat I.2.2.2).2.2.1 ∈ zT) (hfin : (zCf I.2.1.toNat I.2.2.2).2.2.2 = true) (hin2 : meth.name = "<init>") (hdecl : zCn I.2.1.toNat = own) {ls : List (Option zV)} {st : List zV} {h : zH} (hr : zoputf zPP al call I kont kret kthr pc ls st h = some r) : zGo p l e R s m args below meth c Q A H0 σ cA D b L xs al C0 S0 μ0 N0 nL r pc ls st h := by
  rcases st with _ | ⟨⟨t1, x1⟩, _ | ⟨⟨t2, x2⟩, st⟩⟩
  · cases hr
  · cases hr
  · simp only [zoputf] at hr
    obtain ⟨hc, hr⟩ := zif_some hr
    obtain ⟨hc, hfm⟩ := zand_t hc
    obtain ⟨hc, hct⟩ := zand_t hc
    obtain ⟨hc, hk3⟩ := zand_t hc
    obtain ⟨hc1, hc2⟩ := zand_t hc
    have hc13 : I.2.1.toNat < 13 := Nat.lt_succ_of_le (Nat.le_of_ble_eq_true hc2)
    have hk3 : I.2.2.2 < znf zPP I.2.1.toNat := Nat.le_of_ble_eq_true hk3
    obtain ⟨q, hq, hr, hp⟩ := zobm_some hr
    obtain ⟨hr, hn1, hn2⟩ := znar_some hr
    unfold zlet at hr
    obtain ⟨hm, hg⟩ := hk _ _ _ _ hr
    refine ⟨hm, fun ws μ pos H locs lsJ stJ hat hl hs => ?_⟩
    obtain ⟨v2, sJ1, rfl, hv2, hs1⟩ := hs.cons
    obtain ⟨v1, sJ2, rfl, hv1, hs2⟩ := hs1.cons
    rw [Nat.eq_of_beq_eq_true hc1] at hv1
    rw [Nat.eq_of_beq_eq_true hct] at hv2
    cases zref_at hq hv1
    have hp' := zat_N hat hp
    obtain ⟨fs, f1, f2, f3⟩ := hat.1.obj hc13 hp'
    have hkc : I.2.2.2 < zCk I.2.1.toNat := by rw [(zC_ok _ hc13).1]; exact hk3
    obtain ⟨g1, g2⟩ := (zC_ok _ hc13).2 _ hkc
    obtain ⟨g3, g4⟩ := zfit g1 hv2 hn1 hn2
    refine va_putF hx hb hts (hcw _ hc13) (zCt I.2.1.toNat) (fun k hk => ((zC_ok _ hc13).2 k hk).2) (zC_nm _ hc13) hown hK hat.2.1 hat.2.2.1 hat.2.2.2.1 (pos I.2.1.toNat q) f1 (zcl_at hc13) I.2.2.2 hkc (hts _ hw) (fun x h9 => by rw [zC_own _ hc13 _ hkc] at h9; exact h9) hfin hin2 ((zC_own _ hc13 _ hkc).trans hdecl) g2 g3 g4 (by rw [f2]; exact hk3) hdg (fun H1 locs1 hP1 hD1 hS1 => ?_)
    refine hg _ μ pos H1 locs1 lsJ _ (hat.put (by omega) hp' (Or.inl ⟨hc13, fs.set I.2.2.2 v2, rfl, (by rw [List.length_set]; exact f2), fun k hk => ?_⟩) (fun z h12 hin => ?_) hP1 hD1 hS1) hl hs2
    · rw [zhD_set_at]
      by_cases hkk : k = I.2.2.2
      · subst hkk
        rw [if_pos rfl]
        exact ⟨v2, List.getElem?_set_self (by rw [f2]; exact hk3), hv2⟩
      · rw [if_neg hkk]
        obtain ⟨v, f4, f5⟩ := f3 k hk
        exact ⟨v, by rw [List.getElem?_set_ne (Ne.symm hkk)]; exact f4, f5⟩
    · rw [z] at hfm
      have h100 : 100 ≤ zft zPP 12 I.2.2.2 := zmfs_ge _ hin
      have ht1 : t1 = ztag (zft zPP I.2.1.toNat I.2.2.2) := Nat.eq_of_beq_eq_true hct
      have ht2 : Nat.ble 100 t1 = false := znot_t hfm
      rw [ht1, h12] at ht2
      have h4 : ztag (zft zPP 12 I.2.2.2) = zft zPP 12 I.2.2.2 := by unfold ztag; split <;> first | omega | rfl
      rw [h4] at ht2
      exact absurd (Nat.le_of_ble_eq_true (by rw [Nat.ble_eq]; exact h100) : 100 ≤ zft zPP 12 I.2.2.2) (Nat.not_le.mpr (Nat.lt_of_not_le fun z => by rw [Nat.ble_eq_true_of_le z] at ht2; cases ht2))
end
