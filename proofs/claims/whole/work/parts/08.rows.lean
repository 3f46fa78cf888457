/-! INSTRUCTIONS: rows of numbers and of references, making -/
section
variable {p : Program} {l : Launch} {e : Env} {R : Room} {s : State} {m : MethodId} {args : Array Value} {below : List Frame} {meth : Method} {c : Code} {Q : State → Prop} {A : Nat → Prop} {H0 : Heap} {σ : Nat → Nat} {cA : Nat → ClassId} {D : va_G} {b L : Nat} {xs : Nat → Int32} {al : Bool} {C0 S0 : Nat} {μ0 : Nat → Nat → Nat} {N0 : Nat → Nat} {nL : Nat}
variable {r : zRes} {kont : Nat → List (Option zV) → List zV → zH → Option zRes} {kret : Int → zH → Option zRes} {kthr : Nat → zH → Option zRes} {call : Nat → List Int → zH → (Int → zH → Option zRes) → (Nat → zH → Option zRes) → Option zRes} {cc : ByteArray} {own : String} {pc : Nat}
theorem zra.i {μ : Nat → Nat → Nat} {N : Nat → Nat} {e len : Nat} {f : Nat → Int} {a : vp_A} (he : e = 0 ∨ e = 1 ∨ e = 2) (h : zra μ N e len f a) : ∃ g : Nat → Int32, a = (len, .inl g) ∧ ∀ j, j < len → (g j).toInt = f j := by
  obtain ⟨n, q⟩ := a
  obtain ⟨rfl, ⟨-, g, rfl, h2⟩ | ⟨h1, -⟩ | ⟨h1, -⟩ | ⟨h1, -⟩⟩ := h
  · exact ⟨g, rfl, h2⟩
  all_goals omega
theorem zra.ll {μ : Nat → Nat → Nat} {N : Nat → Nat} {len : Nat} {f : Nat → Int} {a : vp_A} (h : zra μ N 3 len f a) : ∃ g : Nat → Int64, a = (len, .inr (.inl g)) ∧ ∀ j, j < len → (g j).toInt = f j := by
  obtain ⟨n, q⟩ := a
  obtain ⟨rfl, ⟨h1, -⟩ | ⟨-, g, rfl, h2⟩ | ⟨h1, -⟩ | ⟨h1, -⟩⟩ := h
  · omega
  · exact ⟨g, rfl, h2⟩
  all_goals omega
theorem zra.dd {μ : Nat → Nat → Nat} {N : Nat → Nat} {len : Nat} {f : Nat → Int} {a : vp_A} (h : zra μ N 6 len f a) : ∃ g : Nat → UInt64, a = (len, .inr (.inr (.inr (.inl g)))) ∧ ∀ j, j < len → ((g j).toNat : Int) = f j := by
  obtain ⟨n, q⟩ := a
  obtain ⟨rfl, ⟨h1, -⟩ | ⟨h1, -⟩ | ⟨-, g, rfl, h2⟩ | ⟨h1, -⟩⟩ := h
  · omega
  · omega
  · exact ⟨g, rfl, h2⟩
  · omega
theorem zra.q {μ : Nat → Nat → Nat} {N : Nat → Nat} {e len : Nat} {f : Nat → Int} {a : vp_A} (he : 100 ≤ e) (h : zra μ N e len f a) : ∃ g : Nat → Option Nat, a = (len, .inr (.inr (.inr (.inr g)))) ∧ ∀ j, j < len → (f j = -1 ∧ g j = none) ∨ (0 ≤ f j ∧ f j < (N (e - 100) : Int) ∧ g j = some (μ (e - 100) (f j).toNat)) := by
  obtain ⟨n, q⟩ := a
  obtain ⟨rfl, ⟨h1, -⟩ | ⟨h1, -⟩ | ⟨h1, -⟩ | ⟨-, g, rfl, h2⟩⟩ := h
  · omega
  · omega
  · omega
  · exact ⟨g, rfl, h2⟩
theorem zix_in {i : Int32} {j n : Nat} (h : i.toInt = (j : Int)) (hj : j < n) : vp_in i n ∧ i.toNatClampNeg = j := by
  refine ⟨vp_in_iff.mpr ⟨by omega, by omega⟩, ?_⟩
  show i.toInt.toNat = j
  omega
theorem zne50 {v e : Nat} (h : zft zPP v 0 = e) (he : e ≠ 7) : v ≠ 50 := by
  rintro rfl
  exact he (h.symm.trans (by decide))
theorem zs_iald (hx : p.tables.exec = Jvm.exec) (hb : c.code = cc) (hk : ∀ pc ls st h, kont pc ls st h = some r → zGo p l e R s m args below meth c Q A H0 σ cA D b L xs al C0 S0 μ0 N0 nL r pc ls st h) (hK : va_K D zcl (ztys cA) s) {I : zI} (hdg : decode cc pc = .ok (.iaload, 1)) {ls : List (Option zV)} {st : List zV} {h : zH} (hr : zoald 0 0 zPP al call I kont kret kthr pc ls st h = some r) : zGo p l e R s m args below meth c Q A H0 σ cA D b L xs al C0 S0 μ0 N0 nL r pc ls st h := by
  rcases st with _ | ⟨⟨t1, x1⟩, _ | ⟨⟨t2, x2⟩, st⟩⟩
  · cases hr
  · cases hr
  · simp only [zoald] at hr
    obtain ⟨hc, hr⟩ := zif_some hr
    obtain ⟨hc, he⟩ := zand_t hc
    obtain ⟨hc, hc2⟩ := zand_t hc
    obtain ⟨hc1, h13⟩ := zand_t hc
    have h13 := Nat.le_of_ble_eq_true h13
    have he := Nat.eq_of_beq_eq_true he
    obtain ⟨q, hq, hr, hp⟩ := zobm_some hr
    obtain ⟨j, hj, hjl, hr⟩ := zix_some hr
    obtain ⟨hm, hg⟩ := hk _ _ _ _ hr
    refine ⟨hm, fun ws μ pos H locs lsJ stJ hat hl hs => ?_⟩
    obtain ⟨v1, sJ1, rfl, hv1, hs1⟩ := hs.cons
    obtain ⟨v2, sJ2, rfl, hv2, hs2⟩ := hs1.cons
    rw [Nat.eq_of_beq_eq_true hc1] at hv1
    rw [Nat.eq_of_beq_eq_true hc2] at hv2
    cases zref_at hq hv2
    have hp' := zat_N hat hp
    rw [zat_L hat (by omega) hp] at hjl
    obtain ⟨i1, rfl, hi1⟩ := hv1.int
    rw [hj] at hi1
    obtain ⟨f0, a, f1, f2⟩ := hat.1.row h13 (zne50 he (by decide)) hp'
    rw [he] at f1 f2
    obtain ⟨g, rfl, f3⟩ := f2.i (by decide)
    obtain ⟨t0, ht0⟩ := ztys_at cA (e := 0) (by decide)
    obtain ⟨k1, k2⟩ := zix_in hi1 hjl
    refine va_iald hx hb hK hat.2.1 (pos I.2.2.2 q) t0 f1 ht0 k1 hdg ?_
    rw [k2]
    exact hg ws μ pos H locs lsJ _ hat hl ⟨zvr.i' (f3 j hjl), hs2⟩
theorem zs_iast (hx : p.tables.exec = Jvm.exec) (hb : c.code = cc) (hk : ∀ pc ls st h, kont pc ls st h = some r → zGo p l e R s m args below meth c Q A H0 σ cA D b L xs al C0 S0 μ0 N0 nL r pc ls st h) (hK : va_K D zcl (ztys cA) s) {I : zI} (hdg : decode cc pc = .ok (.iastore, 1)) {ls : List (Option zV)} {st : List zV} {h : zH} (hr : zoast 0 0 zPP al call I kont kret kthr pc ls st h = some r) : zGo p l e R s m args below meth c Q A H0 σ cA D b L xs al C0 S0 μ0 N0 nL r pc ls st h := by
  rcases st with _ | ⟨⟨t1, x1⟩, _ | ⟨⟨t2, x2⟩, _ | ⟨⟨t3, x3⟩, st⟩⟩⟩
  · cases hr
  · cases hr
  · cases hr
  · simp only [zoast] at hr
    obtain ⟨hc, hr⟩ := zif_some hr
    obtain ⟨hc, he⟩ := zand_t hc
    obtain ⟨hc, hc3⟩ := zand_t hc
    obtain ⟨hc, h13⟩ := zand_t hc
    obtain ⟨hc1, hc2⟩ := zand_t hc
    have h13 := Nat.le_of_ble_eq_true h13
    have he := Nat.eq_of_beq_eq_true he
    obtain ⟨q, hq, hr, hp⟩ := zobm_some hr
    obtain ⟨j, hj, hjl, hr⟩ := zix_some hr
    obtain ⟨hr, hn1, hn2⟩ := znar_some hr
    unfold zlet at hr
    obtain ⟨hm, hg⟩ := hk _ _ _ _ hr
    refine ⟨hm, fun ws μ pos H locs lsJ stJ hat hl hs => ?_⟩
    obtain ⟨v1, sJ1, rfl, hv1, hs1⟩ := hs.cons
    obtain ⟨v2, sJ2, rfl, hv2, hs2⟩ := hs1.cons
    obtain ⟨v3, sJ3, rfl, hv3, hs3⟩ := hs2.cons
    rw [Nat.eq_of_beq_eq_true hc1] at hv1
    rw [Nat.eq_of_beq_eq_true hc2] at hv2
    rw [Nat.eq_of_beq_eq_true hc3] at hv3
    cases zref_at hq hv3
    have hp' := zat_N hat hp
    rw [zat_L hat (by omega) hp] at hjl
    obtain ⟨i1, rfl, hi1⟩ := hv1.int
    obtain ⟨i2, rfl, hi2⟩ := hv2.int
    rw [hj] at hi2
    subst hi1
    obtain ⟨f0, a, f1, f2⟩ := hat.1.row h13 (zne50 he (by decide)) hp'
    rw [he] at f1 f2
    obtain ⟨g, rfl, f3⟩ := f2.i (by decide)
    obtain ⟨t0, ht0⟩ := ztys_at cA (e := 0) (by decide)
    obtain ⟨k1, k2⟩ := zix_in hi2 hjl
    refine va_iast hx hb hK hat.2.1 hat.2.2.1 hat.2.2.2.1 (pos I.2.2.2 q) t0 f1 ht0 k1 hdg (fun H1 locs1 hP1 hD1 hS1 => ?_)
    rw [k2] at hP1 hD1
    refine hg _ μ pos H1 locs1 lsJ _ (hat.put (zne50 he (by decide)) hp' (Or.inr ⟨h13, f0, _, by rw [he], ⟨rfl, ?_⟩⟩) (fun _ h12 => by omega) hP1 hD1 hS1) hl hs3
    rw [he]
    refine Or.inl ⟨by decide, _, rfl, fun j2 hj2 => ?_⟩
    rw [zhD_set_at]
    show _ = _
    unfold upd
    split
    · rfl
    · exact f3 j2 hj2
theorem zs_zald (hx : p.tables.exec = Jvm.exec) (hb : c.code = cc) (hk : ∀ pc ls st h, kont pc ls st h = some r → zGo p l e R s m args below meth c Q A H0 σ cA D b L xs al C0 S0 μ0 N0 nL r pc ls st h) (hK : va_K D zcl (ztys cA) s) {I : zI} (hdg : decode cc pc = .ok (.baload, 1)) {ls : List (Option zV)} {st : List zV} {h : zH} (hr : zoald 1 0 zPP al call I kont kret kthr pc ls st h = some r) : zGo p l e R s m args below meth c Q A H0 σ cA D b L xs al C0 S0 μ0 N0 nL r pc ls st h := by
  rcases st with _ | ⟨⟨t1, x1⟩, _ | ⟨⟨t2, x2⟩, st⟩⟩
  · cases hr
  · cases hr
  · simp only [zoald] at hr
    obtain ⟨hc, hr⟩ := zif_some hr
    obtain ⟨hc, he⟩ := zand_t hc
    obtain ⟨hc, hc2⟩ := zand_t hc
    obtain ⟨hc1, h13⟩ := zand_t hc
    have h13 := Nat.le_of_ble_eq_true h13
    have he := Nat.eq_of_beq_eq_true he
    obtain ⟨q, hq, hr, hp⟩ := zobm_some hr
    obtain ⟨j, hj, hjl, hr⟩ := zix_some hr
    obtain ⟨hm, hg⟩ := hk _ _ _ _ hr
    refine ⟨hm, fun ws μ pos H locs lsJ stJ hat hl hs => ?_⟩
    obtain ⟨v1, sJ1, rfl, hv1, hs1⟩ := hs.cons
    obtain ⟨v2, sJ2, rfl, hv2, hs2⟩ := hs1.cons
    rw [Nat.eq_of_beq_eq_true hc1] at hv1
    rw [Nat.eq_of_beq_eq_true hc2] at hv2
    cases zref_at hq hv2
    have hp' := zat_N hat hp
    rw [zat_L hat (by omega) hp] at hjl
    obtain ⟨i1, rfl, hi1⟩ := hv1.int
    rw [hj] at hi1
    obtain ⟨f0, a, f1, f2⟩ := hat.1.row h13 (zne50 he (by decide)) hp'
    rw [he] at f1 f2
    obtain ⟨g, rfl, f3⟩ := f2.i (by decide)
    obtain ⟨t0, ht0⟩ := ztys_at cA (e := 1) (by decide)
    obtain ⟨k1, k2⟩ := zix_in hi1 hjl
    refine va_zald hx hb hK hat.2.1 (pos I.2.2.2 q) t0 f1 ht0 k1 hdg ?_
    rw [k2]
    exact hg ws μ pos H locs lsJ _ hat hl ⟨zvr.i' (f3 j hjl), hs2⟩
theorem zs_zast (hx : p.tables.exec = Jvm.exec) (hb : c.code = cc) (hk : ∀ pc ls st h, kont pc ls st h = some r → zGo p l e R s m args below meth c Q A H0 σ cA D b L xs al C0 S0 μ0 N0 nL r pc ls st h) (hK : va_K D zcl (ztys cA) s) {I : zI} (hdg : decode cc pc = .ok (.bastore, 1)) {ls : List (Option zV)} {st : List zV} {h : zH} (hr : zoast 1 0 zPP al call I kont kret kthr pc ls st h = some r) : zGo p l e R s m args below meth c Q A H0 σ cA D b L xs al C0 S0 μ0 N0 nL r pc ls st h := by
  rcases st with _ | ⟨⟨t1, x1⟩, _ | ⟨⟨t2, x2⟩, _ | ⟨⟨t3, x3⟩, st⟩⟩⟩
  · cases hr
  · cases hr
  · cases hr
  · simp only [zoast] at hr
    obtain ⟨hc, hr⟩ := zif_some hr
    obtain ⟨hc, he⟩ := zand_t hc
    obtain ⟨hc, hc3⟩ := zand_t hc
    obtain ⟨hc, h13⟩ := zand_t hc
    obtain ⟨hc1, hc2⟩ := zand_t hc
    have h13 := Nat.le_of_ble_eq_true h13
    have he := Nat.eq_of_beq_eq_true he
    obtain ⟨q, hq, hr, hp⟩ := zobm_some hr
    obtain ⟨j, hj, hjl, hr⟩ := zix_some hr
    obtain ⟨hr, hn1, hn2⟩ := znar_some hr
    unfold zlet at hr
    obtain ⟨hm, hg⟩ := hk _ _ _ _ hr
    refine ⟨hm, fun ws μ pos H locs lsJ stJ hat hl hs => ?_⟩
    obtain ⟨v1, sJ1, rfl, hv1, hs1⟩ := hs.cons
    obtain ⟨v2, sJ2, rfl, hv2, hs2⟩ := hs1.cons
    obtain ⟨v3, sJ3, rfl, hv3, hs3⟩ := hs2.cons
    rw [Nat.eq_of_beq_eq_true hc1] at hv1
    rw [Nat.eq_of_beq_eq_true hc2] at hv2
    rw [Nat.eq_of_beq_eq_true hc3] at hv3
    cases zref_at hq hv3
    have hp' := zat_N hat hp
    rw [zat_L hat (by omega) hp] at hjl
    obtain ⟨i1, rfl, hi1⟩ := hv1.int
    obtain ⟨i2, rfl, hi2⟩ := hv2.int
    rw [hj] at hi2
    subst hi1
    obtain ⟨f0, a, f1, f2⟩ := hat.1.row h13 (zne50 he (by decide)) hp'
    rw [he] at f1 f2
    obtain ⟨g, rfl, f3⟩ := f2.i (by decide)
    obtain ⟨t0, ht0⟩ := ztys_at cA (e := 1) (by decide)
    obtain ⟨k1, k2⟩ := zix_in hi2 hjl
    have hnar : vp_nar .boolean i1 = i1 := by
      rcases hn1 rfl with z | z
      · rw [(z_eq i1 0).mpr z]; rfl
      · rw [(z_eq i1 1).mpr z]; rfl
    refine va_zast hx hb hK hat.2.1 hat.2.2.1 hat.2.2.2.1 (pos I.2.2.2 q) t0 f1 ht0 k1 hdg (fun H1 locs1 hP1 hD1 hS1 => ?_)
    rw [k2] at hP1 hD1
    rw [hnar] at hP1 hD1
    refine hg _ μ pos H1 locs1 lsJ _ (hat.put (zne50 he (by decide)) hp' (Or.inr ⟨h13, f0, _, by rw [he], ⟨rfl, ?_⟩⟩) (fun _ h12 => by omega) hP1 hD1 hS1) hl hs3
    rw [he]
    refine Or.inl ⟨by decide, _, rfl, fun j2 hj2 => ?_⟩
    rw [zhD_set_at]
    show _ = _
    unfold upd
    split
    · rfl
    · exact f3 j2 hj2
theorem zs_cald (hx : p.tables.exec = Jvm.exec) (hb : c.code = cc) (hk : ∀ pc ls st h, kont pc ls st h = some r → zGo p l e R s m args below meth c Q A H0 σ cA D b L xs al C0 S0 μ0 N0 nL r pc ls st h) (hK : va_K D zcl (ztys cA) s) {I : zI} (hdg : decode cc pc = .ok (.caload, 1)) {ls : List (Option zV)} {st : List zV} {h : zH} (hr : zoald 2 0 zPP al call I kont kret kthr pc ls st h = some r) : zGo p l e R s m args below meth c Q A H0 σ cA D b L xs al C0 S0 μ0 N0 nL r pc ls st h := by
  rcases st with _ | ⟨⟨t1, x1⟩, _ | ⟨⟨t2, x2⟩, st⟩⟩
  · cases hr
  · cases hr
  · simp only [zoald] at hr
    obtain ⟨hc, hr⟩ := zif_some hr
    obtain ⟨hc, he⟩ := zand_t hc
    obtain ⟨hc, hc2⟩ := zand_t hc
    obtain ⟨hc1, h13⟩ := zand_t hc
    have h13 := Nat.le_of_ble_eq_true h13
    have he := Nat.eq_of_beq_eq_true he
    obtain ⟨q, hq, hr, hp⟩ := zobm_some hr
    obtain ⟨j, hj, hjl, hr⟩ := zix_some hr
    obtain ⟨hm, hg⟩ := hk _ _ _ _ hr
    refine ⟨hm, fun ws μ pos H locs lsJ stJ hat hl hs => ?_⟩
    obtain ⟨v1, sJ1, rfl, hv1, hs1⟩ := hs.cons
    obtain ⟨v2, sJ2, rfl, hv2, hs2⟩ := hs1.cons
    rw [Nat.eq_of_beq_eq_true hc1] at hv1
    rw [Nat.eq_of_beq_eq_true hc2] at hv2
    cases zref_at hq hv2
    have hp' := zat_N hat hp
    rw [zat_L hat (by omega) hp] at hjl
    obtain ⟨i1, rfl, hi1⟩ := hv1.int
    rw [hj] at hi1
    obtain ⟨f0, a, f1, f2⟩ := hat.1.row h13 (zne50 he (by decide)) hp'
    rw [he] at f1 f2
    obtain ⟨g, rfl, f3⟩ := f2.i (by decide)
    obtain ⟨t0, ht0⟩ := ztys_at cA (e := 2) (by decide)
    obtain ⟨k1, k2⟩ := zix_in hi1 hjl
    refine va_cald hx hb hK hat.2.1 (pos I.2.2.2 q) t0 f1 ht0 k1 hdg ?_
    rw [k2]
    exact hg ws μ pos H locs lsJ _ hat hl ⟨zvr.i' (f3 j hjl), hs2⟩
theorem zs_cast (hx : p.tables.exec = Jvm.exec) (hb : c.code = cc) (hk : ∀ pc ls st h, kont pc ls st h = some r → zGo p l e R s m args below meth c Q A H0 σ cA D b L xs al C0 S0 μ0 N0 nL r pc ls st h) (hK : va_K D zcl (ztys cA) s) {I : zI} (hdg : decode cc pc = .ok (.castore, 1)) {ls : List (Option zV)} {st : List zV} {h : zH} (hr : zoast 2 0 zPP al call I kont kret kthr pc ls st h = some r) : zGo p l e R s m args below meth c Q A H0 σ cA D b L xs al C0 S0 μ0 N0 nL r pc ls st h := by
  rcases st with _ | ⟨⟨t1, x1⟩, _ | ⟨⟨t2, x2⟩, _ | ⟨⟨t3, x3⟩, st⟩⟩⟩
  · cases hr
  · cases hr
  · cases hr
  · simp only [zoast] at hr
    obtain ⟨hc, hr⟩ := zif_some hr
    obtain ⟨hc, he⟩ := zand_t hc
    obtain ⟨hc, hc3⟩ := zand_t hc
    obtain ⟨hc, h13⟩ := zand_t hc
    obtain ⟨hc1, hc2⟩ := zand_t hc
    have h13 := Nat.le_of_ble_eq_true h13
    have he := Nat.eq_of_beq_eq_true he
    obtain ⟨q, hq, hr, hp⟩ := zobm_some hr
    obtain ⟨j, hj, hjl, hr⟩ := zix_some hr
    obtain ⟨hr, hn1, hn2⟩ := znar_some hr
    unfold zlet at hr
    obtain ⟨hm, hg⟩ := hk _ _ _ _ hr
    refine ⟨hm, fun ws μ pos H locs lsJ stJ hat hl hs => ?_⟩
    obtain ⟨v1, sJ1, rfl, hv1, hs1⟩ := hs.cons
    obtain ⟨v2, sJ2, rfl, hv2, hs2⟩ := hs1.cons
    obtain ⟨v3, sJ3, rfl, hv3, hs3⟩ := hs2.cons
    rw [Nat.eq_of_beq_eq_true hc1] at hv1
    rw [Nat.eq_of_beq_eq_true hc2] at hv2
    rw [Nat.eq_of_beq_eq_true hc3] at hv3
    cases zref_at hq hv3
    have hp' := zat_N hat hp
    rw [zat_L hat (by omega) hp] at hjl
    obtain ⟨i1, rfl, hi1⟩ := hv1.int
    obtain ⟨i2, rfl, hi2⟩ := hv2.int
    rw [hj] at hi2
    subst hi1
    obtain ⟨f0, a, f1, f2⟩ := hat.1.row h13 (zne50 he (by decide)) hp'
    rw [he] at f1 f2
    obtain ⟨g, rfl, f3⟩ := f2.i (by decide)
    obtain ⟨t0, ht0⟩ := ztys_at cA (e := 2) (by decide)
    obtain ⟨k1, k2⟩ := zix_in hi2 hjl
    have hnar : vp_nar .char i1 = i1 := by
      obtain ⟨q1, q2⟩ := hn2 rfl
      obtain ⟨j9, hj9, rfl⟩ := nI_of (x := i1) (fun z => by have := (z_lt i1 0).mp z; rw [z_0] at this; omega)
      rw [nI_toInt hj9] at q2
      have := (pk_charN (q := j9) (by omega)).1
      unfold vp_nar
      rw [this]
    refine va_cast hx hb hK hat.2.1 hat.2.2.1 hat.2.2.2.1 (pos I.2.2.2 q) t0 f1 ht0 k1 hdg (fun H1 locs1 hP1 hD1 hS1 => ?_)
    rw [k2] at hP1 hD1
    rw [hnar] at hP1 hD1
    refine hg _ μ pos H1 locs1 lsJ _ (hat.put (zne50 he (by decide)) hp' (Or.inr ⟨h13, f0, _, by rw [he], ⟨rfl, ?_⟩⟩) (fun _ h12 => by omega) hP1 hD1 hS1) hl hs3
    rw [he]
    refine Or.inl ⟨by decide, _, rfl, fun j2 hj2 => ?_⟩
    rw [zhD_set_at]
    show _ = _
    unfold upd
    split
    · rfl
    · exact f3 j2 hj2
theorem zs_lald (hx : p.tables.exec = Jvm.exec) (hb : c.code = cc) (hk : ∀ pc ls st h, kont pc ls st h = some r → zGo p l e R s m args below meth c Q A H0 σ cA D b L xs al C0 S0 μ0 N0 nL r pc ls st h) (hK : va_K D zcl (ztys cA) s) {I : zI} (hdg : decode cc pc = .ok (.laload, 1)) {ls : List (Option zV)} {st : List zV} {h : zH} (hr : zoald 3 1 zPP al call I kont kret kthr pc ls st h = some r) : zGo p l e R s m args below meth c Q A H0 σ cA D b L xs al C0 S0 μ0 N0 nL r pc ls st h := by
  rcases st with _ | ⟨⟨t1, x1⟩, _ | ⟨⟨t2, x2⟩, st⟩⟩
  · cases hr
  · cases hr
  · simp only [zoald] at hr
    obtain ⟨hc, hr⟩ := zif_some hr
    obtain ⟨hc, he⟩ := zand_t hc
    obtain ⟨hc, hc2⟩ := zand_t hc
    obtain ⟨hc1, h13⟩ := zand_t hc
    have h13 := Nat.le_of_ble_eq_true h13
    have he := Nat.eq_of_beq_eq_true he
    obtain ⟨q, hq, hr, hp⟩ := zobm_some hr
    obtain ⟨j, hj, hjl, hr⟩ := zix_some hr
    obtain ⟨hm, hg⟩ := hk _ _ _ _ hr
    refine ⟨hm, fun ws μ pos H locs lsJ stJ hat hl hs => ?_⟩
    obtain ⟨v1, sJ1, rfl, hv1, hs1⟩ := hs.cons
    obtain ⟨v2, sJ2, rfl, hv2, hs2⟩ := hs1.cons
    rw [Nat.eq_of_beq_eq_true hc1] at hv1
    rw [Nat.eq_of_beq_eq_true hc2] at hv2
    cases zref_at hq hv2
    have hp' := zat_N hat hp
    rw [zat_L hat (by omega) hp] at hjl
    obtain ⟨i1, rfl, hi1⟩ := hv1.int
    rw [hj] at hi1
    obtain ⟨f0, a, f1, f2⟩ := hat.1.row h13 (zne50 he (by decide)) hp'
    rw [he] at f1 f2
    obtain ⟨g, rfl, f3⟩ := f2.ll
    obtain ⟨t0, ht0⟩ := ztys_at cA (e := 3) (by decide)
    obtain ⟨k1, k2⟩ := zix_in hi1 hjl
    refine va_lald hx hb hK hat.2.1 (pos I.2.2.2 q) t0 f1 ht0 k1 hdg ?_
    rw [k2]
    exact hg ws μ pos H locs lsJ _ hat hl ⟨zvr.l' (f3 j hjl), hs2⟩
theorem zs_last (hx : p.tables.exec = Jvm.exec) (hb : c.code = cc) (hk : ∀ pc ls st h, kont pc ls st h = some r → zGo p l e R s m args below meth c Q A H0 σ cA D b L xs al C0 S0 μ0 N0 nL r pc ls st h) (hK : va_K D zcl (ztys cA) s) {I : zI} (hdg : decode cc pc = .ok (.lastore, 1)) {ls : List (Option zV)} {st : List zV} {h : zH} (hr : zoast 3 1 zPP al call I kont kret kthr pc ls st h = some r) : zGo p l e R s m args below meth c Q A H0 σ cA D b L xs al C0 S0 μ0 N0 nL r pc ls st h := by
  rcases st with _ | ⟨⟨t1, x1⟩, _ | ⟨⟨t2, x2⟩, _ | ⟨⟨t3, x3⟩, st⟩⟩⟩
  · cases hr
  · cases hr
  · cases hr
  · simp only [zoast] at hr
    obtain ⟨hc, hr⟩ := zif_some hr
    obtain ⟨hc, he⟩ := zand_t hc
    obtain ⟨hc, hc3⟩ := zand_t hc
    obtain ⟨hc, h13⟩ := zand_t hc
    obtain ⟨hc1, hc2⟩ := zand_t hc
    have h13 := Nat.le_of_ble_eq_true h13
    have he := Nat.eq_of_beq_eq_true he
    obtain ⟨q, hq, hr, hp⟩ := zobm_some hr
    obtain ⟨j, hj, hjl, hr⟩ := zix_some hr
    obtain ⟨hr, hn1, hn2⟩ := znar_some hr
    unfold zlet at hr
    obtain ⟨hm, hg⟩ := hk _ _ _ _ hr
    refine ⟨hm, fun ws μ pos H locs lsJ stJ hat hl hs => ?_⟩
    obtain ⟨v1, sJ1, rfl, hv1, hs1⟩ := hs.cons
    obtain ⟨v2, sJ2, rfl, hv2, hs2⟩ := hs1.cons
    obtain ⟨v3, sJ3, rfl, hv3, hs3⟩ := hs2.cons
    rw [Nat.eq_of_beq_eq_true hc1] at hv1
    rw [Nat.eq_of_beq_eq_true hc2] at hv2
    rw [Nat.eq_of_beq_eq_true hc3] at hv3
    cases zref_at hq hv3
    have hp' := zat_N hat hp
    rw [zat_L hat (by omega) hp] at hjl
    obtain ⟨i1, rfl, hi1⟩ := hv1.long
    obtain ⟨i2, rfl, hi2⟩ := hv2.int
    rw [hj] at hi2
    subst hi1
    obtain ⟨f0, a, f1, f2⟩ := hat.1.row h13 (zne50 he (by decide)) hp'
    rw [he] at f1 f2
    obtain ⟨g, rfl, f3⟩ := f2.ll
    obtain ⟨t0, ht0⟩ := ztys_at cA (e := 3) (by decide)
    obtain ⟨k1, k2⟩ := zix_in hi2 hjl
    refine va_last hx hb hK hat.2.1 hat.2.2.1 hat.2.2.2.1 (pos I.2.2.2 q) t0 f1 ht0 k1 hdg (fun H1 locs1 hP1 hD1 hS1 => ?_)
    rw [k2] at hP1 hD1
    refine hg _ μ pos H1 locs1 lsJ _ (hat.put (zne50 he (by decide)) hp' (Or.inr ⟨h13, f0, _, by rw [he], ⟨rfl, ?_⟩⟩) (fun _ h12 => by omega) hP1 hD1 hS1) hl hs3
    rw [he]
    refine Or.inr (Or.inl ⟨rfl, _, rfl, fun j2 hj2 => ?_⟩)
    rw [zhD_set_at]
    show _ = _
    unfold vp_updL
    split
    · rfl
    · exact f3 j2 hj2
theorem zs_dald (hx : p.tables.exec = Jvm.exec) (hb : c.code = cc) (hk : ∀ pc ls st h, kont pc ls st h = some r → zGo p l e R s m args below meth c Q A H0 σ cA D b L xs al C0 S0 μ0 N0 nL r pc ls st h) (hK : va_K D zcl (ztys cA) s) {I : zI} (hdg : decode cc pc = .ok (.daload, 1)) {ls : List (Option zV)} {st : List zV} {h : zH} (hr : zoald 6 6 zPP al call I kont kret kthr pc ls st h = some r) : zGo p l e R s m args below meth c Q A H0 σ cA D b L xs al C0 S0 μ0 N0 nL r pc ls st h := by
  rcases st with _ | ⟨⟨t1, x1⟩, _ | ⟨⟨t2, x2⟩, st⟩⟩
  · cases hr
  · cases hr
  · simp only [zoald] at hr
    obtain ⟨hc, hr⟩ := zif_some hr
    obtain ⟨hc, he⟩ := zand_t hc
    obtain ⟨hc, hc2⟩ := zand_t hc
    obtain ⟨hc1, h13⟩ := zand_t hc
    have h13 := Nat.le_of_ble_eq_true h13
    have he := Nat.eq_of_beq_eq_true he
    obtain ⟨q, hq, hr, hp⟩ := zobm_some hr
    obtain ⟨j, hj, hjl, hr⟩ := zix_some hr
    obtain ⟨hm, hg⟩ := hk _ _ _ _ hr
    refine ⟨hm, fun ws μ pos H locs lsJ stJ hat hl hs => ?_⟩
    obtain ⟨v1, sJ1, rfl, hv1, hs1⟩ := hs.cons
    obtain ⟨v2, sJ2, rfl, hv2, hs2⟩ := hs1.cons
    rw [Nat.eq_of_beq_eq_true hc1] at hv1
    rw [Nat.eq_of_beq_eq_true hc2] at hv2
    cases zref_at hq hv2
    have hp' := zat_N hat hp
    rw [zat_L hat (by omega) hp] at hjl
    obtain ⟨i1, rfl, hi1⟩ := hv1.int
    rw [hj] at hi1
    obtain ⟨f0, a, f1, f2⟩ := hat.1.row h13 (zne50 he (by decide)) hp'
    rw [he] at f1 f2
    obtain ⟨g, rfl, f3⟩ := f2.dd
    obtain ⟨t0, ht0⟩ := ztys_at cA (e := 6) (by decide)
    obtain ⟨k1, k2⟩ := zix_in hi1 hjl
    refine va_dald hx hb hK hat.2.1 (pos I.2.2.2 q) t0 f1 ht0 k1 hdg ?_
    rw [k2]
    exact hg ws μ pos H locs lsJ _ hat hl ⟨zvr.d' (f3 j hjl), hs2⟩
theorem zs_dast (hx : p.tables.exec = Jvm.exec) (hb : c.code = cc) (hk : ∀ pc ls st h, kont pc ls st h = some r → zGo p l e R s m args below meth c Q A H0 σ cA D b L xs al C0 S0 μ0 N0 nL r pc ls st h) (hK : va_K D zcl (ztys cA) s) {I : zI} (hdg : decode cc pc = .ok (.dastore, 1)) {ls : List (Option zV)} {st : List zV} {h : zH} (hr : zoast 6 6 zPP al call I kont kret kthr pc ls st h = some r) : zGo p l e R s m args below meth c Q A H0 σ cA D b L xs al C0 S0 μ0 N0 nL r pc ls st h := by
  rcases st with _ | ⟨⟨t1, x1⟩, _ | ⟨⟨t2, x2⟩, _ | ⟨⟨t3, x3⟩, st⟩⟩⟩
  · cases hr
  · cases hr
  · cases hr
  · simp only [zoast] at hr
    obtain ⟨hc, hr⟩ := zif_some hr
    obtain ⟨hc, he⟩ := zand_t hc
    obtain ⟨hc, hc3⟩ := zand_t hc
    obtain ⟨hc, h13⟩ := zand_t hc
    obtain ⟨hc1, hc2⟩ := zand_t hc
    have h13 := Nat.le_of_ble_eq_true h13
    have he := Nat.eq_of_beq_eq_true he
    obtain ⟨q, hq, hr, hp⟩ := zobm_some hr
    obtain ⟨j, hj, hjl, hr⟩ := zix_some hr
    obtain ⟨hr, hn1, hn2⟩ := znar_some hr
    unfold zlet at hr
    obtain ⟨hm, hg⟩ := hk _ _ _ _ hr
    refine ⟨hm, fun ws μ pos H locs lsJ stJ hat hl hs => ?_⟩
    obtain ⟨v1, sJ1, rfl, hv1, hs1⟩ := hs.cons
    obtain ⟨v2, sJ2, rfl, hv2, hs2⟩ := hs1.cons
    obtain ⟨v3, sJ3, rfl, hv3, hs3⟩ := hs2.cons
    rw [Nat.eq_of_beq_eq_true hc1] at hv1
    rw [Nat.eq_of_beq_eq_true hc2] at hv2
    rw [Nat.eq_of_beq_eq_true hc3] at hv3
    cases zref_at hq hv3
    have hp' := zat_N hat hp
    rw [zat_L hat (by omega) hp] at hjl
    obtain ⟨i1, rfl, hi1⟩ := hv1.dbl
    obtain ⟨i2, rfl, hi2⟩ := hv2.int
    rw [hj] at hi2
    subst hi1
    obtain ⟨f0, a, f1, f2⟩ := hat.1.row h13 (zne50 he (by decide)) hp'
    rw [he] at f1 f2
    obtain ⟨g, rfl, f3⟩ := f2.dd
    obtain ⟨t0, ht0⟩ := ztys_at cA (e := 6) (by decide)
    obtain ⟨k1, k2⟩ := zix_in hi2 hjl
    refine va_dast hx hb hK hat.2.1 hat.2.2.1 hat.2.2.2.1 (pos I.2.2.2 q) t0 f1 ht0 k1 hdg (fun H1 locs1 hP1 hD1 hS1 => ?_)
    rw [k2] at hP1 hD1
    refine hg _ μ pos H1 locs1 lsJ _ (hat.put (zne50 he (by decide)) hp' (Or.inr ⟨h13, f0, _, by rw [he], ⟨rfl, ?_⟩⟩) (fun _ h12 => by omega) hP1 hD1 hS1) hl hs3
    rw [he]
    refine Or.inr (Or.inr (Or.inl ⟨rfl, _, rfl, fun j2 hj2 => ?_⟩))
    rw [zhD_set_at]
    show ((vf_upd g j i1 j2).toNat : Int) = _
    unfold vf_upd
    split
    · rfl
    · exact f3 j2 hj2
theorem zty_ref {e : Nat} (he : 100 ≤ e) : zty e = .object (zCn (e - 100)) := by unfold zty; split <;> first | omega | rfl
theorem zs_aald (hx : p.tables.exec = Jvm.exec) (hb : c.code = cc) (hk : ∀ pc ls st h, kont pc ls st h = some r → zGo p l e R s m args below meth c Q A H0 σ cA D b L xs al C0 S0 μ0 N0 nL r pc ls st h) (hK : va_K D zcl (ztys cA) s) {I : zI} (hdg : decode cc pc = .ok (.aaload, 1)) {ls : List (Option zV)} {st : List zV} {h : zH} (hr : zoaald zPP al call I kont kret kthr pc ls st h = some r) : zGo p l e R s m args below meth c Q A H0 σ cA D b L xs al C0 S0 μ0 N0 nL r pc ls st h := by
  rcases st with _ | ⟨⟨t1, x1⟩, _ | ⟨⟨t2, x2⟩, st⟩⟩
  · cases hr
  · cases hr
  · simp only [zoaald] at hr
    obtain ⟨hc, hr⟩ := zif_some hr
    obtain ⟨hc, he⟩ := zand_t hc
    obtain ⟨hc, hc2⟩ := zand_t hc
    obtain ⟨hc1, h13⟩ := zand_t hc
    have h13 := Nat.le_of_ble_eq_true h13
    have he := Nat.le_of_ble_eq_true he
    obtain ⟨q, hq, hr, hp⟩ := zobm_some hr
    obtain ⟨j, hj, hjl, hr⟩ := zix_some hr
    obtain ⟨hm, hg⟩ := hk _ _ _ _ hr
    refine ⟨hm, fun ws μ pos H locs lsJ stJ hat hl hs => ?_⟩
    obtain ⟨v1, sJ1, rfl, hv1, hs1⟩ := hs.cons
    obtain ⟨v2, sJ2, rfl, hv2, hs2⟩ := hs1.cons
    rw [Nat.eq_of_beq_eq_true hc1] at hv1
    rw [Nat.eq_of_beq_eq_true hc2] at hv2
    cases zref_at hq hv2
    have hp' := zat_N hat hp
    rw [zat_L hat (by omega) hp] at hjl
    obtain ⟨i1, rfl, hi1⟩ := hv1.int
    rw [hj] at hi1
    obtain ⟨m1, m2⟩ := zes_of he h13
    have h50 : I.2.2.2 ≠ 50 := by
      intro z
      rw [z] at he
      exact absurd he (by decide)
    obtain ⟨f0, a, f1, f2⟩ := hat.1.row h13 h50 hp'
    obtain ⟨g, rfl, f3⟩ := f2.q he
    obtain ⟨t0, ht0⟩ := ztys_at cA m1
    rw [zty_ref he] at ht0
    obtain ⟨k1, k2⟩ := zix_in hi1 hjl
    refine va_aldq hx hb hK hat.2.1 (pos I.2.2.2 q) t0 f1 ht0 k1 hdg ?_
    rw [k2]
    refine hg ws μ pos H locs lsJ _ hat hl ⟨?_, hs2⟩
    rcases f3 j hjl with ⟨z1, z2⟩ | ⟨z1, z2, z3⟩
    · rw [z1, z2]; exact zvr.n' he
    · rw [z3]; exact zvr.r' he z1 z2
theorem zs_aast (hx : p.tables.exec = Jvm.exec) (hb : c.code = cc) (hk : ∀ pc ls st h, kont pc ls st h = some r → zGo p l e R s m args below meth c Q A H0 σ cA D b L xs al C0 S0 μ0 N0 nL r pc ls st h) (hK : va_K D zcl (ztys cA) s) {I : zI} (hdg : decode cc pc = .ok (.aastore, 1)) {ls : List (Option zV)} {st : List zV} {h : zH} (hr : zoaast zPP al call I kont kret kthr pc ls st h = some r) : zGo p l e R s m args below meth c Q A H0 σ cA D b L xs al C0 S0 μ0 N0 nL r pc ls st h := by
  rcases st with _ | ⟨⟨t1, x1⟩, _ | ⟨⟨t2, x2⟩, _ | ⟨⟨t3, x3⟩, st⟩⟩⟩
  · cases hr
  · cases hr
  · cases hr
  · simp only [zoaast] at hr
    obtain ⟨hc, hr⟩ := zif_some hr
    obtain ⟨hc, hte⟩ := zand_t hc
    obtain ⟨hc, ht1⟩ := zand_t hc
    obtain ⟨hc, hc3⟩ := zand_t hc
    obtain ⟨hc, h13⟩ := zand_t hc
    obtain ⟨hc0, hc2⟩ := zand_t hc
    have h13 := Nat.le_of_ble_eq_true h13
    have hte := Nat.eq_of_beq_eq_true hte
    have he := Nat.le_of_ble_eq_true ht1
    rw [hte] at he
    obtain ⟨q, hq, hr, hp⟩ := zobm_some hr
    obtain ⟨j, hj, hjl, hr⟩ := zix_some hr
    unfold zorn zlet at hr
    split at hr
    case isFalse => cases hr
    obtain ⟨hm, hg⟩ := hk _ _ _ _ hr
    refine ⟨hm, fun ws μ pos H locs lsJ stJ hat hl hs => ?_⟩
    obtain ⟨v1, sJ1, rfl, hv1, hs1⟩ := hs.cons
    obtain ⟨v2, sJ2, rfl, hv2, hs2⟩ := hs1.cons
    obtain ⟨v3, sJ3, rfl, hv3, hs3⟩ := hs2.cons
    rw [hte] at hv1
    rw [Nat.eq_of_beq_eq_true hc2] at hv2
    rw [Nat.eq_of_beq_eq_true hc3] at hv3
    cases zref_at hq hv3
    have hp' := zat_N hat hp
    rw [zat_L hat (by omega) hp] at hjl
    obtain ⟨i2, rfl, hi2⟩ := hv2.int
    rw [hj] at hi2
    obtain ⟨m1, m2⟩ := zes_of he h13
    have h50 : I.2.2.2 ≠ 50 := by
      intro z
      rw [z] at he
      exact absurd he (by decide)
    obtain ⟨f0, a, f1, f2⟩ := hat.1.row h13 h50 hp'
    obtain ⟨g, rfl, f3⟩ := f2.q he
    obtain ⟨t0, ht0⟩ := ztys_at cA m1
    rw [zty_ref he] at ht0
    obtain ⟨k1, k2⟩ := zix_in hi2 hjl
    rcases hv1.ref he with ⟨z1, rfl⟩ | ⟨z1, z2, rfl⟩
    · refine va_astqN hx hb hK hat.2.1 hat.2.2.1 hat.2.2.2.1 (pos I.2.2.2 q) t0 f1 ht0 k1 hdg (fun H1 locs1 hP1 hD1 hS1 => ?_)
      rw [k2] at hP1 hD1
      refine hg _ μ pos H1 locs1 lsJ _ (hat.put h50 hp' (Or.inr ⟨h13, f0, _, rfl, ⟨rfl, Or.inr (Or.inr (Or.inr ⟨he, _, rfl, fun j2 hj2 => ?_⟩))⟩⟩) (fun _ h12 => by omega) hP1 hD1 hS1) hl hs3
      rw [zhD_set_at]
      unfold va_up
      by_cases hjj : j2 = j
      · rw [if_pos hjj, if_pos hjj]
        exact Or.inl ⟨z1, rfl⟩
      · rw [if_neg hjj, if_neg hjj]
        exact f3 j2 hj2
    · obtain ⟨fs, e1, e2, e3⟩ := hat.1.obj m2 (i := x1.toNat) (by omega)
      refine va_astq hx hb hK hat.2.1 hat.2.2.1 hat.2.2.2.1 (pos I.2.2.2 q) t0 (pos (zft zPP I.2.2.2 0 - 100) x1.toNat) (zft zPP I.2.2.2 0 - 100) f1 ht0 e1 (zcl_at m2) k1 hdg (fun H1 locs1 hP1 hD1 hS1 => ?_)
      rw [k2] at hP1 hD1
      refine hg _ μ pos H1 locs1 lsJ _ (hat.put h50 hp' (Or.inr ⟨h13, f0, _, rfl, ⟨rfl, Or.inr (Or.inr (Or.inr ⟨he, _, rfl, fun j2 hj2 => ?_⟩))⟩⟩) (fun _ h12 => by omega) hP1 hD1 hS1) hl hs3
      rw [zhD_set_at]
      unfold va_up
      by_cases hjj : j2 = j
      · rw [if_pos hjj, if_pos hjj]
        exact Or.inr ⟨z1, z2, rfl⟩
      · rw [if_neg hjj, if_neg hjj]
        exact f3 j2 hj2
theorem zs_alen (hx : p.tables.exec = Jvm.exec) (hb : c.code = cc) (hk : ∀ pc ls st h, kont pc ls st h = some r → zGo p l e R s m args below meth c Q A H0 σ cA D b L xs al C0 S0 μ0 N0 nL r pc ls st h) (hK : va_K D zcl (ztys cA) s) {I : zI} (hdg : decode cc pc = .ok (.arraylength, 1)) (hel : zft zPP I.2.2.2 0 ∈ zes) {ls : List (Option zV)} {st : List zV} {h : zH} (hr : zoalen zPP al call I kont kret kthr pc ls st h = some r) : zGo p l e R s m args below meth c Q A H0 σ cA D b L xs al C0 S0 μ0 N0 nL r pc ls st h := by
  rcases st with _ | ⟨⟨t1, x1⟩, st⟩
  · cases hr
  · simp only [zoalen] at hr
    obtain ⟨hc, hr⟩ := zif_some hr
    obtain ⟨hc, he⟩ := zand_t hc
    obtain ⟨hc1, h13⟩ := zand_t hc
    have h13 := Nat.le_of_ble_eq_true h13
    obtain ⟨q, hq, hr, hp⟩ := zobm_some hr
    obtain ⟨hm, hg⟩ := hk _ _ _ _ hr
    refine ⟨hm, fun ws μ pos H locs lsJ stJ hat hl hs => ?_⟩
    obtain ⟨v1, sJ1, rfl, hv1, hs1⟩ := hs.cons
    rw [Nat.eq_of_beq_eq_true hc1] at hv1
    cases zref_at hq hv1
    have hp' := zat_N hat hp
    rw [zat_L hat (by omega) hp] at hg
    obtain ⟨f0, a, f1, f2⟩ := hat.1.row h13 (zne50 rfl (Nat.ne_of_beq_eq_false (znot_t he))) hp'
    obtain ⟨t0, ht0⟩ := ztys_at cA hel
    have f3 : a.1 = zhL h I.2.2.2 q := f2.1
    refine va_alen hx hb hK hat.2.1 (pos I.2.2.2 q) t0 f1 ht0 (v := nI (zhL h I.2.2.2 q)) (by rw [f3]; rfl) hdg ?_
    exact hg ws μ pos H locs lsJ _ hat hl ⟨zvr.i' (nI_toInt (by omega)), hs1⟩
end
