/-! INSTRUCTIONS: what goes on soundly behind one goes on soundly at it -/
def zGo (p : Program) (l : Launch) (e : Env) (R : Room) (s : State) (m : MethodId) (args : Array Value) (below : List Frame) (meth : Method) (c : Code) (Q : State → Prop) (A : Nat → Prop) (H0 : Heap) (σ : Nat → Nat) (cA : Nat → ClassId) (D : va_G) (b L : Nat) (xs : Nat → Int32) (al : Bool) (C0 S0 : Nat) (μ0 : Nat → Nat → Nat) (N0 : Nat → Nat) (nL : Nat) (r : zRes) (pc : Nat) (ls : List (Option zV)) (st : List zV) (h : zH) : Prop :=
  (zhC h ≤ zhC (zrh r) ∧ zhS h ≤ zhS (zrh r)) ∧ ∀ (ws : va_W) (μ pos : Nat → Nat → Nat) (H : Heap) (locs : List Loc) (lsJ : Array Slot) (stJ : List Value), zAt s A H0 σ cA D b L xs al C0 S0 μ0 N0 h ws μ pos H locs → zLR σ μ (zhN h) nL ls lsJ → zSR σ μ (zhN h) st stJ → W p l e R s m args below meth c H locs (zhC h - C0) (zhS h - S0) Q (F0 m pc lsJ stJ)
theorem wr_bmod (z : Int) : wr z = z.bmod (2 ^ 32) := by
  unfold wr
  rw [Int.bmod_def]
  split <;> omega
theorem wrl_bmod (z : Int) : wrl z = z.bmod (2 ^ 64) := by
  unfold wrl
  rw [Int.bmod_def]
  split <;> omega
theorem z_i32 (i : Int32) : Int32.ofInt i.toInt = i := Int32.ofInt_toInt i
theorem z_i64 (i : Int64) : Int64.ofInt i.toInt = i := Int64.ofInt_toInt i
theorem z_f32 (i : UInt32) : zf32 (i.toNat : Int) = i := by simp [zf32]
theorem z_f64 (i : UInt64) : zf64 (i.toNat : Int) = i := by simp [zf64]
theorem z_add (x y : Int32) : (x + y).toInt = wr (x.toInt + y.toInt) := by rw [wr_bmod]; exact Int32.toInt_add x y
theorem z_sub (x y : Int32) : (x - y).toInt = wr (x.toInt - y.toInt) := by rw [wr_bmod]; exact Int32.toInt_sub x y
theorem z_mul (x y : Int32) : (x * y).toInt = wr (x.toInt * y.toInt) := by rw [wr_bmod]; exact Int32.toInt_mul x y
theorem z_div (x y : Int32) : (x / y).toInt = wr (Int.tdiv x.toInt y.toInt) := by rw [wr_bmod]; exact Int32.toInt_div x y
theorem fb_rngz (x : Int32) : -2147483648 ≤ x.toInt ∧ x.toInt < 2147483648 := ⟨Int32.le_toInt x, Int32.toInt_lt x⟩
theorem z_rem (x y : Int32) : (x - x / y * y).toInt = Int.tmod x.toInt y.toInt := by
  have h1 := Int32.toInt_sub x (x / y * y)
  rw [Int32.toInt_mul, Int32.toInt_div] at h1
  have h2 : (x.toInt - ((x.toInt.tdiv y.toInt).bmod (2 ^ 32) * y.toInt).bmod (2 ^ 32)).bmod (2 ^ 32) = (x.toInt - x.toInt.tdiv y.toInt * y.toInt).bmod (2 ^ 32) := by
    simp
  have h3 : x.toInt - x.toInt.tdiv y.toInt * y.toInt = Int.tmod x.toInt y.toInt := by
    have := Int.tdiv_mul_add_tmod x.toInt y.toInt
    omega
  rw [h1, h2, h3, ← Int32.toInt_mod]
  have h4 := fb_rngz (x % y)
  rw [Int.bmod_def]
  split <;> omega
theorem z_and (x y : Int32) : (x &&& y).toInt = zand x.toInt y.toInt := by unfold zand; rw [z_i32, z_i32]
theorem z_or (x y : Int32) : (x ||| y).toInt = zor x.toInt y.toInt := by unfold zor; rw [z_i32, z_i32]
theorem z_xor (x y : Int32) : (x ^^^ y).toInt = zxor x.toInt y.toInt := by unfold zxor; rw [z_i32, z_i32]
theorem z_shl (x y : Int32) : (x <<< (y &&& 31)).toInt = zshl x.toInt y.toInt := by unfold zshl; rw [z_i32, z_i32]
theorem z_shr (x y : Int32) : (x >>> (y &&& 31)).toInt = zshr x.toInt y.toInt := by unfold zshr; rw [z_i32, z_i32]
theorem z_ushr (x y : Int32) : ((x.toUInt32 >>> (y.toUInt32 &&& Int32.toUInt32 31)).toInt32).toInt = zushr x.toInt y.toInt := by unfold zushr; rw [z_i32, z_i32]
theorem z_ladd (x y : Int64) : (x + y).toInt = wrl (x.toInt + y.toInt) := by rw [wrl_bmod]; exact Int64.toInt_add x y
theorem z_lsub (x y : Int64) : (x - y).toInt = wrl (x.toInt - y.toInt) := by rw [wrl_bmod]; exact Int64.toInt_sub x y
theorem z_lmul (x y : Int64) : (x * y).toInt = wrl (x.toInt * y.toInt) := by rw [wrl_bmod]; exact Int64.toInt_mul x y
theorem z_lcmp (x y : Int64) : (lg_cmp x y).toInt = zlcmp x.toInt y.toInt := by
  unfold zlcmp lg_cmp
  simp only [gt_iff_lt, Int64.lt_iff_toInt_lt, ← Int64.toInt_inj]
  rcases Int.lt_trichotomy x.toInt y.toInt with h | h | h
  · rw [if_neg (by omega), if_neg (by omega), if_pos h]; rfl
  · rw [if_neg (by omega), if_pos h, if_neg (by omega), if_pos h]; rfl
  · rw [if_pos h, if_neg (by omega), if_neg (by omega)]; rfl
theorem z_i2l (x : Int32) : (x.toInt64).toInt = x.toInt := Int32.toInt_toInt64 x
theorem z_l2i (x : Int64) : (x.toInt32).toInt = wr x.toInt := by rw [wr_bmod]; exact Int64.toInt_toInt32 x
theorem z_i2c (x : Int32) : ((x.toUInt32 % 65536).toInt32).toInt = x.toInt % 65536 := by
  rw [pk_char, nI_toInt (by omega)]
  have h1 : x.toInt = x.toBitVec.toInt := rfl
  have h2 := BitVec.toInt_eq_toNat_cond x.toBitVec
  have h3 := x.toBitVec.isLt
  rw [h1, h2]
  split <;> omega
theorem z_lt (x y : Int32) : x < y ↔ x.toInt < y.toInt := Int32.lt_iff_toInt_lt
theorem z_eq (x y : Int32) : x = y ↔ x.toInt = y.toInt := Int32.toInt_inj.symm
theorem z_0 : (0 : Int32).toInt = 0 := rfl
section
variable {p : Program} {l : Launch} {e : Env} {R : Room} {s : State} {m : MethodId} {args : Array Value} {below : List Frame} {meth : Method} {c : Code} {Q : State → Prop} {A : Nat → Prop} {H0 : Heap} {σ : Nat → Nat} {cA : Nat → ClassId} {D : va_G} {b L : Nat} {xs : Nat → Int32} {al : Bool} {C0 S0 : Nat} {μ0 : Nat → Nat → Nat} {N0 : Nat → Nat} {nL : Nat}
variable {r : zRes} {kont : Nat → List (Option zV) → List zV → zH → Option zRes} {kret : Int → zH → Option zRes} {kthr : Nat → zH → Option zRes} {call : Nat → List Int → zH → (Int → zH → Option zRes) → (Nat → zH → Option zRes) → Option zRes} {cc : ByteArray} {own : String} {pc : Nat}
theorem zif_some {α : Type} {b : Bool} {x : Option α} {y : α} (h : zif b x = some y) : b = true ∧ x = some y := by
  cases b
  · cases h
  · exact ⟨rfl, h⟩
theorem zand_t {a b : Bool} (h : (a && b) = true) : a = true ∧ b = true := by cases a <;> cases b <;> first | exact ⟨rfl, rfl⟩ | cases h
theorem znot_t {a : Bool} (h : (!a) = true) : a = false := by cases a <;> first | rfl | cases h
theorem znor_t {a b : Bool} (h : (!(a || b)) = true) : a = false ∧ b = false := by cases a <;> cases b <;> first | exact ⟨rfl, rfl⟩ | cases h
theorem zs_iadd (hx : p.tables.exec = Jvm.exec) (hb : c.code = cc) (hk : ∀ pc ls st h, kont pc ls st h = some r → zGo p l e R s m args below meth c Q A H0 σ cA D b L xs al C0 S0 μ0 N0 nL r pc ls st h) {I : zI} (hdg : decode cc pc = .ok (.iadd, 1)) {ls : List (Option zV)} {st : List zV} {h : zH} (hr : zobin 0 0 (fun x y => wr (x + y)) zPP al call I kont kret kthr pc ls st h = some r) : zGo p l e R s m args below meth c Q A H0 σ cA D b L xs al C0 S0 μ0 N0 nL r pc ls st h := by
  rcases st with _ | ⟨⟨t1, x1⟩, _ | ⟨⟨t2, x2⟩, st⟩⟩
  · cases hr
  · cases hr
  · simp only [zobin] at hr
    obtain ⟨hc, hr⟩ := zif_some hr
    obtain ⟨h1, h2⟩ := zand_t hc
    cases Nat.eq_of_beq_eq_true h1
    cases Nat.eq_of_beq_eq_true h2
    obtain ⟨hm, hg⟩ := hk _ _ _ _ hr
    refine ⟨hm, fun ws μ pos H locs lsJ stJ hat hl hs => ?_⟩
    obtain ⟨v1, sJ1, rfl, hv1, hs1⟩ := hs.cons
    obtain ⟨v2, sJ2, rfl, hv2, hs2⟩ := hs1.cons
    obtain ⟨i1, rfl, rfl⟩ := hv1.int
    obtain ⟨i2, rfl, rfl⟩ := hv2.int
    refine lv_iadd hx hb hdg ?_
    exact hg ws μ pos H locs lsJ _ hat hl ⟨zvr.i' (z_add i2 i1), hs2⟩
theorem zs_isub (hx : p.tables.exec = Jvm.exec) (hb : c.code = cc) (hk : ∀ pc ls st h, kont pc ls st h = some r → zGo p l e R s m args below meth c Q A H0 σ cA D b L xs al C0 S0 μ0 N0 nL r pc ls st h) {I : zI} (hdg : decode cc pc = .ok (.isub, 1)) {ls : List (Option zV)} {st : List zV} {h : zH} (hr : zobin 0 0 (fun x y => wr (x - y)) zPP al call I kont kret kthr pc ls st h = some r) : zGo p l e R s m args below meth c Q A H0 σ cA D b L xs al C0 S0 μ0 N0 nL r pc ls st h := by
  rcases st with _ | ⟨⟨t1, x1⟩, _ | ⟨⟨t2, x2⟩, st⟩⟩
  · cases hr
  · cases hr
  · simp only [zobin] at hr
    obtain ⟨hc, hr⟩ := zif_some hr
    obtain ⟨h1, h2⟩ := zand_t hc
    cases Nat.eq_of_beq_eq_true h1
    cases Nat.eq_of_beq_eq_true h2
    obtain ⟨hm, hg⟩ := hk _ _ _ _ hr
    refine ⟨hm, fun ws μ pos H locs lsJ stJ hat hl hs => ?_⟩
    obtain ⟨v1, sJ1, rfl, hv1, hs1⟩ := hs.cons
    obtain ⟨v2, sJ2, rfl, hv2, hs2⟩ := hs1.cons
    obtain ⟨i1, rfl, rfl⟩ := hv1.int
    obtain ⟨i2, rfl, rfl⟩ := hv2.int
    refine lv_isub hx hb hdg ?_
    exact hg ws μ pos H locs lsJ _ hat hl ⟨zvr.i' (z_sub i2 i1), hs2⟩
theorem zs_imul (hx : p.tables.exec = Jvm.exec) (hb : c.code = cc) (hk : ∀ pc ls st h, kont pc ls st h = some r → zGo p l e R s m args below meth c Q A H0 σ cA D b L xs al C0 S0 μ0 N0 nL r pc ls st h) {I : zI} (hdg : decode cc pc = .ok (.imul, 1)) {ls : List (Option zV)} {st : List zV} {h : zH} (hr : zobin 0 0 (fun x y => wr (x * y)) zPP al call I kont kret kthr pc ls st h = some r) : zGo p l e R s m args below meth c Q A H0 σ cA D b L xs al C0 S0 μ0 N0 nL r pc ls st h := by
  rcases st with _ | ⟨⟨t1, x1⟩, _ | ⟨⟨t2, x2⟩, st⟩⟩
  · cases hr
  · cases hr
  · simp only [zobin] at hr
    obtain ⟨hc, hr⟩ := zif_some hr
    obtain ⟨h1, h2⟩ := zand_t hc
    cases Nat.eq_of_beq_eq_true h1
    cases Nat.eq_of_beq_eq_true h2
    obtain ⟨hm, hg⟩ := hk _ _ _ _ hr
    refine ⟨hm, fun ws μ pos H locs lsJ stJ hat hl hs => ?_⟩
    obtain ⟨v1, sJ1, rfl, hv1, hs1⟩ := hs.cons
    obtain ⟨v2, sJ2, rfl, hv2, hs2⟩ := hs1.cons
    obtain ⟨i1, rfl, rfl⟩ := hv1.int
    obtain ⟨i2, rfl, rfl⟩ := hv2.int
    refine lv_imul hx hb hdg ?_
    exact hg ws μ pos H locs lsJ _ hat hl ⟨zvr.i' (z_mul i2 i1), hs2⟩
theorem zs_iand (hx : p.tables.exec = Jvm.exec) (hb : c.code = cc) (hk : ∀ pc ls st h, kont pc ls st h = some r → zGo p l e R s m args below meth c Q A H0 σ cA D b L xs al C0 S0 μ0 N0 nL r pc ls st h) {I : zI} (hdg : decode cc pc = .ok (.iand, 1)) {ls : List (Option zV)} {st : List zV} {h : zH} (hr : zobin 0 0 zand zPP al call I kont kret kthr pc ls st h = some r) : zGo p l e R s m args below meth c Q A H0 σ cA D b L xs al C0 S0 μ0 N0 nL r pc ls st h := by
  rcases st with _ | ⟨⟨t1, x1⟩, _ | ⟨⟨t2, x2⟩, st⟩⟩
  · cases hr
  · cases hr
  · simp only [zobin] at hr
    obtain ⟨hc, hr⟩ := zif_some hr
    obtain ⟨h1, h2⟩ := zand_t hc
    cases Nat.eq_of_beq_eq_true h1
    cases Nat.eq_of_beq_eq_true h2
    obtain ⟨hm, hg⟩ := hk _ _ _ _ hr
    refine ⟨hm, fun ws μ pos H locs lsJ stJ hat hl hs => ?_⟩
    obtain ⟨v1, sJ1, rfl, hv1, hs1⟩ := hs.cons
    obtain ⟨v2, sJ2, rfl, hv2, hs2⟩ := hs1.cons
    obtain ⟨i1, rfl, rfl⟩ := hv1.int
    obtain ⟨i2, rfl, rfl⟩ := hv2.int
    refine lv_iand hx hb hdg ?_
    exact hg ws μ pos H locs lsJ _ hat hl ⟨zvr.i' (z_and i2 i1), hs2⟩
theorem zs_ior (hx : p.tables.exec = Jvm.exec) (hb : c.code = cc) (hk : ∀ pc ls st h, kont pc ls st h = some r → zGo p l e R s m args below meth c Q A H0 σ cA D b L xs al C0 S0 μ0 N0 nL r pc ls st h) {I : zI} (hdg : decode cc pc = .ok (.ior, 1)) {ls : List (Option zV)} {st : List zV} {h : zH} (hr : zobin 0 0 zor zPP al call I kont kret kthr pc ls st h = some r) : zGo p l e R s m args below meth c Q A H0 σ cA D b L xs al C0 S0 μ0 N0 nL r pc ls st h := by
  rcases st with _ | ⟨⟨t1, x1⟩, _ | ⟨⟨t2, x2⟩, st⟩⟩
  · cases hr
  · cases hr
  · simp only [zobin] at hr
    obtain ⟨hc, hr⟩ := zif_some hr
    obtain ⟨h1, h2⟩ := zand_t hc
    cases Nat.eq_of_beq_eq_true h1
    cases Nat.eq_of_beq_eq_true h2
    obtain ⟨hm, hg⟩ := hk _ _ _ _ hr
    refine ⟨hm, fun ws μ pos H locs lsJ stJ hat hl hs => ?_⟩
    obtain ⟨v1, sJ1, rfl, hv1, hs1⟩ := hs.cons
    obtain ⟨v2, sJ2, rfl, hv2, hs2⟩ := hs1.cons
    obtain ⟨i1, rfl, rfl⟩ := hv1.int
    obtain ⟨i2, rfl, rfl⟩ := hv2.int
    refine lv_ior hx hb hdg ?_
    exact hg ws μ pos H locs lsJ _ hat hl ⟨zvr.i' (z_or i2 i1), hs2⟩
theorem zs_ixor (hx : p.tables.exec = Jvm.exec) (hb : c.code = cc) (hk : ∀ pc ls st h, kont pc ls st h = some r → zGo p l e R s m args below meth c Q A H0 σ cA D b L xs al C0 S0 μ0 N0 nL r pc ls st h) {I : zI} (hdg : decode cc pc = .ok (.ixor, 1)) {ls : List (Option zV)} {st : List zV} {h : zH} (hr : zobin 0 0 zxor zPP al call I kont kret kthr pc ls st h = some r) : zGo p l e R s m args below meth c Q A H0 σ cA D b L xs al C0 S0 μ0 N0 nL r pc ls st h := by
  rcases st with _ | ⟨⟨t1, x1⟩, _ | ⟨⟨t2, x2⟩, st⟩⟩
  · cases hr
  · cases hr
  · simp only [zobin] at hr
    obtain ⟨hc, hr⟩ := zif_some hr
    obtain ⟨h1, h2⟩ := zand_t hc
    cases Nat.eq_of_beq_eq_true h1
    cases Nat.eq_of_beq_eq_true h2
    obtain ⟨hm, hg⟩ := hk _ _ _ _ hr
    refine ⟨hm, fun ws μ pos H locs lsJ stJ hat hl hs => ?_⟩
    obtain ⟨v1, sJ1, rfl, hv1, hs1⟩ := hs.cons
    obtain ⟨v2, sJ2, rfl, hv2, hs2⟩ := hs1.cons
    obtain ⟨i1, rfl, rfl⟩ := hv1.int
    obtain ⟨i2, rfl, rfl⟩ := hv2.int
    refine lv_ixor hx hb hdg ?_
    exact hg ws μ pos H locs lsJ _ hat hl ⟨zvr.i' (z_xor i2 i1), hs2⟩
theorem zs_ishl (hx : p.tables.exec = Jvm.exec) (hb : c.code = cc) (hk : ∀ pc ls st h, kont pc ls st h = some r → zGo p l e R s m args below meth c Q A H0 σ cA D b L xs al C0 S0 μ0 N0 nL r pc ls st h) {I : zI} (hdg : decode cc pc = .ok (.ishl, 1)) {ls : List (Option zV)} {st : List zV} {h : zH} (hr : zobin 0 0 zshl zPP al call I kont kret kthr pc ls st h = some r) : zGo p l e R s m args below meth c Q A H0 σ cA D b L xs al C0 S0 μ0 N0 nL r pc ls st h := by
  rcases st with _ | ⟨⟨t1, x1⟩, _ | ⟨⟨t2, x2⟩, st⟩⟩
  · cases hr
  · cases hr
  · simp only [zobin] at hr
    obtain ⟨hc, hr⟩ := zif_some hr
    obtain ⟨h1, h2⟩ := zand_t hc
    cases Nat.eq_of_beq_eq_true h1
    cases Nat.eq_of_beq_eq_true h2
    obtain ⟨hm, hg⟩ := hk _ _ _ _ hr
    refine ⟨hm, fun ws μ pos H locs lsJ stJ hat hl hs => ?_⟩
    obtain ⟨v1, sJ1, rfl, hv1, hs1⟩ := hs.cons
    obtain ⟨v2, sJ2, rfl, hv2, hs2⟩ := hs1.cons
    obtain ⟨i1, rfl, rfl⟩ := hv1.int
    obtain ⟨i2, rfl, rfl⟩ := hv2.int
    refine lv_ishl hx hb hdg ?_
    exact hg ws μ pos H locs lsJ _ hat hl ⟨zvr.i' (z_shl i2 i1), hs2⟩
theorem zs_ishr (hx : p.tables.exec = Jvm.exec) (hb : c.code = cc) (hk : ∀ pc ls st h, kont pc ls st h = some r → zGo p l e R s m args below meth c Q A H0 σ cA D b L xs al C0 S0 μ0 N0 nL r pc ls st h) {I : zI} (hdg : decode cc pc = .ok (.ishr, 1)) {ls : List (Option zV)} {st : List zV} {h : zH} (hr : zobin 0 0 zshr zPP al call I kont kret kthr pc ls st h = some r) : zGo p l e R s m args below meth c Q A H0 σ cA D b L xs al C0 S0 μ0 N0 nL r pc ls st h := by
  rcases st with _ | ⟨⟨t1, x1⟩, _ | ⟨⟨t2, x2⟩, st⟩⟩
  · cases hr
  · cases hr
  · simp only [zobin] at hr
    obtain ⟨hc, hr⟩ := zif_some hr
    obtain ⟨h1, h2⟩ := zand_t hc
    cases Nat.eq_of_beq_eq_true h1
    cases Nat.eq_of_beq_eq_true h2
    obtain ⟨hm, hg⟩ := hk _ _ _ _ hr
    refine ⟨hm, fun ws μ pos H locs lsJ stJ hat hl hs => ?_⟩
    obtain ⟨v1, sJ1, rfl, hv1, hs1⟩ := hs.cons
    obtain ⟨v2, sJ2, rfl, hv2, hs2⟩ := hs1.cons
    obtain ⟨i1, rfl, rfl⟩ := hv1.int
    obtain ⟨i2, rfl, rfl⟩ := hv2.int
    refine lv_ishr hx hb hdg ?_
    exact hg ws μ pos H locs lsJ _ hat hl ⟨zvr.i' (z_shr i2 i1), hs2⟩
theorem zs_iushr (hx : p.tables.exec = Jvm.exec) (hb : c.code = cc) (hk : ∀ pc ls st h, kont pc ls st h = some r → zGo p l e R s m args below meth c Q A H0 σ cA D b L xs al C0 S0 μ0 N0 nL r pc ls st h) {I : zI} (hdg : decode cc pc = .ok (.iushr, 1)) {ls : List (Option zV)} {st : List zV} {h : zH} (hr : zobin 0 0 zushr zPP al call I kont kret kthr pc ls st h = some r) : zGo p l e R s m args below meth c Q A H0 σ cA D b L xs al C0 S0 μ0 N0 nL r pc ls st h := by
  rcases st with _ | ⟨⟨t1, x1⟩, _ | ⟨⟨t2, x2⟩, st⟩⟩
  · cases hr
  · cases hr
  · simp only [zobin] at hr
    obtain ⟨hc, hr⟩ := zif_some hr
    obtain ⟨h1, h2⟩ := zand_t hc
    cases Nat.eq_of_beq_eq_true h1
    cases Nat.eq_of_beq_eq_true h2
    obtain ⟨hm, hg⟩ := hk _ _ _ _ hr
    refine ⟨hm, fun ws μ pos H locs lsJ stJ hat hl hs => ?_⟩
    obtain ⟨v1, sJ1, rfl, hv1, hs1⟩ := hs.cons
    obtain ⟨v2, sJ2, rfl, hv2, hs2⟩ := hs1.cons
    obtain ⟨i1, rfl, rfl⟩ := hv1.int
    obtain ⟨i2, rfl, rfl⟩ := hv2.int
    refine lv_iushr hx hb hdg rfl ?_
    exact hg ws μ pos H locs lsJ _ hat hl ⟨zvr.i' (z_ushr i2 i1), hs2⟩
theorem zs_ladd (hx : p.tables.exec = Jvm.exec) (hb : c.code = cc) (hk : ∀ pc ls st h, kont pc ls st h = some r → zGo p l e R s m args below meth c Q A H0 σ cA D b L xs al C0 S0 μ0 N0 nL r pc ls st h) {I : zI} (hdg : decode cc pc = .ok (.ladd, 1)) {ls : List (Option zV)} {st : List zV} {h : zH} (hr : zobin 1 1 (fun x y => wrl (x + y)) zPP al call I kont kret kthr pc ls st h = some r) : zGo p l e R s m args below meth c Q A H0 σ cA D b L xs al C0 S0 μ0 N0 nL r pc ls st h := by
  rcases st with _ | ⟨⟨t1, x1⟩, _ | ⟨⟨t2, x2⟩, st⟩⟩
  · cases hr
  · cases hr
  · simp only [zobin] at hr
    obtain ⟨hc, hr⟩ := zif_some hr
    obtain ⟨h1, h2⟩ := zand_t hc
    cases Nat.eq_of_beq_eq_true h1
    cases Nat.eq_of_beq_eq_true h2
    obtain ⟨hm, hg⟩ := hk _ _ _ _ hr
    refine ⟨hm, fun ws μ pos H locs lsJ stJ hat hl hs => ?_⟩
    obtain ⟨v1, sJ1, rfl, hv1, hs1⟩ := hs.cons
    obtain ⟨v2, sJ2, rfl, hv2, hs2⟩ := hs1.cons
    obtain ⟨i1, rfl, rfl⟩ := hv1.long
    obtain ⟨i2, rfl, rfl⟩ := hv2.long
    refine lv_ladd hx hb hdg ?_
    exact hg ws μ pos H locs lsJ _ hat hl ⟨zvr.l' (z_ladd i2 i1), hs2⟩
theorem zs_lsub (hx : p.tables.exec = Jvm.exec) (hb : c.code = cc) (hk : ∀ pc ls st h, kont pc ls st h = some r → zGo p l e R s m args below meth c Q A H0 σ cA D b L xs al C0 S0 μ0 N0 nL r pc ls st h) {I : zI} (hdg : decode cc pc = .ok (.lsub, 1)) {ls : List (Option zV)} {st : List zV} {h : zH} (hr : zobin 1 1 (fun x y => wrl (x - y)) zPP al call I kont kret kthr pc ls st h = some r) : zGo p l e R s m args below meth c Q A H0 σ cA D b L xs al C0 S0 μ0 N0 nL r pc ls st h := by
  rcases st with _ | ⟨⟨t1, x1⟩, _ | ⟨⟨t2, x2⟩, st⟩⟩
  · cases hr
  · cases hr
  · simp only [zobin] at hr
    obtain ⟨hc, hr⟩ := zif_some hr
    obtain ⟨h1, h2⟩ := zand_t hc
    cases Nat.eq_of_beq_eq_true h1
    cases Nat.eq_of_beq_eq_true h2
    obtain ⟨hm, hg⟩ := hk _ _ _ _ hr
    refine ⟨hm, fun ws μ pos H locs lsJ stJ hat hl hs => ?_⟩
    obtain ⟨v1, sJ1, rfl, hv1, hs1⟩ := hs.cons
    obtain ⟨v2, sJ2, rfl, hv2, hs2⟩ := hs1.cons
    obtain ⟨i1, rfl, rfl⟩ := hv1.long
    obtain ⟨i2, rfl, rfl⟩ := hv2.long
    refine lv_lsub hx hb hdg ?_
    exact hg ws μ pos H locs lsJ _ hat hl ⟨zvr.l' (z_lsub i2 i1), hs2⟩
theorem zs_lmul (hx : p.tables.exec = Jvm.exec) (hb : c.code = cc) (hk : ∀ pc ls st h, kont pc ls st h = some r → zGo p l e R s m args below meth c Q A H0 σ cA D b L xs al C0 S0 μ0 N0 nL r pc ls st h) {I : zI} (hdg : decode cc pc = .ok (.lmul, 1)) {ls : List (Option zV)} {st : List zV} {h : zH} (hr : zobin 1 1 (fun x y => wrl (x * y)) zPP al call I kont kret kthr pc ls st h = some r) : zGo p l e R s m args below meth c Q A H0 σ cA D b L xs al C0 S0 μ0 N0 nL r pc ls st h := by
  rcases st with _ | ⟨⟨t1, x1⟩, _ | ⟨⟨t2, x2⟩, st⟩⟩
  · cases hr
  · cases hr
  · simp only [zobin] at hr
    obtain ⟨hc, hr⟩ := zif_some hr
    obtain ⟨h1, h2⟩ := zand_t hc
    cases Nat.eq_of_beq_eq_true h1
    cases Nat.eq_of_beq_eq_true h2
    obtain ⟨hm, hg⟩ := hk _ _ _ _ hr
    refine ⟨hm, fun ws μ pos H locs lsJ stJ hat hl hs => ?_⟩
    obtain ⟨v1, sJ1, rfl, hv1, hs1⟩ := hs.cons
    obtain ⟨v2, sJ2, rfl, hv2, hs2⟩ := hs1.cons
    obtain ⟨i1, rfl, rfl⟩ := hv1.long
    obtain ⟨i2, rfl, rfl⟩ := hv2.long
    refine lv_lmul hx hb hdg ?_
    exact hg ws μ pos H locs lsJ _ hat hl ⟨zvr.l' (z_lmul i2 i1), hs2⟩
theorem zs_lcmp (hx : p.tables.exec = Jvm.exec) (hb : c.code = cc) (hk : ∀ pc ls st h, kont pc ls st h = some r → zGo p l e R s m args below meth c Q A H0 σ cA D b L xs al C0 S0 μ0 N0 nL r pc ls st h) {I : zI} (hdg : decode cc pc = .ok (.lcmp, 1)) {ls : List (Option zV)} {st : List zV} {h : zH} (hr : zobin 1 0 zlcmp zPP al call I kont kret kthr pc ls st h = some r) : zGo p l e R s m args below meth c Q A H0 σ cA D b L xs al C0 S0 μ0 N0 nL r pc ls st h := by
  rcases st with _ | ⟨⟨t1, x1⟩, _ | ⟨⟨t2, x2⟩, st⟩⟩
  · cases hr
  · cases hr
  · simp only [zobin] at hr
    obtain ⟨hc, hr⟩ := zif_some hr
    obtain ⟨h1, h2⟩ := zand_t hc
    cases Nat.eq_of_beq_eq_true h1
    cases Nat.eq_of_beq_eq_true h2
    obtain ⟨hm, hg⟩ := hk _ _ _ _ hr
    refine ⟨hm, fun ws μ pos H locs lsJ stJ hat hl hs => ?_⟩
    obtain ⟨v1, sJ1, rfl, hv1, hs1⟩ := hs.cons
    obtain ⟨v2, sJ2, rfl, hv2, hs2⟩ := hs1.cons
    obtain ⟨i1, rfl, rfl⟩ := hv1.long
    obtain ⟨i2, rfl, rfl⟩ := hv2.long
    refine W.lcmp hx hb hdg ?_
    exact hg ws μ pos H locs lsJ _ hat hl ⟨zvr.i' (z_lcmp i2 i1), hs2⟩
theorem zs_dcmpl (hx : p.tables.exec = Jvm.exec) (hb : c.code = cc) (hk : ∀ pc ls st h, kont pc ls st h = some r → zGo p l e R s m args below meth c Q A H0 σ cA D b L xs al C0 S0 μ0 N0 nL r pc ls st h) {I : zI} (hdg : decode cc pc = .ok (.dcmp .l, 1)) {ls : List (Option zV)} {st : List zV} {h : zH} (hr : zobin 6 0 zdcmp zPP al call I kont kret kthr pc ls st h = some r) : zGo p l e R s m args below meth c Q A H0 σ cA D b L xs al C0 S0 μ0 N0 nL r pc ls st h := by
  rcases st with _ | ⟨⟨t1, x1⟩, _ | ⟨⟨t2, x2⟩, st⟩⟩
  · cases hr
  · cases hr
  · simp only [zobin] at hr
    obtain ⟨hc, hr⟩ := zif_some hr
    obtain ⟨h1, h2⟩ := zand_t hc
    cases Nat.eq_of_beq_eq_true h1
    cases Nat.eq_of_beq_eq_true h2
    obtain ⟨hm, hg⟩ := hk _ _ _ _ hr
    refine ⟨hm, fun ws μ pos H locs lsJ stJ hat hl hs => ?_⟩
    obtain ⟨v1, sJ1, rfl, hv1, hs1⟩ := hs.cons
    obtain ⟨v2, sJ2, rfl, hv2, hs2⟩ := hs1.cons
    obtain ⟨i1, rfl, rfl⟩ := hv1.dbl
    obtain ⟨i2, rfl, rfl⟩ := hv2.dbl
    refine lv_dcmp hx hb hdg ?_
    exact hg ws μ pos H locs lsJ _ hat hl ⟨zvr.i' (by unfold zdcmp; rw [z_f64, z_f64]), hs2⟩
theorem zs_fcmpl (hx : p.tables.exec = Jvm.exec) (hb : c.code = cc) (hk : ∀ pc ls st h, kont pc ls st h = some r → zGo p l e R s m args below meth c Q A H0 σ cA D b L xs al C0 S0 μ0 N0 nL r pc ls st h) {I : zI} (hdg : decode cc pc = .ok (.fcmp .l, 1)) {ls : List (Option zV)} {st : List zV} {h : zH} (hr : zobin 5 0 zfcmp zPP al call I kont kret kthr pc ls st h = some r) : zGo p l e R s m args below meth c Q A H0 σ cA D b L xs al C0 S0 μ0 N0 nL r pc ls st h := by
  rcases st with _ | ⟨⟨t1, x1⟩, _ | ⟨⟨t2, x2⟩, st⟩⟩
  · cases hr
  · cases hr
  · simp only [zobin] at hr
    obtain ⟨hc, hr⟩ := zif_some hr
    obtain ⟨h1, h2⟩ := zand_t hc
    cases Nat.eq_of_beq_eq_true h1
    cases Nat.eq_of_beq_eq_true h2
    obtain ⟨hm, hg⟩ := hk _ _ _ _ hr
    refine ⟨hm, fun ws μ pos H locs lsJ stJ hat hl hs => ?_⟩
    obtain ⟨v1, sJ1, rfl, hv1, hs1⟩ := hs.cons
    obtain ⟨v2, sJ2, rfl, hv2, hs2⟩ := hs1.cons
    obtain ⟨i1, rfl, rfl⟩ := hv1.flt
    obtain ⟨i2, rfl, rfl⟩ := hv2.flt
    refine lv_fcmp hx hb hdg ?_
    exact hg ws μ pos H locs lsJ _ hat hl ⟨zvr.i' (by unfold zfcmp; rw [z_f32, z_f32]), hs2⟩
theorem zs_idiv (hx : p.tables.exec = Jvm.exec) (hb : c.code = cc) (hk : ∀ pc ls st h, kont pc ls st h = some r → zGo p l e R s m args below meth c Q A H0 σ cA D b L xs al C0 S0 μ0 N0 nL r pc ls st h) {I : zI} (hdg : decode cc pc = .ok (.idiv, 1)) {ls : List (Option zV)} {st : List zV} {h : zH} (hr : zodiv (fun x y => wr (Int.tdiv x y)) zPP al call I kont kret kthr pc ls st h = some r) : zGo p l e R s m args below meth c Q A H0 σ cA D b L xs al C0 S0 μ0 N0 nL r pc ls st h := by
  rcases st with _ | ⟨⟨t1, x1⟩, _ | ⟨⟨t2, x2⟩, st⟩⟩
  · cases hr
  · cases hr
  · simp only [zodiv] at hr
    obtain ⟨hc, hr⟩ := zif_some hr
    obtain ⟨h1, h2⟩ := zand_t hc
    cases Nat.eq_of_beq_eq_true h1
    cases Nat.eq_of_beq_eq_true h2
    split at hr
    · cases hr
    rename_i h0
    obtain ⟨hm, hg⟩ := hk _ _ _ _ hr
    refine ⟨hm, fun ws μ pos H locs lsJ stJ hat hl hs => ?_⟩
    obtain ⟨v1, sJ1, rfl, hv1, hs1⟩ := hs.cons
    obtain ⟨v2, sJ2, rfl, hv2, hs2⟩ := hs1.cons
    obtain ⟨i1, rfl, rfl⟩ := hv1.int
    obtain ⟨i2, rfl, rfl⟩ := hv2.int
    refine lv_idiv hx hb hdg (fun q => h0 (by rw [q]; rfl)) ?_
    exact hg ws μ pos H locs lsJ _ hat hl ⟨zvr.i' (z_div i2 i1), hs2⟩
theorem zs_irem (hx : p.tables.exec = Jvm.exec) (hb : c.code = cc) (hk : ∀ pc ls st h, kont pc ls st h = some r → zGo p l e R s m args below meth c Q A H0 σ cA D b L xs al C0 S0 μ0 N0 nL r pc ls st h) {I : zI} (hdg : decode cc pc = .ok (.irem, 1)) {ls : List (Option zV)} {st : List zV} {h : zH} (hr : zodiv Int.tmod zPP al call I kont kret kthr pc ls st h = some r) : zGo p l e R s m args below meth c Q A H0 σ cA D b L xs al C0 S0 μ0 N0 nL r pc ls st h := by
  rcases st with _ | ⟨⟨t1, x1⟩, _ | ⟨⟨t2, x2⟩, st⟩⟩
  · cases hr
  · cases hr
  · simp only [zodiv] at hr
    obtain ⟨hc, hr⟩ := zif_some hr
    obtain ⟨h1, h2⟩ := zand_t hc
    cases Nat.eq_of_beq_eq_true h1
    cases Nat.eq_of_beq_eq_true h2
    split at hr
    · cases hr
    rename_i h0
    obtain ⟨hm, hg⟩ := hk _ _ _ _ hr
    refine ⟨hm, fun ws μ pos H locs lsJ stJ hat hl hs => ?_⟩
    obtain ⟨v1, sJ1, rfl, hv1, hs1⟩ := hs.cons
    obtain ⟨v2, sJ2, rfl, hv2, hs2⟩ := hs1.cons
    obtain ⟨i1, rfl, rfl⟩ := hv1.int
    obtain ⟨i2, rfl, rfl⟩ := hv2.int
    refine lv_irem hx hb hdg (fun q => h0 (by rw [q]; rfl)) ?_
    exact hg ws μ pos H locs lsJ _ hat hl ⟨zvr.i' (z_rem i2 i1), hs2⟩
theorem zs_i2l (hx : p.tables.exec = Jvm.exec) (hb : c.code = cc) (hk : ∀ pc ls st h, kont pc ls st h = some r → zGo p l e R s m args below meth c Q A H0 σ cA D b L xs al C0 S0 μ0 N0 nL r pc ls st h) {I : zI} (hdg : decode cc pc = .ok (.i2l, 1)) {ls : List (Option zV)} {st : List zV} {h : zH} (hr : zoun 0 1 (fun x => x) zPP al call I kont kret kthr pc ls st h = some r) : zGo p l e R s m args below meth c Q A H0 σ cA D b L xs al C0 S0 μ0 N0 nL r pc ls st h := by
  rcases st with _ | ⟨⟨t1, x1⟩, st⟩
  · cases hr
  · simp only [zoun] at hr
    obtain ⟨hc, hr⟩ := zif_some hr
    cases Nat.eq_of_beq_eq_true hc
    obtain ⟨hm, hg⟩ := hk _ _ _ _ hr
    refine ⟨hm, fun ws μ pos H locs lsJ stJ hat hl hs => ?_⟩
    obtain ⟨v1, sJ1, rfl, hv1, hs1⟩ := hs.cons
    obtain ⟨i1, rfl, rfl⟩ := hv1.int
    refine lv_i2l hx hb hdg rfl ?_
    exact hg ws μ pos H locs lsJ _ hat hl ⟨zvr.l' (z_i2l i1), hs1⟩
theorem zs_l2i (hx : p.tables.exec = Jvm.exec) (hb : c.code = cc) (hk : ∀ pc ls st h, kont pc ls st h = some r → zGo p l e R s m args below meth c Q A H0 σ cA D b L xs al C0 S0 μ0 N0 nL r pc ls st h) {I : zI} (hdg : decode cc pc = .ok (.l2i, 1)) {ls : List (Option zV)} {st : List zV} {h : zH} (hr : zoun 1 0 wr zPP al call I kont kret kthr pc ls st h = some r) : zGo p l e R s m args below meth c Q A H0 σ cA D b L xs al C0 S0 μ0 N0 nL r pc ls st h := by
  rcases st with _ | ⟨⟨t1, x1⟩, st⟩
  · cases hr
  · simp only [zoun] at hr
    obtain ⟨hc, hr⟩ := zif_some hr
    cases Nat.eq_of_beq_eq_true hc
    obtain ⟨hm, hg⟩ := hk _ _ _ _ hr
    refine ⟨hm, fun ws μ pos H locs lsJ stJ hat hl hs => ?_⟩
    obtain ⟨v1, sJ1, rfl, hv1, hs1⟩ := hs.cons
    obtain ⟨i1, rfl, rfl⟩ := hv1.long
    refine lv_l2i hx hb hdg rfl ?_
    exact hg ws μ pos H locs lsJ _ hat hl ⟨zvr.i' (z_l2i i1), hs1⟩
theorem zs_i2c (hx : p.tables.exec = Jvm.exec) (hb : c.code = cc) (hk : ∀ pc ls st h, kont pc ls st h = some r → zGo p l e R s m args below meth c Q A H0 σ cA D b L xs al C0 S0 μ0 N0 nL r pc ls st h) {I : zI} (hdg : decode cc pc = .ok (.i2c, 1)) {ls : List (Option zV)} {st : List zV} {h : zH} (hr : zoun 0 0 (fun x => x % 65536) zPP al call I kont kret kthr pc ls st h = some r) : zGo p l e R s m args below meth c Q A H0 σ cA D b L xs al C0 S0 μ0 N0 nL r pc ls st h := by
  rcases st with _ | ⟨⟨t1, x1⟩, st⟩
  · cases hr
  · simp only [zoun] at hr
    obtain ⟨hc, hr⟩ := zif_some hr
    cases Nat.eq_of_beq_eq_true hc
    obtain ⟨hm, hg⟩ := hk _ _ _ _ hr
    refine ⟨hm, fun ws μ pos H locs lsJ stJ hat hl hs => ?_⟩
    obtain ⟨v1, sJ1, rfl, hv1, hs1⟩ := hs.cons
    obtain ⟨i1, rfl, rfl⟩ := hv1.int
    refine lv_i2c hx hb hdg rfl ?_
    exact hg ws μ pos H locs lsJ _ hat hl ⟨zvr.i' (z_i2c i1), hs1⟩
theorem zs_l2f (hx : p.tables.exec = Jvm.exec) (hb : c.code = cc) (hk : ∀ pc ls st h, kont pc ls st h = some r → zGo p l e R s m args below meth c Q A H0 σ cA D b L xs al C0 S0 μ0 N0 nL r pc ls st h) {I : zI} (hdg : decode cc pc = .ok (.l2f, 1)) {ls : List (Option zV)} {st : List zV} {h : zH} (hr : zoun 1 5 zl2f zPP al call I kont kret kthr pc ls st h = some r) : zGo p l e R s m args below meth c Q A H0 σ cA D b L xs al C0 S0 μ0 N0 nL r pc ls st h := by
  rcases st with _ | ⟨⟨t1, x1⟩, st⟩
  · cases hr
  · simp only [zoun] at hr
    obtain ⟨hc, hr⟩ := zif_some hr
    cases Nat.eq_of_beq_eq_true hc
    obtain ⟨hm, hg⟩ := hk _ _ _ _ hr
    refine ⟨hm, fun ws μ pos H locs lsJ stJ hat hl hs => ?_⟩
    obtain ⟨v1, sJ1, rfl, hv1, hs1⟩ := hs.cons
    obtain ⟨i1, rfl, rfl⟩ := hv1.long
    refine lv_l2f hx hb hdg ?_
    exact hg ws μ pos H locs lsJ _ hat hl ⟨zvr.f' (by unfold zl2f; rw [z_i64]), hs1⟩
theorem zs_i2f (hx : p.tables.exec = Jvm.exec) (hb : c.code = cc) (hk : ∀ pc ls st h, kont pc ls st h = some r → zGo p l e R s m args below meth c Q A H0 σ cA D b L xs al C0 S0 μ0 N0 nL r pc ls st h) {I : zI} (hdg : decode cc pc = .ok (.i2f, 1)) {ls : List (Option zV)} {st : List zV} {h : zH} (hr : zoun 0 5 zi2f zPP al call I kont kret kthr pc ls st h = some r) : zGo p l e R s m args below meth c Q A H0 σ cA D b L xs al C0 S0 μ0 N0 nL r pc ls st h := by
  rcases st with _ | ⟨⟨t1, x1⟩, st⟩
  · cases hr
  · simp only [zoun] at hr
    obtain ⟨hc, hr⟩ := zif_some hr
    cases Nat.eq_of_beq_eq_true hc
    obtain ⟨hm, hg⟩ := hk _ _ _ _ hr
    refine ⟨hm, fun ws μ pos H locs lsJ stJ hat hl hs => ?_⟩
    obtain ⟨v1, sJ1, rfl, hv1, hs1⟩ := hs.cons
    obtain ⟨i1, rfl, rfl⟩ := hv1.int
    refine lv_i2f hx hb hdg ?_
    exact hg ws μ pos H locs lsJ _ hat hl ⟨zvr.f' (by unfold zi2f; rw [z_i32]), hs1⟩
theorem zs_l2d (hx : p.tables.exec = Jvm.exec) (hb : c.code = cc) (hk : ∀ pc ls st h, kont pc ls st h = some r → zGo p l e R s m args below meth c Q A H0 σ cA D b L xs al C0 S0 μ0 N0 nL r pc ls st h) {I : zI} (hdg : decode cc pc = .ok (.l2d, 1)) {ls : List (Option zV)} {st : List zV} {h : zH} (hr : zoun 1 6 zl2d zPP al call I kont kret kthr pc ls st h = some r) : zGo p l e R s m args below meth c Q A H0 σ cA D b L xs al C0 S0 μ0 N0 nL r pc ls st h := by
  rcases st with _ | ⟨⟨t1, x1⟩, st⟩
  · cases hr
  · simp only [zoun] at hr
    obtain ⟨hc, hr⟩ := zif_some hr
    cases Nat.eq_of_beq_eq_true hc
    obtain ⟨hm, hg⟩ := hk _ _ _ _ hr
    refine ⟨hm, fun ws μ pos H locs lsJ stJ hat hl hs => ?_⟩
    obtain ⟨v1, sJ1, rfl, hv1, hs1⟩ := hs.cons
    obtain ⟨i1, rfl, rfl⟩ := hv1.long
    refine lv_l2d hx hb hdg ?_
    exact hg ws μ pos H locs lsJ _ hat hl ⟨zvr.d' (by unfold zl2d; rw [z_i64]), hs1⟩
theorem zs_i2d (hx : p.tables.exec = Jvm.exec) (hb : c.code = cc) (hk : ∀ pc ls st h, kont pc ls st h = some r → zGo p l e R s m args below meth c Q A H0 σ cA D b L xs al C0 S0 μ0 N0 nL r pc ls st h) {I : zI} (hdg : decode cc pc = .ok (.i2d, 1)) {ls : List (Option zV)} {st : List zV} {h : zH} (hr : zoun 0 6 zi2d zPP al call I kont kret kthr pc ls st h = some r) : zGo p l e R s m args below meth c Q A H0 σ cA D b L xs al C0 S0 μ0 N0 nL r pc ls st h := by
  rcases st with _ | ⟨⟨t1, x1⟩, st⟩
  · cases hr
  · simp only [zoun] at hr
    obtain ⟨hc, hr⟩ := zif_some hr
    cases Nat.eq_of_beq_eq_true hc
    obtain ⟨hm, hg⟩ := hk _ _ _ _ hr
    refine ⟨hm, fun ws μ pos H locs lsJ stJ hat hl hs => ?_⟩
    obtain ⟨v1, sJ1, rfl, hv1, hs1⟩ := hs.cons
    obtain ⟨i1, rfl, rfl⟩ := hv1.int
    refine lv_i2d hx hb hdg ?_
    exact hg ws μ pos H locs lsJ _ hat hl ⟨zvr.d' (by unfold zi2d; rw [z_i32]), hs1⟩
theorem zs_fdiv (hx : p.tables.exec = Jvm.exec) (hb : c.code = cc) (hk : ∀ pc ls st h, kont pc ls st h = some r → zGo p l e R s m args below meth c Q A H0 σ cA D b L xs al C0 S0 μ0 N0 nL r pc ls st h) {I : zI} (hdg : decode cc pc = .ok (.fdiv, 1)) {ls : List (Option zV)} {st : List zV} {h : zH} (hr : zofdiv zPP al call I kont kret kthr pc ls st h = some r) : zGo p l e R s m args below meth c Q A H0 σ cA D b L xs al C0 S0 μ0 N0 nL r pc ls st h := by
  rcases st with _ | ⟨⟨t1, x1⟩, _ | ⟨⟨t2, x2⟩, st⟩⟩
  · cases hr
  · cases hr
  · simp only [zofdiv] at hr
    obtain ⟨hc, hr⟩ := zif_some hr
    obtain ⟨h1, h2⟩ := zand_t hc
    cases Nat.eq_of_beq_eq_true h1
    cases Nat.eq_of_beq_eq_true h2
    unfold zn32 at hr
    split at hr
    case isFalse => cases hr
    rename_i h0
    obtain ⟨hm, hg⟩ := hk _ _ _ _ hr
    refine ⟨hm, fun ws μ pos H locs lsJ stJ hat hl hs => ?_⟩
    obtain ⟨v1, sJ1, rfl, hv1, hs1⟩ := hs.cons
    obtain ⟨v2, sJ2, rfl, hv2, hs2⟩ := hs1.cons
    obtain ⟨i1, rfl, rfl⟩ := hv1.flt
    obtain ⟨i2, rfl, rfl⟩ := hv2.flt
    rw [z_f32, z_f32] at h0 hg
    refine lv_fdiv hx hb hdg h0 ?_
    exact hg ws μ pos H locs lsJ _ hat hl ⟨zvr.f' rfl, hs2⟩
theorem zs_ddiv (hx : p.tables.exec = Jvm.exec) (hb : c.code = cc) (hk : ∀ pc ls st h, kont pc ls st h = some r → zGo p l e R s m args below meth c Q A H0 σ cA D b L xs al C0 S0 μ0 N0 nL r pc ls st h) {I : zI} (hdg : decode cc pc = .ok (.ddiv, 1)) {ls : List (Option zV)} {st : List zV} {h : zH} (hr : zoddiv zPP al call I kont kret kthr pc ls st h = some r) : zGo p l e R s m args below meth c Q A H0 σ cA D b L xs al C0 S0 μ0 N0 nL r pc ls st h := by
  rcases st with _ | ⟨⟨t1, x1⟩, _ | ⟨⟨t2, x2⟩, st⟩⟩
  · cases hr
  · cases hr
  · simp only [zoddiv] at hr
    obtain ⟨hc, hr⟩ := zif_some hr
    obtain ⟨h1, h2⟩ := zand_t hc
    cases Nat.eq_of_beq_eq_true h1
    cases Nat.eq_of_beq_eq_true h2
    unfold zn64 at hr
    split at hr
    case isFalse => cases hr
    rename_i h0
    obtain ⟨hm, hg⟩ := hk _ _ _ _ hr
    refine ⟨hm, fun ws μ pos H locs lsJ stJ hat hl hs => ?_⟩
    obtain ⟨v1, sJ1, rfl, hv1, hs1⟩ := hs.cons
    obtain ⟨v2, sJ2, rfl, hv2, hs2⟩ := hs1.cons
    obtain ⟨i1, rfl, rfl⟩ := hv1.dbl
    obtain ⟨i2, rfl, rfl⟩ := hv2.dbl
    rw [z_f64, z_f64] at h0 hg
    refine lv_ddiv hx hb hdg h0 ?_
    exact hg ws μ pos H locs lsJ _ hat hl ⟨zvr.d' rfl, hs2⟩
theorem zs_f2d (hx : p.tables.exec = Jvm.exec) (hb : c.code = cc) (hk : ∀ pc ls st h, kont pc ls st h = some r → zGo p l e R s m args below meth c Q A H0 σ cA D b L xs al C0 S0 μ0 N0 nL r pc ls st h) {I : zI} (hdg : decode cc pc = .ok (.f2d, 1)) {ls : List (Option zV)} {st : List zV} {h : zH} (hr : zof2d zPP al call I kont kret kthr pc ls st h = some r) : zGo p l e R s m args below meth c Q A H0 σ cA D b L xs al C0 S0 μ0 N0 nL r pc ls st h := by
  rcases st with _ | ⟨⟨t1, x1⟩, st⟩
  · cases hr
  · simp only [zof2d] at hr
    obtain ⟨hc, hr⟩ := zif_some hr
    cases Nat.eq_of_beq_eq_true hc
    unfold zn64 at hr
    split at hr
    case isFalse => cases hr
    rename_i h0
    obtain ⟨hm, hg⟩ := hk _ _ _ _ hr
    refine ⟨hm, fun ws μ pos H locs lsJ stJ hat hl hs => ?_⟩
    obtain ⟨v1, sJ1, rfl, hv1, hs1⟩ := hs.cons
    obtain ⟨i1, rfl, rfl⟩ := hv1.flt
    rw [z_f32] at h0 hg
    refine lv_f2d hx hb hdg h0 ?_
    exact hg ws μ pos H locs lsJ _ hat hl ⟨zvr.d' rfl, hs1⟩
theorem zs_dup (hx : p.tables.exec = Jvm.exec) (hb : c.code = cc) (hk : ∀ pc ls st h, kont pc ls st h = some r → zGo p l e R s m args below meth c Q A H0 σ cA D b L xs al C0 S0 μ0 N0 nL r pc ls st h) {I : zI} (hdg : decode cc pc = .ok (.dup, 1)) {ls : List (Option zV)} {st : List zV} {h : zH} (hr : zodup zPP al call I kont kret kthr pc ls st h = some r) : zGo p l e R s m args below meth c Q A H0 σ cA D b L xs al C0 S0 μ0 N0 nL r pc ls st h := by
  rcases st with _ | ⟨⟨t1, x1⟩, st⟩
  · cases hr
  · simp only [zodup] at hr
    obtain ⟨hc, hr⟩ := zif_some hr
    obtain ⟨hm, hg⟩ := hk _ _ _ _ hr
    refine ⟨hm, fun ws μ pos H locs lsJ stJ hat hl hs => ?_⟩
    obtain ⟨v1, sJ1, rfl, hv1, hs1⟩ := hs.cons
    refine lv_dup hx hb hdg (by rw [hv1.cat, znot_t hc]; rfl) ?_
    exact hg ws μ pos H locs lsJ _ hat hl ⟨hv1, hv1, hs1⟩
theorem zs_pop (hx : p.tables.exec = Jvm.exec) (hb : c.code = cc) (hk : ∀ pc ls st h, kont pc ls st h = some r → zGo p l e R s m args below meth c Q A H0 σ cA D b L xs al C0 S0 μ0 N0 nL r pc ls st h) {I : zI} (hdg : decode cc pc = .ok (.pop, 1)) {ls : List (Option zV)} {st : List zV} {h : zH} (hr : zopop zPP al call I kont kret kthr pc ls st h = some r) : zGo p l e R s m args below meth c Q A H0 σ cA D b L xs al C0 S0 μ0 N0 nL r pc ls st h := by
  rcases st with _ | ⟨⟨t1, x1⟩, st⟩
  · cases hr
  · simp only [zopop] at hr
    obtain ⟨hc, hr⟩ := zif_some hr
    obtain ⟨hm, hg⟩ := hk _ _ _ _ hr
    refine ⟨hm, fun ws μ pos H locs lsJ stJ hat hl hs => ?_⟩
    obtain ⟨v1, sJ1, rfl, hv1, hs1⟩ := hs.cons
    refine lv_pop hx hb hdg (by rw [hv1.cat, znot_t hc]; rfl) ?_
    exact hg ws μ pos H locs lsJ _ hat hl hs1
theorem zs_dup2 (hx : p.tables.exec = Jvm.exec) (hb : c.code = cc) (hk : ∀ pc ls st h, kont pc ls st h = some r → zGo p l e R s m args below meth c Q A H0 σ cA D b L xs al C0 S0 μ0 N0 nL r pc ls st h) {I : zI} (hdg : decode cc pc = .ok (.dup2, 1)) {ls : List (Option zV)} {st : List zV} {h : zH} (hr : zodup2 zPP al call I kont kret kthr pc ls st h = some r) : zGo p l e R s m args below meth c Q A H0 σ cA D b L xs al C0 S0 μ0 N0 nL r pc ls st h := by
  rcases st with _ | ⟨⟨t1, x1⟩, _ | ⟨⟨t2, x2⟩, st⟩⟩
  · cases hr
  · cases hr
  · simp only [zodup2] at hr
    obtain ⟨hc, hr⟩ := zif_some hr
    obtain ⟨h1, h2⟩ := znor_t hc
    obtain ⟨hm, hg⟩ := hk _ _ _ _ hr
    refine ⟨hm, fun ws μ pos H locs lsJ stJ hat hl hs => ?_⟩
    obtain ⟨v1, sJ1, rfl, hv1, hs1⟩ := hs.cons
    obtain ⟨v2, sJ2, rfl, hv2, hs2⟩ := hs1.cons
    refine lv_dup2_11 hx hb hdg (by rw [hv1.cat, h1]; rfl) (by rw [hv2.cat, h2]; rfl) ?_
    exact hg ws μ pos H locs lsJ _ hat hl ⟨hv1, hv2, hv1, hv2, hs2⟩
theorem zs_if_eq (hx : p.tables.exec = Jvm.exec) (hb : c.code = cc) (hk : ∀ pc ls st h, kont pc ls st h = some r → zGo p l e R s m args below meth c Q A H0 σ cA D b L xs al C0 S0 μ0 N0 nL r pc ls st h) {x : Int} {u v o : Nat} (hdg : decode cc pc = .ok (.ifCond .eq x, 3)) (ht : (pc : Int) + x = (u : Int)) {ls : List (Option zV)} {st : List zV} {h : zH} (hr : zoif 0 false zPP al call (o, x, u, v) kont kret kthr pc ls st h = some r) : zGo p l e R s m args below meth c Q A H0 σ cA D b L xs al C0 S0 μ0 N0 nL r pc ls st h := by
  rcases st with _ | ⟨⟨t1, x1⟩, st⟩
  · cases hr
  · simp only [zoif] at hr
    obtain ⟨hc, hr⟩ := zif_some hr
    cases Nat.eq_of_beq_eq_true hc
    split at hr
    · rename_i hcd
      obtain ⟨hm, hg⟩ := hk _ _ _ _ hr
      refine ⟨hm, fun ws μ pos H locs lsJ stJ hat hl hs => ?_⟩
      obtain ⟨v1, sJ1, rfl, hv1, hs1⟩ := hs.cons
      obtain ⟨i1, rfl, rfl⟩ := hv1.int
      refine lv_if_eq hx hb hdg ht (fun q => ?_) (fun q => ?_)
      · exact hg ws μ pos H locs lsJ _ hat hl hs1
      · exact absurd ((z_eq i1 0).mpr hcd) q
    · rename_i hcd
      obtain ⟨hm, hg⟩ := hk _ _ _ _ hr
      refine ⟨hm, fun ws μ pos H locs lsJ stJ hat hl hs => ?_⟩
      obtain ⟨v1, sJ1, rfl, hv1, hs1⟩ := hs.cons
      obtain ⟨i1, rfl, rfl⟩ := hv1.int
      refine lv_if_eq hx hb hdg ht (fun q => ?_) (fun q => ?_)
      · exact absurd q (fun q => hcd ((z_eq i1 0).mp q))
      · exact hg ws μ pos H locs lsJ _ hat hl hs1
theorem zs_icmp_eq (hx : p.tables.exec = Jvm.exec) (hb : c.code = cc) (hk : ∀ pc ls st h, kont pc ls st h = some r → zGo p l e R s m args below meth c Q A H0 σ cA D b L xs al C0 S0 μ0 N0 nL r pc ls st h) {x : Int} {u v o : Nat} (hdg : decode cc pc = .ok (.if_icmp .eq x, 3)) (ht : (pc : Int) + x = (u : Int)) {ls : List (Option zV)} {st : List zV} {h : zH} (hr : zoicmp 0 false zPP al call (o, x, u, v) kont kret kthr pc ls st h = some r) : zGo p l e R s m args below meth c Q A H0 σ cA D b L xs al C0 S0 μ0 N0 nL r pc ls st h := by
  rcases st with _ | ⟨⟨t1, x1⟩, _ | ⟨⟨t2, x2⟩, st⟩⟩
  · cases hr
  · cases hr
  · simp only [zoicmp] at hr
    obtain ⟨hc, hr⟩ := zif_some hr
    obtain ⟨h1, h2⟩ := zand_t hc
    cases Nat.eq_of_beq_eq_true h1
    cases Nat.eq_of_beq_eq_true h2
    split at hr
    · rename_i hcd
      obtain ⟨hm, hg⟩ := hk _ _ _ _ hr
      refine ⟨hm, fun ws μ pos H locs lsJ stJ hat hl hs => ?_⟩
      obtain ⟨v1, sJ1, rfl, hv1, hs1⟩ := hs.cons
      obtain ⟨v2, sJ2, rfl, hv2, hs2⟩ := hs1.cons
      obtain ⟨i1, rfl, rfl⟩ := hv1.int
      obtain ⟨i2, rfl, rfl⟩ := hv2.int
      refine lv_icmp_eq hx hb hdg ht (fun q => ?_) (fun q => ?_)
      · exact hg ws μ pos H locs lsJ _ hat hl hs2
      · exact absurd ((z_eq i2 i1).mpr hcd) q
    · rename_i hcd
      obtain ⟨hm, hg⟩ := hk _ _ _ _ hr
      refine ⟨hm, fun ws μ pos H locs lsJ stJ hat hl hs => ?_⟩
      obtain ⟨v1, sJ1, rfl, hv1, hs1⟩ := hs.cons
      obtain ⟨v2, sJ2, rfl, hv2, hs2⟩ := hs1.cons
      obtain ⟨i1, rfl, rfl⟩ := hv1.int
      obtain ⟨i2, rfl, rfl⟩ := hv2.int
      refine lv_icmp_eq hx hb hdg ht (fun q => ?_) (fun q => ?_)
      · exact absurd q (fun q => hcd ((z_eq i2 i1).mp q))
      · exact hg ws μ pos H locs lsJ _ hat hl hs2
theorem zs_if_ne (hx : p.tables.exec = Jvm.exec) (hb : c.code = cc) (hk : ∀ pc ls st h, kont pc ls st h = some r → zGo p l e R s m args below meth c Q A H0 σ cA D b L xs al C0 S0 μ0 N0 nL r pc ls st h) {x : Int} {u v o : Nat} (hdg : decode cc pc = .ok (.ifCond .ne x, 3)) (ht : (pc : Int) + x = (u : Int)) {ls : List (Option zV)} {st : List zV} {h : zH} (hr : zoif 0 true zPP al call (o, x, u, v) kont kret kthr pc ls st h = some r) : zGo p l e R s m args below meth c Q A H0 σ cA D b L xs al C0 S0 μ0 N0 nL r pc ls st h := by
  rcases st with _ | ⟨⟨t1, x1⟩, st⟩
  · cases hr
  · simp only [zoif] at hr
    obtain ⟨hc, hr⟩ := zif_some hr
    cases Nat.eq_of_beq_eq_true hc
    split at hr
    · rename_i hcd
      obtain ⟨hm, hg⟩ := hk _ _ _ _ hr
      refine ⟨hm, fun ws μ pos H locs lsJ stJ hat hl hs => ?_⟩
      obtain ⟨v1, sJ1, rfl, hv1, hs1⟩ := hs.cons
      obtain ⟨i1, rfl, rfl⟩ := hv1.int
      refine lv_if_ne hx hb hdg ht (fun q => ?_) (fun q => ?_)
      · exact absurd q (fun q => q ((z_eq i1 0).mpr hcd))
      · exact hg ws μ pos H locs lsJ _ hat hl hs1
    · rename_i hcd
      obtain ⟨hm, hg⟩ := hk _ _ _ _ hr
      refine ⟨hm, fun ws μ pos H locs lsJ stJ hat hl hs => ?_⟩
      obtain ⟨v1, sJ1, rfl, hv1, hs1⟩ := hs.cons
      obtain ⟨i1, rfl, rfl⟩ := hv1.int
      refine lv_if_ne hx hb hdg ht (fun q => ?_) (fun q => ?_)
      · exact hg ws μ pos H locs lsJ _ hat hl hs1
      · exact absurd q (fun q => hcd ((z_eq i1 0).mp q))
theorem zs_icmp_ne (hx : p.tables.exec = Jvm.exec) (hb : c.code = cc) (hk : ∀ pc ls st h, kont pc ls st h = some r → zGo p l e R s m args below meth c Q A H0 σ cA D b L xs al C0 S0 μ0 N0 nL r pc ls st h) {x : Int} {u v o : Nat} (hdg : decode cc pc = .ok (.if_icmp .ne x, 3)) (ht : (pc : Int) + x = (u : Int)) {ls : List (Option zV)} {st : List zV} {h : zH} (hr : zoicmp 0 true zPP al call (o, x, u, v) kont kret kthr pc ls st h = some r) : zGo p l e R s m args below meth c Q A H0 σ cA D b L xs al C0 S0 μ0 N0 nL r pc ls st h := by
  rcases st with _ | ⟨⟨t1, x1⟩, _ | ⟨⟨t2, x2⟩, st⟩⟩
  · cases hr
  · cases hr
  · simp only [zoicmp] at hr
    obtain ⟨hc, hr⟩ := zif_some hr
    obtain ⟨h1, h2⟩ := zand_t hc
    cases Nat.eq_of_beq_eq_true h1
    cases Nat.eq_of_beq_eq_true h2
    split at hr
    · rename_i hcd
      obtain ⟨hm, hg⟩ := hk _ _ _ _ hr
      refine ⟨hm, fun ws μ pos H locs lsJ stJ hat hl hs => ?_⟩
      obtain ⟨v1, sJ1, rfl, hv1, hs1⟩ := hs.cons
      obtain ⟨v2, sJ2, rfl, hv2, hs2⟩ := hs1.cons
      obtain ⟨i1, rfl, rfl⟩ := hv1.int
      obtain ⟨i2, rfl, rfl⟩ := hv2.int
      refine lv_icmp_ne hx hb hdg ht (fun q => ?_) (fun q => ?_)
      · exact absurd q (fun q => q ((z_eq i2 i1).mpr hcd))
      · exact hg ws μ pos H locs lsJ _ hat hl hs2
    · rename_i hcd
      obtain ⟨hm, hg⟩ := hk _ _ _ _ hr
      refine ⟨hm, fun ws μ pos H locs lsJ stJ hat hl hs => ?_⟩
      obtain ⟨v1, sJ1, rfl, hv1, hs1⟩ := hs.cons
      obtain ⟨v2, sJ2, rfl, hv2, hs2⟩ := hs1.cons
      obtain ⟨i1, rfl, rfl⟩ := hv1.int
      obtain ⟨i2, rfl, rfl⟩ := hv2.int
      refine lv_icmp_ne hx hb hdg ht (fun q => ?_) (fun q => ?_)
      · exact hg ws μ pos H locs lsJ _ hat hl hs2
      · exact absurd q (fun q => hcd ((z_eq i2 i1).mp q))
theorem zs_if_lt (hx : p.tables.exec = Jvm.exec) (hb : c.code = cc) (hk : ∀ pc ls st h, kont pc ls st h = some r → zGo p l e R s m args below meth c Q A H0 σ cA D b L xs al C0 S0 μ0 N0 nL r pc ls st h) {x : Int} {u v o : Nat} (hdg : decode cc pc = .ok (.ifCond .lt x, 3)) (ht : (pc : Int) + x = (u : Int)) {ls : List (Option zV)} {st : List zV} {h : zH} (hr : zoif 1 false zPP al call (o, x, u, v) kont kret kthr pc ls st h = some r) : zGo p l e R s m args below meth c Q A H0 σ cA D b L xs al C0 S0 μ0 N0 nL r pc ls st h := by
  rcases st with _ | ⟨⟨t1, x1⟩, st⟩
  · cases hr
  · simp only [zoif] at hr
    obtain ⟨hc, hr⟩ := zif_some hr
    cases Nat.eq_of_beq_eq_true hc
    split at hr
    · rename_i hcd
      obtain ⟨hm, hg⟩ := hk _ _ _ _ hr
      refine ⟨hm, fun ws μ pos H locs lsJ stJ hat hl hs => ?_⟩
      obtain ⟨v1, sJ1, rfl, hv1, hs1⟩ := hs.cons
      obtain ⟨i1, rfl, rfl⟩ := hv1.int
      refine lv_if_lt hx hb hdg ht (fun q => ?_) (fun q => ?_)
      · exact hg ws μ pos H locs lsJ _ hat hl hs1
      · exact absurd ((z_lt i1 0).mpr hcd) q
    · rename_i hcd
      obtain ⟨hm, hg⟩ := hk _ _ _ _ hr
      refine ⟨hm, fun ws μ pos H locs lsJ stJ hat hl hs => ?_⟩
      obtain ⟨v1, sJ1, rfl, hv1, hs1⟩ := hs.cons
      obtain ⟨i1, rfl, rfl⟩ := hv1.int
      refine lv_if_lt hx hb hdg ht (fun q => ?_) (fun q => ?_)
      · exact absurd q (fun q => hcd ((z_lt i1 0).mp q))
      · exact hg ws μ pos H locs lsJ _ hat hl hs1
theorem zs_icmp_lt (hx : p.tables.exec = Jvm.exec) (hb : c.code = cc) (hk : ∀ pc ls st h, kont pc ls st h = some r → zGo p l e R s m args below meth c Q A H0 σ cA D b L xs al C0 S0 μ0 N0 nL r pc ls st h) {x : Int} {u v o : Nat} (hdg : decode cc pc = .ok (.if_icmp .lt x, 3)) (ht : (pc : Int) + x = (u : Int)) {ls : List (Option zV)} {st : List zV} {h : zH} (hr : zoicmp 1 false zPP al call (o, x, u, v) kont kret kthr pc ls st h = some r) : zGo p l e R s m args below meth c Q A H0 σ cA D b L xs al C0 S0 μ0 N0 nL r pc ls st h := by
  rcases st with _ | ⟨⟨t1, x1⟩, _ | ⟨⟨t2, x2⟩, st⟩⟩
  · cases hr
  · cases hr
  · simp only [zoicmp] at hr
    obtain ⟨hc, hr⟩ := zif_some hr
    obtain ⟨h1, h2⟩ := zand_t hc
    cases Nat.eq_of_beq_eq_true h1
    cases Nat.eq_of_beq_eq_true h2
    split at hr
    · rename_i hcd
      obtain ⟨hm, hg⟩ := hk _ _ _ _ hr
      refine ⟨hm, fun ws μ pos H locs lsJ stJ hat hl hs => ?_⟩
      obtain ⟨v1, sJ1, rfl, hv1, hs1⟩ := hs.cons
      obtain ⟨v2, sJ2, rfl, hv2, hs2⟩ := hs1.cons
      obtain ⟨i1, rfl, rfl⟩ := hv1.int
      obtain ⟨i2, rfl, rfl⟩ := hv2.int
      refine lv_icmp_lt hx hb hdg ht (fun q => ?_) (fun q => ?_)
      · exact hg ws μ pos H locs lsJ _ hat hl hs2
      · exact absurd ((z_lt i2 i1).mpr hcd) q
    · rename_i hcd
      obtain ⟨hm, hg⟩ := hk _ _ _ _ hr
      refine ⟨hm, fun ws μ pos H locs lsJ stJ hat hl hs => ?_⟩
      obtain ⟨v1, sJ1, rfl, hv1, hs1⟩ := hs.cons
      obtain ⟨v2, sJ2, rfl, hv2, hs2⟩ := hs1.cons
      obtain ⟨i1, rfl, rfl⟩ := hv1.int
      obtain ⟨i2, rfl, rfl⟩ := hv2.int
      refine lv_icmp_lt hx hb hdg ht (fun q => ?_) (fun q => ?_)
      · exact absurd q (fun q => hcd ((z_lt i2 i1).mp q))
      · exact hg ws μ pos H locs lsJ _ hat hl hs2
theorem zs_if_ge (hx : p.tables.exec = Jvm.exec) (hb : c.code = cc) (hk : ∀ pc ls st h, kont pc ls st h = some r → zGo p l e R s m args below meth c Q A H0 σ cA D b L xs al C0 S0 μ0 N0 nL r pc ls st h) {x : Int} {u v o : Nat} (hdg : decode cc pc = .ok (.ifCond .ge x, 3)) (ht : (pc : Int) + x = (u : Int)) {ls : List (Option zV)} {st : List zV} {h : zH} (hr : zoif 1 true zPP al call (o, x, u, v) kont kret kthr pc ls st h = some r) : zGo p l e R s m args below meth c Q A H0 σ cA D b L xs al C0 S0 μ0 N0 nL r pc ls st h := by
  rcases st with _ | ⟨⟨t1, x1⟩, st⟩
  · cases hr
  · simp only [zoif] at hr
    obtain ⟨hc, hr⟩ := zif_some hr
    cases Nat.eq_of_beq_eq_true hc
    split at hr
    · rename_i hcd
      obtain ⟨hm, hg⟩ := hk _ _ _ _ hr
      refine ⟨hm, fun ws μ pos H locs lsJ stJ hat hl hs => ?_⟩
      obtain ⟨v1, sJ1, rfl, hv1, hs1⟩ := hs.cons
      obtain ⟨i1, rfl, rfl⟩ := hv1.int
      refine lv_if_ge hx hb hdg ht (fun q => ?_) (fun q => ?_)
      · exact absurd q (fun q => Int32.not_le.mpr ((z_lt i1 0).mpr hcd) q)
      · exact hg ws μ pos H locs lsJ _ hat hl hs1
    · rename_i hcd
      obtain ⟨hm, hg⟩ := hk _ _ _ _ hr
      refine ⟨hm, fun ws μ pos H locs lsJ stJ hat hl hs => ?_⟩
      obtain ⟨v1, sJ1, rfl, hv1, hs1⟩ := hs.cons
      obtain ⟨i1, rfl, rfl⟩ := hv1.int
      refine lv_if_ge hx hb hdg ht (fun q => ?_) (fun q => ?_)
      · exact hg ws μ pos H locs lsJ _ hat hl hs1
      · exact absurd (Int32.not_lt.mp fun q => hcd ((z_lt i1 0).mp q)) q
theorem zs_icmp_ge (hx : p.tables.exec = Jvm.exec) (hb : c.code = cc) (hk : ∀ pc ls st h, kont pc ls st h = some r → zGo p l e R s m args below meth c Q A H0 σ cA D b L xs al C0 S0 μ0 N0 nL r pc ls st h) {x : Int} {u v o : Nat} (hdg : decode cc pc = .ok (.if_icmp .ge x, 3)) (ht : (pc : Int) + x = (u : Int)) {ls : List (Option zV)} {st : List zV} {h : zH} (hr : zoicmp 1 true zPP al call (o, x, u, v) kont kret kthr pc ls st h = some r) : zGo p l e R s m args below meth c Q A H0 σ cA D b L xs al C0 S0 μ0 N0 nL r pc ls st h := by
  rcases st with _ | ⟨⟨t1, x1⟩, _ | ⟨⟨t2, x2⟩, st⟩⟩
  · cases hr
  · cases hr
  · simp only [zoicmp] at hr
    obtain ⟨hc, hr⟩ := zif_some hr
    obtain ⟨h1, h2⟩ := zand_t hc
    cases Nat.eq_of_beq_eq_true h1
    cases Nat.eq_of_beq_eq_true h2
    split at hr
    · rename_i hcd
      obtain ⟨hm, hg⟩ := hk _ _ _ _ hr
      refine ⟨hm, fun ws μ pos H locs lsJ stJ hat hl hs => ?_⟩
      obtain ⟨v1, sJ1, rfl, hv1, hs1⟩ := hs.cons
      obtain ⟨v2, sJ2, rfl, hv2, hs2⟩ := hs1.cons
      obtain ⟨i1, rfl, rfl⟩ := hv1.int
      obtain ⟨i2, rfl, rfl⟩ := hv2.int
      refine lv_icmp_ge hx hb hdg ht (fun q => ?_) (fun q => ?_)
      · exact absurd q (fun q => Int32.not_le.mpr ((z_lt i2 i1).mpr hcd) q)
      · exact hg ws μ pos H locs lsJ _ hat hl hs2
    · rename_i hcd
      obtain ⟨hm, hg⟩ := hk _ _ _ _ hr
      refine ⟨hm, fun ws μ pos H locs lsJ stJ hat hl hs => ?_⟩
      obtain ⟨v1, sJ1, rfl, hv1, hs1⟩ := hs.cons
      obtain ⟨v2, sJ2, rfl, hv2, hs2⟩ := hs1.cons
      obtain ⟨i1, rfl, rfl⟩ := hv1.int
      obtain ⟨i2, rfl, rfl⟩ := hv2.int
      refine lv_icmp_ge hx hb hdg ht (fun q => ?_) (fun q => ?_)
      · exact hg ws μ pos H locs lsJ _ hat hl hs2
      · exact absurd (Int32.not_lt.mp fun q => hcd ((z_lt i2 i1).mp q)) q
theorem zs_if_gt (hx : p.tables.exec = Jvm.exec) (hb : c.code = cc) (hk : ∀ pc ls st h, kont pc ls st h = some r → zGo p l e R s m args below meth c Q A H0 σ cA D b L xs al C0 S0 μ0 N0 nL r pc ls st h) {x : Int} {u v o : Nat} (hdg : decode cc pc = .ok (.ifCond .gt x, 3)) (ht : (pc : Int) + x = (u : Int)) {ls : List (Option zV)} {st : List zV} {h : zH} (hr : zoif 2 false zPP al call (o, x, u, v) kont kret kthr pc ls st h = some r) : zGo p l e R s m args below meth c Q A H0 σ cA D b L xs al C0 S0 μ0 N0 nL r pc ls st h := by
  rcases st with _ | ⟨⟨t1, x1⟩, st⟩
  · cases hr
  · simp only [zoif] at hr
    obtain ⟨hc, hr⟩ := zif_some hr
    cases Nat.eq_of_beq_eq_true hc
    split at hr
    · rename_i hcd
      obtain ⟨hm, hg⟩ := hk _ _ _ _ hr
      refine ⟨hm, fun ws μ pos H locs lsJ stJ hat hl hs => ?_⟩
      obtain ⟨v1, sJ1, rfl, hv1, hs1⟩ := hs.cons
      obtain ⟨i1, rfl, rfl⟩ := hv1.int
      refine lv_if_gt hx hb hdg ht (fun q => ?_) (fun q => ?_)
      · exact hg ws μ pos H locs lsJ _ hat hl hs1
      · exact absurd ((z_lt 0 i1).mpr hcd) q
    · rename_i hcd
      obtain ⟨hm, hg⟩ := hk _ _ _ _ hr
      refine ⟨hm, fun ws μ pos H locs lsJ stJ hat hl hs => ?_⟩
      obtain ⟨v1, sJ1, rfl, hv1, hs1⟩ := hs.cons
      obtain ⟨i1, rfl, rfl⟩ := hv1.int
      refine lv_if_gt hx hb hdg ht (fun q => ?_) (fun q => ?_)
      · exact absurd q (fun q => hcd ((z_lt 0 i1).mp q))
      · exact hg ws μ pos H locs lsJ _ hat hl hs1
theorem zs_icmp_gt (hx : p.tables.exec = Jvm.exec) (hb : c.code = cc) (hk : ∀ pc ls st h, kont pc ls st h = some r → zGo p l e R s m args below meth c Q A H0 σ cA D b L xs al C0 S0 μ0 N0 nL r pc ls st h) {x : Int} {u v o : Nat} (hdg : decode cc pc = .ok (.if_icmp .gt x, 3)) (ht : (pc : Int) + x = (u : Int)) {ls : List (Option zV)} {st : List zV} {h : zH} (hr : zoicmp 2 false zPP al call (o, x, u, v) kont kret kthr pc ls st h = some r) : zGo p l e R s m args below meth c Q A H0 σ cA D b L xs al C0 S0 μ0 N0 nL r pc ls st h := by
  rcases st with _ | ⟨⟨t1, x1⟩, _ | ⟨⟨t2, x2⟩, st⟩⟩
  · cases hr
  · cases hr
  · simp only [zoicmp] at hr
    obtain ⟨hc, hr⟩ := zif_some hr
    obtain ⟨h1, h2⟩ := zand_t hc
    cases Nat.eq_of_beq_eq_true h1
    cases Nat.eq_of_beq_eq_true h2
    split at hr
    · rename_i hcd
      obtain ⟨hm, hg⟩ := hk _ _ _ _ hr
      refine ⟨hm, fun ws μ pos H locs lsJ stJ hat hl hs => ?_⟩
      obtain ⟨v1, sJ1, rfl, hv1, hs1⟩ := hs.cons
      obtain ⟨v2, sJ2, rfl, hv2, hs2⟩ := hs1.cons
      obtain ⟨i1, rfl, rfl⟩ := hv1.int
      obtain ⟨i2, rfl, rfl⟩ := hv2.int
      refine lv_icmp_gt hx hb hdg ht (fun q => ?_) (fun q => ?_)
      · exact hg ws μ pos H locs lsJ _ hat hl hs2
      · exact absurd ((z_lt i1 i2).mpr hcd) q
    · rename_i hcd
      obtain ⟨hm, hg⟩ := hk _ _ _ _ hr
      refine ⟨hm, fun ws μ pos H locs lsJ stJ hat hl hs => ?_⟩
      obtain ⟨v1, sJ1, rfl, hv1, hs1⟩ := hs.cons
      obtain ⟨v2, sJ2, rfl, hv2, hs2⟩ := hs1.cons
      obtain ⟨i1, rfl, rfl⟩ := hv1.int
      obtain ⟨i2, rfl, rfl⟩ := hv2.int
      refine lv_icmp_gt hx hb hdg ht (fun q => ?_) (fun q => ?_)
      · exact absurd q (fun q => hcd ((z_lt i1 i2).mp q))
      · exact hg ws μ pos H locs lsJ _ hat hl hs2
theorem zs_if_le (hx : p.tables.exec = Jvm.exec) (hb : c.code = cc) (hk : ∀ pc ls st h, kont pc ls st h = some r → zGo p l e R s m args below meth c Q A H0 σ cA D b L xs al C0 S0 μ0 N0 nL r pc ls st h) {x : Int} {u v o : Nat} (hdg : decode cc pc = .ok (.ifCond .le x, 3)) (ht : (pc : Int) + x = (u : Int)) {ls : List (Option zV)} {st : List zV} {h : zH} (hr : zoif 2 true zPP al call (o, x, u, v) kont kret kthr pc ls st h = some r) : zGo p l e R s m args below meth c Q A H0 σ cA D b L xs al C0 S0 μ0 N0 nL r pc ls st h := by
  rcases st with _ | ⟨⟨t1, x1⟩, st⟩
  · cases hr
  · simp only [zoif] at hr
    obtain ⟨hc, hr⟩ := zif_some hr
    cases Nat.eq_of_beq_eq_true hc
    split at hr
    · rename_i hcd
      obtain ⟨hm, hg⟩ := hk _ _ _ _ hr
      refine ⟨hm, fun ws μ pos H locs lsJ stJ hat hl hs => ?_⟩
      obtain ⟨v1, sJ1, rfl, hv1, hs1⟩ := hs.cons
      obtain ⟨i1, rfl, rfl⟩ := hv1.int
      refine lv_if_le hx hb hdg ht (fun q => ?_) (fun q => ?_)
      · exact absurd q (fun q => Int32.not_le.mpr ((z_lt 0 i1).mpr hcd) q)
      · exact hg ws μ pos H locs lsJ _ hat hl hs1
    · rename_i hcd
      obtain ⟨hm, hg⟩ := hk _ _ _ _ hr
      refine ⟨hm, fun ws μ pos H locs lsJ stJ hat hl hs => ?_⟩
      obtain ⟨v1, sJ1, rfl, hv1, hs1⟩ := hs.cons
      obtain ⟨i1, rfl, rfl⟩ := hv1.int
      refine lv_if_le hx hb hdg ht (fun q => ?_) (fun q => ?_)
      · exact hg ws μ pos H locs lsJ _ hat hl hs1
      · exact absurd (Int32.not_lt.mp fun q => hcd ((z_lt 0 i1).mp q)) q
theorem zs_icmp_le (hx : p.tables.exec = Jvm.exec) (hb : c.code = cc) (hk : ∀ pc ls st h, kont pc ls st h = some r → zGo p l e R s m args below meth c Q A H0 σ cA D b L xs al C0 S0 μ0 N0 nL r pc ls st h) {x : Int} {u v o : Nat} (hdg : decode cc pc = .ok (.if_icmp .le x, 3)) (ht : (pc : Int) + x = (u : Int)) {ls : List (Option zV)} {st : List zV} {h : zH} (hr : zoicmp 2 true zPP al call (o, x, u, v) kont kret kthr pc ls st h = some r) : zGo p l e R s m args below meth c Q A H0 σ cA D b L xs al C0 S0 μ0 N0 nL r pc ls st h := by
  rcases st with _ | ⟨⟨t1, x1⟩, _ | ⟨⟨t2, x2⟩, st⟩⟩
  · cases hr
  · cases hr
  · simp only [zoicmp] at hr
    obtain ⟨hc, hr⟩ := zif_some hr
    obtain ⟨h1, h2⟩ := zand_t hc
    cases Nat.eq_of_beq_eq_true h1
    cases Nat.eq_of_beq_eq_true h2
    split at hr
    · rename_i hcd
      obtain ⟨hm, hg⟩ := hk _ _ _ _ hr
      refine ⟨hm, fun ws μ pos H locs lsJ stJ hat hl hs => ?_⟩
      obtain ⟨v1, sJ1, rfl, hv1, hs1⟩ := hs.cons
      obtain ⟨v2, sJ2, rfl, hv2, hs2⟩ := hs1.cons
      obtain ⟨i1, rfl, rfl⟩ := hv1.int
      obtain ⟨i2, rfl, rfl⟩ := hv2.int
      refine lv_icmp_le hx hb hdg ht (fun q => ?_) (fun q => ?_)
      · exact absurd q (fun q => Int32.not_le.mpr ((z_lt i1 i2).mpr hcd) q)
      · exact hg ws μ pos H locs lsJ _ hat hl hs2
    · rename_i hcd
      obtain ⟨hm, hg⟩ := hk _ _ _ _ hr
      refine ⟨hm, fun ws μ pos H locs lsJ stJ hat hl hs => ?_⟩
      obtain ⟨v1, sJ1, rfl, hv1, hs1⟩ := hs.cons
      obtain ⟨v2, sJ2, rfl, hv2, hs2⟩ := hs1.cons
      obtain ⟨i1, rfl, rfl⟩ := hv1.int
      obtain ⟨i2, rfl, rfl⟩ := hv2.int
      refine lv_icmp_le hx hb hdg ht (fun q => ?_) (fun q => ?_)
      · exact hg ws μ pos H locs lsJ _ hat hl hs2
      · exact absurd (Int32.not_lt.mp fun q => hcd ((z_lt i1 i2).mp q)) q
theorem zs_goto (hx : p.tables.exec = Jvm.exec) (hb : c.code = cc) (hk : ∀ pc ls st h, kont pc ls st h = some r → zGo p l e R s m args below meth c Q A H0 σ cA D b L xs al C0 S0 μ0 N0 nL r pc ls st h) {x : Int} {u v o : Nat} (hdg : decode cc pc = .ok (.goto x, 3)) (ht : (pc : Int) + x = (u : Int)) {ls : List (Option zV)} {st : List zV} {h : zH} (hr : zogoto zPP al call (o, x, u, v) kont kret kthr pc ls st h = some r) : zGo p l e R s m args below meth c Q A H0 σ cA D b L xs al C0 S0 μ0 N0 nL r pc ls st h := by
  obtain ⟨hm, hg⟩ := hk _ _ _ _ hr
  exact ⟨hm, fun ws μ pos H locs lsJ stJ hat hl hs => lv_goto hx hb hdg ht (hg ws μ pos H locs lsJ stJ hat hl hs)⟩
end
