/-! THE CLASS'S HEAP: what never changes -/
def RS (h : zH) : Prop := zhN h 0 = 1 ∧ zhN h 1 = 1 ∧ zhN h 20 = 1 ∧ zhN h 21 = 1 ∧ zhN h 2 = 1 ∧ zhN h 22 = 1 ∧ zhN h 23 = 1 ∧ zhN h 24 = 1 ∧ zhN h 25 = 1 ∧ zhN h 3 = 2 ∧ zhN h 26 = 2 ∧ zhN h 27 = 2 ∧ zhN h 4 = 1 ∧ zhN h 5 = 1 ∧ zhN h 28 = 1 ∧ zhN h 29 = 1 ∧ zhN h 30 = 1 ∧ zhN h 31 = 1 ∧ zhN h 51 = 1 ∧ zhN h 52 = 1 ∧ zhL h 20 0 = 4 ∧ zhL h 21 0 = 12 ∧ zhL h 22 0 = 64 ∧ zhL h 23 0 = 2 ∧ zhL h 24 0 = 4 ∧ zhL h 25 0 = 4 ∧ zhL h 26 0 = 4 ∧ zhL h 26 1 = 4 ∧ zhL h 27 0 = 2 ∧ zhL h 27 1 = 2 ∧ zhL h 28 0 = 64 ∧ zhL h 29 0 = 16 ∧ zhL h 30 0 = 16 ∧ zhL h 31 0 = 16 ∧ zhL h 51 0 = 1 ∧ zhL h 52 0 = 1 ∧ zhD h 0 0 0 = 0 ∧ zhD h 0 0 1 = 0 ∧ zhD h 0 0 2 = 0 ∧ zhD h 1 0 0 = 0 ∧ zhD h 1 0 1 = 0 ∧ zhD h 2 0 0 = 0 ∧ zhD h 2 0 1 = 0 ∧ zhD h 2 0 2 = 0 ∧ zhD h 2 0 3 = 0 ∧ zhD h 2 0 6 = 0 ∧ zhD h 2 0 7 = 0 ∧ zhD h 23 0 0 = 0 ∧ zhD h 23 0 1 = 1 ∧ zhD h 3 0 0 = 0 ∧ zhD h 3 0 1 = 0 ∧ zhD h 3 1 0 = 1 ∧ zhD h 3 1 1 = 1 ∧ zhD h 5 0 0 = 0 ∧ zhD h 5 0 1 = 0 ∧ zhD h 5 0 2 = 0 ∧ zhD h 5 0 3 = 0 ∧ (∀ i : Nat, i < 16 → zhD h 30 0 i = (i : Int))
theorem RS.N0 {h : zH} (q : RS h) : zhN h 0 = 1 := q.1
theorem RS.N1 {h : zH} (q : RS h) : zhN h 1 = 1 := q.2.1
theorem RS.N20 {h : zH} (q : RS h) : zhN h 20 = 1 := q.2.2.1
theorem RS.N21 {h : zH} (q : RS h) : zhN h 21 = 1 := q.2.2.2.1
theorem RS.N2 {h : zH} (q : RS h) : zhN h 2 = 1 := q.2.2.2.2.1
theorem RS.N22 {h : zH} (q : RS h) : zhN h 22 = 1 := q.2.2.2.2.2.1
theorem RS.N23 {h : zH} (q : RS h) : zhN h 23 = 1 := q.2.2.2.2.2.2.1
theorem RS.N24 {h : zH} (q : RS h) : zhN h 24 = 1 := q.2.2.2.2.2.2.2.1
theorem RS.N25 {h : zH} (q : RS h) : zhN h 25 = 1 := q.2.2.2.2.2.2.2.2.1
theorem RS.N3 {h : zH} (q : RS h) : zhN h 3 = 2 := q.2.2.2.2.2.2.2.2.2.1
theorem RS.N26 {h : zH} (q : RS h) : zhN h 26 = 2 := q.2.2.2.2.2.2.2.2.2.2.1
theorem RS.N27 {h : zH} (q : RS h) : zhN h 27 = 2 := q.2.2.2.2.2.2.2.2.2.2.2.1
theorem RS.N4 {h : zH} (q : RS h) : zhN h 4 = 1 := q.2.2.2.2.2.2.2.2.2.2.2.2.1
theorem RS.N5 {h : zH} (q : RS h) : zhN h 5 = 1 := q.2.2.2.2.2.2.2.2.2.2.2.2.2.1
theorem RS.N28 {h : zH} (q : RS h) : zhN h 28 = 1 := q.2.2.2.2.2.2.2.2.2.2.2.2.2.2.1
theorem RS.N29 {h : zH} (q : RS h) : zhN h 29 = 1 := q.2.2.2.2.2.2.2.2.2.2.2.2.2.2.2.1
theorem RS.N30 {h : zH} (q : RS h) : zhN h 30 = 1 := q.2.2.2.2.2.2.2.2.2.2.2.2.2.2.2.2.1
theorem RS.N31 {h : zH} (q : RS h) : zhN h 31 = 1 := q.2.2.2.2.2.2.2.2.2.2.2.2.2.2.2.2.2.1
theorem RS.N51 {h : zH} (q : RS h) : zhN h 51 = 1 := q.2.2.2.2.2.2.2.2.2.2.2.2.2.2.2.2.2.2.1
theorem RS.N52 {h : zH} (q : RS h) : zhN h 52 = 1 := q.2.2.2.2.2.2.2.2.2.2.2.2.2.2.2.2.2.2.2.1
theorem RS.L20_0 {h : zH} (q : RS h) : zhL h 20 0 = 4 := q.2.2.2.2.2.2.2.2.2.2.2.2.2.2.2.2.2.2.2.2.1
theorem RS.L21_0 {h : zH} (q : RS h) : zhL h 21 0 = 12 := q.2.2.2.2.2.2.2.2.2.2.2.2.2.2.2.2.2.2.2.2.2.1
theorem RS.L22_0 {h : zH} (q : RS h) : zhL h 22 0 = 64 := q.2.2.2.2.2.2.2.2.2.2.2.2.2.2.2.2.2.2.2.2.2.2.1
theorem RS.L23_0 {h : zH} (q : RS h) : zhL h 23 0 = 2 := q.2.2.2.2.2.2.2.2.2.2.2.2.2.2.2.2.2.2.2.2.2.2.2.1
theorem RS.L24_0 {h : zH} (q : RS h) : zhL h 24 0 = 4 := q.2.2.2.2.2.2.2.2.2.2.2.2.2.2.2.2.2.2.2.2.2.2.2.2.1
theorem RS.L25_0 {h : zH} (q : RS h) : zhL h 25 0 = 4 := q.2.2.2.2.2.2.2.2.2.2.2.2.2.2.2.2.2.2.2.2.2.2.2.2.2.1
theorem RS.L26_0 {h : zH} (q : RS h) : zhL h 26 0 = 4 := q.2.2.2.2.2.2.2.2.2.2.2.2.2.2.2.2.2.2.2.2.2.2.2.2.2.2.1
theorem RS.L26_1 {h : zH} (q : RS h) : zhL h 26 1 = 4 := q.2.2.2.2.2.2.2.2.2.2.2.2.2.2.2.2.2.2.2.2.2.2.2.2.2.2.2.1
theorem RS.L27_0 {h : zH} (q : RS h) : zhL h 27 0 = 2 := q.2.2.2.2.2.2.2.2.2.2.2.2.2.2.2.2.2.2.2.2.2.2.2.2.2.2.2.2.1
theorem RS.L27_1 {h : zH} (q : RS h) : zhL h 27 1 = 2 := q.2.2.2.2.2.2.2.2.2.2.2.2.2.2.2.2.2.2.2.2.2.2.2.2.2.2.2.2.2.1
theorem RS.L28_0 {h : zH} (q : RS h) : zhL h 28 0 = 64 := q.2.2.2.2.2.2.2.2.2.2.2.2.2.2.2.2.2.2.2.2.2.2.2.2.2.2.2.2.2.2.1
theorem RS.L29_0 {h : zH} (q : RS h) : zhL h 29 0 = 16 := q.2.2.2.2.2.2.2.2.2.2.2.2.2.2.2.2.2.2.2.2.2.2.2.2.2.2.2.2.2.2.2.1
theorem RS.L30_0 {h : zH} (q : RS h) : zhL h 30 0 = 16 := q.2.2.2.2.2.2.2.2.2.2.2.2.2.2.2.2.2.2.2.2.2.2.2.2.2.2.2.2.2.2.2.2.1
theorem RS.L31_0 {h : zH} (q : RS h) : zhL h 31 0 = 16 := q.2.2.2.2.2.2.2.2.2.2.2.2.2.2.2.2.2.2.2.2.2.2.2.2.2.2.2.2.2.2.2.2.2.1
theorem RS.L51_0 {h : zH} (q : RS h) : zhL h 51 0 = 1 := q.2.2.2.2.2.2.2.2.2.2.2.2.2.2.2.2.2.2.2.2.2.2.2.2.2.2.2.2.2.2.2.2.2.2.1
theorem RS.L52_0 {h : zH} (q : RS h) : zhL h 52 0 = 1 := q.2.2.2.2.2.2.2.2.2.2.2.2.2.2.2.2.2.2.2.2.2.2.2.2.2.2.2.2.2.2.2.2.2.2.2.1
theorem RS.D0_0_0 {h : zH} (q : RS h) : zhD h 0 0 0 = 0 := q.2.2.2.2.2.2.2.2.2.2.2.2.2.2.2.2.2.2.2.2.2.2.2.2.2.2.2.2.2.2.2.2.2.2.2.2.1
theorem RS.D0_0_1 {h : zH} (q : RS h) : zhD h 0 0 1 = 0 := q.2.2.2.2.2.2.2.2.2.2.2.2.2.2.2.2.2.2.2.2.2.2.2.2.2.2.2.2.2.2.2.2.2.2.2.2.2.1
theorem RS.D0_0_2 {h : zH} (q : RS h) : zhD h 0 0 2 = 0 := q.2.2.2.2.2.2.2.2.2.2.2.2.2.2.2.2.2.2.2.2.2.2.2.2.2.2.2.2.2.2.2.2.2.2.2.2.2.2.1
theorem RS.D1_0_0 {h : zH} (q : RS h) : zhD h 1 0 0 = 0 := q.2.2.2.2.2.2.2.2.2.2.2.2.2.2.2.2.2.2.2.2.2.2.2.2.2.2.2.2.2.2.2.2.2.2.2.2.2.2.2.1
theorem RS.D1_0_1 {h : zH} (q : RS h) : zhD h 1 0 1 = 0 := q.2.2.2.2.2.2.2.2.2.2.2.2.2.2.2.2.2.2.2.2.2.2.2.2.2.2.2.2.2.2.2.2.2.2.2.2.2.2.2.2.1
theorem RS.D2_0_0 {h : zH} (q : RS h) : zhD h 2 0 0 = 0 := q.2.2.2.2.2.2.2.2.2.2.2.2.2.2.2.2.2.2.2.2.2.2.2.2.2.2.2.2.2.2.2.2.2.2.2.2.2.2.2.2.2.1
theorem RS.D2_0_1 {h : zH} (q : RS h) : zhD h 2 0 1 = 0 := q.2.2.2.2.2.2.2.2.2.2.2.2.2.2.2.2.2.2.2.2.2.2.2.2.2.2.2.2.2.2.2.2.2.2.2.2.2.2.2.2.2.2.1
theorem RS.D2_0_2 {h : zH} (q : RS h) : zhD h 2 0 2 = 0 := q.2.2.2.2.2.2.2.2.2.2.2.2.2.2.2.2.2.2.2.2.2.2.2.2.2.2.2.2.2.2.2.2.2.2.2.2.2.2.2.2.2.2.2.1
theorem RS.D2_0_3 {h : zH} (q : RS h) : zhD h 2 0 3 = 0 := q.2.2.2.2.2.2.2.2.2.2.2.2.2.2.2.2.2.2.2.2.2.2.2.2.2.2.2.2.2.2.2.2.2.2.2.2.2.2.2.2.2.2.2.2.1
theorem RS.D2_0_6 {h : zH} (q : RS h) : zhD h 2 0 6 = 0 := q.2.2.2.2.2.2.2.2.2.2.2.2.2.2.2.2.2.2.2.2.2.2.2.2.2.2.2.2.2.2.2.2.2.2.2.2.2.2.2.2.2.2.2.2.2.1
theorem RS.D2_0_7 {h : zH} (q : RS h) : zhD h 2 0 7 = 0 := q.2.2.2.2.2.2.2.2.2.2.2.2.2.2.2.2.2.2.2.2.2.2.2.2.2.2.2.2.2.2.2.2.2.2.2.2.2.2.2.2.2.2.2.2.2.2.1
theorem RS.D23_0_0 {h : zH} (q : RS h) : zhD h 23 0 0 = 0 := q.2.2.2.2.2.2.2.2.2.2.2.2.2.2.2.2.2.2.2.2.2.2.2.2.2.2.2.2.2.2.2.2.2.2.2.2.2.2.2.2.2.2.2.2.2.2.2.1
theorem RS.D23_0_1 {h : zH} (q : RS h) : zhD h 23 0 1 = 1 := q.2.2.2.2.2.2.2.2.2.2.2.2.2.2.2.2.2.2.2.2.2.2.2.2.2.2.2.2.2.2.2.2.2.2.2.2.2.2.2.2.2.2.2.2.2.2.2.2.1
theorem RS.D3_0_0 {h : zH} (q : RS h) : zhD h 3 0 0 = 0 := q.2.2.2.2.2.2.2.2.2.2.2.2.2.2.2.2.2.2.2.2.2.2.2.2.2.2.2.2.2.2.2.2.2.2.2.2.2.2.2.2.2.2.2.2.2.2.2.2.2.1
theorem RS.D3_0_1 {h : zH} (q : RS h) : zhD h 3 0 1 = 0 := q.2.2.2.2.2.2.2.2.2.2.2.2.2.2.2.2.2.2.2.2.2.2.2.2.2.2.2.2.2.2.2.2.2.2.2.2.2.2.2.2.2.2.2.2.2.2.2.2.2.2.1
theorem RS.D3_1_0 {h : zH} (q : RS h) : zhD h 3 1 0 = 1 := q.2.2.2.2.2.2.2.2.2.2.2.2.2.2.2.2.2.2.2.2.2.2.2.2.2.2.2.2.2.2.2.2.2.2.2.2.2.2.2.2.2.2.2.2.2.2.2.2.2.2.2.1
theorem RS.D3_1_1 {h : zH} (q : RS h) : zhD h 3 1 1 = 1 := q.2.2.2.2.2.2.2.2.2.2.2.2.2.2.2.2.2.2.2.2.2.2.2.2.2.2.2.2.2.2.2.2.2.2.2.2.2.2.2.2.2.2.2.2.2.2.2.2.2.2.2.2.1
theorem RS.D5_0_0 {h : zH} (q : RS h) : zhD h 5 0 0 = 0 := q.2.2.2.2.2.2.2.2.2.2.2.2.2.2.2.2.2.2.2.2.2.2.2.2.2.2.2.2.2.2.2.2.2.2.2.2.2.2.2.2.2.2.2.2.2.2.2.2.2.2.2.2.2.1
theorem RS.D5_0_1 {h : zH} (q : RS h) : zhD h 5 0 1 = 0 := q.2.2.2.2.2.2.2.2.2.2.2.2.2.2.2.2.2.2.2.2.2.2.2.2.2.2.2.2.2.2.2.2.2.2.2.2.2.2.2.2.2.2.2.2.2.2.2.2.2.2.2.2.2.2.1
theorem RS.D5_0_2 {h : zH} (q : RS h) : zhD h 5 0 2 = 0 := q.2.2.2.2.2.2.2.2.2.2.2.2.2.2.2.2.2.2.2.2.2.2.2.2.2.2.2.2.2.2.2.2.2.2.2.2.2.2.2.2.2.2.2.2.2.2.2.2.2.2.2.2.2.2.2.1
theorem RS.D5_0_3 {h : zH} (q : RS h) : zhD h 5 0 3 = 0 := q.2.2.2.2.2.2.2.2.2.2.2.2.2.2.2.2.2.2.2.2.2.2.2.2.2.2.2.2.2.2.2.2.2.2.2.2.2.2.2.2.2.2.2.2.2.2.2.2.2.2.2.2.2.2.2.2.1
theorem RS.T {h : zH} (q : RS h) : ∀ i : Nat, i < 16 → zhD h 30 0 i = (i : Int) := q.2.2.2.2.2.2.2.2.2.2.2.2.2.2.2.2.2.2.2.2.2.2.2.2.2.2.2.2.2.2.2.2.2.2.2.2.2.2.2.2.2.2.2.2.2.2.2.2.2.2.2.2.2.2.2.2.2
/-- fields that are set once -/
def rsk (c j : Nat) : Bool := match c with
  | 0 => false
  | 1 => Nat.ble 2 j
  | 2 => Nat.beq j 4 || Nat.beq j 5 || Nat.ble 8 j
  | 23 => false
  | 3 => Nat.ble 2 j
  | 5 => Nat.ble 4 j
  | 30 => false
  | _ => true
def rsn (c : Nat) : Bool := !([0, 1, 2, 3, 4, 5, 20, 21, 22, 23, 24, 25, 26, 27, 28, 29, 30, 31, 51, 52].any (fun x => Nat.beq x c))
theorem zD_fr {h : zH} {c p j c0 p0 j0 : Nat} {v : Int} (hk : rsk c j = true) (h0 : rsk c0 j0 = false) : zhD (zset h c p j v) c0 p0 j0 = zhD h c0 p0 j0 := if_neg (fun z => by rw [z.1, z.2.2, hk] at h0; cases h0)
theorem rsn_ne {c c0 : Nat} (hc : rsn c = true) (h0 : rsn c0 = false) : c0 ≠ c := fun z => by rw [z, hc] at h0; cases h0
theorem RS.set {h : zH} (q : RS h) {c p j : Nat} {v : Int} (hk : rsk c j = true) : RS (zset h c p j v) := ⟨q.N0, q.N1, q.N20, q.N21, q.N2, q.N22, q.N23, q.N24, q.N25, q.N3, q.N26, q.N27, q.N4, q.N5, q.N28, q.N29, q.N30, q.N31, q.N51, q.N52, q.L20_0, q.L21_0, q.L22_0, q.L23_0, q.L24_0, q.L25_0, q.L26_0, q.L26_1, q.L27_0, q.L27_1, q.L28_0, q.L29_0, q.L30_0, q.L31_0, q.L51_0, q.L52_0, (zD_fr hk rfl).trans q.D0_0_0, (zD_fr hk rfl).trans q.D0_0_1, (zD_fr hk rfl).trans q.D0_0_2, (zD_fr hk rfl).trans q.D1_0_0, (zD_fr hk rfl).trans q.D1_0_1, (zD_fr hk rfl).trans q.D2_0_0, (zD_fr hk rfl).trans q.D2_0_1, (zD_fr hk rfl).trans q.D2_0_2, (zD_fr hk rfl).trans q.D2_0_3, (zD_fr hk rfl).trans q.D2_0_6, (zD_fr hk rfl).trans q.D2_0_7, (zD_fr hk rfl).trans q.D23_0_0, (zD_fr hk rfl).trans q.D23_0_1, (zD_fr hk rfl).trans q.D3_0_0, (zD_fr hk rfl).trans q.D3_0_1, (zD_fr hk rfl).trans q.D3_1_0, (zD_fr hk rfl).trans q.D3_1_1, (zD_fr hk rfl).trans q.D5_0_0, (zD_fr hk rfl).trans q.D5_0_1, (zD_fr hk rfl).trans q.D5_0_2, (zD_fr hk rfl).trans q.D5_0_3, fun i hi => (zD_fr hk rfl).trans (q.T i hi)⟩
theorem RS.new {h : zH} (q : RS h) {c len n : Nat} {f : Nat → Int} (hc : rsn c = true) : RS (znew h c len n f) := ⟨(zN_newne (rsn_ne hc rfl)).trans q.N0, (zN_newne (rsn_ne hc rfl)).trans q.N1, (zN_newne (rsn_ne hc rfl)).trans q.N20, (zN_newne (rsn_ne hc rfl)).trans q.N21, (zN_newne (rsn_ne hc rfl)).trans q.N2, (zN_newne (rsn_ne hc rfl)).trans q.N22, (zN_newne (rsn_ne hc rfl)).trans q.N23, (zN_newne (rsn_ne hc rfl)).trans q.N24, (zN_newne (rsn_ne hc rfl)).trans q.N25, (zN_newne (rsn_ne hc rfl)).trans q.N3, (zN_newne (rsn_ne hc rfl)).trans q.N26, (zN_newne (rsn_ne hc rfl)).trans q.N27, (zN_newne (rsn_ne hc rfl)).trans q.N4, (zN_newne (rsn_ne hc rfl)).trans q.N5, (zN_newne (rsn_ne hc rfl)).trans q.N28, (zN_newne (rsn_ne hc rfl)).trans q.N29, (zN_newne (rsn_ne hc rfl)).trans q.N30, (zN_newne (rsn_ne hc rfl)).trans q.N31, (zN_newne (rsn_ne hc rfl)).trans q.N51, (zN_newne (rsn_ne hc rfl)).trans q.N52, (congrFun (zL_newne (rsn_ne hc rfl)) _).trans q.L20_0, (congrFun (zL_newne (rsn_ne hc rfl)) _).trans q.L21_0, (congrFun (zL_newne (rsn_ne hc rfl)) _).trans q.L22_0, (congrFun (zL_newne (rsn_ne hc rfl)) _).trans q.L23_0, (congrFun (zL_newne (rsn_ne hc rfl)) _).trans q.L24_0, (congrFun (zL_newne (rsn_ne hc rfl)) _).trans q.L25_0, (congrFun (zL_newne (rsn_ne hc rfl)) _).trans q.L26_0, (congrFun (zL_newne (rsn_ne hc rfl)) _).trans q.L26_1, (congrFun (zL_newne (rsn_ne hc rfl)) _).trans q.L27_0, (congrFun (zL_newne (rsn_ne hc rfl)) _).trans q.L27_1, (congrFun (zL_newne (rsn_ne hc rfl)) _).trans q.L28_0, (congrFun (zL_newne (rsn_ne hc rfl)) _).trans q.L29_0, (congrFun (zL_newne (rsn_ne hc rfl)) _).trans q.L30_0, (congrFun (zL_newne (rsn_ne hc rfl)) _).trans q.L31_0, (congrFun (zL_newne (rsn_ne hc rfl)) _).trans q.L51_0, (congrFun (zL_newne (rsn_ne hc rfl)) _).trans q.L52_0, (congrFun (congrFun (zD_newne (rsn_ne hc rfl)) _) _).trans q.D0_0_0, (congrFun (congrFun (zD_newne (rsn_ne hc rfl)) _) _).trans q.D0_0_1, (congrFun (congrFun (zD_newne (rsn_ne hc rfl)) _) _).trans q.D0_0_2, (congrFun (congrFun (zD_newne (rsn_ne hc rfl)) _) _).trans q.D1_0_0, (congrFun (congrFun (zD_newne (rsn_ne hc rfl)) _) _).trans q.D1_0_1, (congrFun (congrFun (zD_newne (rsn_ne hc rfl)) _) _).trans q.D2_0_0, (congrFun (congrFun (zD_newne (rsn_ne hc rfl)) _) _).trans q.D2_0_1, (congrFun (congrFun (zD_newne (rsn_ne hc rfl)) _) _).trans q.D2_0_2, (congrFun (congrFun (zD_newne (rsn_ne hc rfl)) _) _).trans q.D2_0_3, (congrFun (congrFun (zD_newne (rsn_ne hc rfl)) _) _).trans q.D2_0_6, (congrFun (congrFun (zD_newne (rsn_ne hc rfl)) _) _).trans q.D2_0_7, (congrFun (congrFun (zD_newne (rsn_ne hc rfl)) _) _).trans q.D23_0_0, (congrFun (congrFun (zD_newne (rsn_ne hc rfl)) _) _).trans q.D23_0_1, (congrFun (congrFun (zD_newne (rsn_ne hc rfl)) _) _).trans q.D3_0_0, (congrFun (congrFun (zD_newne (rsn_ne hc rfl)) _) _).trans q.D3_0_1, (congrFun (congrFun (zD_newne (rsn_ne hc rfl)) _) _).trans q.D3_1_0, (congrFun (congrFun (zD_newne (rsn_ne hc rfl)) _) _).trans q.D3_1_1, (congrFun (congrFun (zD_newne (rsn_ne hc rfl)) _) _).trans q.D5_0_0, (congrFun (congrFun (zD_newne (rsn_ne hc rfl)) _) _).trans q.D5_0_1, (congrFun (congrFun (zD_newne (rsn_ne hc rfl)) _) _).trans q.D5_0_2, (congrFun (congrFun (zD_newne (rsn_ne hc rfl)) _) _).trans q.D5_0_3, fun i hi => (congrFun (congrFun (zD_newne (rsn_ne hc rfl)) _) _).trans (q.T i hi)⟩
theorem RS.thr {h : zH} (q : RS h) : RS (zthrown h) := q
theorem mh_cl {h : zH} {A : zA} {c p j : Nat} (hc : zmk c = false) : zhD (mh h A) c p j = zhD h c p j := if_neg (fun z => by rw [hc] at z; cases z.1)
theorem mh_clf {h : zH} {A : zA} {c : Nat} (hc : zmk c = false) : zhD (mh h A) c = zhD h c := funext fun p => funext fun j => mh_cl hc
theorem RS.mh {h : zH} (q : RS h) {A : zA} : RS (mh h A) := ⟨q.N0, q.N1, q.N20, q.N21, q.N2, q.N22, q.N23, q.N24, q.N25, q.N3, q.N26, q.N27, q.N4, q.N5, q.N28, q.N29, q.N30, q.N31, q.N51, q.N52, q.L20_0, q.L21_0, q.L22_0, q.L23_0, q.L24_0, q.L25_0, q.L26_0, q.L26_1, q.L27_0, q.L27_1, q.L28_0, q.L29_0, q.L30_0, q.L31_0, q.L51_0, q.L52_0, (mh_cl rfl).trans q.D0_0_0, (mh_cl rfl).trans q.D0_0_1, (mh_cl rfl).trans q.D0_0_2, (mh_cl rfl).trans q.D1_0_0, (mh_cl rfl).trans q.D1_0_1, (mh_cl rfl).trans q.D2_0_0, (mh_cl rfl).trans q.D2_0_1, (mh_cl rfl).trans q.D2_0_2, (mh_cl rfl).trans q.D2_0_3, (mh_cl rfl).trans q.D2_0_6, (mh_cl rfl).trans q.D2_0_7, (mh_cl rfl).trans q.D23_0_0, (mh_cl rfl).trans q.D23_0_1, (mh_cl rfl).trans q.D3_0_0, (mh_cl rfl).trans q.D3_0_1, (mh_cl rfl).trans q.D3_1_0, (mh_cl rfl).trans q.D3_1_1, (mh_cl rfl).trans q.D5_0_0, (mh_cl rfl).trans q.D5_0_1, (mh_cl rfl).trans q.D5_0_2, (mh_cl rfl).trans q.D5_0_3, fun i hi => (mh_cl rfl).trans (q.T i hi)⟩
/-! .. and what grows -/
def RD (h : zH) : Prop :=
  (zhN h 33 = zhN h 7 ∧ ∀ k : Nat, k < zhN h 7 → zhD h 7 k 2 = (k : Int) ∧ zhL h 33 k = 40) ∧
  (zhN h 34 = zhN h 9 ∧ zhN h 35 = zhN h 9 ∧ ∀ l : Nat, l < zhN h 9 → zhD h 9 l 16 = (l : Int) ∧ zhD h 9 l 17 = (l : Int) ∧ zhL h 34 l = 64 ∧ zhL h 35 l = 64) ∧
  (zhN h 32 = zhN h 6 ∧ 16 ≤ zhN h 6 ∧ (∀ t : Nat, t < zhN h 6 → zhD h 6 t 1 = (t : Int)) ∧ ∀ t : Nat, t < 16 → zhL h 32 t = 8 ∧ zhD h 6 t 0 = (t : Int)) ∧
  (zhN h 36 = zhN h 10 ∧ zhN h 37 = zhN h 10 ∧ zhN h 38 = zhN h 10 ∧ zhN h 39 = zhN h 10 ∧ zhN h 40 = zhN h 10 ∧ zhN h 41 = zhN h 10 ∧ ∀ b : Nat, b < zhN h 10 → zhD h 10 b 2 = (b : Int) ∧ zhD h 10 b 3 = (b : Int) ∧ zhD h 10 b 4 = (b : Int) ∧ zhD h 10 b 5 = (b : Int) ∧ zhD h 10 b 6 = (b : Int) ∧ zhD h 10 b 7 = (b : Int) ∧ zhL h 39 b = 64 ∧ zhL h 40 b = zhL h 38 b ∧ zhL h 41 b = zhL h 38 b) ∧
  (zhN h 42 = zhN h 11 ∧ zhN h 43 = zhN h 11 ∧ zhN h 44 = zhN h 11 ∧ ∀ g : Nat, g < zhN h 11 → zhD h 11 g 2 = (g : Int) ∧ zhD h 11 g 3 = (g : Int) ∧ zhD h 11 g 4 = (g : Int) ∧ zhL h 42 g = 4 ∧ zhL h 43 g = 4 ∧ zhL h 44 g = 4)
def rdk (c j : Nat) : Bool := match c with
  | 7 => !(Nat.beq j 2)
  | 9 => !(Nat.beq j 16 || Nat.beq j 17)
  | 6 => Nat.ble 2 j
  | 10 => Nat.ble j 1
  | 11 => Nat.ble j 1 || Nat.ble 5 j
  | _ => true
theorem zD_fd {h : zH} {c p j c0 p0 j0 : Nat} {v : Int} (hk : rdk c j = true) (h0 : rdk c0 j0 = false) : zhD (zset h c p j v) c0 p0 j0 = zhD h c0 p0 j0 := if_neg (fun z => by rw [z.1, z.2.2, hk] at h0; cases h0)
theorem RD.set {h : zH} (q : RD h) {c p j : Nat} {v : Int} (hk : rdk c j = true) : RD (zset h c p j v) := by
  obtain ⟨⟨a1, a2⟩, ⟨b1, b2, b3⟩, ⟨c1, c2, c3, c4⟩, ⟨d1, d2, d3, d4, d5, d6, d7⟩, ⟨e1, e2, e3, e4⟩⟩ := q
  refine ⟨⟨a1, fun k hk1 => ⟨(zD_fd hk rfl).trans (a2 k hk1).1, (a2 k hk1).2⟩⟩, ⟨b1, b2, fun l hl => ?_⟩, ⟨c1, c2, fun t ht => (zD_fd hk rfl).trans (c3 t ht), fun t ht => ⟨(c4 t ht).1, (zD_fd hk rfl).trans (c4 t ht).2⟩⟩, ⟨d1, d2, d3, d4, d5, d6, fun b hb => ?_⟩, ⟨e1, e2, e3, fun g hg => ?_⟩⟩
  · obtain ⟨x1, x2, x3, x4⟩ := b3 l hl
    exact ⟨(zD_fd hk rfl).trans x1, (zD_fd hk rfl).trans x2, x3, x4⟩
  · obtain ⟨x1, x2, x3, x4, x5, x6, x7, x8, x9⟩ := d7 b hb
    exact ⟨(zD_fd hk rfl).trans x1, (zD_fd hk rfl).trans x2, (zD_fd hk rfl).trans x3, (zD_fd hk rfl).trans x4, (zD_fd hk rfl).trans x5, (zD_fd hk rfl).trans x6, x7, x8, x9⟩
  · obtain ⟨x1, x2, x3, x4, x5, x6⟩ := e4 g hg
    exact ⟨(zD_fd hk rfl).trans x1, (zD_fd hk rfl).trans x2, (zD_fd hk rfl).trans x3, x4, x5, x6⟩
theorem RD.thr {h : zH} (q : RD h) : RD (zthrown h) := q
theorem RD.mh {h : zH} (q : RD h) {A : zA} : RD (mh h A) := by
  obtain ⟨⟨a1, a2⟩, ⟨b1, b2, b3⟩, ⟨c1, c2, c3, c4⟩, ⟨d1, d2, d3, d4, d5, d6, d7⟩, ⟨e1, e2, e3, e4⟩⟩ := q
  refine ⟨⟨a1, fun k hk1 => ⟨(mh_cl rfl).trans (a2 k hk1).1, (a2 k hk1).2⟩⟩, ⟨b1, b2, fun l hl => ?_⟩, ⟨c1, c2, fun t ht => (mh_cl rfl).trans (c3 t ht), fun t ht => ⟨(c4 t ht).1, (mh_cl rfl).trans (c4 t ht).2⟩⟩, ⟨d1, d2, d3, d4, d5, d6, fun b hb => ?_⟩, ⟨e1, e2, e3, fun g hg => ?_⟩⟩
  · obtain ⟨x1, x2, x3, x4⟩ := b3 l hl
    exact ⟨(mh_cl rfl).trans x1, (mh_cl rfl).trans x2, x3, x4⟩
  · obtain ⟨x1, x2, x3, x4, x5, x6, x7, x8, x9⟩ := d7 b hb
    exact ⟨(mh_cl rfl).trans x1, (mh_cl rfl).trans x2, (mh_cl rfl).trans x3, (mh_cl rfl).trans x4, (mh_cl rfl).trans x5, (mh_cl rfl).trans x6, x7, x8, x9⟩
  · obtain ⟨x1, x2, x3, x4, x5, x6⟩ := e4 g hg
    exact ⟨(mh_cl rfl).trans x1, (mh_cl rfl).trans x2, (mh_cl rfl).trans x3, x4, x5, x6⟩
