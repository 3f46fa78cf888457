/-! THE START: the relation -/
def SA (A : zA) : Prop := (∀ c j, 60 ≤ c → c ≤ 115 → A c j = mrow c j) ∧ (∀ j, j < 74 → A 12 j = if j = 2 then 111 else 0)
section
variable {len : Nat} {xs : Nat → Int32} {h : zH} {A B : zA} {N M : Int}
theorem SA.z (a : SA A) {c : Nat} (j : Nat) (h1 : 60 ≤ c) (h2 : c ≤ 115) (h3 : c ≠ 100 ∧ c ≠ 101 ∧ c ≠ 102) : A c j = 0 := (a.1 c j h1 h2).trans (mrow_0 h3 j)
theorem SA.f (a : SA A) {j : Nat} (h1 : j < 74) (h2 : j ≠ 2) : A 12 j = 0 := (a.2 j h1).trans (if_neg h2)
theorem SA.m (a : SA A) {c j : Nat} (h1 : 60 ≤ c) (h2 : c ≤ 115) (h3 : (c = 100 ∧ j < 2) ∨ (c = 101 ∧ j < 2) ∨ (c = 102 ∧ j < 4)) : A c j = -1 := (a.1 c j h1 h2).trans (if_pos h3)
theorem ST.n (x : ST len xs h) {c m : Nat} (h1 : c < 50) (h2 : c ≠ 12) (e : (if c = 6 ∨ c = 32 then 16 else y9c45 c) = m) : zhN h c = m := (x.1 c h1 h2).trans e
theorem ST.d (x : ST len xs h) {c p j : Nat} {v : Int} (h1 : c < 50) (h2 : c ≠ 12) (e : (if c = 0 ∧ p = 0 ∧ j = 2 then 0 else if c = 30 ∧ p = 0 ∧ j < 16 then (j : Int) else if c = 6 ∧ p < 16 then (if j ≤ 1 then (p : Int) else zdef (zft zPP 6 j)) else y9d45 xs c p j) = v) : zhD h c p j = v := (x.2.2.2 c p j h1 h2).trans e
theorem zpt_lt {j : Nat} (hj : zpt j = true) : j < 74 ∧ j ≠ 2 := by
  refine ⟨?_, fun e => ?_⟩
  · unfold zpt at hj
    simp only [Bool.or_eq_true, Bool.and_eq_true, Nat.beq_eq, Nat.ble_eq] at hj
    omega
  · rw [e] at hj
    exact absurd hj (by decide)
theorem n0_lt {l : Nat} {α : Prop} (z : l < 0) : α := absurd z (Nat.not_lt_zero l)
theorem ne01 {x : Int} {α : Prop} (h0 : x = 0) (h1 : x = 1) : α := absurd (h0.symm.trans h1) (by decide)
theorem zir_of {x : Int} (e : x = 0) : zir x := by
  rw [e]
  exact ⟨by decide, by decide⟩
theorem zsrm_z {u : Nat} (hz : ∀ n, A 87 n = 0) : ∀ n, zsrm A u n = 0
  | 0 => rfl
  | n + 1 => by
    show zsrm A u n + (if A 87 n = 1 ∧ A 88 n = (u : Int) then A 73 (n / 6) * A 61 (A 70 (n / 6)).toNat else 0) = 0
    rw [zsrm_z hz n, if_neg (fun z => ne01 (hz n) z.1), Int.add_zero]
theorem zssm_z {u : Nat} (hz : ∀ n, A 87 n = 0) : ∀ n, zssm A u n = 0
  | 0 => rfl
  | n + 1 => by
    show zssm A u n + (if A 87 n = 1 ∧ A 88 n = (u : Int) then A 62 (A 70 (n / 6)).toNat else 0) = 0
    rw [zssm_z hz n, if_neg (fun z => ne01 (hz n) z.1), Int.add_zero]
theorem ST.rk (x : ST len xs h) (a : SA A) : RK A h 0 := ⟨(a.f (j := 4) (by decide) (by decide)).trans rfl, by decide, x.n (c := 7) (by decide) (by decide) rfl, x.d (c := 1) (p := 0) (j := 2) (by decide) (by decide) rfl, fun k hk => n0_lt hk, fun k _ _ => ⟨a.z k (by decide) (by decide) (by decide), a.z k (by decide) (by decide) (by decide)⟩⟩
theorem ST.rl (x : ST len xs h) (a : SA A) : RL A h 0 0 := ⟨(a.f (j := 13) (by decide) (by decide)).trans rfl, by decide, x.n (c := 9) (by decide) (by decide) rfl, x.d (c := 1) (p := 0) (j := 3) (by decide) (by decide) rfl, fun k hk => n0_lt hk, fun k _ _ => ⟨a.z k (by decide) (by decide) (by decide), a.z k (by decide) (by decide) (by decide), a.z k (by decide) (by decide) (by decide), a.z k (by decide) (by decide) (by decide), a.z k (by decide) (by decide) (by decide), a.z k (by decide) (by decide) (by decide), a.z k (by decide) (by decide) (by decide), a.z k (by decide) (by decide) (by decide), a.z k (by decide) (by decide) (by decide)⟩⟩
theorem ST.rm (x : ST len xs h) (a : SA A) : RM A h := by
  have f4 : ∀ i, i < 8 → zhD h 4 0 i = 0 := fun i hi => by
    rcases (show i = 0 ∨ i = 1 ∨ i = 2 ∨ i = 3 ∨ i = 4 ∨ i = 5 ∨ i = 6 ∨ i = 7 by omega) with rfl | rfl | rfl | rfl | rfl | rfl | rfl | rfl <;> exact x.d (by decide) (by decide) rfl
  exact ⟨fun j _ => (x.d (c := 22) (p := 0) (j := j) (v := 0) (by decide) (by decide) rfl).trans (a.z j (by decide) (by decide) (by decide)).symm, (x.d (c := 2) (p := 0) (j := 4) (v := 0) (by decide) (by decide) rfl).trans (a.f (by decide) (by decide)).symm, (x.d (c := 2) (p := 0) (j := 5) (v := 111) (by decide) (by decide) rfl).trans ((a.2 2 (by decide)).trans (if_pos rfl)).symm, Or.inl ((a.2 2 (by decide)).trans (if_pos rfl)),
    (f4 0 (by decide)).trans (a.f (by decide) (by decide)).symm, (f4 1 (by decide)).trans (a.f (by decide) (by decide)).symm, (f4 2 (by decide)).trans (a.f (by decide) (by decide)).symm, (f4 3 (by decide)).trans (a.f (by decide) (by decide)).symm, (f4 4 (by decide)).trans (a.f (by decide) (by decide)).symm, (f4 5 (by decide)).trans (a.f (by decide) (by decide)).symm, (f4 6 (by decide)).trans (a.f (by decide) (by decide)).symm, (f4 7 (by decide)).trans (a.f (by decide) (by decide)).symm⟩
theorem SA.h87 (a : SA A) (b : Nat) : A 87 b = 0 := a.z b (by decide) (by decide) (by decide)
theorem SA.h93 (a : SA A) (u : Nat) : A 93 u = 0 := a.z u (by decide) (by decide) (by decide)
theorem SA.n93 (a : SA A) {u i : Nat} {α : Prop} (z : (i : Int) < A 93 u) : α := by
  rw [a.h93] at z
  exact absurd z (by omega)
theorem SA.rc (a : SA A) : RC A 0 := ⟨fun l hl => n0_lt hl, fun j hj => a.f (zpt_lt hj).1 (zpt_lt hj).2⟩
theorem SA.bi (a : SA A) : BI A 0 := ⟨fun b _ => Or.inl (a.h87 b), fun b _ h1 => ne01 (a.h87 b) h1, fun l hl => n0_lt hl⟩
theorem SA.bh (a : SA A) {bc : Nat → Nat} : BH A h bc := ⟨fun b _ h1 => ne01 (a.h87 b) h1, fun b _ _ _ h1 => ne01 (a.h87 b) h1⟩
theorem SA.th (a : SA A) {bc tc : Nat → Nat} : TH A h bc tc := ⟨fun b _ h1 => ne01 (a.h87 b) h1, fun b _ _ _ h1 => ne01 (a.h87 b) h1⟩
theorem SA.td (a : SA A) {tc : Nat → Nat} : TD A h tc := fun b _ h1 => ne01 (a.h87 b) h1
theorem SA.gh (a : SA A) {bc tc gc : Nat → Nat} : GH A h bc tc gc := ⟨fun b _ h1 => ne01 (a.h87 b) h1, fun b _ _ _ h1 => ne01 (a.h87 b) h1⟩
theorem SA.sh (a : SA A) {bc : Nat → Nat} : SH A h bc := fun b _ h1 => ne01 (a.h87 b) h1
theorem ST.us (x : ST len xs h) (a : SA A) {gc : Nat → Nat} : US A h gc := fun u hu => by
  refine ⟨⟨Int.le_of_eq (a.h93 u).symm, Int.le_trans (Int.le_of_eq (a.h93 u)) (by decide), ?_⟩, fun i hi => a.n93 hi, fun i _ hi => a.n93 hi, fun b j _ h1 => ne01 (a.h87 b) h1, fun i i2 _ hi => a.n93 hi⟩
  rw [a.h93]
  rcases (show u = 0 ∨ u = 1 by omega) with rfl | rfl
  · exact x.d (by decide) (by decide) rfl
  · exact x.d (by decide) (by decide) rfl
theorem SA.ug (a : SA A) {gc : Nat → Nat} : UG A h gc := fun u i _ hi => a.n93 hi
theorem ST.ul (x : ST len xs h) (a : SA A) : UL A h := fun u hu => by
  refine ⟨fun p hp => ?_, Or.inl ?_, Or.inl (a.m (by decide) (by decide) (Or.inl ⟨rfl, hu⟩)), fun i hi => a.n93 hi⟩
  · rw [a.m (c := 102) (j := 2 * u + p) (by decide) (by decide) (Or.inr (Or.inr ⟨rfl, by omega⟩))]
    rcases (show u = 0 ∨ u = 1 by omega) with rfl | rfl
    · rcases (show p = 0 ∨ p = 1 by omega) with rfl | rfl
      · exact x.d (by decide) (by decide) rfl
      · exact x.d (by decide) (by decide) rfl
    · rcases (show p = 0 ∨ p = 1 by omega) with rfl | rfl
      · exact x.d (by decide) (by decide) rfl
      · exact x.d (by decide) (by decide) rfl
  · rcases (show u = 0 ∨ u = 1 by omega) with rfl | rfl
    · exact x.d (by decide) (by decide) rfl
    · exact x.d (by decide) (by decide) rfl
theorem SA.su (a : SA A) : SU A := fun u _ => by
  rw [a.h93, zsrm_z a.h87, zssm_z a.h87]
  exact ⟨rfl, rfl, by decide, by decide⟩
theorem SA.ta (a : SA A) : TA A 0 := ⟨fun _ _ _ _ _ _ _ _ _ => ⟨a.z _ (by decide) (by decide) (by decide), a.z _ (by decide) (by decide) (by decide)⟩, fun _ _ _ _ _ _ _ => ⟨a.z _ (by decide) (by decide) (by decide), a.z _ (by decide) (by decide) (by decide)⟩, fun _ _ _ _ _ => a.z _ (by decide) (by decide) (by decide), fun _ _ _ _ => Or.inl (a.z _ (by decide) (by decide) (by decide)), fun _ _ _ _ => Or.inl (a.z _ (by decide) (by decide) (by decide)), fun _ _ _ _ _ => a.z _ (by decide) (by decide) (by decide), fun b _ _ _ h1 => ne01 (a.h87 b) h1, fun b _ _ _ h1 => ne01 (a.h87 b) h1⟩
theorem SA.tb (a : SA A) {bc : Nat → Nat} : TB A h bc := ⟨fun b _ _ _ h1 => ne01 (a.h87 b) h1, fun b _ _ h1 => ne01 (a.h87 b) h1⟩
theorem SA.tl : TL A h 0 := fun _ hl => n0_lt hl
theorem SA.bd (a : SA A) : BD A 0 := ⟨fun j hj => by
    have e : A 12 j = 0 := a.f (by omega) (by omega)
    exact ⟨Int.le_of_eq e.symm, Int.le_of_eq (e.trans rfl), fun _ => Int.le_of_eq (e.trans rfl)⟩, fun b _ => Int.le_of_eq ((a.z b (c := 86) (by decide) (by decide) (by decide)).trans rfl)⟩
theorem SA.iv (a : SA A) : IV A := fun j => ⟨zir_of (a.z j (by decide) (by decide) (by decide)), zir_of (a.z j (by decide) (by decide) (by decide)), zir_of (a.z j (by decide) (by decide) (by decide)), zir_of (a.z j (by decide) (by decide) (by decide)), zir_of (a.z j (by decide) (by decide) (by decide))⟩
theorem SA.rn (a : SA A) (hC : (zhC h : Int) ≤ N) (hS : (zhS h : Int) ≤ M) : RN A h 0 N M := by
  have z : zsum (A 78) 0 12 = 0 := zsum_0 12 (fun k _ => a.z _ (by decide) (by decide) (by decide))
  refine ⟨?_, ?_⟩
  · rw [z]
    omega
  · rw [z]
    omega
theorem ST.rr (x : ST len xs h) (a : SA A) (b : RH h B) (hC : (zhC h : Int) ≤ N) (hS : (zhS h : Int) ≤ M) : RR A h 0 0 (fun _ => 0) (fun _ => 0) (fun _ => 0) 0 B N M := ⟨x.rs, x.rd, x.rk a, x.rl a, x.rm a, a.rc, a.bi, a.bh, a.th, a.td, a.gh, a.sh, x.us a, a.ug, x.ul a, a.su, a.ta, a.tb, SA.tl, a.bd, b, a.iv, a.rn hC hS⟩
theorem CL.none : CL A 0 := ⟨fun _ hl => n0_lt hl, fun _ hl => n0_lt hl, fun _ hl => n0_lt hl, fun _ hl => n0_lt hl⟩
theorem SA.cw (a : SA A) : CW A 0 := ⟨CL.none, fun u i b j k hu hi => by
  rw [a.h93] at hi
  exact absurd hi (by omega)⟩
end
