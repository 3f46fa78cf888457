/-! THE SERIAL RUN: what it may change, its relation -/
/-- cells of the replay -/
def srp (c p j : Nat) : Bool := match c with
  | 28 => true
  | 29 => true
  | 31 => true
  | 6 => Nat.blt p 16 && Nat.ble 2 j
  | 32 => Nat.blt p 16
  | _ => false
def SF (A0 A : zA) (h0 h : zH) : Prop := (∀ c, c < 110 ∨ 115 < c → A c = A0 c) ∧ zhN h = zhN h0 ∧ zhL h = zhL h0 ∧ zhC h = zhC h0 ∧ zhS h = zhS h0 ∧ ∀ c p j, srp c p j = false → zhD h c p j = zhD h0 c p j
/-- the replay's rows -/
def SQ (A : zA) (h : zH) (k T : Nat) (bn : Int) : Prop := (zhD h 5 0 4 = (k : Int) ∧ zhD h 5 0 5 = (T : Int)) ∧ (∀ j, j < 64 → zhD h 28 0 j = A 110 j) ∧ (∀ c, c < 16 → zhD h 29 0 c = A 111 c) ∧
  ∀ t, t < T → zhD h 6 t 2 = bn ∧ (zhD h 6 t 4 = A 114 t ∧ (A 114 t = 114 ∨ A 114 t = 119 ∨ A 114 t = 101)) ∧ (A 114 t ≠ 101 → zhD h 6 t 3 = A 113 t ∧ 0 ≤ A 113 t ∧ A 113 t < A 63 k) ∧ (zhD h 31 0 t = A 115 t ∧ 0 ≤ A 115 t ∧ A 115 t ≤ 200) ∧ ∀ r, r < 8 → zhD h 32 t r = A 112 (8 * t + r)
section
variable {ρ : Type} {h h0 g : zH} {A A0 B : zA} {kr : Int → zH → Option ρ} {K L n k T t : Nat} {bc tc gc : Nat → Nat} {N M bn v : Int}
theorem zset_cm {c p j c2 p2 j2 : Nat} {v v2 : Int} (hc : c2 ≠ c) : zset (zset h c p j v) c2 p2 j2 v2 = zset (zset h c2 p2 j2 v2) c p j v := by
  refine congrArg (fun f => (h.1, h.2.1, f, h.2.2.2)) (funext fun c' => funext fun p' => funext fun j' => ?_)
  show (if c' = c2 ∧ p' = p2 ∧ j' = j2 then v2 else if c' = c ∧ p' = p ∧ j' = j then v else h.2.2.1 c' p' j') = (if c' = c ∧ p' = p ∧ j' = j then v else if c' = c2 ∧ p' = p2 ∧ j' = j2 then v2 else h.2.2.1 c' p' j')
  by_cases h1 : c' = c2 ∧ p' = p2 ∧ j' = j2
  · rw [if_pos h1, if_neg (fun z => hc (by rw [← h1.1, z.1])), if_pos h1]
  · rw [if_neg h1, if_neg h1]
theorem SF.rf : SF A A h h := ⟨fun _ _ => rfl, rfl, rfl, rfl, rfl, fun _ _ _ _ => rfl⟩
theorem SF.au (x : SF A0 A h0 h) {c j : Nat} {v : Int} (hc : 110 ≤ c ∧ c ≤ 115) : SF A0 (au A c j v) h0 h := by
  obtain ⟨x1, x2⟩ := x
  exact ⟨fun c2 h2 => by rw [au_ne (by omega)]; exact x1 c2 h2, x2⟩
theorem SF.zs (x : SF A0 A h0 h) {c p j : Nat} {v : Int} (hc : srp c p j = true) : SF A0 A h0 (zset h c p j v) := by
  obtain ⟨x1, x2, x3, x4, x5, x6⟩ := x
  refine ⟨x1, x2, x3, x4, x5, fun c2 p2 j2 h2 => ?_⟩
  rw [zD_set, if_neg (fun z => by rw [z.1, z.2.1, z.2.2, hc] at h2; cases h2)]
  exact x6 c2 p2 j2 h2
theorem SF.row (x : SF A0 A h0 h) {c p : Nat} {s : Nat → Int} (hc : ∀ j, srp c p j = true) : SF A0 A h0 (hrw h c p s) := by
  obtain ⟨x1, x2, x3, x4, x5, x6⟩ := x
  refine ⟨x1, x2, x3, x4, x5, fun c2 p2 j2 h2 => ?_⟩
  rw [hrw_D, if_neg (fun z => by rw [z.1, z.2, hc] at h2; cases h2)]
  exact x6 c2 p2 j2 h2
theorem srp_6 {t j : Nat} (ht : t < 16) (hj : 2 ≤ j) : srp 6 t j = true := by
  show (Nat.blt t 16 && Nat.ble 2 j) = true
  rw [blt_t ht, Nat.ble_eq_true_of_le hj]
  rfl
theorem srp_32 {t j : Nat} (ht : t < 16) : srp 32 t j = true := blt_t ht
theorem SF.D (x : SF A0 A h0 h) {c : Nat} (hc : ∀ p j, srp c p j = false) (p j : Nat) : zhD h c p j = zhD h0 c p j := x.2.2.2.2.2 c p j (hc p j)
theorem srp_rs {c p j : Nat} (hc : rsf c j = true) : srp c p j = false := by
  unfold srp
  split
  all_goals first | rfl | cases hc
theorem srp_rd {c p j : Nat} (hc : rdf c j = true) : srp c p j = false := by
  unfold srp
  split
  · cases hc
  · cases hc
  · cases hc
  · have hc' : (!(Nat.ble 2 j)) = true := hc
    cases z : Nat.ble 2 j with
    | false => rw [Bool.and_false]
    | true => rw [z] at hc'; cases hc'
  · cases hc
  · rfl
theorem srp_rk {c p j : Nat} (hc : RKd c j = true) : srp c p j = false := by
  unfold srp
  split
  all_goals first | rfl | cases hc
theorem SF.rs (x : SF A0 A h0 h) (q : RS h0) : RS h := q.fr (fun c p j hc => x.2.2.2.2.2 c p j (srp_rs hc)) x.2.1 x.2.2.1
theorem SF.rd (x : SF A0 A h0 h) (q : RD h0) : RD h := q.fr (fun c p j hc => x.2.2.2.2.2 c p j (srp_rd hc)) x.2.1 x.2.2.1
theorem SF.rk (x : SF A0 A h0 h) (q : RK A0 h0 K) : RK A h K := q.fr (fun c j hc => by
    have : c < 110 := by
      unfold RKa at hc
      split at hc
      all_goals first | omega | cases hc
    rw [x.1 c (Or.inl this)]) (fun c p j hc => x.2.2.2.2.2 c p j (srp_rk hc)) x.2.1
theorem SF.tr {A1 : zA} {h1 : zH} (x : SF A0 A h0 h) (y : SF A A1 h h1) : SF A0 A1 h0 h1 := by
  obtain ⟨x1, x2, x3, x4, x5, x6⟩ := x
  obtain ⟨y1, y2, y3, y4, y5, y6⟩ := y
  exact ⟨fun c hc => (y1 c hc).trans (x1 c hc), y2.trans x2, y3.trans x3, y4.trans x4, y5.trans x5, fun c p j hc => (y6 c p j hc).trans (x6 c p j hc)⟩
/-- the class relation outlives the replay -/
theorem SF.rr (x : SF A0 A h0 h) (q : RR A0 h0 K L bc tc gc n B N M) : RR A h K L bc tc gc n B N M := by
  have e : ∀ c, c < 110 ∨ 115 < c → A c = A0 c := x.1
  have fa : ∀ f : Nat → Nat → Bool, (∀ j, f 110 j = false) → (∀ j, f 111 j = false) → (∀ j, f 112 j = false) → (∀ j, f 113 j = false) → (∀ j, f 114 j = false) → (∀ j, f 115 j = false) → ∀ c j, f c j = true → A c j = A0 c j := fun f h1 h2 h3 h4 h5 h6 c j hz => by
    by_cases hc : c < 110 ∨ 115 < c
    · rw [e c hc]
    · exfalso
      rcases (show c = 110 ∨ c = 111 ∨ c = 112 ∨ c = 113 ∨ c = 114 ∨ c = 115 by omega) with rfl | rfl | rfl | rfl | rfl | rfl
      · rw [h1] at hz; cases hz
      · rw [h2] at hz; cases hz
      · rw [h3] at hz; cases hz
      · rw [h4] at hz; cases hz
      · rw [h5] at hz; cases hz
      · rw [h6] at hz; cases hz
  have fd : ∀ f : Nat → Nat → Bool, (∀ j, f 28 j = false) → (∀ j, f 29 j = false) → (∀ j, f 31 j = false) → (∀ j, f 6 j = false) → (∀ j, f 32 j = false) → ∀ c p j, f c j = true → zhD h c p j = zhD h0 c p j := fun f h2 h3 h4 h5 h6 c p j hz => by
    refine x.2.2.2.2.2 c p j ?_
    unfold srp
    split
    · rw [h2] at hz; cases hz
    · rw [h3] at hz; cases hz
    · rw [h4] at hz; cases hz
    · rw [h5] at hz; cases hz
    · rw [h6] at hz; cases hz
    · rfl
  have hN := x.2.1
  have hL := x.2.2.1
  have o16 : ∀ b t : Nat, b < 72 → A0 87 b = 1 → (t : Int) < A0 73 (b / 6) → ∀ j, zhD h 6 (tc (16 * b + t)) j = zhD h0 6 (tc (16 * b + t)) j ∧ zhD h 32 (tc (16 * b + t)) j = zhD h0 32 (tc (16 * b + t)) j := fun b t hb hin ht j => by
    have z := (q.th.1 b hb hin t ht).1
    have zf : Nat.blt (tc (16 * b + t)) 16 = false := blt_f z
    refine ⟨x.2.2.2.2.2 6 _ j ?_, x.2.2.2.2.2 32 _ j zf⟩
    show (Nat.blt (tc (16 * b + t)) 16 && Nat.ble 2 j) = false
    rw [zf, Bool.false_and]
  refine ⟨x.rs q.rs, x.rd q.rd, x.rk q.rk, q.rl.fr (fa RLa (fun _ => rfl) (fun _ => rfl) (fun _ => rfl) (fun _ => rfl) (fun _ => rfl) (fun _ => rfl)) (fd RLd (fun _ => rfl) (fun _ => rfl) (fun _ => rfl) (fun _ => rfl) (fun _ => rfl)) hN, q.rm.fr (fa RMa (fun _ => rfl) (fun _ => rfl) (fun _ => rfl) (fun _ => rfl) (fun _ => rfl) (fun _ => rfl)) (fd RMd (fun _ => rfl) (fun _ => rfl) (fun _ => rfl) (fun _ => rfl) (fun _ => rfl)) hN, q.rc.fr (fa RCa (fun _ => rfl) (fun _ => rfl) (fun _ => rfl) (fun _ => rfl) (fun _ => rfl) (fun _ => rfl)), q.bi.fr (fa BIa (fun _ => rfl) (fun _ => rfl) (fun _ => rfl) (fun _ => rfl) (fun _ => rfl) (fun _ => rfl)), q.bh.fr (fa BHa (fun _ => rfl) (fun _ => rfl) (fun _ => rfl) (fun _ => rfl) (fun _ => rfl) (fun _ => rfl)) (fd BHd (fun _ => rfl) (fun _ => rfl) (fun _ => rfl) (fun _ => rfl) (fun _ => rfl)) hN hL, ⟨fun b hb hin t ht => ?_, fun b b2 hb hb2 h1 h2 t t2 ht ht2 he => ?_⟩, fun b hb hin t ht => ?_, q.gh.fr (fa GHa (fun _ => rfl) (fun _ => rfl) (fun _ => rfl) (fun _ => rfl) (fun _ => rfl) (fun _ => rfl)) (fd GHd (fun _ => rfl) (fun _ => rfl) (fun _ => rfl) (fun _ => rfl) (fun _ => rfl)) hN hL, q.sh.fr (fa SHa (fun _ => rfl) (fun _ => rfl) (fun _ => rfl) (fun _ => rfl) (fun _ => rfl) (fun _ => rfl)) (fd SHd (fun _ => rfl) (fun _ => rfl) (fun _ => rfl) (fun _ => rfl) (fun _ => rfl)) hN hL, q.us.fr (fa USa (fun _ => rfl) (fun _ => rfl) (fun _ => rfl) (fun _ => rfl) (fun _ => rfl) (fun _ => rfl)) (fd USd (fun _ => rfl) (fun _ => rfl) (fun _ => rfl) (fun _ => rfl) (fun _ => rfl)) hN hL, q.ug.fr (fa UGa (fun _ => rfl) (fun _ => rfl) (fun _ => rfl) (fun _ => rfl) (fun _ => rfl) (fun _ => rfl)) (fd UGd (fun _ => rfl) (fun _ => rfl) (fun _ => rfl) (fun _ => rfl) (fun _ => rfl)) hN hL, q.ul.fr (fa ULa (fun _ => rfl) (fun _ => rfl) (fun _ => rfl) (fun _ => rfl) (fun _ => rfl) (fun _ => rfl)) (fd ULd (fun _ => rfl) (fun _ => rfl) (fun _ => rfl) (fun _ => rfl) (fun _ => rfl)) hN hL, q.su.fr (fa SUa (fun _ => rfl) (fun _ => rfl) (fun _ => rfl) (fun _ => rfl) (fun _ => rfl) (fun _ => rfl)), q.ta.fr (fa TAa (fun _ => rfl) (fun _ => rfl) (fun _ => rfl) (fun _ => rfl) (fun _ => rfl) (fun _ => rfl)), q.tb.fr (fa TBa (fun _ => rfl) (fun _ => rfl) (fun _ => rfl) (fun _ => rfl) (fun _ => rfl) (fun _ => rfl)) (fd TBd (fun _ => rfl) (fun _ => rfl) (fun _ => rfl) (fun _ => rfl) (fun _ => rfl)) hN hL, q.tl.fr (fa TLa (fun _ => rfl) (fun _ => rfl) (fun _ => rfl) (fun _ => rfl) (fun _ => rfl) (fun _ => rfl)) (fd TLd (fun _ => rfl) (fun _ => rfl) (fun _ => rfl) (fun _ => rfl) (fun _ => rfl)) hN hL, q.bd.fr (fa BDa (fun _ => rfl) (fun _ => rfl) (fun _ => rfl) (fun _ => rfl) (fun _ => rfl) (fun _ => rfl)), q.rh.fr (fd RHd (fun _ => rfl) (fun _ => rfl) (fun _ => rfl) (fun _ => rfl) (fun _ => rfl)) hN hL, q.iv.fr (fa IVa (fun _ => rfl) (fun _ => rfl) (fun _ => rfl) (fun _ => rfl) (fun _ => rfl) (fun _ => rfl)), q.rn.fr (fa RNa (fun _ => rfl) (fun _ => rfl) (fun _ => rfl) (fun _ => rfl) (fun _ => rfl) (fun _ => rfl)) x.2.2.2.1 x.2.2.2.2.1⟩
  · rw [e 87 (by omega)] at hin
    rw [e 73 (by omega)] at ht
    rw [e 61 (by omega), e 70 (by omega), hN, hL, (o16 b t hb hin ht 0).1, (o16 b t hb hin ht 2).1, x.2.2.2.2.2 36 _ _ rfl]
    exact q.th.1 b hb hin t ht
  · rw [e 87 (by omega)] at h1 h2
    rw [e 73 (by omega)] at ht ht2
    exact q.th.2 b b2 hb hb2 h1 h2 t t2 ht ht2 he
  · rw [e 87 (by omega)] at hin
    rw [e 73 (by omega)] at ht
    rw [e 61 (by omega), e 63 (by omega), e 70 (by omega), e 89 (by omega), e 90 (by omega), e 91 (by omega), (o16 b t hb hin ht 3).1, (o16 b t hb hin ht 4).1]
    obtain ⟨z1, z2, z3, z4⟩ := q.td b hb hin t ht
    exact ⟨z1, z2, z3, fun r hr => by rw [(o16 b t hb hin ht r).2]; exact z4 r hr⟩
end
