/-! LANES: votes, sources, children -/
theorem zi32 {x : Int} (hx : zir x) : (Int32.ofInt x).toInt = x := Int32.toInt_ofInt_of_le (by have := hx.1; omega) (by have := hx.2; omega)
theorem zand_3 {x : Int} : zand x 3 = x % 4 := by
  have e : ((Int32.ofInt x).toBitVec &&& 3#32).toNat = (x % 4294967296).toNat % 4 := by
    rw [BitVec.toNat_and]
    show (BitVec.ofInt 32 x).toNat &&& 3 = _
    rw [BitVec.toNat_ofInt]
    exact Nat.and_two_pow_sub_one_eq_mod _ 2
  show ((Int32.ofInt x).toBitVec &&& 3#32).toInt = _
  rw [BitVec.toInt_eq_toNat_of_lt (by rw [e]; omega), e]
  omega
theorem zxor_neg {x c : Int} (hx : zir x) (hc : (Int32.ofInt c).toBitVec.msb = false) : zxor x c < 0 ↔ x < 0 := by
  have e : decide (zxor x c < 0) = decide (x < 0) := by
    have h1 : decide (zxor x c < 0) = ((Int32.ofInt x).toBitVec ^^^ (Int32.ofInt c).toBitVec).msb := (BitVec.msb_eq_toInt).symm
    rw [h1, BitVec.msb_xor, hc, Bool.xor_false, BitVec.msb_eq_toInt]
    show decide ((Int32.ofInt x).toInt < 0) = _
    rw [zi32 hx]
  exact decide_eq_decide.mp e
theorem zbs_rng {f : Nat → Bool} : 0 ≤ zbs f 4 ∧ zbs f 4 < 16 := by
  rw [(zbs_4 f).2.2.2]
  cases f 0 <;> cases f 1 <;> cases f 2 <;> cases f 3 <;> decide
section
variable {ρ : Type} {h g : zH} {A B : zA} {kr : Int → zH → Option ρ} {K L n : Nat} {bc tc gc : Nat → Nat} {N M : Int}
theorem x_fm2 {x : Int} (hx : zir x) : Ma_floorMod x 2 h kr = kr (x % 2) h := by
  unfold Ma_floorMod Ma_floorMod_18
  rw [if_neg (by decide)]
  have hx1 := hx.1
  have hx2 := hx.2
  by_cases h0 : x < 0
  · have e : Int.tmod x 2 = -((-x) % 2) := by
      rw [← Int.tmod_eq_emod_of_nonneg (by omega), Int.neg_tmod, Int.neg_neg]
    rw [if_pos ((zxor_neg hx (by decide)).mpr h0), e]
    by_cases h1 : -((-x) % 2) = 0
    · rw [if_pos h1]
      exact congrArg (fun z => kr z h) (by omega)
    · rw [if_neg h1, wr_id (by omega) (by omega)]
      exact congrArg (fun z => kr z h) (by omega)
  · rw [if_neg (fun z => h0 ((zxor_neg hx (by decide)).mp z)), Int.tmod_eq_emod_of_nonneg (by omega)]
theorem x_fm4 {x : Int} (hx : zir x) : Ma_floorMod x 4 h kr = kr (x % 4) h := by
  unfold Ma_floorMod Ma_floorMod_18
  rw [if_neg (by decide)]
  have hx1 := hx.1
  have hx2 := hx.2
  by_cases h0 : x < 0
  · have e : Int.tmod x 4 = -((-x) % 4) := by
      rw [← Int.tmod_eq_emod_of_nonneg (by omega), Int.neg_tmod, Int.neg_neg]
    rw [if_pos ((zxor_neg hx (by decide)).mpr h0), e]
    by_cases h1 : -((-x) % 4) = 0
    · rw [if_pos h1]
      exact congrArg (fun z => kr z h) (by omega)
    · rw [if_neg h1, wr_id (by omega) (by omega)]
      exact congrArg (fun z => kr z h) (by omega)
  · rw [if_neg (fun z => h0 ((zxor_neg hx (by decide)).mp z)), Int.tmod_eq_emod_of_nonneg (by omega)]
theorem m_modulo {v : Int} : M_modulo v h kr = kr (v % 4) h := by
  unfold M_modulo
  rw [zand_3]
theorem m_isUnder {F : Nat → Bool} (hF : A 12 63 = zbs F 4) {k : Nat} (hk : k < 4) : M_isUnder (k : Int) (mh g A) kr = kr (tb (F k)) (mh g A) := by
  unfold M_isUnder M_isUnder_17
  rw [mD12, hF, zbs_bit hk]
  cases F k
  · rw [tb_f, if_neg (by decide), znar_0]
  · rw [tb_t, if_pos rfl, znar_1]
theorem x_isIn {F : Nat → Bool} {k : Nat} (hk : k < 4) : X_isIn (zbs F 4) (k : Int) h kr = kr (tb (F k)) h := by
  unfold X_isIn X_isIn_13
  rw [zbs_bit hk]
  cases F k
  · rw [tb_f, if_pos rfl, znar_0]
  · rw [tb_t, if_neg (by decide), znar_1]
theorem m_vote_loop {F : Nat → Bool} (hF : A 12 63 = zbs F 4) {v : Nat} (hv : v < 8) : ∀ n k : Nat, k ≤ 4 → 4 - k < n → zit (fun _ _ _ _ => none) (M_vote_4b kr) n (v : Int) (zbs (fun m => F m && decide (A 109 (8 * m + v) ≠ 0)) k) (k : Int) (mh g A) = kr (zbs (fun m => F m && decide (A 109 (8 * m + v) ≠ 0)) 4) (mh g A)
  | 0, k, _, hn => absurd hn (Nat.not_lt_zero _)
  | n + 1, k, hk, hn => by
    rw [zit_s]
    by_cases hk4 : k < 4
    · have ih := m_vote_loop hF hv n (k + 1) hk4 (by omega)
      have e1 : zbs (fun m => F m && decide (A 109 (8 * m + v) ≠ 0)) (k + 1) = if (F k && decide (A 109 (8 * k + v) ≠ 0)) = true then zor (zbs (fun m => F m && decide (A 109 (8 * m + v) ≠ 0)) k) (zshl 1 (k : Int)) else zbs (fun m => F m && decide (A 109 (8 * m + v) ≠ 0)) k := rfl
      rw [e1] at ih
      have hzo := zor_zbs (f := fun m => F m && decide (A 109 (8 * m + v) ≠ 0)) hk
      generalize zit (fun _ _ _ _ => none) (M_vote_4b kr) n = r2 at ih ⊢
      unfold M_vote_4b M_vote_33 M_vote_34
      rw [if_pos (show (k : Int) < 4 by omega), m_isUnder hF hk4]
      cases hFk : F k with
      | false =>
        rw [hFk, Bool.false_and, if_neg (by decide)] at ih
        rw [tb_f, if_pos rfl, hzo, wk1 hk]
        exact ih
      | true =>
        rw [hFk, Bool.true_and] at ih
        rw [tb_t, if_neg (by decide), m_lane hk4 hv]
        by_cases h0 : A 109 (8 * k + v) = 0
        · rw [if_neg (by simp [h0])] at ih
          rw [if_pos h0, hzo, wk1 hk]
          exact ih
        · rw [if_pos (decide_eq_true h0)] at ih
          rw [if_neg h0, wk1 hk]
          exact ih
    · have : k = 4 := by omega
      subst this
      generalize zit (fun _ _ _ _ => none) (M_vote_4b kr) n = r2
      unfold M_vote_4b
      rw [if_neg (by decide)]
theorem m_vote {F : Nat → Bool} (hF : A 12 63 = zbs F 4) {v : Nat} (hv : v < 8) : M_vote (v : Int) (mh g A) kr = kr (zbs (fun m => F m && decide (A 109 (8 * m + v) ≠ 0)) 4) (mh g A) := by
  unfold M_vote
  exact m_vote_loop hF hv zN 0 (by omega) (by show 4 - 0 < 5000; omega)
theorem zlat_in {k v m : Nat} (hv : (v : Int) < A 61 k) : zlat A k (v : Int) m = A 109 (8 * m + v) := by
  unfold zlat
  rw [if_pos (by unfold zwi; simp; omega), Int.toNat_natCast]
theorem hCh_N {l k th : Int} {c : Nat} (h9 : c ≠ 9) (h34 : c ≠ 34) (h35 : c ≠ 35) : zhN (hCh h l k th) c = zhN h c := hE_N (b := -1) (c := -1) (d := -1) (e := l) h9 h34 h35
theorem hCh_N9 {l k th : Int} : zhN (hCh h l k th) 9 = zhN h 9 + 1 := hE_N9 (b := -1) (c := -1) (d := -1) (e := l)
theorem hCh_D {l k th : Int} {c : Nat} (h7 : c ≠ 7) (h9 : c ≠ 9) (h34 : c ≠ 34) (h35 : c ≠ 35) (h21 : c ≠ 21) (h1 : c ≠ 1) : zhD (hCh h l k th) c = zhD h c := by
  unfold hCh
  rw [zD_ne h9, zD_ne h9, zD_ne h7, zD_ne h9, hE_D h9 h34 h35 h21 h1]
theorem hCh_L {l k th : Int} {c : Nat} (h34 : c ≠ 34) (h35 : c ≠ 35) (h9 : c ≠ 9) : zhL (hCh h l k th) c = zhL h c := hL0_L (a := (zhN h 9 : Int)) (b := -1) (c := -1) (d := -1) (e := l) h34 h35 h9
theorem lf_ch {b x l : Nat} {k th : Int} : LF h A (hCh h l k th) (mCh A l L k th) b x L := by
  have rows : ∀ c j, c ≠ 12 → c ≠ 64 → (c < 69 ∨ 77 < c ∨ j ≠ L) → mCh A l L k th c j = A c j := fun c j h1 h2 h3 => by
    have m : ∀ x, 69 ≤ x → x ≤ 77 → ¬ (c = x ∧ j = L) := fun x hx hx2 z => by omega
    rw [mCh_k, mAdd_k, if_neg (fun z => h2 z.1), if_neg (m 77 (by decide) (by decide)), if_neg (m 76 (by decide) (by decide)), if_neg (m 73 (by decide) (by decide)), if_neg (m 72 (by decide) (by decide)), if_neg (fun z => h1 z.1), if_neg (m 75 (by decide) (by decide)), if_neg (m 76 (by decide) (by decide)), if_neg (m 74 (by decide) (by decide)), if_neg (m 70 (by decide) (by decide)), if_neg (m 71 (by decide) (by decide)), if_neg (m 69 (by decide) (by decide))]
  refine ⟨fun c hc => funext fun j => rows c j (fun z => by subst z; cases hc) (fun z => by subst z; cases hc) ?_, fun c hc l2 hl => rows c l2 (by omega) (by omega) (Or.inr (Or.inr (by omega))), fun j hj => ?_, fun c p j hc => ?_, fun i hi => rows 91 i (by decide) (by decide) (Or.inr (Or.inl (by decide))), fun c h9 h34 h35 => hCh_N h9 h34 h35, by rw [hCh_N9]; exact Nat.le_succ _, fun p => congrFun (hCh_L (by decide) (by decide) (by decide)) p⟩
  · by_cases h69 : c < 69
    · exact Or.inl h69
    · by_cases h77 : 77 < c
      · exact Or.inr (Or.inl h77)
      · exfalso
        rcases (show c = 69 ∨ c = 70 ∨ c = 71 ∨ c = 72 ∨ c = 73 ∨ c = 74 ∨ c = 75 ∨ c = 76 ∨ c = 77 by omega) with rfl | rfl | rfl | rfl | rfl | rfl | rfl | rfl | rfl <;> cases hc
  · have n13 : j ≠ 13 := fun z => by subst z; cases hj
    simp [mCh_k, mAdd_k, n13]
  · rw [hCh_D (fun z => by subst z; cases hc) (fun z => by subst z; cases hc) (fun z => by subst z; cases hc) (fun z => by subst z; cases hc) (fun z => by subst z; cases hc) (fun z => by subst z; cases hc)]
end
section
variable {ρ : Type} {h g : zH} {A B : zA} {kr : Int → zH → Option ρ} {K L n : Nat} {bc tc gc : Nat → Nat} {N M : Int} {u i b j m k p r a : Nat} {b2 d c : Int} {F : Nat → Bool}
theorem lc_reg (x : LC A h K L bc tc gc n B N M u i b j m k p r a b2 d c F) {q : Nat} (hq : (q : Int) < A 61 k) : ∀ kr2 : Int → zH → Option ρ, Th_at (tc (16 * b + (4 * j + m)) : Int) (q : Int) h kr2 = kr2 (A 109 (8 * m + q)) h := fun kr2 => by
  obtain ⟨t1, t2, t3, t4, t5, t6⟩ := lc_th x
  rw [x_at x.q.rd t1, if_pos (by unfold zwi; simp; omega), Int.toNat_natCast, t6 q hq]
theorem lc_set (x : LC A h K L bc tc gc n B N M u i b j m k p r a b2 d c F) {q : Nat} {v : Int} (hq : (q : Int) < A 61 k) : ∀ kr2 : Int → zH → Option ρ, Th_set (tc (16 * b + (4 * j + m)) : Int) (q : Int) v h kr2 = kr2 0 (zset h 32 (tc (16 * b + (4 * j + m))) q v) := fun kr2 => by
  obtain ⟨t1, t2, t3, t4, t5, t6⟩ := lc_th x
  rw [x_set x.q.rd t1, if_pos (by unfold zwi; simp; omega), Int.toNat_natCast]
theorem lo_v (x : LC A h K L bc tc gc n B N M u i b j m k p r a b2 d c F) (hc : c = 118) : LO ρ g A h K L bc tc gc n B N M u i b j m k p r a b2 d c := by
  obtain ⟨i1, i2, i3, i4, i5⟩ := x.ir
  obtain ⟨j1, j2, j3, j4⟩ := x.ia
  obtain ⟨t1, t2, t3, t4, t5, t6⟩ := lc_th x
  obtain ⟨-, -, -, -, -, -, -, -, z2, z3⟩ := zone_all c
  have hk8 := x.kk.2.1
  have hm4 := x.ml.2.1
  subst hc
  have i3 := i3 (by decide)
  have j2 := j2 (by decide)
  obtain ⟨-, o1, o2, -⟩ := x.ok
  have ha := o1 (by decide)
  have hb2 := o2 (by decide)
  obtain ⟨bn, rfl⟩ : ∃ q : Nat, b2 = (q : Int) := ⟨b2.toNat, by omega⟩
  have e : (fun m2 => F m2 && decide (zlat A k (bn : Int) m2 ≠ 0)) = (fun m2 => F m2 && decide (A 109 (8 * m2 + bn) ≠ 0)) := funext fun m2 => by rw [zlat_in hb2.2]
  have hv := x.vt
  rw [e] at hv
  refine lo_reg x (v := zbs (fun m2 => F m2 && decide (A 109 (8 * m2 + bn) ≠ 0)) 4) ha.2 ?_ (by decide) (by decide) (fun kr => ?_) (fun kr => ?_)
  · have := zbs_rng (f := fun m2 => F m2 && decide (A 109 (8 * m2 + bn) ≠ 0))
    unfold zir
    omega
  · unfold Co_carryLane Co_carryLane_171
    rw [zob_n i1, x_isOneOf (s := 2) rfl i1, i2, z2, decide_eq_false (by decide), tb_f, if_pos rfl, zob_n i1, x_isOneOf (s := 3) rfl i1, i2, z3, decide_eq_false (by decide), tb_f, if_pos rfl, zob_n i1, i2, if_pos rfl, zob_n i1, zob_0 x.q.rs.N2, zob_n t1, i3, lc_set x ha.2, hv]
  · rw [if_neg (by decide), m_dl x.ml, j2, j3]
    simp only [reduceIte, Int.reduceEq, if_true, if_false]
    rw [m_vote x.ms.2 (by omega), m_set x.ml.1 hm4 (by omega)]
    rfl
theorem lo_s (x : LC A h K L bc tc gc n B N M u i b j m k p r a b2 d c F) (hc : c = 115) : LO ρ g A h K L bc tc gc n B N M u i b j m k p r a b2 d c := by
  obtain ⟨i1, i2, i3, i4, i5⟩ := x.ir
  obtain ⟨j1, j2, j3, j4⟩ := x.ia
  obtain ⟨t1, t2, t3, t4, t5, t6⟩ := lc_th x
  obtain ⟨-, -, -, -, -, -, -, -, z2, z3⟩ := zone_all c
  have hk8 := x.kk.2.1
  have hm4 := x.ml.2.1
  subst hc
  have i3 := i3 (by decide)
  have j2 := j2 (by decide)
  obtain ⟨-, o1, o2, o3, -⟩ := x.ok
  have ha := o1 (by decide)
  have hb2 := o2 (by decide)
  have hd := o3 (by decide)
  obtain ⟨bn, rfl⟩ : ∃ q : Nat, b2 = (q : Int) := ⟨b2.toNat, by omega⟩
  obtain ⟨dn, rfl⟩ : ∃ q : Nat, d = (q : Int) := ⟨d.toNat, by omega⟩
  have hdz := x.wz (8 * m + dn) (by omega)
  obtain ⟨s, hs⟩ : ∃ s : Nat, A 109 (8 * m + dn) % 4 = (s : Int) := ⟨(A 109 (8 * m + dn) % 4).toNat, by omega⟩
  have hs4 : s < 4 := by omega
  have hT : ∀ m2 : Nat, m2 < 4 → ((4 * j + m2 : Nat) : Int) < A 73 (b / 6) → ∀ kr2 : Int → zH → Option ρ, Co_carryLane_131 kr2 (m2 : Int) 0 (a : Int) (tc (16 * b + (4 * j + m)) : Int) h = kr2 45 (zset h 32 (tc (16 * b + (4 * j + m))) a (A 109 (8 * m2 + bn))) := fun m2 hm2 hlt kr2 => by
    unfold Co_carryLane_131 Co_carryLane_171
    rw [zob_0 x.q.rs.N25, x.q.rs.L25_0, zix_n hm2, zob_n t1, x.tk m2 hm2 hlt, zlat_in hb2.2, lc_set x ha.2]
  refine lo_reg x (v := A 109 (8 * (if F s = true then s else m) + bn)) ha.2 ?_ (by decide) (by decide) (fun kr => ?_) (fun kr => ?_)
  · refine x.wz _ ?_
    split <;> omega
  · unfold Co_carryLane
    rw [zob_n i1, x_isOneOf (s := 2) rfl i1, i2, z2, decide_eq_false (by decide), tb_f, if_pos rfl, zob_n i1, x_isOneOf (s := 3) rfl i1, i2, z3, decide_eq_false (by decide), tb_f, if_pos rfl, zob_n i1, i2, if_neg (by decide), zob_n i1, i2, if_pos rfl, zob_n i1, zob_n t1, i5, lc_reg x hd.2, x_fm4 hdz, hs, zob_n i1, zob_0 x.q.rs.N2, zob_0 x.q.rs.N2, x.ms.1, x_isIn hs4, x.q.rs.D2_0_7, i3]
    cases hF : F s with
    | false =>
      rw [tb_f, if_pos rfl, hT m hm4 x.ml.2.2.1]
      rfl
    | true =>
      rw [tb_t, if_neg (by decide), hT s hs4 (x.fp s hs4 hF)]
      rfl
  · rw [if_neg (by decide), m_dl x.ml, j4]
    simp only [reduceIte, Int.reduceEq, if_true, if_false]
    rw [m_lane hm4 (by omega)]
    rw [m_modulo, hs, m_isUnder x.ms.2 hs4]
    unfold M_doLane_212
    have i9 : 40 * k + p < 160 := by have := x.ml.2.2.2.2.1; have := x.ml.2.2.2.2.2.2; omega
    rw [zix_n i9, mD67, j3, mD66, j2]
    cases hF : F s with
    | false =>
      rw [tb_f, if_pos rfl, m_lane hm4 (by omega), m_set x.ml.1 hm4 (by omega)]
      rfl
    | true =>
      rw [tb_t, if_neg (by decide), m_lane hs4 (by omega), m_set x.ml.1 hm4 (by omega)]
      rfl
theorem lo_c (x : LC A h K L bc tc gc n B N M u i b j m k p r a b2 d c F) (hc : c = 99) : LO ρ g A h K L bc tc gc n B N M u i b j m k p r a b2 d c := by
  obtain ⟨i1, i2, i3, i4, i5⟩ := x.ir
  obtain ⟨j1, j2, j3, j4⟩ := x.ia
  obtain ⟨t1, t2, t3, t4, t5, t6⟩ := lc_th x
  obtain ⟨-, -, -, -, -, -, -, -, z2, z3⟩ := zone_all c
  have hk8 := x.kk.2.1
  have hm4 := x.ml.2.1
  subst hc
  have i3 := i3 (by decide)
  have j2 := j2 (by decide)
  obtain ⟨-, o1, -, o3, -, o6⟩ := x.ok
  have ha := o1 (by decide)
  have hd := o3 (by decide)
  have hb2 := o6 rfl
  obtain ⟨bn, rfl⟩ : ∃ q : Nat, b2 = (q : Int) := ⟨b2.toNat, by omega⟩
  obtain ⟨dn, rfl⟩ : ∃ q : Nat, d = (q : Int) := ⟨d.toNat, by omega⟩
  have hb : b < 72 := x.ml.1.2.1
  obtain ⟨k9, hk9, e70, hbL, -, -, ⟨f1, f2, f3, f4⟩, -⟩ := x.q.blk hb x.hin
  obtain ⟨bh1, bh2, -⟩ := x.q.bh.1 b hb x.hin
  obtain ⟨hG, -, g0, -⟩ := lc_g x
  have hlt := x.ml.2.2.1
  have h70 := x.ml.2.2.2.1
  have hr6 : (a : Int) < A 61 (A 70 (b / 6)).toNat := by rw [h70, Int.toNat_natCast]; exact ha.2
  have b61 := x.q.bd.1 61 (by decide)
  rw [fg_j (by decide) (by decide)] at b61
  have bn0 := x.bn
  have e61 : zhD h 4 0 7 = A 12 61 := (x.q.rm.2.2.2.2.2.2.2.2.2.2.2).trans (fg_j (by decide) (by decide))
  have w1 : wr (A 12 61 + 1) = A 12 61 + 1 := wr_id (by omega) (by omega)
  have hok : zchok (fg u b j A) K L (b / 6) (bn : Int) (A 109 (8 * m + dn)) = zchok A K L (b / 6) (bn : Int) (A 109 (8 * m + dn)) := by
    unfold zchok
    rw [fg_c (by decide), fg_c (by decide), fg_c (by decide)]
  have X0 : ∀ kr : Int → zH → Option ρ, Co_carryLane 0 (gc (4 * b + j) : Int) (m : Int) (tc (16 * b + (4 * j + m)) : Int) (r : Int) h kr = if zchok A K L (b / 6) (bn : Int) (A 109 (8 * m + dn)) = true then Co_carryChild_40 (fun _ h13 => kr 45 h13) (tc (16 * b + (4 * j + m)) : Int) (r : Int) 1 (hCh h ((b / 6 : Nat) : Int) (bn : Int) (A 109 (8 * m + dn))) else Co_carryChild_40 (fun _ h13 => kr 45 h13) (tc (16 * b + (4 * j + m)) : Int) (r : Int) 0 (zset h 4 0 7 (A 12 61 + 1)) := fun kr => by
    unfold Co_carryLane Co_carryLane_171
    rw [zob_n i1, x_isOneOf (s := 2) rfl i1, i2, z2, decide_eq_false (by decide), tb_f, if_pos rfl, zob_n i1, x_isOneOf (s := 3) rfl i1, i2, z3, decide_eq_false (by decide), tb_f, if_pos rfl, zob_n i1, i2, if_neg (by decide), zob_n i1, i2, if_neg (by decide), zob_n i1, i2, if_pos rfl, zob_n hG.1, g0, zob_n bh1, zob_0 x.q.rs.N2, bh2]
    unfold Co_carryChild
    rw [zob_0 x.q.rs.N2, zob_n i1, zob_n i1, zob_n t1, i5, lc_reg x hd.2, x.q.rs.D2_0_0, zob_0 x.q.rs.N1, i4, x_launchChild x.q.rs x.q.rk x.q.rl hbL, hok]
    split
    · rw [if_neg (by decide)]
    · rw [if_pos rfl, zob_0 x.q.rs.N2, x.q.rs.D2_0_3, zob_0 x.q.rs.N4, zob_0 x.q.rs.N4, zlet_d, e61, w1]
  have M0 : ∀ kr : Int → zH → Option ρ, (if 99 = 114 ∨ 99 = 119 ∨ 99 = 97 ∨ 99 = 120 ∨ 99 = 82 ∨ 99 = 87 then M_doCell ((4 * u + i : Nat) : Int) (m : Int) 99 ((40 * k + p : Nat) : Int) (mh g A) (fun _ h2 => M_doLane ((4 * u + i : Nat) : Int) (m : Int) 99 ((40 * k + p : Nat) : Int) h2 kr) else M_doLane ((4 * u + i : Nat) : Int) (m : Int) 99 ((40 * k + p : Nat) : Int) (mh g A) kr) = if zchok A K L (b / 6) (bn : Int) (A 109 (8 * m + dn)) = true then M_doLane_413 kr 99 (b : Int) (((16 * b + (4 * j + m)) : Nat) : Int) ((p : Int) + 1) (mh g (au (mCh A (b / 6) L (bn : Int) (A 109 (8 * m + dn))) 91 (8 * (16 * b + (4 * j + m)) + a) 1)) else M_doLane_413 kr 99 (b : Int) (((16 * b + (4 * j + m)) : Nat) : Int) ((p : Int) + 1) (mh g (au (au A 12 61 (A 12 61 + 1)) 91 (8 * (16 * b + (4 * j + m)) + a) 0)) := fun kr => by
    rw [if_neg (by decide), m_dl x.ml, j2, j3, j4]
    simp only [reduceIte, Int.reduceEq, if_true, if_false]
    have rk' : RK A h K := x.q.rk.fr (fun c j hz => by
      by_cases hc : c = 12
      · subst hc
        exact (fg_j (fun z => by subst z; cases hz) (fun z => by subst z; cases hz)).symm
      · rw [fg_c (c := c) ⟨hc, fun z => (by subst z; cases hz), fun z => (by subst z; cases hz)⟩]) (fun _ _ _ _ => rfl) rfl
    have rl' : RL A h K L := x.q.rl.fr (fun c j hz => by
      by_cases hc : c = 12
      · subst hc
        exact (fg_j (fun z => by subst z; cases hz) (fun z => by subst z; cases hz)).symm
      · rw [fg_c (c := c) ⟨hc, fun z => (by subst z; cases hz), fun z => (by subst z; cases hz)⟩]) (fun _ _ _ _ => rfl) rfl
    rw [m_lane hm4 (by omega), m_launchChild rk' rl' hbL (by omega)]
    have lf := lf_ch (h := h) (A := A) (L := L) (b := b) (x := (16 * b + (4 * j + m))) (l := b / 6) (k := (bn : Int)) (th := A 109 (8 * m + dn))
    split
    · have gg : MG (mCh A (b / 6) L (bn : Int) (A 109 (8 * m + dn))) (4 * u + i) b j := by
        obtain ⟨y1, y2, y3, y4, y5, y6, y7⟩ := x.ml.1
        have s94 := lf.1 94 rfl
        have s95 := lf.1 95 rfl
        have s73 := lf.2.1 73 (by decide) (b / 6) hbL
        exact ⟨y1, y2, y3, by rw [s94]; exact y4, by rw [s95]; exact y5, by rw [s73]; exact y6, by rw [s73]; exact y7⟩
      rw [if_neg (by decide), m_set gg hm4 (by omega)]
    · have gg : MG (au A 12 61 (A 12 61 + 1)) (4 * u + i) b j := x.ml.1
      rw [if_pos rfl, m_set gg hm4 (by omega)]
  cases hz : zchok A K L (b / 6) (bn : Int) (A 109 (8 * m + dn)) with
  | true =>
    have q2 := rr_ch x.q hbL (hok.trans hz)
    rw [fg_ch] at q2
    have lf := lf_ch (h := h) (A := A) (L := L) (b := b) (x := (16 * b + (4 * j + m))) (l := b / 6) (k := (bn : Int)) (th := A 109 (8 * m + dn))
    have s61 := lf.1 61 rfl
    have s87 := lf.1 87 rfl
    have s73 := lf.2.1 73 (by decide) (b / 6) hbL
    have s70 := lf.2.1 70 (by decide) (b / 6) hbL
    have L12 : L < 12 := q2.rl.2.1
    have z79 : A 79 L = 0 := by
      have := (x.q.rl.2.2.2.2.2 L (Nat.le_refl _) L12).2.2.2.2.1
      rw [fg_c (by decide)] at this
      exact this
    refine ⟨zset (hCh h ((b / 6 : Nat) : Int) (bn : Int) (A 109 (8 * m + dn))) 32 (tc (16 * b + (4 * j + m))) a 1, au (mCh A (b / 6) L (bn : Int) (A 109 (8 * m + dn))) 91 (8 * (16 * b + (4 * j + m)) + a) 1, L + 1, ⟨Nat.le_succ _, fun l9 y1 y2 => by rw [show l9 = L from Nat.le_antisymm (Nat.le_of_lt_succ y2) y1, au_ne (show 69 ≠ 91 by decide), au_ne (show 76 ≠ 91 by decide), au_ne (show 79 ≠ 91 by decide), au_ne (show 72 ≠ 91 by decide), au_ne (show 71 ≠ 91 by decide)]; simp [mCh_k, mAdd_k, z79]⟩, fun kr => ?_, fun kr => ?_, ?_, lf.tr (lf_reg (by omega)) (Nat.le_succ _), fun z => absurd z (by decide), fun z => absurd z (by decide), fun _ => ⟨?_, ?_, ?_⟩⟩
    · rw [X0, hz, if_pos rfl]
      unfold Co_carryChild_40 Co_carryChild_55
      have n8 : r < zhN (hCh h ((b / 6 : Nat) : Int) (bn : Int) (A 109 (8 * m + dn))) 8 := by rw [hCh_N (by decide) (by decide) (by decide)]; exact i1
      have n6 : tc (16 * b + (4 * j + m)) < zhN (hCh h ((b / 6 : Nat) : Int) (bn : Int) (A 109 (8 * m + dn))) 6 := by rw [hCh_N (by decide) (by decide) (by decide)]; exact t1
      rw [zob_n n8, if_neg (by decide), zob_n n6, hCh_D (c := 8) (by decide) (by decide) (by decide) (by decide) (by decide) (by decide), i3, x_set q2.rd n6, hCh_L (c := 32) (by decide) (by decide) (by decide), if_pos (by unfold zwi; simp; omega), Int.toNat_natCast]
    · exact (M0 kr).trans (by rw [hz, if_pos rfl]; rfl)
    · rw [← fg_au (by decide)]
      exact (rr_reg q2 hb (by rw [fg_c (by decide), s87]; exact x.hin) (by rw [fg_c (by decide), s73]; exact hlt) (by rw [fg_c (by decide), fg_c (by decide), s61, s70]; exact hr6) (by unfold zir; omega)).up
    · rw [zD_ne (by decide), hCh_D (c := 2) (by decide) (by decide) (by decide) (by decide) (by decide) (by decide)]
    · rw [au_ne (by decide)]
      simp [mCh_k, mAdd_k]
    · rw [au_ne (by decide)]
      funext j9
      simp [mCh_k, mAdd_k]
  | false =>
    refine ⟨zset (zset h 4 0 7 (A 12 61 + 1)) 32 (tc (16 * b + (4 * j + m))) a 0, au (au A 12 61 (A 12 61 + 1)) 91 (8 * (16 * b + (4 * j + m)) + a) 0, L, le0, fun kr => ?_, fun kr => ?_, ?_, LF.tr (⟨fun c hc => au_ne (fun z => by subst z; cases hc), fun c hc l hl => by rw [au_ne (by omega)], fun j hj => by rw [au_j, if_neg (fun z => by subst z; cases hj)], fun c p j hc => if_neg (fun z => by rw [z.1, z.2.2] at hc; cases hc), fun ii hi => by rw [au_ne (by decide)], fun _ _ _ _ => rfl, Nat.le_refl _, fun _ => rfl⟩ : LF h A (zset h 4 0 7 (A 12 61 + 1)) (au A 12 61 (A 12 61 + 1)) b (16 * b + (4 * j + m)) L) (lf_reg (by omega)) (Nat.le_refl _), fun z => absurd z (by decide), fun z => absurd z (by decide), fun _ => ⟨?_, ?_, ?_⟩⟩
    · rw [X0, hz, if_neg (by decide)]
      unfold Co_carryChild_40 Co_carryChild_55
      have n8 : r < zhN (zset h 4 0 7 (A 12 61 + 1)) 8 := i1
      have n6 : tc (16 * b + (4 * j + m)) < zhN (zset h 4 0 7 (A 12 61 + 1)) 6 := t1
      rw [zob_n n8, if_pos rfl, zob_n n6, zD_ne (by decide), i3, x_set (x.q.rd.set rfl) n6, zL_set, if_pos (by unfold zwi; simp; omega), Int.toNat_natCast]
    · exact (M0 kr).trans (by rw [hz, if_neg (by decide)]; rfl)
    · rw [← fg_au (by decide), ← fg_12 (by decide) (by decide) (by decide)]
      exact rr_reg (rr_f7 x.q (by omega) (by omega)) hb x.hin hlt hr6 (by unfold zir; omega)
    · rw [zD_ne (by decide), zD_ne (by decide)]
    · rw [au_ne (by decide), au_j, if_neg (by decide)]
    · rw [au_ne (by decide), au_ne (by decide)]
end
