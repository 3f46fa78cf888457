/-! DELAYS: bits -/
theorem zand1 (y : BitVec 32) : (y &&& 1#32).toInt = tb (y.getLsbD 0) := by
  have e : (y &&& 1#32).toNat = y.toNat % 2 := by
    rw [BitVec.toNat_and]
    exact Nat.and_two_pow_sub_one_eq_mod _ 1
  have e2 : y.getLsbD 0 = decide (y.toNat % 2 = 1) := by
    rw [BitVec.getLsbD]
    exact Nat.testBit_zero _
  rw [BitVec.toInt_eq_toNat_of_lt (by rw [e]; omega), e, e2]
  by_cases h : y.toNat % 2 = 1
  · rw [decide_eq_true h, tb_t, h]
    rfl
  · rw [decide_eq_false h, tb_f]
    omega
theorem zshr_bit {x : Int} {v : Nat} (hv : v < 8) : zand (zshr x (v : Int)) 1 = tb (zbt x v) := by
  have key : zand (zshr x (v : Int)) 1 = (((Int32.ofInt x).toBitVec.sshiftRight v) &&& 1#32).toInt := by
    unfold zand zshr
    rw [Int32.ofInt_toInt]
    rcases (show v = 0 ∨ v = 1 ∨ v = 2 ∨ v = 3 ∨ v = 4 ∨ v = 5 ∨ v = 6 ∨ v = 7 by omega) with rfl | rfl | rfl | rfl | rfl | rfl | rfl | rfl <;> rfl
  rw [key, zand1, BitVec.getLsbD_sshiftRight]
  unfold zbt
  rw [Nat.add_zero, if_pos (by omega)]
  rfl
theorem zshr_3 {x : Int} (hx : zir x) : zshr x 3 = x / 8 := by
  have e : zshr x 3 = ((Int32.ofInt x).toBitVec.sshiftRight 3).toInt := rfl
  rw [e, BitVec.toInt_sshiftRight]
  have e2 : (Int32.ofInt x).toBitVec.toInt = x := zi32 hx
  rw [e2, Int.shiftRight_eq_div_pow]
  rfl
theorem zshr_0 {x : Int} (hx : zir x) : zshr x 0 = x := by
  have e : zshr x 0 = ((Int32.ofInt x).toBitVec.sshiftRight 0).toInt := rfl
  have e2 : (Int32.ofInt x).toBitVec.toInt = x := zi32 hx
  rw [e, BitVec.toInt_sshiftRight, e2, Int.shiftRight_eq_div_pow]
  exact Int.ediv_one x
/-- how many lanes -/
def zcn (F : Nat → Bool) : Int := tb (F 0) + tb (F 1) + tb (F 2) + tb (F 3)
theorem zcn_rng {F : Nat → Bool} : 0 ≤ zcn F ∧ zcn F ≤ 4 := by
  unfold zcn
  cases F 0 <;> cases F 1 <;> cases F 2 <;> cases F 3 <;> decide
/-- no lower lane names the same -/
def zfr (F : Nat → Bool) (e : Nat → Int) (l : Nat) : Nat → Bool
  | 0 => true
  | n + 1 => zfr F e l n && !(F n && decide (e n = e l))
theorem zfr_f {F : Nat → Bool} {e : Nat → Int} {l k : Nat} (h : zfr F e l k = false) : ∀ d, zfr F e l (k + d) = false
  | 0 => h
  | d + 1 => by
    show (zfr F e l (k + d) && _) = false
    rw [zfr_f h d]
    rfl
theorem zfr_congr {F : Nat → Bool} {e e2 : Nat → Int} {l : Nat} (hl : e l = e2 l) : ∀ n, (∀ k, k < n → F k = true → e k = e2 k) → zfr F e l n = zfr F e2 l n
  | 0, _ => rfl
  | n + 1, h => by
    show (zfr F e l n && !(F n && decide (e n = e l))) = (zfr F e2 l n && !(F n && decide (e2 n = e2 l)))
    rw [zfr_congr hl n (fun k hk => h k (Nat.lt_succ_of_lt hk)), hl]
    cases hF : F n with
    | false => rfl
    | true => rw [h n (Nat.lt_succ_self n) hF]
theorem zfr_ex {F : Nat → Bool} {e : Nat → Int} {l : Nat} : ∀ n, zfr F e l n = false → ∃ k, k < n ∧ F k = true ∧ e k = e l
  | 0, h => by cases h
  | n + 1, h => by
    have h' : (zfr F e l n && !(F n && decide (e n = e l))) = false := h
    cases h1 : zfr F e l n with
    | false =>
      obtain ⟨k, y1, y2⟩ := zfr_ex n h1
      exact ⟨k, Nat.lt_succ_of_lt y1, y2⟩
    | true =>
      rw [h1, Bool.true_and] at h'
      have h2 : (F n && decide (e n = e l)) = true := by
        cases h3 : (F n && decide (e n = e l)) with
        | false => rw [h3] at h'; cases h'
        | true => rfl
      obtain ⟨y1, y2⟩ := zand_t h2
      exact ⟨n, Nat.lt_succ_self n, y1, of_decide_eq_true y2⟩
theorem zfr_no {F : Nat → Bool} {e : Nat → Int} {l : Nat} : ∀ n, zfr F e l n = true → ∀ k, k < n → F k = true → e k ≠ e l
  | 0, _, k, hk, _ => absurd hk (Nat.not_lt_zero _)
  | n + 1, h, k, hk, hF => by
    have h' : (zfr F e l n && !(F n && decide (e n = e l))) = true := h
    obtain ⟨h1, h2⟩ := zand_t h'
    by_cases hkn : k = n
    · subst hkn
      intro z
      rw [hF, z, decide_eq_true rfl] at h2
      cases h2
    · exact zfr_no n h1 k (by omega) hF
def zfb (F : Nat → Bool) (e : Nat → Int) (l : Nat) : Bool := F l && zfr F e l l
def zckb (F : Nat → Bool) (e : Nat → Int) (bk : Int) : Nat → Int
  | 0 => 0
  | n + 1 => zckb F e bk n + (if (zfb F e n && decide (e n % 4 = bk)) = true then 1 else 0)
theorem zckb_rng {F : Nat → Bool} {e : Nat → Int} {bk : Int} : ∀ n : Nat, 0 ≤ zckb F e bk n ∧ zckb F e bk n ≤ n
  | 0 => ⟨Int.le_refl 0, Int.le_refl 0⟩
  | n + 1 => by
    have := zckb_rng (F := F) (e := e) (bk := bk) n
    unfold zckb
    split <;> omega
def zmx (F : Nat → Bool) (e : Nat → Int) : Nat → Int
  | 0 => 0
  | r + 1 => if zmx F e r < zckb F e (r : Int) 4 then zckb F e (r : Int) 4 else zmx F e r
theorem zmx_rng {F : Nat → Bool} {e : Nat → Int} : ∀ n : Nat, 0 ≤ zmx F e n ∧ zmx F e n ≤ 4
  | 0 => ⟨Int.le_refl 0, show (0 : Int) ≤ 4 by decide⟩
  | n + 1 => by
    have h1 := zmx_rng (F := F) (e := e) n
    have h2 := zckb_rng (F := F) (e := e) (bk := (n : Int)) 4
    unfold zmx
    split <;> omega
/-- lines that have been looked at -/
def zsl (F : Nat → Bool) (e : Nat → Int) : Nat → Int
  | 0 => 0
  | n + 1 => if zfb F e n = true then zor (zsl F e n) (zshl 1 (e n)) else zsl F e n
theorem zsl_bit {F : Nat → Bool} {e : Nat → Int} {v : Nat} (hv : v < 8) : ∀ n, (∀ k, k < n → F k = true → 0 ≤ e k ∧ e k < 8) → zbt (zsl F e n) v = zan (fun l => F l && decide (e l = (v : Int))) n
  | 0, _ => zbt_0
  | n + 1, h => by
    have ih := zsl_bit (F := F) (e := e) hv n (fun k hk => h k (Nat.lt_succ_of_lt hk))
    show zbt (if zfb F e n = true then zor (zsl F e n) (zshl 1 (e n)) else zsl F e n) v = (zan (fun l => F l && decide (e l = (v : Int))) n || (F n && decide (e n = (v : Int))))
    cases hF : F n with
    | false =>
      have : zfb F e n = false := by
        unfold zfb
        rw [hF]
        rfl
      rw [if_neg (by rw [this]; decide), ih, Bool.false_and, Bool.or_false]
    | true =>
      obtain ⟨e0, e8⟩ := h n (Nat.lt_succ_self n) hF
      have ez : zfb F e n = zfr F e n n := by
        unfold zfb
        rw [hF, Bool.true_and]
      rw [ez, Bool.true_and]
      cases hz : zfr F e n n with
      | true =>
        rw [if_pos rfl, zbt_or, ih]
        obtain ⟨w, hw⟩ : ∃ w : Nat, e n = (w : Int) := ⟨(e n).toNat, by omega⟩
        rw [hw, zbt_shl1 (by omega) (by omega)]
        refine congrArg (fun z => zan (fun l => F l && decide (e l = (v : Int))) n || z) ?_
        by_cases hvw : v = w
        · rw [decide_eq_true hvw, decide_eq_true (by rw [hvw])]
        · rw [decide_eq_false hvw, decide_eq_false (by omega)]
      | false =>
        rw [if_neg (by decide), ih]
        obtain ⟨k, y1, y2, y3⟩ := zfr_ex n hz
        by_cases hv2 : e n = (v : Int)
        · have : zan (fun l => F l && decide (e l = (v : Int))) n = true := (zan_iff n).mpr ⟨k, y1, by
            show (F k && decide (e k = (v : Int))) = true
            rw [y2, decide_eq_true (y3.trans hv2)]
            rfl⟩
          rw [this]
          rfl
        · rw [decide_eq_false hv2, Bool.or_false]
theorem zan_first {F : Nat → Bool} {e : Nat → Int} {l : Nat} : zan (fun k => F k && decide (e k = e l)) l = !(zfr F e l l) := by
  cases hz : zfr F e l l with
  | true =>
    cases hn : zan (fun k => F k && decide (e k = e l)) l with
    | false => rfl
    | true =>
      obtain ⟨k, y1, y2⟩ := (zan_iff l).mp hn
      obtain ⟨y3, y4⟩ := zand_t y2
      exact absurd (of_decide_eq_true y4) (zfr_no l hz k y1 y3)
  | false =>
    obtain ⟨k, y1, y2, y3⟩ := zfr_ex l hz
    exact (zan_iff l).mpr ⟨k, y1, by
      show (F k && decide (e k = e l)) = true
      rw [y2, decide_eq_true y3]
      rfl⟩
section
variable {ρ : Type} {h g : zH} {A B : zA} {kr : Int → zH → Option ρ} {K L n : Nat} {bc tc gc : Nat → Nat} {N M : Int} {F : Nat → Bool} {e : Nat → Int}
set_option maxRecDepth 100000 in
theorem x_bitCount : It_bitCount (zbs F 4) h kr = kr (zcn F) h := by
  unfold It_bitCount zcn
  rw [(zbs_4 F).2.2.2]
  refine congrArg (fun z => kr z h) ?_
  cases F 0 <;> cases F 1 <;> cases F 2 <;> cases F 3 <;> decide +kernel
theorem m_count4 : wr (wr (wr (zand (zbs F 4) 1 + zand (zshr (zbs F 4) 1) 1) + zand (zshr (zbs F 4) 2) 1) + zand (zshr (zbs F 4) 3) 1) = zcn F := by
  unfold zcn
  rw [(zbs_4 F).2.2.2]
  cases F 0 <;> cases F 1 <;> cases F 2 <;> cases F 3 <;> decide +kernel
theorem x_nf_loop {l sh : Nat} (q : RS h) (hF : zhD h 2 0 8 = zbs F 4) (hl : l < 4) (hsh : sh = 0 ∨ sh = 3) : ∀ f t : Nat, t ≤ l → l - t < f → zfr F (fun i => zshr (zhD h 24 0 i) (sh : Int)) l t = true → zit (fun _ _ _ _ _ => none) (Co_isNamedFirst_2b kr) f 0 (l : Int) (sh : Int) (t : Int) h = kr (tb (zfb F (fun i => zshr (zhD h 24 0 i) (sh : Int)) l)) h
  | 0, t, _, hf, _ => absurd hf (Nat.not_lt_zero _)
  | f + 1, t, ht, hf, hz => by
    rw [zit_s]
    by_cases htl : t < l
    · have ih := x_nf_loop (sh := sh) q hF hl hsh f (t + 1) htl (by omega)
      have e1 : zfr F (fun i => zshr (zhD h 24 0 i) (sh : Int)) l (t + 1) = (zfr F (fun i => zshr (zhD h 24 0 i) (sh : Int)) l t && !(F t && decide (zshr (zhD h 24 0 t) (sh : Int) = zshr (zhD h 24 0 l) (sh : Int)))) := rfl
      rw [hz, Bool.true_and] at e1
      have ht4 : t < 4 := by omega
      generalize zit (fun _ _ _ _ _ => none) (Co_isNamedFirst_2b kr) f = r2 at ih ⊢
      unfold Co_isNamedFirst_2b Co_isNamedFirst_39
      rw [if_pos (Int.ofNat_lt.mpr htl), zob_0 q.N2, hF, x_isIn ht4, wk1 (Nat.le_of_lt ht4)]
      cases hFt : F t with
      | false =>
        rw [hFt, Bool.false_and, Bool.not_false] at e1
        rw [tb_f, if_pos rfl]
        exact ih e1
      | true =>
        rw [hFt, Bool.true_and] at e1
        rw [tb_t, if_neg (by decide), zob_0 q.N2, q.D2_0_6, zob_0 q.N24, q.L24_0, zix_n ht4, zob_0 q.N2, q.D2_0_6, zob_0 q.N24, q.L24_0, zix_n hl]
        by_cases heq : zshr (zhD h 24 0 t) (sh : Int) = zshr (zhD h 24 0 l) (sh : Int)
        · rw [decide_eq_true heq, Bool.not_true] at e1
          have := zfr_f e1 (l - (t + 1))
          rw [show t + 1 + (l - (t + 1)) = l by omega] at this
          rw [if_pos heq]
          unfold zfb
          rw [this, Bool.and_false, tb_f]
        · rw [decide_eq_false heq, Bool.not_false] at e1
          rw [if_neg heq]
          exact ih e1
    · have : t = l := by omega
      subst this
      generalize zit (fun _ _ _ _ _ => none) (Co_isNamedFirst_2b kr) f = r2
      unfold Co_isNamedFirst_2b zfb
      rw [if_neg (Int.lt_irrefl _), zob_0 q.N2, hF, x_isIn hl, znar_tb, hz, Bool.and_true]
theorem x_nf {l sh : Nat} (q : RS h) (hF : zhD h 2 0 8 = zbs F 4) (hl : l < 4) (hsh : sh = 0 ∨ sh = 3) (he : ∀ i, i < 4 → F i = true → zshr (zhD h 24 0 i) (sh : Int) = e i) : Co_isNamedFirst 0 (l : Int) (sh : Int) h kr = kr (tb (zfb F e l)) h := by
  unfold Co_isNamedFirst
  refine Eq.trans (x_nf_loop (kr := kr) (sh := sh) q hF hl hsh zN 0 (Nat.zero_le _) (by show l - 0 < 5000; omega) rfl) ?_
  refine congrArg (fun z => kr (tb z) h) ?_
  unfold zfb
  cases hFl : F l with
  | false => rfl
  | true =>
    rw [Bool.true_and, Bool.true_and]
    exact zfr_congr (he l hl hFl) l (fun k hk hF => he k (by omega) hF)
theorem m_new_loop {at1 l : Nat} {c : Int} (hF : A 12 63 = zbs F 4) (hce : ∀ i : Nat, i < 4 → ∀ kr : Int → zH → Option ρ, M_cellOf c (at1 : Int) (i : Int) (mh g A) kr = kr (e i) (mh g A)) (hl : l < 4) : ∀ f t : Nat, t ≤ l → l - t < f → zit (fun _ _ _ _ _ _ => none) (M_isNew_10b kr) f c (at1 : Int) (l : Int) (tb (F l && zfr F e l t)) (t : Int) (mh g A) = kr (tb (zfb F e l)) (mh g A)
  | 0, t, _, hf => absurd hf (Nat.not_lt_zero _)
  | f + 1, t, ht, hf => by
    rw [zit_s]
    by_cases htl : t < l
    · have ih := m_new_loop hF hce hl f (t + 1) htl (by omega)
      have e1 : zfr F e l (t + 1) = (zfr F e l t && !(F t && decide (e t = e l))) := rfl
      rw [e1] at ih
      have ht4 : t < 4 := by omega
      generalize zit (fun _ _ _ _ _ _ => none) (M_isNew_10b kr) f = r2 at ih ⊢
      unfold M_isNew_10b M_isNew_52 M_isNew_48 M_isNew_53
      rw [if_pos (Int.ofNat_lt.mpr htl)]
      cases hb : (F l && zfr F e l t) with
      | false =>
        rw [← Bool.and_assoc, hb, Bool.false_and, tb_f] at ih
        rw [tb_f, if_pos rfl, wk1 (Nat.le_of_lt ht4)]
        exact ih
      | true =>
        rw [← Bool.and_assoc, hb, Bool.true_and] at ih
        rw [tb_t, if_neg (by decide), m_isUnder hF ht4, wk1 (Nat.le_of_lt ht4)]
        cases hFt : F t with
        | false =>
          rw [hFt, Bool.false_and, Bool.not_false, tb_t] at ih
          rw [tb_f, if_pos rfl]
          exact ih
        | true =>
          rw [hFt, Bool.true_and] at ih
          rw [tb_t, if_neg (by decide), hce t ht4, hce l hl]
          by_cases heq : e t = e l
          · rw [decide_eq_true heq, Bool.not_true, tb_f] at ih
            rw [if_pos heq]
            exact ih
          · rw [decide_eq_false heq, Bool.not_false, tb_t] at ih
            rw [if_neg heq]
            exact ih
    · have : t = l := by omega
      subst this
      generalize zit (fun _ _ _ _ _ _ => none) (M_isNew_10b kr) f = r2
      unfold M_isNew_10b zfb
      rw [if_neg (Int.lt_irrefl _), znar_tb]
theorem m_isNew {at1 l : Nat} {c : Int} (hF : A 12 63 = zbs F 4) (hce : ∀ i : Nat, i < 4 → ∀ kr : Int → zH → Option ρ, M_cellOf c (at1 : Int) (i : Int) (mh g A) kr = kr (e i) (mh g A)) (hl : l < 4) : M_isNew c (at1 : Int) (l : Int) (mh g A) kr = kr (tb (zfb F e l)) (mh g A) := by
  have := m_new_loop (kr := kr) hF hce hl zN 0 (Nat.zero_le _) (by show l - 0 < 5000; omega)
  unfold M_isNew
  rw [m_isUnder hF hl]
  rw [show zfr F e l 0 = true from rfl, Bool.and_true] at this
  exact this
end
