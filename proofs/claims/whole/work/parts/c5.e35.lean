/-! BITS -/
def zan (f : Nat → Bool) : Nat → Bool
  | 0 => false
  | n + 1 => zan f n || f n
theorem zan_iff {f : Nat → Bool} : ∀ n, zan f n = true ↔ ∃ k, k < n ∧ f k = true
  | 0 => by
    constructor
    · intro h
      cases h
    · rintro ⟨k, h, -⟩
      exact absurd h (Nat.not_lt_zero _)
  | n + 1 => by
    show (zan f n || f n) = true ↔ _
    rw [Bool.or_eq_true_iff, zan_iff n]
    constructor
    · rintro (⟨k, h1, h2⟩ | h)
      · exact ⟨k, Nat.lt_succ_of_lt h1, h2⟩
      · exact ⟨n, Nat.lt_succ_self _, h⟩
    · rintro ⟨k, h1, h2⟩
      by_cases hk : k = n
      · exact Or.inr (hk ▸ h2)
      · exact Or.inl ⟨k, by omega, h2⟩
theorem zbt_of (x : Int32) (i : Nat) : zbt x.toInt i = x.toBitVec.getLsbD i := by
  unfold zbt
  rw [Int32.ofInt_toInt]
theorem zbt_and {x y : Int} {i : Nat} : zbt (zand x y) i = (zbt x i && zbt y i) := by
  unfold zand
  rw [zbt_of, Int32.toBitVec_and, BitVec.getLsbD_and]
  rfl
theorem zbt_or {x y : Int} {i : Nat} : zbt (zor x y) i = (zbt x i || zbt y i) := by
  unfold zor
  rw [zbt_of, Int32.toBitVec_or, BitVec.getLsbD_or]
  rfl
theorem zbt_xor {x y : Int} {i : Nat} : zbt (zxor x y) i = (zbt x i ^^ zbt y i) := by
  unfold zxor
  rw [zbt_of, Int32.toBitVec_xor, BitVec.getLsbD_xor]
  rfl
theorem zbt_shl : ∀ k : Fin 32, ∀ i : Fin 32, zbt (zshl 1 (k.val : Int)) i.val = decide (i.val = k.val) := by decide +kernel
theorem zbt_shl1 {k i : Nat} (hk : k < 32) (hi : i < 32) : zbt (zshl 1 (k : Int)) i = decide (i = k) := zbt_shl ⟨k, hk⟩ ⟨i, hi⟩
theorem zbt_m1 : ∀ i : Fin 32, zbt (-1) i.val = true := by decide +kernel
theorem zbt_lo : ∀ i : Fin 32, zbt 65535 i.val = decide (i.val < 16) := by decide +kernel
theorem zbt_0 {i : Nat} : zbt 0 i = false := by
  unfold zbt
  show (0#32).getLsbD i = false
  exact BitVec.getLsbD_zero
theorem zbt_ushr {x : Int} {i : Nat} : zbt (zushr x 16) i = zbt x (16 + i) := by
  unfold zushr
  rw [zbt_of]
  show ((Int32.ofInt x).toBitVec >>> (16 : Nat)).getLsbD i = _
  rw [BitVec.getLsbD_ushiftRight]
  rfl
theorem zbt_big {x : Int} {i : Nat} (hi : 32 ≤ i) : zbt x i = false := BitVec.getLsbD_of_ge _ _ hi
/-- no bits -/
theorem zand_0 {x y : Int} : zand x y = 0 ↔ ∀ i, i < 32 → (zbt x i && zbt y i) = false := by
  constructor
  · intro h i _
    rw [← zbt_and, h, zbt_0]
  · intro h
    have e : (Int32.ofInt x &&& Int32.ofInt y) = 0 := by
      apply Int32.toBitVec_inj.mp
      apply BitVec.eq_of_getLsbD_eq
      intro i hi
      rw [Int32.toBitVec_and, BitVec.getLsbD_and]
      exact (h i hi).trans (BitVec.getLsbD_zero (w := 32)).symm
    unfold zand
    rw [e]
    rfl
/-- who clashes -/
def zclh (t : Int) (who : Nat) (w : Bool) : Bool := zan (fun i => decide (i ≠ who) && zbt t (if w = true then i else 16 + i)) 16
def zwt (t : Int) (who : Nat) (w : Bool) : Int := if w = true then zor (zor t (zshl 1 (who : Int))) (zshl 1 ((16 + who : Nat) : Int)) else zor t (zshl 1 (who : Int))
theorem zwt_bit {t : Int} {who i : Nat} {w : Bool} (hw : who < 16) (hi : i < 32) : zbt (zwt t who w) i = (zbt t i || decide (i = who) || (w && decide (i = 16 + who))) := by
  unfold zwt
  cases w with
  | true => rw [if_pos rfl, zbt_or, zbt_or, zbt_shl1 (by omega) hi, zbt_shl1 (by omega) hi, Bool.true_and]
  | false => rw [if_neg (by decide), zbt_or, zbt_shl1 (by omega) hi, Bool.false_and, Bool.or_false]
section
variable {ρ : Type} {h : zH} {kr : Int → zH → Option ρ}
theorem zcl_aux {r : Int} {who : Nat} (hw : who < 16) (hr : ∀ i, 16 ≤ i → i < 32 → zbt r i = false) : (zand r (zxor (zshl 1 (who : Int)) (-1)) = 0) ↔ zan (fun i => decide (i ≠ who) && zbt r i) 16 = false := by
  rw [zand_0]
  have e : ∀ i, i < 32 → zbt (zxor (zshl 1 (who : Int)) (-1)) i = decide (i ≠ who) := fun i hi => by
    rw [zbt_xor, zbt_shl1 (by omega) hi, show zbt (-1) i = true from zbt_m1 ⟨i, hi⟩]
    by_cases h : i = who
    · rw [decide_eq_true h, decide_eq_false (fun z => z h)]
      rfl
    · rw [decide_eq_false h, decide_eq_true h]
      rfl
  constructor
  · intro h
    cases hz : zan (fun i => decide (i ≠ who) && zbt r i) 16 with
    | false => rfl
    | true =>
      obtain ⟨k, hk, h2⟩ := (zan_iff 16).mp hz
      have := h k (by omega)
      rw [e k (by omega), Bool.and_comm, h2] at this
      cases this
  · intro h i hi
    rw [e i hi]
    by_cases h16 : i < 16
    · cases hz : (zbt r i && decide (i ≠ who)) with
      | false => rfl
      | true =>
        have : zan (fun i => decide (i ≠ who) && zbt r i) 16 = true := (zan_iff 16).mpr ⟨i, h16, by rw [Bool.and_comm]; exact hz⟩
        rw [h] at this
        cases this
    · rw [hr i (by omega) hi]
      rfl
theorem x_isClash {t : Int} {who : Nat} {w : Bool} (hw : who < 16) : X_isClash t (who : Int) (tb w) h kr = kr (tb (zclh t who w)) h := by
  unfold X_isClash X_isClash_16 X_isClash_32 zclh
  have key : ∀ r : Int, (∀ i, 16 ≤ i → i < 32 → zbt r i = false) → (if zand r (zxor (zshl 1 (who : Int)) (-1)) = 0 then znar 1 0 (fun x1 => kr x1 h) else znar 1 1 (fun x1 => kr x1 h)) = kr (tb (zan (fun i => decide (i ≠ who) && zbt r i) 16)) h := by
    intro r hr
    have ha := zcl_aux hw hr
    cases hz : zan (fun i => decide (i ≠ who) && zbt r i) 16 with
    | false => rw [if_pos (ha.mpr hz), znar_0, tb_f]
    | true => rw [if_neg (fun z => by rw [ha.mp z] at hz; cases hz), znar_1, tb_t]
  have zc : ∀ f g : Nat → Bool, (∀ i, i < 16 → f i = g i) → zan f 16 = zan g 16 := by
    intro f g hfg
    have : ∀ n, n ≤ 16 → zan f n = zan g n := by
      intro n
      induction n with
      | zero => exact fun _ => rfl
      | succ n ih =>
        intro hn
        show (zan f n || f n) = (zan g n || g n)
        rw [ih (by omega), hfg n (by omega)]
    exact this 16 (Nat.le_refl _)
  cases w with
  | true =>
    rw [tb_t, if_neg (by decide), key (zand t 65535) (fun i h1 h2 => by rw [zbt_and, show zbt 65535 i = decide (i < 16) from zbt_lo ⟨i, h2⟩, decide_eq_false (by omega), Bool.and_false])]
    refine congrArg (fun z => kr (tb z) h) (zc _ _ (fun i hi => ?_))
    rw [zbt_and, show zbt 65535 i = decide (i < 16) from zbt_lo ⟨i, by omega⟩, decide_eq_true hi, Bool.and_true, if_pos rfl]
  | false =>
    rw [tb_f, if_pos rfl, key (zushr t 16) (fun i h1 h2 => by rw [zbt_ushr, zbt_big (by omega)])]
    refine congrArg (fun z => kr (tb z) h) (zc _ _ (fun i hi => ?_))
    rw [zbt_ushr, if_neg (by decide)]
theorem x_withTouch {t : Int} {who : Nat} {w : Bool} (hw : who < 16) : X_withTouch t (who : Int) (tb w) h kr = kr (zwt t who w) h := by
  unfold X_withTouch X_withTouch_22 zwt
  cases w with
  | true =>
    rw [tb_t, if_neg (by decide), if_pos rfl, wr_id (by omega) (by omega)]
    rfl
  | false => rw [tb_f, if_pos rfl, if_neg (by decide)]
theorem zan_congr {f g : Nat → Bool} : ∀ n, (∀ i, i < n → f i = g i) → zan f n = zan g n
  | 0, _ => rfl
  | n + 1, h => by
    unfold zan
    rw [zan_congr n (fun i hi => h i (by omega)), h n (by omega)]
theorem zsum_rng {s : Nat → Int} {b : Nat} : ∀ n : Nat, (∀ k, k < n → s (b + k) = 0 ∨ s (b + k) = 1) → 0 ≤ zsum s b n ∧ zsum s b n ≤ n
  | 0, _ => ⟨Int.le_refl _, Int.le_refl _⟩
  | n + 1, h => by
    have h1 := zsum_rng n (fun k hk => h k (by omega))
    have h2 := h n (by omega)
    unfold zsum
    omega
theorem zsum_up {s : Nat → Int} {b p : Nat} {v : Int} : ∀ n : Nat, zsum (zup s p v) b n = zsum s b n + (if b ≤ p ∧ p < b + n then v - s p else 0)
  | 0 => by
    rw [if_neg (fun z => by omega)]
    rfl
  | n + 1 => by
    show zsum (zup s p v) b n + zup s p v (b + n) = zsum s b n + s (b + n) + _
    rw [zsum_up n]
    unfold zup
    by_cases hp : b + n = p
    · rw [if_pos hp, if_neg (fun z => by omega), if_pos (by omega), hp]
      omega
    · rw [if_neg hp]
      by_cases hq : b ≤ p ∧ p < b + n
      · rw [if_pos hq, if_pos (by omega)]
        omega
      · rw [if_neg hq, if_neg (by omega)]
        omega
theorem au_zup {A : zA} {c p : Nat} {v : Int} : au A c p v c = zup (A c) p v := funext fun j => by rw [au_j]; rfl
end
