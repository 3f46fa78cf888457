/-! QUEUES GONE THROUGH -/
/-- the first of a queue that is not over, of n launches from i on -/
def zfst (A : zA) (q : Int) (s : Nat → Int) : Nat → Nat → Int
  | _, 0 => -1
  | i, n + 1 => if A 71 i = q ∧ zover (s i) = false then (i : Int) else zfst A q s (i + 1) n
/-- children that wait begin -/
def zchl (A : zA) : (Nat → Int) → Nat → Nat → (Nat → Int)
  | s, _, 0 => s
  | s, i, n + 1 => zchl A (if s i = 113 ∧ A 76 i ≠ -1 then zup s i 114 else s) (i + 1) n
def zstq (A : zA) (L : Nat) : Nat → Int := zchl A (zgo A 1 (zgo A 0 (A 69) 0 L) 0 L) 0 L
section
variable {ρ : Type} {h : zH} {A : zA} {kr : Int → zH → Option ρ} {K L : Nat} {s : Nat → Int}
theorem RS.st (q : RS h) : RS (hfd h 9 10 L s) := q.fld rfl
theorem x_startIn_loop (q : RS h) (r : RL A h K L) {qu : Int} : ∀ (f i n : Nat) (s : Nat → Int), i + n = L → n < f →
    zit (fun _ _ _ _ => none) (Le_startIn_2b kr) f 0 qu (i : Int) (hfd h 9 10 L s) = kr 0 (hfd h 9 10 L (zgo A qu s i n))
  | 0, i, n, s, _, hf => absurd hf (Nat.not_lt_zero _)
  | f + 1, i, n, s, hin, hf => by
    show Le_startIn_2b kr (zit (fun _ _ _ _ => none) (Le_startIn_2b kr) f) 0 qu (i : Int) (hfd h 9 10 L s) = _
    obtain ⟨a1, a2, a3, a4⟩ := r.at
    have q0 : RS (hfd h 9 10 L s) := q.st
    have e4 : zhD (hfd h 9 10 L s) 1 0 3 = (L : Int) := by rw [hfd_nc (by decide)]; exact a4
    cases n with
    | zero =>
      unfold Le_startIn_2b
      rw [zob_0 q0.N1, e4, if_neg (by omega)]
      rfl
    | succ n =>
      have hi : i < L := by omega
      have w1 : wr ((i : Int) + 1) = ((i + 1 : Nat) : Int) := by rw [wr_id (by omega) (by omega)]; rfl
      have ih := fun s => x_startIn_loop q r (qu := qu) f (i + 1) n s (by omega) (by omega)
      generalize zit (fun _ _ _ _ => none) (Le_startIn_2b kr) f = r2 at ih ⊢
      unfold Le_startIn_2b
      rw [zob_0 q0.N1, e4]
      obtain ⟨e1, -, ⟨e2, -⟩, -⟩ := r.l hi
      have e1 : zhD (hfd h 9 10 L s) 21 0 i = (i : Int) := by rw [hfd_nc (by decide)]; exact e1
      have e2 : zhD (hfd h 9 10 L s) 9 i 1 = A 71 i := by rw [hfd_nj (by decide)]; exact e2
      have hi9 : i < zhN h 9 := by omega
      have z1 : ∀ kk : Nat → Option ρ, zix 12 (i : Int) kk = kk i := fun kk => zix_n (by omega)
      have z9 : ∀ (s : Nat → Int) (kk : Nat → Option ρ), zob (hfd h 9 10 L s) 9 (i : Int) kk = kk i := fun s kk => zob_n hi9
      rw [if_pos (by omega), zob_0 q0.N1, q0.D1_0_1, zob_0 q0.N21, q0.L21_0, z1, e1, z9, e2]
      have c48 : ∀ s, Le_startIn_48 kr r2 0 qu (i : Int) (i : Int) (hfd h 9 10 L s) = kr 0 (hfd h 9 10 L (if zover (s i) = true then zgo A qu s (i + 1) n else s)) := fun s => by
        unfold Le_startIn_48 Le_startIn_56
        rw [z9, x_isOver_s hi9 hi, w1]
        cases zover (s i) with
        | true =>
          rw [tb_t, if_neg (by decide), if_pos rfl]
          exact ih s
        | false =>
          rw [tb_f, if_pos rfl, if_neg (by decide)]
      show _ = kr 0 (hfd h 9 10 L (if A 71 i = qu ∧ zover (s i) = false then (if s i = 113 then (if zover (zdec A s i) = true then zgo A qu (zup s i (zdec A s i)) (i + 1) n else zup s i (zdec A s i)) else s) else zgo A qu s (i + 1) n))
      by_cases hq : A 71 i = qu
      · rw [if_pos hq, z9, x_isOver_s hi9 hi]
        cases hz : zover (s i) with
        | true =>
          unfold Le_startIn_56
          rw [tb_t, if_neg (by decide), if_neg (fun z => absurd z.2 (by decide)), w1]
          exact ih s
        | false =>
          rw [tb_f, if_pos rfl, if_pos ⟨hq, rfl⟩, z9, hfd_eq hi]
          by_cases hs : s i = 113
          · rw [if_pos hs, if_pos hs, x_decide r hi hs, c48, zup_same]
          · rw [if_neg hs, if_neg hs, c48, hz]
            rfl
      · unfold Le_startIn_56
        rw [if_neg hq, if_neg (fun z => hq z.1), w1]
        exact ih s
theorem x_startIn (q : RS h) (r : RL A h K L) {qu : Int} : Le_startIn 0 qu (hfd h 9 10 L s) kr = kr 0 (hfd h 9 10 L (zgo A qu s 0 L)) :=
  x_startIn_loop q r zN 0 L s (by omega) (by have := r.2.1; show L < 5000; omega)
theorem m_firstOf_loop (r : RL A h K L) {qu : Int} {g : zH} : ∀ (f i n : Nat), i + n = L → n < f →
    zit (fun _ _ _ => none) (M_firstOf_2b kr) f qu (i : Int) (mh g (ard A 69 s)) = kr (zfst A qu s i n) (mh g (ard A 69 s))
  | 0, i, n, _, hf => absurd hf (Nat.not_lt_zero _)
  | f + 1, i, n, hin, hf => by
    show M_firstOf_2b kr (zit (fun _ _ _ => none) (M_firstOf_2b kr) f) qu (i : Int) (mh g (ard A 69 s)) = _
    obtain ⟨a1, a2, a3, a4⟩ := r.at
    unfold M_firstOf_2b
    rw [mD12, ard_ne (by decide), a1]
    cases n with
    | zero =>
      rw [if_neg (by omega)]
      rfl
    | succ n =>
      have hi : i < L := by omega
      have hi12 : i < 12 := by omega
      have w1 : wr ((i : Int) + 1) = ((i + 1 : Nat) : Int) := by rw [wr_id (by omega) (by omega)]; rfl
      have ih := m_firstOf_loop r (qu := qu) (g := g) f (i + 1) n (by omega) (by omega)
      unfold M_firstOf_30
      rw [if_pos (by omega), zix_n hi12, mD71, ard_ne (by decide), w1]
      show _ = kr (if A 71 i = qu ∧ zover (s i) = false then (i : Int) else zfst A qu s (i + 1) n) _
      by_cases hq : A 71 i = qu
      · rw [if_pos hq, m_isOver_s hi12]
        cases hz : zover (s i) with
        | true =>
          rw [tb_t, if_neg (by decide), if_neg (fun z => absurd z.2 (by decide))]
          exact ih
        | false =>
          rw [tb_f, if_pos rfl, if_pos ⟨hq, rfl⟩]
      · rw [if_neg hq, if_neg (fun z => hq z.1)]
        exact ih
theorem m_firstOf (r : RL A h K L) {qu : Int} {g : zH} : M_firstOf qu (mh g (ard A 69 s)) kr = kr (zfst A qu s 0 L) (mh g (ard A 69 s)) :=
  m_firstOf_loop r zN 0 L (by omega) (by have := r.2.1; show L < 5000; omega)
/-- what lies below and is over is passed over -/
theorem zfst_skip {A : zA} {qu : Int} {s : Nat → Int} : ∀ (i j n : Nat), (∀ k, j ≤ k → k < j + i → ¬ (A 71 k = qu ∧ zover (s k) = false)) → zfst A qu s j (i + n) = zfst A qu s (j + i) n
  | 0, j, n, _ => by rw [Nat.zero_add, Nat.add_zero]
  | i + 1, j, n, hb => by
    rw [show i + 1 + n = (i + n) + 1 by omega]
    show (if A 71 j = qu ∧ zover (s j) = false then (j : Int) else zfst A qu s (j + 1) (i + n)) = _
    rw [if_neg (hb j (Nat.le_refl _) (by omega)), zfst_skip i (j + 1) n (fun k h1 h2 => hb k (by omega) (by omega)), show j + 1 + i = j + (i + 1) by omega]
theorem m_goThrough_loop (r : RL A h K L) {qu : Int} {g : zH} : ∀ (n f i : Nat) (s : Nat → Int), i + n = L → n + 2 < f → (∀ k, k < i → ¬ (A 71 k = qu ∧ zover (s k) = false)) →
    zit (fun _ _ _ => none) (M_goThrough_2b kr) f qu 1 (mh g (ard A 69 s)) = kr 0 (mh g (ard A 69 (zgo A qu s i n)))
  | n, 0, i, s, _, hf, _ => absurd hf (Nat.not_lt_zero _)
  | 0, f + 1, i, s, hin, hf, hb => by
    show M_goThrough_2b kr (zit (fun _ _ _ => none) (M_goThrough_2b kr) f) qu 1 (mh g (ard A 69 s)) = _
    have e0 : zfst A qu s 0 L = -1 := by
      rw [← hin, zfst_skip i 0 0 (fun k _ h2 => hb k (by omega))]
      rfl
    cases f with
    | zero => omega
    | succ f =>
      have stop : M_goThrough_2b kr (zit (fun _ _ _ => none) (M_goThrough_2b kr) f) qu 0 (mh g (ard A 69 s)) = kr 0 (mh g (ard A 69 s)) := by
        unfold M_goThrough_2b
        rw [if_pos rfl]
      unfold M_goThrough_2b
      rw [if_neg (by decide), m_firstOf r, e0, if_pos rfl]
      exact stop
  | n + 1, f + 1, i, s, hin, hf, hb => by
    show M_goThrough_2b kr (zit (fun _ _ _ => none) (M_goThrough_2b kr) f) qu 1 (mh g (ard A 69 s)) = _
    obtain ⟨a1, a2, a3, a4⟩ := r.at
    have hi : i < L := by omega
    have hi12 : i < 12 := by omega
    obtain ⟨-, -, -, ⟨-, f2, f3⟩, ⟨-, g2, g3⟩, -⟩ := r.l hi
    have e0 : zfst A qu s 0 L = zfst A qu s i (n + 1) := by
      rw [← hin, zfst_skip i 0 (n + 1) (fun k _ h2 => hb k (by omega)), Nat.zero_add]
    show _ = kr 0 (mh g (ard A 69 (if A 71 i = qu ∧ zover (s i) = false then (if s i = 113 then (if zover (zdec A s i) = true then zgo A qu (zup s i (zdec A s i)) (i + 1) n else zup s i (zdec A s i)) else s) else zgo A qu s (i + 1) n)))
    by_cases hc : A 71 i = qu ∧ zover (s i) = false
    · have e1 : zfst A qu s i (n + 1) = (i : Int) := if_pos hc
      have stop : ∀ s', zit (fun _ _ _ => none) (M_goThrough_2b kr) f qu 0 (mh g (ard A 69 s')) = kr 0 (mh g (ard A 69 s')) := fun s' => by
        cases f with
        | zero => omega
        | succ f =>
          show M_goThrough_2b kr (zit (fun _ _ _ => none) (M_goThrough_2b kr) f) qu 0 (mh g (ard A 69 s')) = _
          unfold M_goThrough_2b
          rw [if_pos rfl]
      have go120 : zit (fun _ _ _ => none) (M_goThrough_2b kr) f qu 1 (mh g (ard A 69 (zup s i 120))) = kr 0 (mh g (ard A 69 (zgo A qu (zup s i 120) (i + 1) n))) := by
        refine m_goThrough_loop r n f (i + 1) (zup s i 120) (by omega) (by omega) (fun k hk z => ?_)
        by_cases hki : k = i
        · subst hki
          rw [zup_same] at z
          exact absurd z.2 (by decide)
        · rw [zup_ne hki] at z
          exact hb k (by omega) z
      have go114 : zit (fun _ _ _ => none) (M_goThrough_2b kr) f qu 1 (mh g (ard A 69 (zup s i 114))) = kr 0 (mh g (ard A 69 (zup s i 114))) := by
        cases f with
        | zero => omega
        | succ f =>
          have e3 : zfst A qu (zup s i 114) 0 L = (i : Int) := by
            rw [← hin, zfst_skip i 0 (n + 1) (fun k _ h2 z => by rw [zup_ne (by omega)] at z; exact hb k (by omega) z), Nat.zero_add]
            exact if_pos ⟨hc.1, by rw [zup_same]; rfl⟩
          have stop2 : zit (fun _ _ _ => none) (M_goThrough_2b kr) f qu 0 (mh g (ard A 69 (zup s i 114))) = kr 0 (mh g (ard A 69 (zup s i 114))) := by
            cases f with
            | zero => omega
            | succ f =>
              show M_goThrough_2b kr (zit (fun _ _ _ => none) (M_goThrough_2b kr) f) qu 0 _ = _
              unfold M_goThrough_2b
              rw [if_pos rfl]
          show M_goThrough_2b kr (zit (fun _ _ _ => none) (M_goThrough_2b kr) f) qu 1 _ = _
          generalize zit (fun _ _ _ => none) (M_goThrough_2b kr) f = r2 at stop2 ⊢
          unfold M_goThrough_2b
          rw [if_neg (by decide), m_firstOf r, e3, if_neg (by omega), zix_n hi12, mD69, ard_same, zup_same, if_neg (by decide)]
          unfold M_goThrough_32 M_goThrough_33 M_goThrough_137
          rw [if_pos rfl]
          exact stop2
      generalize zit (fun _ _ _ => none) (M_goThrough_2b kr) f = r2 at stop go120 go114 ⊢
      rw [if_pos hc]
      unfold M_goThrough_2b
      rw [if_neg (by decide), m_firstOf r, e0, e1, if_neg (by omega), zix_n hi12, mD69, ard_same]
      by_cases hs : s i = 113
      · rw [if_pos hs, if_pos hs]
        have hst : ∀ v, zset (mh g (ard A 69 s)) 69 0 i v = mh g (ard A 69 (zup s i v)) := fun v => by rw [mS69, au_ard]
        have c64 : M_goThrough_64 kr r2 qu 1 (i : Int) (mh g (ard A 69 s)) = r2 qu 1 (mh g (ard A 69 (zup s i 120))) := by
          unfold M_goThrough_64 M_goThrough_69 M_goThrough_103 M_goThrough_104 M_goThrough_137
          rw [if_neg (by decide), if_neg (by decide), zix_n hi12, zlet_d, hst]
        have c103 : M_goThrough_103 kr r2 qu 1 (i : Int) 0 (mh g (ard A 69 s)) = r2 qu 1 (mh g (ard A 69 (zup s i 114))) := by
          unfold M_goThrough_103 M_goThrough_104 M_beginLaunch M_goThrough_137
          rw [if_pos rfl, if_pos rfl, zix_n hi12, zlet_d, hst]
        have c104 : M_goThrough_104 kr r2 qu 1 (i : Int) 0 1 (mh g (ard A 69 s)) = r2 qu 0 (mh g (ard A 69 s)) := by
          unfold M_goThrough_104 M_goThrough_137
          rw [if_pos rfl, if_neg (by decide)]
        have e74 : ard A 69 s 74 = A 74 := ard_ne (by decide)
        have e75 : ard A 69 s 75 = A 75 := ard_ne (by decide)
        unfold M_goThrough_33
        rw [if_neg (by decide), zix_n hi12, mD75, e75, m_isBroken (by omega)]
        unfold zdec
        cases hb1 : zbrk s (A 75 i) with
        | true =>
          rw [tb_t, if_neg (by decide), c64, Bool.true_or, if_pos rfl, go120]
          rfl
        | false =>
          rw [tb_f, if_pos rfl, zix_n hi12, mD74, e74, m_isBroken (by omega), Bool.false_or]
          cases hb2 : zbrk s (A 74 i) with
          | true =>
            rw [tb_t, if_neg (by decide), c64, if_pos rfl, go120]
            rfl
          | false =>
            rw [tb_f, if_pos rfl, if_neg (show ¬ (false = true) by decide)]
            unfold M_goThrough_69
            rw [if_pos rfl, zix_n hi12, mD74, e74]
            by_cases ha : A 74 i = -1
            · rw [if_pos ha, c103, go114, decide_eq_true ha, Bool.true_or, if_pos rfl]
              rfl
            · rw [if_neg ha, zix_n hi12, decide_eq_false ha, Bool.false_or]
              obtain ⟨m, hm⟩ : ∃ m : Nat, A 74 i = (m : Int) := ⟨(A 74 i).toNat, by omega⟩
              rw [mD74, e74, hm, m_isOver_s (by omega), Int.toNat_natCast]
              cases zover (s m) with
              | true =>
                rw [tb_t, if_neg (by decide), c103, go114]
                rfl
              | false =>
                rw [tb_f, if_pos rfl, c104, stop, if_neg (show ¬ (false = true) by decide)]
                show _ = kr 0 (mh g (ard A 69 (if zover (113 : Int) = true then zgo A qu (zup s i 113) (i + 1) n else zup s i 113)))
                rw [if_neg (by decide), zup_id hs]
      · rw [if_neg hs, if_neg hs]
        unfold M_goThrough_32 M_goThrough_33 M_goThrough_137
        rw [if_pos rfl]
        exact stop s
    · have e1 : zgo A qu s i (n + 1) = zgo A qu s (i + 1) n := if_neg hc
      rw [if_neg hc]
      exact m_goThrough_loop r n (f + 1) (i + 1) s (by omega) (by omega) (fun k hk z => by
        by_cases hki : k = i
        · subst hki
          exact hc z
        · exact hb k (by omega) z)
end
