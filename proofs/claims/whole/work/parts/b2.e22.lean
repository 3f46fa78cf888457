/-! WHAT IS QUEUED STARTS -/
def zch (x y : Int) : Prop := y = x ∨ (x = 113 ∧ (y = 114 ∨ y = 120))
theorem zch_tr {x y z : Int} (h1 : zch x y) (h2 : zch y z) : zch x z := by
  unfold zch at *
  omega
theorem zdec_v {A : zA} {s : Nat → Int} {i : Nat} : zdec A s i = 113 ∨ zdec A s i = 114 ∨ zdec A s i = 120 := by
  unfold zdec
  split
  · exact Or.inr (Or.inr rfl)
  · split
    · exact Or.inr (Or.inl rfl)
    · exact Or.inl rfl
theorem zgo_ch {A : zA} {q : Int} : ∀ (n i : Nat) (s : Nat → Int) (l : Nat), zch (s l) (zgo A q s i n l)
  | 0, i, s, l => Or.inl rfl
  | n + 1, i, s, l => by
    have key : s i = 113 → zch (s l) (zup s i (zdec A s i) l) := fun hs => by
      by_cases hl : l = i
      · subst hl
        rw [zup_same]
        have := zdec_v (A := A) (s := s) (i := l)
        unfold zch
        omega
      · rw [zup_ne hl]
        exact Or.inl rfl
    unfold zgo
    split
    · split
      · rename_i hs
        split
        · exact zch_tr (key hs) (zgo_ch n (i + 1) _ l)
        · exact key hs
      · exact Or.inl rfl
    · exact zgo_ch n (i + 1) s l
theorem zchl_ch {A : zA} : ∀ (n i : Nat) (s : Nat → Int) (l : Nat), zch (s l) (zchl A s i n l)
  | 0, i, s, l => Or.inl rfl
  | n + 1, i, s, l => by
    unfold zchl
    refine zch_tr ?_ (zchl_ch n (i + 1) _ l)
    split
    · rename_i hz
      by_cases hl : l = i
      · subst hl
        rw [zup_same]
        exact Or.inr ⟨hz.1, Or.inl rfl⟩
      · rw [zup_ne hl]
        exact Or.inl rfl
    · exact Or.inl rfl
theorem zstq_ch {A : zA} {L l : Nat} : zch (A 69 l) (zstq A L l) := zch_tr (zch_tr (zgo_ch _ _ _ l) (zgo_ch _ _ _ l)) (zchl_ch _ _ _ l)
section
variable {ρ : Type} {h g : zH} {A : zA} {kr : Int → zH → Option ρ} {K L : Nat} {s : Nat → Int}
/-- states set: launches kept -/
theorem RL.st (r : RL A h K L) (hs : ∀ l, l < L → s l = A 69 l ∨ (s l ≠ 102 ∧ zst (s l))) : RL (ard A 69 s) (hfd h 9 10 L s) K L := by
  obtain ⟨a1, a2, a3, a4, a5, a6⟩ := r
  have e : ∀ c, c ≠ 69 → ard A 69 s c = A c := fun c hc => ard_ne hc
  refine ⟨by rw [e 12 (by decide)]; exact a1, a2, a3, by rw [hfd_nc (by decide)]; exact a4, fun l hl => ?_, fun l h1 h2 => ?_⟩
  · obtain ⟨b1, b2, b3, b4, b5, b6, b7, b8, b9, b10, b11, b12, b13, b14⟩ := a5 l hl
    have d : ∀ j, j ≠ 10 → zhD (hfd h 9 10 L s) 9 l j = zhD h 9 l j := fun j hj => hfd_nj hj
    unfold RLn
    rw [hfd_nc (show 21 ≠ 9 by decide), hfd_eq hl, d 0 (by decide), d 1 (by decide), d 2 (by decide), d 3 (by decide), d 4 (by decide), d 5 (by decide), d 6 (by decide), d 7 (by decide), d 8 (by decide), d 9 (by decide), d 11 (by decide), d 12 (by decide), d 13 (by decide), d 14 (by decide), d 15 (by decide), ard_same, e 70 (by decide), e 71 (by decide), e 72 (by decide), e 73 (by decide), e 74 (by decide), e 75 (by decide), e 76 (by decide), e 77 (by decide), e 78 (by decide), e 79 (by decide), e 80 (by decide), e 81 (by decide), e 82 (by decide), e 83 (by decide), e 84 (by decide), e 85 (by decide), e 61 (by decide), e 62 (by decide), e 64 (by decide)]
    refine ⟨b1, b2, b3, b4, b5, b6, b7, b8, ⟨rfl, ?_⟩, fun hz => ?_, b11, b12, b13, b14⟩
    · rcases hs l hl with k | k
      · rw [k]
        exact b9.2
      · exact k.2
    · rcases hs l hl with k | k
      · exact b10 (by rw [← k]; exact hz)
      · exact absurd hz k.1
  · rw [e 72 (by decide), e 73 (by decide), e 77 (by decide), e 78 (by decide), e 79 (by decide), e 80 (by decide), e 81 (by decide), e 82 (by decide), e 83 (by decide)]
    exact a6 l h1 h2
theorem zch_ok {x y : Int} (h : zch x y) : y = x ∨ (y ≠ 102 ∧ zst y) := by
  unfold zch at h
  unfold zst
  omega
theorem RL.h69 (r : RL A h K L) : hfd h 9 10 L (A 69) = h := hfd_id (fun l hl => (r.l hl).2.2.2.2.2.2.2.2.1.1)
theorem RL.stq (r : RL A h K L) : RL (ard A 69 (zstq A L)) (hfd h 9 10 L (zstq A L)) K L := r.st (fun l _ => zch_ok zstq_ch)
theorem m_goThrough (r : RL A h K L) {qu : Int} : M_goThrough qu (mh g (ard A 69 s)) kr = kr 0 (mh g (ard A 69 (zgo A qu s 0 L))) :=
  m_goThrough_loop r L zN 0 s (by omega) (by have := r.2.1; show L + 2 < 5000; omega) (fun k hk => absurd hk (Nat.not_lt_zero _))
theorem x_children_loop (q : RS h) (r : RL A h K L) : ∀ (f i n : Nat) (s : Nat → Int), i + n = L → n < f →
    zit (fun _ _ _ => none) (Le_startQueued_20b kr) f 0 (i : Int) (hfd h 9 10 L s) = kr 0 (hfd h 9 10 L (zchl A s i n))
  | 0, i, n, s, _, hf => absurd hf (Nat.not_lt_zero _)
  | f + 1, i, n, s, hin, hf => by
    show Le_startQueued_20b kr (zit (fun _ _ _ => none) (Le_startQueued_20b kr) f) 0 (i : Int) (hfd h 9 10 L s) = _
    obtain ⟨a1, a2, a3, a4⟩ := r.at
    have q0 : RS (hfd h 9 10 L s) := q.st
    have e4 : zhD (hfd h 9 10 L s) 1 0 3 = (L : Int) := by rw [hfd_nc (by decide)]; exact a4
    cases n with
    | zero =>
      unfold Le_startQueued_20b
      rw [zob_0 q0.N1, e4, if_neg (by omega)]
      rfl
    | succ n =>
      have hi : i < L := by omega
      have w1 : wr ((i : Int) + 1) = ((i + 1 : Nat) : Int) := by rw [wr_id (by omega) (by omega)]; rfl
      have ih := fun s => x_children_loop q r f (i + 1) n s (by omega) (by omega)
      generalize zit (fun _ _ _ => none) (Le_startQueued_20b kr) f = r2 at ih ⊢
      obtain ⟨e1, -, -, -, -, ⟨e6, g6, -⟩, -⟩ := r.l hi
      have e1 : zhD (hfd h 9 10 L s) 21 0 i = (i : Int) := by rw [hfd_nc (by decide)]; exact e1
      have e6 : zhD (hfd h 9 10 L s) 9 i 4 = A 76 i := by rw [hfd_nj (by decide)]; exact e6
      have hi9 : i < zhN h 9 := by omega
      have z1 : ∀ kk : Nat → Option ρ, zix 12 (i : Int) kk = kk i := fun kk => zix_n (by omega)
      have z9 : ∀ (kk : Nat → Option ρ), zob (hfd h 9 10 L s) 9 (i : Int) kk = kk i := fun kk => zob_n hi9
      unfold Le_startQueued_20b Le_startQueued_65
      simp only [zob_0 q0.N1, e4, if_pos (show (i : Int) < (L : Int) by omega), q0.D1_0_1, zob_0 q0.N21, q0.L21_0, z1, e1, z9, e6, hfd_eq hi, w1, zlet_d, hfd_set hi]
      show _ = kr 0 (hfd h 9 10 L (zchl A (if s i = 113 ∧ A 76 i ≠ -1 then zup s i 114 else s) (i + 1) n))
      by_cases hp : A 76 i = -1
      · rw [if_pos (by omega), if_neg (fun z => z.2 hp)]
        exact ih s
      · rw [if_neg (by omega)]
        by_cases hs : s i = 113
        · rw [if_pos hs, if_pos ⟨hs, hp⟩]
          exact ih _
        · rw [if_neg hs, if_neg (fun z => hs z.1)]
          exact ih s
theorem x_startQueued (q : RS h) (r : RL A h K L) : Le_startQueued 0 h kr = kr 0 (hfd h 9 10 L (zstq A L)) := by
  have hc := fun s => x_children_loop (kr := kr) q r zN 0 L s (by omega) (by have := r.2.1; show L < 5000; omega)
  have q1 : ∀ s, RS (hfd h 9 10 L s) := fun s => q.st
  have e0 : Le_startQueued 0 h kr = Le_startQueued 0 (hfd h 9 10 L (A 69)) kr := by rw [r.h69]
  rw [e0]
  unfold Le_startQueued Le_startQueued_2
  show Le_startQueued_2b kr (fun a b => Le_startQueued_2b kr (fun a b => Le_startQueued_2b kr (zit (fun _ _ _ => none) (Le_startQueued_2b kr) 4997) a b) a b) 0 0 (hfd h 9 10 L (A 69)) = _
  have s3 : ∀ (r2 : Int → Int → zH → Option ρ) (s : Nat → Int), Le_startQueued_2b kr r2 0 2 (hfd h 9 10 L s) = kr 0 (hfd h 9 10 L (zchl A s 0 L)) := fun r2 s => by
    unfold Le_startQueued_2b Le_startQueued_20
    rw [if_neg (by decide)]
    exact hc s
  have s2 : ∀ (r2 : Int → Int → zH → Option ρ) (i : Int) (s : Nat → Int), 0 ≤ i → i < 2 → Le_startQueued_2b kr r2 0 i (hfd h 9 10 L s) = r2 0 (i + 1) (hfd h 9 10 L (zgo A i s 0 L)) := fun r2 i s h0 h2 => by
    unfold Le_startQueued_2b
    rw [if_pos h2, zob_0 (q1 s).N1, x_startIn q r, wr_id (by omega) (by omega)]
  rw [s2 _ _ _ (by decide) (by decide)]
  show Le_startQueued_2b kr _ 0 1 _ = _
  rw [s2 _ _ _ (by decide) (by decide)]
  show Le_startQueued_2b kr _ 0 2 _ = _
  rw [s3]
  rfl
theorem m_children_loop (r : RL A h K L) {kz : Int → zH → Option ρ} {a1 : Int} : ∀ (f i n : Nat) (s : Nat → Int), i + n = L → n < f →
    zit (fun _ _ _ => none) (M_comeOne_17b kz) f a1 (i : Int) (mh g (ard A 69 s)) = M_comeOne_59 kz a1 0 (mh g (ard A 69 (zchl A s i n)))
  | 0, i, n, s, _, hf => absurd hf (Nat.not_lt_zero _)
  | f + 1, i, n, s, hin, hf => by
    show M_comeOne_17b kz (zit (fun _ _ _ => none) (M_comeOne_17b kz) f) a1 (i : Int) (mh g (ard A 69 s)) = _
    obtain ⟨b1, b2, b3, b4⟩ := r.at
    have e13 : ard A 69 s 12 = A 12 := ard_ne (by decide)
    cases n with
    | zero =>
      unfold M_comeOne_17b
      rw [mD12, e13, if_neg (by omega)]
      rfl
    | succ n =>
      have hi : i < L := by omega
      have hi12 : i < 12 := by omega
      have w1 : wr ((i : Int) + 1) = ((i + 1 : Nat) : Int) := by rw [wr_id (by omega) (by omega)]; rfl
      have ih := fun s => m_children_loop r (kz := kz) (a1 := a1) f (i + 1) n s (by omega) (by omega)
      generalize zit (fun _ _ _ => none) (M_comeOne_17b kz) f = r2 at ih ⊢
      have e76 : ard A 69 s 76 = A 76 := ard_ne (by decide)
      unfold M_comeOne_17b M_comeOne_51 M_beginLaunch
      simp only [mD12, e13, b1, if_pos (show (i : Int) < (L : Int) by omega), zix_n hi12, mD69, ard_same, mD76, e76, w1, mS69, au_ard, zlet_d]
      show _ = M_comeOne_59 kz a1 0 (mh g (ard A 69 (zchl A (if s i = 113 ∧ A 76 i ≠ -1 then zup s i 114 else s) (i + 1) n)))
      by_cases hs : s i = 113
      · rw [if_pos hs]
        by_cases hp : A 76 i = -1
        · rw [if_pos hp, if_neg (fun z => z.2 hp)]
          exact ih s
        · rw [if_neg hp, if_pos ⟨hs, hp⟩]
          exact ih _
      · rw [if_neg hs, if_neg (fun z => hs z.1)]
        exact ih s
theorem m_comeOne_0 (r : RL A h K L) : M_comeOne (mh g A) kr = M_comeOne_59 kr (A 12 55) 0 (mh g (ard A 69 (zstq A L))) := by
  have e0 : M_comeOne (mh g A) kr = M_comeOne (mh g (ard A 69 (A 69))) kr := by rw [ard_id]
  rw [e0]
  unfold M_comeOne
  rw [m_goThrough r, m_goThrough r, mD12, ard_ne (by decide)]
  exact m_children_loop r zN 0 L _ (by omega) (by have := r.2.1; show L < 5000; omega)
/-! all over -/
def zaov (s : Nat → Int) : Nat → Nat → Bool
  | _, 0 => true
  | i, n + 1 => zover (s i) && zaov s (i + 1) n
theorem x_isAllOver_loop (q : RS h) (r : RL A h K L) : ∀ (f i n : Nat), i + n = L → n < f →
    zit (fun _ _ _ => none) (Le_isAllOver_2b kr) f 0 (i : Int) h = kr (tb (zaov (A 69) i n)) h
  | 0, i, n, _, hf => absurd hf (Nat.not_lt_zero _)
  | f + 1, i, n, hin, hf => by
    show Le_isAllOver_2b kr (zit (fun _ _ _ => none) (Le_isAllOver_2b kr) f) 0 (i : Int) h = _
    obtain ⟨a1, a2, a3, a4⟩ := r.at
    cases n with
    | zero =>
      unfold Le_isAllOver_2b
      rw [zob_0 q.N1, a4, if_neg (by omega)]
      rfl
    | succ n =>
      have hi : i < L := by omega
      have w1 : wr ((i : Int) + 1) = ((i + 1 : Nat) : Int) := by rw [wr_id (by omega) (by omega)]; rfl
      have ih := x_isAllOver_loop q r f (i + 1) n (by omega) (by omega)
      generalize zit (fun _ _ _ => none) (Le_isAllOver_2b kr) f = r2 at ih ⊢
      obtain ⟨e1, -, -, -, -, -, -, -, ⟨e2, -⟩, -⟩ := r.l hi
      have hi9 : i < zhN h 9 := by omega
      have z1 : ∀ kk : Nat → Option ρ, zix 12 (i : Int) kk = kk i := fun kk => zix_n (by omega)
      unfold Le_isAllOver_2b
      rw [zob_0 q.N1, a4, if_pos (show (i : Int) < (L : Int) by omega), zob_0 q.N1, q.D1_0_1, zob_0 q.N21, q.L21_0, z1, e1, zob_n hi9, x_isOver hi9, e2, w1]
      show _ = kr (tb (zover (A 69 i) && zaov (A 69) (i + 1) n)) h
      cases zover (A 69 i) with
      | true =>
        rw [tb_t, if_neg (by decide), Bool.true_and]
        exact ih
      | false =>
        rw [tb_f, if_pos rfl, Bool.false_and]
        rfl
theorem x_isAllOver (q : RS h) (r : RL A h K L) : Le_isAllOver 0 h kr = kr (tb (zaov (A 69) 0 L)) h :=
  x_isAllOver_loop q r zN 0 L (by omega) (by have := r.2.1; show L < 5000; omega)
theorem m_areOver_loop (r : RL A h K L) : ∀ (f i n : Nat) (b : Bool), i + n = L → n < f →
    zit (fun _ _ _ => none) (M_areOver_4b kr) f (tb b) (i : Int) (mh g A) = kr (tb (b && zaov (A 69) i n)) (mh g A)
  | 0, i, n, b, _, hf => absurd hf (Nat.not_lt_zero _)
  | f + 1, i, n, b, hin, hf => by
    show M_areOver_4b kr (zit (fun _ _ _ => none) (M_areOver_4b kr) f) (tb b) (i : Int) (mh g A) = _
    obtain ⟨b1, b2, b3, b4⟩ := r.at
    cases n with
    | zero =>
      unfold M_areOver_4b
      rw [mD12, if_neg (by omega), znar_tb]
      show _ = kr (tb (b && true)) _
      rw [Bool.and_true]
    | succ n =>
      have hi : i < L := by omega
      have w1 : wr ((i : Int) + 1) = ((i + 1 : Nat) : Int) := by rw [wr_id (by omega) (by omega)]; rfl
      have ih := fun b => m_areOver_loop r f (i + 1) n b (by omega) (by omega)
      generalize zit (fun _ _ _ => none) (M_areOver_4b kr) f = r2 at ih ⊢
      unfold M_areOver_4b M_areOver_28 M_areOver_29
      rw [mD12, b1, if_pos (show (i : Int) < (L : Int) by omega), w1, m_isOver (show i < 12 by omega)]
      show _ = kr (tb (b && (zover (A 69 i) && zaov (A 69) (i + 1) n))) _
      cases b with
      | false =>
        rw [tb_f, if_pos rfl, Bool.false_and]
        have := ih false
        rw [Bool.false_and] at this
        exact this
      | true =>
        rw [tb_t, if_neg (by decide), Bool.true_and]
        cases zover (A 69 i) with
        | true =>
          rw [tb_t, if_neg (by decide), Bool.true_and]
          have := ih true
          rw [Bool.true_and] at this
          exact this
        | false =>
          rw [tb_f, if_pos rfl, Bool.false_and]
          have := ih false
          rw [Bool.false_and] at this
          exact this
theorem m_areOver (r : RL A h K L) : M_areOver (mh g A) kr = kr (tb (zaov (A 69) 0 L)) (mh g A) := by
  have := m_areOver_loop (kr := kr) (g := g) r zN 0 L true (by omega) (by have := r.2.1; show L < 5000; omega)
  rw [Bool.true_and] at this
  exact this
end
