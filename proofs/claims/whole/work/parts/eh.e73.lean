/-! A UNIT CHOOSES -/
def zfi (f : Nat → Bool) (ix : Nat → Nat) : Nat → Nat → Int
  | _, 0 => -1
  | k, n + 1 => if f (ix k) = true then (ix k : Int) else zfi f ix (k + 1) n
def zla (f : Nat → Bool) : Nat → Int
  | 0 => -1
  | n + 1 => if f n = true then (n : Int) else zla f n
theorem zfi_la {f : Nat → Bool} {m : Nat} : ∀ n k : Nat, k + n = m → zfi f (fun k => m - 1 - k) k n = zla f n
  | 0, _, _ => rfl
  | n + 1, k, h => by
    have e : m - 1 - k = n := by omega
    show (if f (m - 1 - k) = true then ((m - 1 - k : Nat) : Int) else zfi f (fun k => m - 1 - k) (k + 1) n) = if f n = true then (n : Int) else zla f n
    rw [e, zfi_la n (k + 1) (by omega)]
theorem zla_r {f : Nat → Bool} : ∀ n, zla f n = -1 ∨ ∃ i, i < n ∧ zla f n = (i : Int) ∧ f i = true
  | 0 => Or.inl rfl
  | n + 1 => by
    unfold zla
    by_cases h : f n = true
    · rw [if_pos h]
      exact Or.inr ⟨n, Nat.lt_succ_self n, rfl, h⟩
    · rw [if_neg h]
      rcases zla_r (f := f) n with z | ⟨i, h1, h2, h3⟩
      · exact Or.inl z
      · exact Or.inr ⟨i, Nat.lt_succ_of_lt h1, h2, h3⟩
theorem zfi_r {f : Nat → Bool} {ix : Nat → Nat} : ∀ n k, zfi f ix k n = -1 ∨ ∃ i, k ≤ i ∧ i < k + n ∧ zfi f ix k n = (ix i : Int) ∧ f (ix i) = true
  | 0, _ => Or.inl rfl
  | n + 1, k => by
    unfold zfi
    by_cases h : f (ix k) = true
    · rw [if_pos h]
      exact Or.inr ⟨k, Nat.le_refl _, by omega, rfl, h⟩
    · rw [if_neg h]
      rcases zfi_r (f := f) (ix := ix) n (k + 1) with z | ⟨i, h1, h2, h3⟩
      · exact Or.inl z
      · exact Or.inr ⟨i, by omega, by omega, h3⟩
theorem zlm_cg {f1 f2 : Nat → Int} : ∀ n, (∀ k, k < n → f1 k = f2 k) → zlm f1 n = zlm f2 n
  | 0, _ => rfl
  | n + 1, h => by
    unfold zlm
    rw [h n (Nat.lt_succ_self n), zlm_cg n (fun k hk => h k (Nat.lt_succ_of_lt hk))]
theorem wr_md {st k m : Nat} (h : st + k < 1000) : Int.tmod (wr ((st : Int) + (k : Int))) (m : Int) = (((st + k) % m : Nat) : Int) := by
  rw [wr_id (by omega) (by omega), Int.tmod_eq_emod_of_nonneg (by omega)]
  rfl
def cg (A : zA) (u i : Nat) : Bool := decide (zlm (mpl A (A 94 (4 * u + i)).toNat (A 95 (4 * u + i)).toNat) 4 ≠ -1 ∧ A 96 (4 * u + i) ≤ A 12 1)
section
variable {ρ : Type} {h h' g : zH} {A A' B : zA} {kr : Int → zH → Option ρ} {K L n n' : Nat} {bc tc gc : Nat → Nat} {N M : Int} {s : Nat → Int} {u m : Nat}
theorem slot_can (q : RR A h K L bc tc gc n B N M) {i : Nat} (hu : u < 2) (hi : (i : Int) < A 93 u) (g : zH) : ∃ G : Nat, zhD h 26 u i = (G : Int) ∧ G < zhN h 11 ∧ (∀ kr : Int → zH → Option ρ, Gr_canAct (G : Int) (zhD h 2 0 4) h kr = kr (tb (cg A u i)) h) ∧ (∀ kr : Int → zH → Option ρ, M_canGo ((4 * u + i : Nat) : Int) (mh g A) kr = kr (tb (cg A u i)) (mh g A)) := by
  obtain ⟨b, j, e94, e95, hb, hin, h88, hj, e26, mg⟩ := q.slot hu hi
  obtain ⟨gw, g1, -, mp⟩ := q.grp hb hin hj
  obtain ⟨k, hkK, hk, hbL, ⟨t0, t1⟩, -⟩ := q.blk hb hin
  obtain ⟨d1, -⟩ := q.ug u i hu hi b j e94 e95
  have ecy : zhD h 2 0 4 = A 12 1 := q.rm.2.1
  have u4 := (q.un hu).2.1
  have ec : cg A u i = decide (zlm (mpl A b j) 4 ≠ -1 ∧ A 96 (4 * u + i) ≤ A 12 1) := by
    unfold cg
    rw [e94, e95, Int.toNat_natCast, Int.toNat_natCast]
  refine ⟨gc (4 * b + j), e26, gw.1, fun kr => ?_, fun kr => ?_⟩
  · rw [x_canAct q.rd gw, ec, zlm_cg 4 g1, ecy]
    have : (zlm (mpl A b j) 4 ≠ -1 ∧ zhD h 11 (gc (4 * b + j)) 6 ≤ A 12 1) ↔ (zlm (mpl A b j) 4 ≠ -1 ∧ A 96 (4 * u + i) ≤ A 12 1) := by
      constructor
      · rintro ⟨z1, z2⟩
        exact ⟨z1, by omega⟩
      · rintro ⟨z1, z2⟩
        exact ⟨z1, by omega⟩
    rw [decide_eq_decide.mpr this]
  · rw [m_canGo mg mp, ec]
theorem x_ch_loop (q : RR A h K L bc tc gc n B N M) (hu : u < 2) (h93 : A 93 u = (m : Int)) {od st : Int} {ix : Nat → Nat} (hix : ∀ k, k < m → ix k < m) (he : ∀ k, k < m → ∀ r : Int → Int → Int → Int → Int → zH → Option ρ, Un_choose_20b kr r (u : Int) od (zhD h 2 0 4) st (k : Int) h = Un_choose_56 kr r (u : Int) od (zhD h 2 0 4) st (k : Int) (ix k : Int) h) : ∀ f k n : Nat, k + n = m → n < f → zit (fun _ _ _ _ _ _ => none) (Un_choose_20b kr) f (u : Int) od (zhD h 2 0 4) st (k : Int) h = if zfi (cg A u) ix k n = -1 then kr (-1) h else kr (zhD h 26 u (zfi (cg A u) ix k n).toNat) (zset h 3 u 3 (zhD h 26 u (zfi (cg A u) ix k n).toNat))
  | 0, _, _, _, hf => absurd hf (Nat.not_lt_zero _)
  | f + 1, k, 0, hk, _ => by
    obtain ⟨o1, o2, o3, o4, o5, o6, -⟩ := q.uo hu
    rw [h93, Int.toNat_natCast] at o5
    rw [zit_s]
    have : k = m := by omega
    subst this
    unfold Un_choose_20b
    rw [zob_n o1, o5, if_neg (Int.lt_irrefl _)]
    exact (if_pos rfl).symm
  | f + 1, k, n2 + 1, hk, hf => by
    have hkm : k < m := by omega
    have ih := x_ch_loop q hu h93 hix he f (k + 1) n2 (by omega) (by omega)
    obtain ⟨o1, o2, o3, o4, o5, o6, -⟩ := q.uo hu
    have hxm := hix k hkm
    rw [h93, Int.toNat_natCast] at o5 o6
    obtain ⟨G, g1, g2, g3, -⟩ := slot_can (ρ := ρ) (i := ix k) q hu (by rw [h93]; omega) h
    have x4 : ix k < 4 := by omega
    have k9 : k < 100000 := by omega
    rw [zit_s, he k hkm]
    generalize zit (fun _ _ _ _ _ _ => none) (Un_choose_20b kr) f = r9 at ih ⊢
    have ez : zfi (cg A u) ix k (n2 + 1) = if cg A u (ix k) = true then (ix k : Int) else zfi (cg A u) ix (k + 1) n2 := rfl
    unfold Un_choose_56
    rw [zob_n o1, o2, zob_n o3, o4, zix_n x4, g1, zob_n g2, g3, ez, wr_s k9]
    cases hc : cg A u (ix k) with
    | false =>
      rw [tb_f, if_pos rfl, if_neg Bool.false_ne_true]
      exact ih
    | true =>
      have o1' : u < zhN (zset h 3 u 3 (G : Int)) 3 := o1
      have nn : ¬ ((ix k : Nat) : Int) = -1 := by omega
      rw [tb_t, if_neg (by decide), if_pos rfl, zob_n o1, o2, zob_n o3, o4, zix_n x4, zob_n o1, g1, zlet_d, zob_n o1', zD_eq, if_neg nn, Int.toNat_natCast, g1]
/-- what is found stays -/
theorem m_ch_stay (q : RR A h K L bc tc gc n B N M) (hu : u < 2) (h93 : A 93 u = (m : Int)) {st : Nat} {acc : Int} (ha : acc ≠ -1) (ho : A 12 2 ≠ 121) (hs : st ≤ 4) : ∀ f k n : Nat, k + n = m → n < f → zit (fun _ _ _ _ _ => none) (M_choose_90b kr) f (u : Int) (st : Int) acc (k : Int) (mh g A) = kr acc (mh g A)
  | 0, _, _, _, hf => absurd hf (Nat.not_lt_zero _)
  | f + 1, k, 0, hk, _ => by
    rw [zit_s]
    have : k = m := by omega
    subst this
    unfold M_choose_90b
    rw [zix_n hu, mD93, h93, if_neg (Int.lt_irrefl _)]
  | f + 1, k, n2 + 1, hk, hf => by
    have ih := m_ch_stay (st := st) (acc := acc) q hu h93 ha ho hs f (k + 1) n2 (by omega) (by omega)
    have u4 := (q.un hu).2.1
    rw [h93] at u4
    have hkm : (k : Int) < (m : Int) := by omega
    have hm0 : ¬ (m : Int) = 0 := by omega
    have hxm : (st + k) % m < m := Nat.mod_lt _ (by omega)
    have y8 : 4 * u + (st + k) % m < 8 := by omega
    have k9 : k < 100000 := by omega
    have s9 : st + k < 1000 := by omega
    obtain ⟨-, -, -, -, g4⟩ := slot_can (ρ := ρ) (i := (st + k) % m) q hu (by rw [h93]; omega) g
    rw [zit_s]
    generalize zit (fun _ _ _ _ _ => none) (M_choose_90b kr) f = r9 at ih ⊢
    unfold M_choose_90b M_choose_150 M_choose_145 M_choose_151
    rw [zix_n hu, mD93, h93, if_pos hkm, zix_n hu, mD93, h93, if_neg hm0, wr_md s9, wr_ut y8, g4, wr_s k9]
    cases hc : cg A u ((st + k) % m) with
    | false =>
      rw [tb_f, if_pos rfl]
      exact ih
    | true =>
      rw [tb_t, if_neg (by decide), if_neg ha, mD12, if_neg ho]
      exact ih
theorem m_ch_loop (q : RR A h K L bc tc gc n B N M) (hu : u < 2) (h93 : A 93 u = (m : Int)) {st : Nat} (ho : A 12 2 ≠ 121) (hs : st ≤ 4) : ∀ f k n : Nat, k + n = m → n < f → zit (fun _ _ _ _ _ => none) (M_choose_90b kr) f (u : Int) (st : Int) (-1) (k : Int) (mh g A) = kr (zfi (cg A u) (fun k => (st + k) % m) k n) (mh g A)
  | 0, _, _, _, hf => absurd hf (Nat.not_lt_zero _)
  | f + 1, k, 0, hk, _ => by
    rw [zit_s]
    have : k = m := by omega
    subst this
    unfold M_choose_90b
    rw [zix_n hu, mD93, h93, if_neg (Int.lt_irrefl _)]
    rfl
  | f + 1, k, n2 + 1, hk, hf => by
    have ih := m_ch_loop (st := st) q hu h93 ho hs f (k + 1) n2 (by omega) (by omega)
    have sy := m_ch_stay (kr := kr) (g := g) (st := st) (acc := (((st + k) % m : Nat) : Int)) q hu h93 (by omega) ho hs f (k + 1) n2 (by omega) (by omega)
    have u4 := (q.un hu).2.1
    rw [h93] at u4
    have hkm : (k : Int) < (m : Int) := by omega
    have hm0 : ¬ (m : Int) = 0 := by omega
    have hxm : (st + k) % m < m := Nat.mod_lt _ (by omega)
    have y8 : 4 * u + (st + k) % m < 8 := by omega
    have k9 : k < 100000 := by omega
    have s9 : st + k < 1000 := by omega
    obtain ⟨-, -, -, -, g4⟩ := slot_can (ρ := ρ) (i := (st + k) % m) q hu (by rw [h93]; omega) g
    have ez : zfi (cg A u) (fun k => (st + k) % m) k (n2 + 1) = if cg A u ((st + k) % m) = true then (((st + k) % m : Nat) : Int) else zfi (cg A u) (fun k => (st + k) % m) (k + 1) n2 := rfl
    rw [zit_s, ez]
    generalize zit (fun _ _ _ _ _ => none) (M_choose_90b kr) f = r9 at ih sy ⊢
    unfold M_choose_90b M_choose_150 M_choose_145 M_choose_151
    rw [zix_n hu, mD93, h93, if_pos hkm, zix_n hu, mD93, h93, if_neg hm0, wr_md s9, wr_ut y8, g4, wr_s k9]
    cases hc : cg A u ((st + k) % m) with
    | false =>
      rw [tb_f, if_pos rfl, if_neg Bool.false_ne_true]
      exact ih
    | true =>
      rw [tb_t, if_neg (by decide), if_pos rfl, if_pos rfl]
      exact sy
theorem m_chy_loop (q : RR A h K L bc tc gc n B N M) (hu : u < 2) (h93 : A 93 u = (m : Int)) (ho : A 12 2 = 121) : ∀ f k n : Nat, k + n = m → n < f → zit (fun _ _ _ _ _ => none) (M_choose_90b kr) f (u : Int) ((0 : Nat) : Int) (zla (cg A u) k) (k : Int) (mh g A) = kr (zla (cg A u) m) (mh g A)
  | 0, _, _, _, hf => absurd hf (Nat.not_lt_zero _)
  | f + 1, k, 0, hk, _ => by
    rw [zit_s]
    have : k = m := by omega
    subst this
    unfold M_choose_90b
    rw [zix_n hu, mD93, h93, if_neg (Int.lt_irrefl _)]
  | f + 1, k, n2 + 1, hk, hf => by
    have ih := m_chy_loop q hu h93 ho f (k + 1) n2 (by omega) (by omega)
    have u4 := (q.un hu).2.1
    rw [h93] at u4
    have hkm : (k : Int) < (m : Int) := by omega
    have hm0 : ¬ (m : Int) = 0 := by omega
    have hxm : (0 + k) % m = k := by rw [Nat.zero_add]; exact Nat.mod_eq_of_lt (by omega)
    have y8 : 4 * u + k < 8 := by omega
    have k9 : k < 100000 := by omega
    have s9 : 0 + k < 1000 := by omega
    obtain ⟨-, -, -, -, g4⟩ := slot_can (ρ := ρ) (i := k) q hu (by rw [h93]; omega) g
    have ez : zla (cg A u) (k + 1) = if cg A u k = true then (k : Int) else zla (cg A u) k := rfl
    rw [ez] at ih
    rw [zit_s]
    generalize zit (fun _ _ _ _ _ => none) (M_choose_90b kr) f = r9 at ih ⊢
    unfold M_choose_90b M_choose_150 M_choose_145 M_choose_151
    rw [zix_n hu, mD93, h93, if_pos hkm, zix_n hu, mD93, h93, if_neg hm0, wr_md s9, hxm, wr_ut y8, g4, wr_s k9]
    cases hc : cg A u k with
    | false =>
      rw [hc, if_neg Bool.false_ne_true] at ih
      rw [tb_f, if_pos rfl]
      exact ih
    | true =>
      rw [hc, if_pos rfl] at ih
      rw [tb_t, if_neg (by decide)]
      by_cases ha : zla (cg A u) k = -1
      · rw [if_pos ha]
        exact ih
      · rw [if_neg ha, mD12, if_pos ho]
        exact ih
end
