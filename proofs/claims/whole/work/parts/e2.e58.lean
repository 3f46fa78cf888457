/-! AN INSTRUCTION, WHOLE -/
section
variable {ρ : Type} {h g : zH} {A B : zA} {kr : Int → zH → Option ρ} {K L n : Nat} {bc tc gc : Nat → Nat} {N M : Int} {u i b j m k p r a : Nat} {b2 d c : Int} {F : Nat → Bool}

theorem co_end (x : LI A h K L bc tc gc n B N M u i b j k p r a b2 d c F 4) (hm : ∃ m, m < 4 ∧ F m = true) : ∃ (h' : zH) (A' : zA), (∀ kr : Int → zH → Option ρ, Co_carryOut_63b kr (fun _ _ _ _ _ _ _ _ => none) 0 (u : Int) (gc (4 * b + j) : Int) (p : Int) (k : Int) (r : Int) 4 h = kr 1 h') ∧
    (∀ kr : Int → zH → Option ρ, (M_delayOf (u : Int) c ((40 * k + p : Nat) : Int) (mh g (fg u b j A)) fun v10 h11 =>
    zlet (zset h11 12 0 56 (wr ((zhD h11 12 0 56) + 1))) fun h12 =>
    zlet (zset h12 12 0 57 (wr ((zhD h12 12 0 57) + v10))) fun h13 =>
    M_isShared c h13 fun v14 h15 =>
    if v14 = 0 then M_carryOut_324 kr ((4 * u + i : Nat) : Int) (b : Int) v10 0 (zhD h13 12 0 59) h15
    else M_carryOut_324 kr ((4 * u + i : Nat) : Int) (b : Int) v10 (wr (v10 - 1)) (zhD h13 12 0 59) h15) = M_settle (b : Int) (mh g A') (fun _ h5 => kr 0 h5)) ∧ RR A' h' K L bc tc gc (n + 7) B N M ∧ (∀ c, c ≠ 12 → c ≠ 96 → c ≠ 100 → c ≠ 101 → c ≠ 102 → A' c = A c) := by
  obtain ⟨h1, A1, dl, y1, y2, q, ⟨f1, f2, f3, f4⟩, d0, d24, ds⟩ := co_delay (ρ := ρ) (g := g) x hm
  obtain ⟨i1, i2, -⟩ := x.ir
  obtain ⟨l1, l2, -⟩ := x.j4
  have xbn := x.bn
  have b1 := q.bd.1 1 (by decide)
  have b56 := q.bd.1 56 (by decide)
  have b57 := q.bd.1 57 (by decide)
  have b59 := q.bd.1 59 (by decide)
  have z1 : -2147483648 ≤ A1 12 56 + 1 ∧ A1 12 56 + 1 < 2147483648 := by omega
  have z2 : -2147483648 ≤ A1 12 57 + dl ∧ A1 12 57 + dl < 2147483648 := by omega
  have z3 : -9223372036854775808 ≤ A1 12 56 + 1 ∧ A1 12 56 + 1 < 9223372036854775808 := by omega
  have z4 : -9223372036854775808 ≤ A1 12 57 + dl ∧ A1 12 57 + dl < 9223372036854775808 := by omega
  have z5 : -2147483648 ≤ A1 12 1 + dl ∧ A1 12 1 + dl < 2147483648 := by omega
  have z6 : -2147483648 ≤ dl - 1 ∧ dl - 1 < 2147483648 := by omega
  have z7 : -2147483648 ≤ A1 12 59 + (dl - 1) ∧ A1 12 59 + (dl - 1) < 2147483648 := by omega
  have z8 : -2147483648 ≤ A1 12 59 + 0 ∧ A1 12 59 + 0 < 2147483648 := by omega
  have e2 : zhD h1 4 0 2 = A1 12 57 := q.rm.2.2.2.2.2.2.1
  have e3 : zhD h1 4 0 3 = A1 12 56 := q.rm.2.2.2.2.2.2.2.1
  have e5 : zhD h1 4 0 5 = A1 12 59 := q.rm.2.2.2.2.2.2.2.2.2.1
  have ecy : zhD h1 2 0 4 = A1 12 1 := q.rm.2.1
  have ecy0 : zhD h 2 0 4 = A1 12 1 := by rw [← f3 2 0 4 (by decide) (by decide)]; exact ecy
  have q2 := rr_f2 q (v := A1 12 57 + dl) (by omega) (by omega)
  have q3 := rr_f3 q2 (v := A1 12 56 + 1) (by omega) (by omega)
  rw [au_cj (by decide)] at q3
  have hi1 : (i : Int) < A1 93 u := by rw [f1 93 (by decide) (by decide), fg_c (by decide)]; exact x.hi
  have e94 : A1 94 (4 * u + i) = (b : Int) := by rw [f1 94 (by decide) (by decide), fg_c (by decide)]; exact x.e94
  have e95 : A1 95 (4 * u + i) = (j : Int) := by rw [f1 95 (by decide) (by decide), fg_c (by decide)]; exact x.e95
  obtain ⟨hG, -⟩ := x.grp
  have n8 : r < zhN (zset (zset h1 4 0 2 (A1 12 57 + dl)) 4 0 3 (A1 12 56 + 1)) 8 := by rw [zN_set, zN_set, f4]; exact i1
  have e80 : zhD (zset (zset h1 4 0 2 (A1 12 57 + dl)) 4 0 3 (A1 12 56 + 1)) 8 r 0 = c := by
    rw [zD_ne (by decide), zD_ne (by decide), f3 8 r 0 (by decide) (fun z => absurd z.1 (by decide))]
    exact i2
  have n11 : ∀ H : zH, zhN H = zhN h1 → gc (4 * b + j) < zhN H 11 := fun H hH => by rw [hH, f4]; exact hG.1
  obtain ⟨-, -, -, -, -, -, -, -, -, zn3⟩ := zone_all c
  have e59 : ∀ v w, au (au A1 12 56 v) 12 57 w 12 59 = A1 12 59 := fun v w => by rw [au_j, if_neg (by decide), au_j, if_neg (by decide)]
  have e571 : ∀ v, au A1 12 56 v 12 57 = A1 12 57 := fun v => by rw [au_j, if_neg (by decide)]
  have X0 : ∀ kr : Int → zH → Option ρ, Co_carryOut_63b kr (fun _ _ _ _ _ _ _ _ => none) 0 (u : Int) (gc (4 * b + j) : Int) (p : Int) (k : Int) (r : Int) 4 h = if (c = 82 ∨ c = 87) then kr 1 (zset (zset (zset (zset h1 4 0 2 (A1 12 57 + dl)) 4 0 3 (A1 12 56 + 1)) 4 0 5 (A1 12 59 + (dl - 1))) 11 (gc (4 * b + j)) 6 (A1 12 1 + dl)) else kr 1 (zset (zset (zset h1 4 0 2 (A1 12 57 + dl)) 4 0 3 (A1 12 56 + 1)) 11 (gc (4 * b + j)) 6 (A1 12 1 + dl)) := fun kr => by
    have r3 : zhD (zset h1 4 0 2 (A1 12 57 + dl)) 4 0 3 = A1 12 56 := by rw [zD_nj (by decide)]; exact e3
    have r5 : zhD (zset (zset h1 4 0 2 (A1 12 57 + dl)) 4 0 3 (A1 12 56 + 1)) 4 0 5 = A1 12 59 := by rw [zD_nj (by decide), zD_nj (by decide)]; exact e5
    unfold Co_carryOut_63b Co_countedDelay Co_countedDelay_58
    rw [if_neg (by decide), zob_0 x.q.rs.N2, zob_0 x.q.rs.N2, zob_0 x.q.rs.N2, y1, zob_0 q.rs.N2, q.rs.D2_0_3, zob_0 q.rs.N4, zob_0 q.rs.N4, e2, wrl_id z4.1 z4.2, zlet_d, zob_0 q2.rs.N2, q2.rs.D2_0_3, zob_0 q2.rs.N4, zob_0 q2.rs.N4, r3, wrl_id z3.1 z3.2, zlet_d, zob_n n8, x_isOneOf (s := 3) rfl n8, e80, zn3]
    by_cases hs : c = 82 ∨ c = 87
    · rw [decide_eq_true hs, tb_t, if_neg (by decide), if_pos hs, zob_0 q3.rs.N2, q3.rs.D2_0_3, zob_0 q3.rs.N4, zob_0 q3.rs.N4, r5, wr_id z6.1 z6.2, wr_id z7.1 z7.2, zlet_d]
      refine Eq.trans (zob_n (n11 _ (by rw [zN_set, zN_set, zN_set]))) ?_
      rw [ecy0, wr_id z5.1 z5.2, zlet_d]
    · rw [decide_eq_false hs, tb_f, if_pos rfl, if_neg hs]
      refine Eq.trans (zob_n (n11 _ (by rw [zN_set, zN_set]))) ?_
      rw [ecy0, wr_id z5.1 z5.2, zlet_d]
  by_cases hs : c = 82 ∨ c = 87
  · have dl1 := ds hs
    have q5 := rr_f5 q3 (v := A1 12 59 + (dl - 1)) (by omega) (by omega)
    have q6 := rr_rdy q5 (v := A1 12 1 + dl) x.hu hi1 e94 e95
    refine ⟨_, _, fun kr => (X0 kr).trans (if_pos hs), fun kr => ?_, q6, fun c2 h1 h2 h3 h4 h5 => ?_⟩
    · rw [y2, mD12, wr_id z1.1 z1.2, mS12, zlet_d, mD12, e571, wr_id z2.1 z2.2, mS12, zlet_d, m_isShared, decide_eq_true hs, tb_t, if_neg (by decide)]
      unfold M_carryOut_324
      have e1 : ∀ v w z, au (au (au A1 12 56 v) 12 57 w) 12 59 z 12 1 = A1 12 1 := fun v w z => by rw [au_j, if_neg (by decide), au_j, if_neg (by decide), au_j, if_neg (by decide)]
      rw [mD12, e59, wr_id z6.1 z6.2, wr_id z7.1 z7.2, mS12, zlet_d, zix_n l2, mD12, e1, wr_id z5.1 z5.2, mS96, zlet_d]
    · rw [au_ne h2, au_ne h1, au_ne h1, au_ne h1, f1 c2 h1 h5, fg_c ⟨h1, h3, h4⟩]
  · have q6 := rr_rdy q3 (v := A1 12 1 + dl) x.hu hi1 e94 e95
    refine ⟨_, _, fun kr => (X0 kr).trans (if_neg hs), fun kr => ?_, q6.le (Nat.le_succ _), fun c2 h1 h2 h3 h4 h5 => ?_⟩
    · rw [y2, mD12, wr_id z1.1 z1.2, mS12, zlet_d, mD12, e571, wr_id z2.1 z2.2, mS12, zlet_d, m_isShared, decide_eq_false hs, tb_f, if_pos rfl]
      unfold M_carryOut_324
      have e1 : ∀ v w, au (au A1 12 56 v) 12 57 w 12 1 = A1 12 1 := fun v w => by rw [au_j, if_neg (by decide), au_j, if_neg (by decide)]
      have eid : ∀ v w, au (au (au A1 12 56 v) 12 57 w) 12 59 (A1 12 59) = au (au A1 12 56 v) 12 57 w := fun v w => by
        rw [← e59 v w]
        exact au_id
      rw [mD12, e59, wr_id z8.1 z8.2, Int.add_zero, mS12, zlet_d, eid, zix_n l2, mD12, e1, wr_id z5.1 z5.2, mS96, zlet_d]
    · rw [au_ne h2, au_ne h1, au_ne h1, f1 c2 h1 h5, fg_c ⟨h1, h3, h4⟩]
theorem zlm_le {p : Nat → Int} : ∀ n k, k < n → p k ≠ -1 → zlm p n ≤ p k
  | 0, _, hk, _ => absurd hk (Nat.not_lt_zero _)
  | n + 1, k, hk, hp => by
    unfold zlm
    by_cases e : k = n
    · subst e
      by_cases hz : p k ≠ -1 ∧ (zlm p k = -1 ∨ p k < zlm p k)
      · rw [if_pos hz]
        exact Int.le_refl _
      · rw [if_neg hz]
        have : ¬ p k < zlm p k := fun z => hz ⟨hp, Or.inr z⟩
        omega
    · have h1 := zlm_le n k (by omega) hp
      by_cases hz : p n ≠ -1 ∧ (zlm p n = -1 ∨ p n < zlm p n)
      · rw [if_pos hz]
        rcases hz.2 with z | z
        · exact absurd (zlm_none n z k (by omega)) hp
        · omega
      · rw [if_neg hz]
        exact h1
/-- an instruction keeps who waits at a last place -/
theorem wl_act {A0 A1 A2 : zA} {m' : Nat} (q : RR (lb u b j A0) h K L bc tc gc n B N M) (w : WL A0) (cp : CP A0 A1 c (4 * u + i)) (s : LST A1 A2 c (4 * u + i) b j L (mmf A0 b j) 0 m') (hm : c = 98 → m' = 4) (hF : ∃ m2, m2 < 4 ∧ mmf A0 b j m2 = true) (hpz : zlm (mpl A0 b j) 4 = (p : Int)) (hu : u < 2) (hi : (i : Int) < A0 93 u) (e94 : A0 94 (4 * u + i) = (b : Int)) (e95 : A0 95 (4 * u + i) = (j : Int)) : WL A2 := by
  obtain ⟨⟨c63, c70, c73, c89, c90, c93, c94, c95⟩, c97, c98⟩ := cp
  obtain ⟨⟨s63, s93, s94, s95⟩, s70, sth, slan, s97, s97e⟩ := s
  have T : ∀ c, c ≠ 100 ∧ c ≠ 101 → lb u b j A0 c = A0 c := fun c hc => lb_c hc
  have SL : ∀ u2 i2 : Nat, u2 < 2 → (i2 : Int) < A0 93 u2 → ∃ b2 j2 : Nat, A0 94 (4 * u2 + i2) = (b2 : Int) ∧ A0 95 (4 * u2 + i2) = (j2 : Int) ∧ b2 < 72 ∧ ((4 * j2 : Nat) : Int) < A0 73 (b2 / 6) ∧ A0 87 b2 = 1 ∧ A0 88 b2 = (u2 : Int) ∧ b2 / 6 < L ∧ A0 73 (b2 / 6) ≤ 16 ∧ i2 < 4 := fun u2 i2 hu2 hi2 => by
    have hi2' : (i2 : Int) < lb u b j A0 93 u2 := by rw [T 93 (by decide)]; exact hi2
    obtain ⟨⟨-, r4, -⟩, r, -⟩ := q.us u2 hu2
    obtain ⟨b2, j2, e1, e2, e3, e4, e5, e6, -⟩ := r i2 hi2'
    obtain ⟨k, -, -, hbL, ⟨-, ht⟩, -⟩ := q.blk e2 e5
    rw [T 94 (by decide)] at e1
    rw [T 95 (by decide)] at e3
    rw [T 73 (by decide)] at e4 ht
    rw [T 87 (by decide)] at e5
    rw [T 88 (by decide)] at e6
    exact ⟨b2, j2, e1, e3, e2, e4, e5, e6, hbL, ht, by omega⟩
  obtain ⟨b0, j0, f1, f2, hb, f4, hin, f6, hbL, ht, hi4⟩ := SL u i hu hi
  have eb0 : b0 = b := Int.ofNat.inj (f1.symm.trans e94)
  have ej0 : j0 = j := Int.ofNat.inj (f2.symm.trans e95)
  rw [eb0] at hb f4 hin f6 hbL ht
  rw [ej0] at f4
  obtain ⟨m2, hm2, hF2⟩ := hF
  obtain ⟨n1, n2, n3, n4⟩ := mpl_t (mmf_t hpz hF2)
  intro u2 i2 b2 j2 k hu2 hi2 g94 g95 hk hlt hw hp
  rw [s93, c93] at hi2
  rw [s94, c94] at g94
  rw [s95, c95] at g95
  obtain ⟨b9, j9, k1, k2, hb2, k4, hin2, k6, hbL2, ht2, hi24⟩ := SL u2 i2 hu2 hi2
  have eb9 : b9 = b2 := Int.ofNat.inj (k1.symm.trans g94)
  have ej9 : j9 = j2 := Int.ofNat.inj (k2.symm.trans g95)
  rw [eb9] at hb2 k4 hin2 k6 hbL2 ht2
  rw [ej9] at k4
  obtain ⟨g70, g73⟩ := s70 (b2 / 6) hbL2
  rw [g73, c73] at hlt
  rw [g70, c70, s63, c63] at hp
  by_cases same : u2 = u ∧ i2 = i
  · obtain ⟨su, si⟩ := same
    subst su
    subst si
    have eb2 : b2 = b := Int.ofNat.inj (g94.symm.trans e94)
    have ej2 : j2 = j := Int.ofNat.inj (g95.symm.trans e95)
    subst eb2
    subst ej2
    by_cases lane : mmf A0 b2 j2 k = true ∧ k < m'
    · obtain ⟨l1, l2⟩ := slan k (Nat.zero_le _) lane.2 lane.1
      by_cases hc : c = 98
      · obtain ⟨w1, w2⟩ := l1 hc
        have hm4 := hm hc
        have p90 : A2 90 (16 * b2 + (4 * j2 + k)) = (p : Int) := by
          rw [w2, c90]
          exact (mpl_t (mmf_t hpz lane.1)).2.2.2
        refine ⟨by rw [s97e (by omega)]; exact c98 hc, fun k3 hk3 hlt3 h114 => ?_⟩
        rw [g73, c73] at hlt3
        by_cases lane3 : mmf A0 b2 j2 k3 = true
        · have := ((slan k3 (Nat.zero_le _) (by omega) lane3).1 hc).1
          rw [this] at h114
          exact absurd h114 (by decide)
        · obtain ⟨v1, v2⟩ := sth (16 * b2 + (4 * j2 + k3)) (fun m3 _ _ z3 z4 => lane3 (by rw [show k3 = m3 by omega]; exact z3))
          rw [v1, c89] at h114
          have q2 : mpl A0 b2 j2 k3 = A0 90 (16 * b2 + (4 * j2 + k3)) := by
            unfold mpl
            rw [if_pos ⟨hlt3, hk3⟩, if_pos h114]
          obtain ⟨-, -, d3, -⟩ := q.td b2 hb2 (by rw [T 87 (by decide)]; exact hin2) (4 * j2 + k3) (by rw [T 73 (by decide)]; exact hlt3)
          obtain ⟨-, d4, d5⟩ := d3 (by rw [T 89 (by decide), h114]; decide)
          rw [T 90 (by decide)] at d4
          rw [T 90 (by decide), T 63 (by decide), T 70 (by decide)] at d5
          have h1 := zlm_le (p := mpl A0 b2 j2) 4 k3 hk3 (by rw [q2]; omega)
          rw [hpz, q2] at h1
          have h2 : A0 90 (16 * b2 + (4 * j2 + k3)) ≠ (p : Int) := fun z => lane3 (by
            unfold mmf
            rw [hpz, q2, z]
            exact decide_eq_true ⟨by omega, rfl⟩)
          rw [p90] at hp
          omega
      · exact absurd hw (l2 hc)
    · obtain ⟨v1, v2⟩ := sth (16 * b2 + (4 * j2 + k)) (fun m3 _ z2 z3 z4 => lane ⟨by rw [show k = m3 by omega]; exact z3, by omega⟩)
      rw [v1, c89] at hw
      rw [v2, c90] at hp
      exact absurd n3 ((w u2 i2 b2 j2 k hu2 hi2 e94 e95 hk hlt hw hp).2 m2 n1 n2)
  · have hne : ¬ (b2 = b ∧ j2 = j) := fun z => by
      rw [z.1, f6] at k6
      have e1 : u2 = u := (Int.ofNat.inj k6).symm
      subst e1
      obtain ⟨-, -, uq, -⟩ := q.us u2 hu2
      rw [T 93 (by decide), T 94 (by decide), T 95 (by decide)] at uq
      exact same ⟨rfl, uq i2 i hi2 hi (by rw [g94, e94, z.1]) (by rw [g95, e95, z.2])⟩
    have far : ∀ k3, k3 < 4 → A2 89 (16 * b2 + (4 * j2 + k3)) = A0 89 (16 * b2 + (4 * j2 + k3)) ∧ A2 90 (16 * b2 + (4 * j2 + k3)) = A0 90 (16 * b2 + (4 * j2 + k3)) := fun k3 hk3 => by
      obtain ⟨v1, v2⟩ := sth (16 * b2 + (4 * j2 + k3)) (fun m3 _ _ z3 z4 => by
        have := (mpl_t (mmf_t hpz z3)).1
        exact hne (by omega))
      rw [v1, v2, c89, c90]
      exact ⟨rfl, rfl⟩
    obtain ⟨v1, v2⟩ := far k hk
    rw [v1] at hw
    rw [v2] at hp
    obtain ⟨x1, x2⟩ := w u2 i2 b2 j2 k hu2 hi2 g94 g95 hk hlt hw hp
    refine ⟨?_, fun k3 hk3 hlt3 => ?_⟩
    · rw [s97 _ (fun z => same (by omega)), c97 _ (fun z => same (by omega))]
      exact x1
    · rw [g73, c73] at hlt3
      rw [(far k3 hk3).1]
      exact x2 k3 hk3 hlt3
/-- an instruction of a group on both sides -/
theorem co_all (q : RR (lb u b j A) h K L bc tc gc n B N M) (cl : CL A L) (bn : n ≤ 9999800) (hu : u < 2) (hi : (i : Int) < A 93 u) (e94 : A 94 (4 * u + i) = (b : Int)) (e95 : A 95 (4 * u + i) = (j : Int)) (hpz : zlm (mpl A b j) 4 = (p : Int)) :
    (∃ (h' : zH) (A' : zA) (L' : Nat), (∀ kr : Int → zH → Option ρ, Co_carryOut 0 (u : Int) (gc (4 * b + j) : Int) h kr = kr 1 h') ∧ (∀ kr : Int → zH → Option ρ, M_carryOut (u : Int) (i : Int) (mh g A) kr = M_settle (b : Int) (mh g A') (fun _ h5 => kr 0 h5)) ∧ RR A' h' K L' bc tc gc (n + 16) B N M ∧ CL A' L' ∧ b < 72 ∧ A' 87 b = 1 ∧ L ≤ L' ∧ ((4 * j : Nat) : Int) < A' 73 (b / 6) ∧ (WL A → WL A')) ∨
    (∃ (h' : zH) (A' : zA) (L' : Nat) (t : Nat) (fc : Int), (∀ kr : Int → zH → Option ρ, Co_carryOut 0 (u : Int) (gc (4 * b + j) : Int) h kr = Co_fail 0 (bc b : Int) (t : Int) (p : Int) fc h' (fun _ h23 => kr 0 h23)) ∧ (∀ kr : Int → zH → Option ρ, M_carryOut (u : Int) (i : Int) (mh g A) kr = M_fail ((b / 6 : Nat) : Int) fc ((b % 6 : Nat) : Int) (t : Int) (p : Int) (mh g A') (fun _ h18 => kr 0 h18)) ∧ RR A' h' K L' bc tc gc (n + 16) B N M ∧ CL A' L' ∧ b < 72 ∧ A' 87 b = 1 ∧ L ≤ L' ∧ t < 16 ∧ (fc = 103 ∨ fc = 115) ∧ (WL A → WL A')) := by
  obtain ⟨h1, A1, k, r, a, b2, d, c, y1, y2, x, cpre, hm⟩ := co_pre (ρ := ρ) (g := g) q cl (by omega) hu hi e94 e95 hpz
  obtain ⟨l1, l2, l3, l4, l5, l6, l7⟩ := x.j4
  have hb := x.hb
  have ML0 : ∀ kr : Int → zH → Option ρ, M_doLanes ((4 * u + i : Nat) : Int) c ((40 * k + p : Nat) : Int) (mh g A1) kr = zit (fun _ _ _ _ _ _ => none) (M_doLanes_19b kr) zN ((4 * u + i : Nat) : Int) c ((40 * k + p : Nat) : Int) (k : Int) ((0 : Nat) : Int) (mh g A1) := fun kr => by
    unfold M_doLanes
    rw [zix_n l2, mD94, x.e94, wtd6 hb, zix_n (show b / 6 < 12 by omega), mD70, x.h70]
    rfl
  rcases lanes_loop (ρ := ρ) (g := g) zN 0 (n + 1) h1 A1 L (by decide) (by show 4 - 0 < 5000; decide) x with ⟨h2, A2, L2, n2, z1, z2, x2, z4, z5, ls⟩ | ⟨h2, A2, L2, n2, m2, fc, z0, z1, z2, z3, z4, x2, z6, z7, ls, -, hc98⟩
  · obtain ⟨h3, A3, w1, w2, q3, w4⟩ := co_end (ρ := ρ) (g := g) x2 hm
    left
    refine ⟨h3, A3, L2, fun kr => ?_, fun kr => ?_, q3.le (by omega), x2.cl.mv ⟨Nat.le_refl _, fun l y1 y2 => absurd (Nat.lt_of_le_of_lt y1 y2) (Nat.lt_irrefl _)⟩ (fun c2 hc l _ => by rw [w4 c2 (by omega) (by omega) (by omega) (by omega) (by omega)]), hb, ?_, z5, ?_, fun wl => (wl_act q wl cpre ls (fun _ => rfl) hm hpz hu hi e94 e95).fr (w4 63 (by decide) (by decide) (by decide) (by decide) (by decide)) (w4 70 (by decide) (by decide) (by decide) (by decide) (by decide)) (w4 73 (by decide) (by decide) (by decide) (by decide) (by decide)) (w4 89 (by decide) (by decide) (by decide) (by decide) (by decide)) (w4 90 (by decide) (by decide) (by decide) (by decide) (by decide)) (w4 93 (by decide) (by decide) (by decide) (by decide) (by decide)) (w4 94 (by decide) (by decide) (by decide) (by decide) (by decide)) (w4 95 (by decide) (by decide) (by decide) (by decide) (by decide)) (w4 97 (by decide) (by decide) (by decide) (by decide) (by decide))⟩
    · rw [y1]
      exact (z1 kr).trans (w1 kr)
    · rw [y2, m_178 x2.q hu l2 l1 x2.e95 hb (by have := x2.bn; omega) ⟨x2.dn.1, x2.dn.2.1⟩ (fun kr => (ML0 kr).trans (z2 kr)), if_pos x2.dn.2.2]
      exact w2 kr
    · rw [w4 87 (by decide) (by decide) (by decide) (by decide) (by decide)]
      exact x2.hin
    · obtain ⟨b', j', p1, p2, p3, p4, -⟩ := (q3.us u hu).2.1 i (by rw [w4 93 (by decide) (by decide) (by decide) (by decide) (by decide)]; exact x2.hi)
      rw [w4 94 (by decide) (by decide) (by decide) (by decide) (by decide), x2.e94] at p1
      rw [w4 95 (by decide) (by decide) (by decide) (by decide) (by decide), x2.e95] at p3
      rw [Int.ofNat.inj p1, Int.ofNat.inj p3]
      exact p4
  · right
    have qf : RR (fg u b j (au (au A2 12 66 fc) 12 67 (m2 : Int))) h2 K L2 bc tc gc n2 B N M := by
      have := rr_au (rr_au x2.q (c := 12) (j := 66) (v := fc) rfl) (c := 12) (j := 67) (v := (m2 : Int)) rfl
      rw [fg_12 (by decide) (by decide) (by decide), fg_12 (by decide) (by decide) (by decide)] at this
      exact this
    have g66 : au (au A2 12 66 fc) 12 67 (m2 : Int) 12 66 = fc := by rw [au_j, if_neg (by decide), au_same]
    have g67 : au (au A2 12 66 fc) 12 67 (m2 : Int) 12 67 = (m2 : Int) := au_same
    have g64 : au (au A2 12 66 fc) 12 67 (m2 : Int) 12 64 = A2 12 64 := by rw [au_j, if_neg (by decide), au_j, if_neg (by decide)]
    have g95 : au (au A2 12 66 fc) 12 67 (m2 : Int) 95 (4 * u + i) = (j : Int) := by rw [au_ne (by decide), au_ne (by decide)]; exact x2.e95
    have R9 : ∀ c9, c9 ≠ 12 ∧ c9 ≠ 100 ∧ c9 ≠ 101 → fg u b j (au (au A2 12 66 fc) 12 67 (m2 : Int)) c9 = A2 c9 := fun c9 h9 => by rw [fg_c h9, au_ne h9.1, au_ne h9.1]
    have hfc : fc ≠ 45 := by rcases z2 with rfl | rfl <;> decide
    have d1 := x2.dn
    have wt : wr (((4 * j : Nat) : Int) + (m2 : Int)) = ((4 * j + m2 : Nat) : Int) := by
      rw [wr_id (by omega) (by omega)]
      omega
    refine ⟨h2, fg u b j (au (au A2 12 66 fc) 12 67 (m2 : Int)), L2, 4 * j + m2, fc, fun kr => ?_, fun kr => ?_, qf.le (by clear wt; omega), x2.cl.mv ⟨Nat.le_refl _, fun l y1 y2 => absurd (Nat.lt_of_le_of_lt y1 y2) (Nat.lt_irrefl _)⟩ (fun c2 hc l _ => by rw [fg_c (by clear wt; omega), au_ne (by clear wt; omega), au_ne (by clear wt; omega)]), hb, ?_, z7, by clear wt; omega, z2, fun wl => (wl_act q wl cpre ls (fun z => absurd z hc98) hm hpz hu hi e94 e95).fr (R9 63 (by decide)) (R9 70 (by decide)) (R9 73 (by decide)) (R9 89 (by decide)) (R9 90 (by decide)) (R9 93 (by decide)) (R9 94 (by decide)) (R9 95 (by decide)) (R9 97 (by decide))⟩
    · rw [y1]
      exact z3 kr
    · rw [y2, m_178 qf hu l2 l1 g95 hb (by have := x2.bn; clear wt; omega) ⟨by rw [g64]; exact d1.1, by rw [g64]; clear wt; omega⟩ (fun kr => (ML0 kr).trans (z4 kr)), g66, if_neg hfc, g67, wt]
    · rw [fg_c (by decide), au_ne (by decide), au_ne (by decide)]
      exact x2.hin
end
