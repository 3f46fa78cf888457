/-! AN INSTRUCTION ENDS -/
theorem au_cj {A : zA} {c j j2 : Nat} {v v2 : Int} (h : j ≠ j2) : au (au A c j v) c j2 v2 = au (au A c j2 v2) c j v := by
  funext c3 j3
  unfold au
  by_cases h1 : c3 = c ∧ j3 = j
  · rw [if_pos h1, if_pos h1, if_neg (fun z => h (h1.2.symm.trans z.2))]
  · rw [if_neg h1, if_neg h1]
section
variable {ρ : Type} {h g : zH} {A B : zA} {kr : Int → zH → Option ρ} {K L n : Nat} {bc tc gc : Nat → Nat} {N M : Int} {u i b j m k p r a : Nat} {b2 d c : Int} {F : Nat → Bool}

theorem LI.cells (x : LI A h K L bc tc gc n B N M u i b j k p r a b2 d c F 4) (hc : (c = 114 ∨ c = 119 ∨ c = 97 ∨ c = 120) ∨ (c = 82 ∨ c = 87)) : ∃ bn : Nat, b2 = (bn : Int) ∧ (bn : Int) < A 61 k ∧ (a : Int) < A 61 k ∧ zbits c ≠ 0 ∧ bn < 8 ∧ a < 8 ∧ ∀ m2, m2 < 4 → F m2 = true → zhD h 24 0 m2 = A 109 (8 * m2 + (if c = 119 ∨ c = 87 then a else bn)) ∧ 0 ≤ A 109 (8 * m2 + (if c = 119 ∨ c = 87 then a else bn)) ∧ A 109 (8 * m2 + (if c = 119 ∨ c = 87 then a else bn)) < 64 := by
  obtain ⟨-, o1, o2, -⟩ := x.ok
  obtain ⟨k1, k2, k3, k4, -⟩ := x.kk
  have hz : zbits c = 6 ∨ zbits c = 7 := by rcases hc with (h1 | h1 | h1 | h1) | h1 | h1 <;> subst h1 <;> decide
  have ha := o1 (by omega)
  have hb2 := o2 (by omega)
  obtain ⟨bn, rfl⟩ : ∃ q : Nat, b2 = (q : Int) := ⟨b2.toNat, (Int.toNat_of_nonneg hb2.1).symm⟩
  refine ⟨bn, rfl, hb2.2, ha.2, by omega, by omega, by omega, fun m2 hm2 hF => ?_⟩
  have e : zhD h 24 0 m2 = A 109 (8 * m2 + (if c = 119 ∨ c = 87 then a else bn)) := by
    rw [(x.nt m2 hm2 (x.fp m2 hm2 hF)).1]
    by_cases h9 : c = 119 ∨ c = 87
    · rw [if_pos h9, if_pos h9, zlat_in ha.2]
    · rw [if_neg h9, if_neg h9, zlat_in hb2.2]
  obtain ⟨v1, v2⟩ := x.vc m2 hm2 hF
  rw [e] at v1 v2
  refine ⟨e, ?_⟩
  rcases hc with hc | hc
  · have := zwi_t (v1 hc)
    omega
  · have := zwi_t (v2 hc)
    omega
theorem co_delay (x : LI A h K L bc tc gc n B N M u i b j k p r a b2 d c F 4) (hm : ∃ m, m < 4 ∧ F m = true) : ∃ (h' : zH) (A' : zA) (dl : Int), (∀ kr : Int → zH → Option ρ, Co_delayOf 0 (u : Int) (r : Int) h kr = kr dl h') ∧ (∀ kr : Int → zH → Option ρ, M_delayOf (u : Int) c ((40 * k + p : Nat) : Int) (mh g (fg u b j A)) kr = kr dl (mh g A')) ∧ RR A' h' K L bc tc gc (n + 4) B N M ∧ LNF (fg u b j A) A' h h' ∧ 0 ≤ dl ∧ dl ≤ 24 ∧ ((c = 82 ∨ c = 87) → 1 ≤ dl) := by
  obtain ⟨i1, i2, i3, i4, i5⟩ := x.ir
  obtain ⟨l1, l2, l3, l4, l5, l6, l7⟩ := x.j4
  have hat : 40 * k + p < 160 := by omega
  have f63 : fg u b j A 12 63 = zbs F 4 := by rw [fg_j (by decide) (by decide)]; exact x.ms.2
  have f65 : fg u b j A 12 65 = A 12 65 := fg_j (by decide) (by decide)
  have lrfl : LNF (fg u b j A) (fg u b j A) h h := ⟨fun _ _ _ => rfl, fun _ _ => rfl, fun _ _ _ _ _ => rfl, rfl⟩
  have q4 := x.q.le (Nat.le_add_right n 4)
  have cn := zcn_rng (F := F)
  have w2c : wr (2 * zcn F) = 2 * zcn F := wr_id (by omega) (by omega)
  have w4c : wr (4 * zcn F) = 4 * zcn F := by clear w2c; exact wr_id (by omega) (by omega)
  have simple : ∀ dl : Int, (∀ kr : Int → zH → Option ρ, Co_delayOf 0 (u : Int) (r : Int) h kr = kr dl h) → (∀ kr : Int → zH → Option ρ, M_delayOf (u : Int) c ((40 * k + p : Nat) : Int) (mh g (fg u b j A)) kr = kr dl (mh g (fg u b j A))) → 0 ≤ dl → dl ≤ 24 → ((c = 82 ∨ c = 87) → 1 ≤ dl) → ∃ (h' : zH) (A' : zA) (dl : Int), (∀ kr : Int → zH → Option ρ, Co_delayOf 0 (u : Int) (r : Int) h kr = kr dl h') ∧ (∀ kr : Int → zH → Option ρ, M_delayOf (u : Int) c ((40 * k + p : Nat) : Int) (mh g (fg u b j A)) kr = kr dl (mh g A')) ∧ RR A' h' K L bc tc gc (n + 4) B N M ∧ LNF (fg u b j A) A' h h' ∧ 0 ≤ dl ∧ dl ≤ 24 ∧ ((c = 82 ∨ c = 87) → 1 ≤ dl) := fun dl y1 y2 y3 y4 y5 => ⟨h, fg u b j A, dl, y1, y2, q4, lrfl, y3, y4, y5⟩
  by_cases c42 : c = 42
  · subst c42
    exact simple 2 (fun kr => by unfold Co_delayOf; rw [zob_n i1, i2, if_pos rfl]) (fun kr => by unfold M_delayOf; rw [if_pos rfl]) (by decide) (by decide) (by decide)
  by_cases csh : (c = 82 ∨ c = 87)
  · obtain ⟨bn, rfl, y1, y2, y3, y4, y5, y6⟩ := x.cells (Or.inr csh)
    have zp := zmx_pos (F := F) (e := fun i => A 109 (8 * i + (if c = 119 ∨ c = 87 then a else bn))) hm
    have zr := zmx_rng (F := F) (e := fun i => A 109 (8 * i + (if c = 119 ∨ c = 87 then a else bn))) 4
    refine simple (zmx F (fun i => A 109 (8 * i + (if c = 119 ∨ c = 87 then a else bn))) 4) (fun kr => ?_) (fun kr => ?_) (by clear w2c w4c; omega) (by clear w2c w4c; omega) (fun _ => zp)
    · have xb := x_bank (kr := fun v1 h2 => kr v1 h2) (F := F) (e := fun i => A 109 (8 * i + (if c = 119 ∨ c = 87 then a else bn))) x.q.rs x.ms.1 y6
      unfold Co_delayOf Co_delayOf_90
      rw [zob_n i1, i2, if_neg c42]
      by_cases c82 : c = 82
      · rw [if_pos c82, zob_0 x.q.rs.N2]
        exact xb
      · rw [if_neg c82, if_pos (csh.resolve_left c82), zob_0 x.q.rs.N2]
        exact xb
    · have hce : ∀ i : Nat, i < 4 → ∀ kr : Int → zH → Option ρ, M_cellOf c ((40 * k + p : Nat) : Int) (i : Int) (mh g (fg u b j A)) kr = kr (A 109 (8 * i + (if c = 119 ∨ c = 87 then a else bn))) (mh g (fg u b j A)) := fun i hi kr => by
        rw [m_cellOf hat (a := a) (b := bn) (by rw [fg_c (by decide)]; exact x.ia.2.1 y3) (by rw [fg_c (by decide)]; exact x.ia.2.2.1) y5 y4 hi, fg_c (by decide)]
      have mb := m_banks (kr := fun v5 h6 => kr v5 h6) f63 hce (fun i hi hF => (y6 i hi hF).2.1)
      unfold M_delayOf
      rw [if_neg c42, if_neg (fun z => by subst z; revert csh; decide), if_neg (fun z => by subst z; revert csh; decide), if_neg (fun z => by subst z; revert csh; decide), m_isShared, decide_eq_true csh, tb_t, if_neg (by decide)]
      exact mb
  have c82 : c ≠ 82 := fun z => csh (Or.inl z)
  have c87 : c ≠ 87 := fun z => csh (Or.inr z)
  by_cases c97 : c = 97
  · subst c97
    refine simple (2 * zcn F) (fun kr => ?_) (fun kr => ?_) (by clear w2c w4c; omega) (by clear w2c w4c; omega) (fun z => absurd z csh)
    · unfold Co_delayOf Co_delayOf_108
      rw [zob_n i1, i2, if_neg c42, if_neg c82, if_neg c87, if_pos rfl, zob_0 x.q.rs.N2, x.ms.1, x_bitCount, w2c]
    · unfold M_delayOf M_delayOf_55
      rw [if_neg c42, if_pos rfl, mD12, f63, m_count4, w2c]
  by_cases c99 : c = 99
  · subst c99
    refine simple (4 * zcn F) (fun kr => ?_) (fun kr => ?_) (by clear w2c w4c; omega) (by clear w2c w4c; omega) (fun z => absurd z csh)
    · unfold Co_delayOf
      rw [zob_n i1, i2, if_neg c42, if_neg c82, if_neg c87, if_neg c97, if_pos rfl, zob_0 x.q.rs.N2, x.ms.1, x_bitCount, w4c]
    · unfold M_delayOf
      rw [if_neg c42, if_neg c97, if_neg (by decide), if_pos rfl, mD12, f63, m_count4, w4c]
  by_cases c120 : c = 120
  · subst c120
    refine simple (2 * zcn F) (fun kr => ?_) (fun kr => ?_) (by clear w2c w4c; omega) (by clear w2c w4c; omega) (fun z => absurd z csh)
    · unfold Co_delayOf Co_delayOf_108
      rw [zob_n i1, i2, if_neg c42, if_neg c82, if_neg c87, if_neg c97, if_neg c99, if_neg (by decide), if_neg (by decide), if_neg (by decide), if_pos rfl, zob_0 x.q.rs.N2, x.ms.1, x_bitCount, w2c]
    · unfold M_delayOf M_delayOf_55
      rw [if_neg c42, if_neg c97, if_pos rfl, mD12, f63, m_count4, w2c]
  by_cases c114 : c = 114
  · subst c114
    obtain ⟨bn, rfl, y1, y2, y3, y4, y5, y6⟩ := x.cells (Or.inl (Or.inl rfl))
    have he : ∀ i : Nat, i < 4 → F i = true → zhD h 24 0 i = fg u b j A 109 (8 * i + bn) ∧ 0 ≤ fg u b j A 109 (8 * i + bn) ∧ fg u b j A 109 (8 * i + bn) < 64 := fun i hi hF => by
      rw [fg_c (by decide)]
      exact y6 i hi hF
    obtain ⟨h', A', dl, z1, z2, z3, z4, z5, z6⟩ := lines_loop (ρ := ρ) (g := g) x.hu hat y4 zN 0 0 n h (fg u b j A) (by decide) (by show 4 - 0 < 5000; decide) x.q (by have := x.bn; clear w2c w4c; omega) x.ms.1 f63 (by rw [fg_c (by decide)]; exact x.ia.2.2.1) he ⟨Int.le_refl _, by decide⟩
    refine ⟨h', A', dl, fun kr => ?_, fun kr => ?_, z3, z4, z5, z6, fun z => absurd z csh⟩
    · unfold Co_delayOf
      rw [zob_n i1, i2, if_neg c42, if_neg c82, if_neg c87, if_neg c97, if_neg c99, if_neg (by decide), if_pos rfl, zob_0 x.q.rs.N2]
      exact z1 kr
    · unfold M_delayOf M_delayOf_106
      rw [if_neg c42, if_neg c97, if_neg c120, if_neg c99, m_isShared, decide_eq_false csh, tb_f, if_pos rfl, if_pos rfl]
      exact z2 kr
  have M0 : ∀ kr : Int → zH → Option ρ, M_delayOf (u : Int) c ((40 * k + p : Nat) : Int) (mh g (fg u b j A)) kr = kr (wr (1 + A 12 65)) (mh g (fg u b j A)) := fun kr => by
    unfold M_delayOf M_delayOf_106
    rw [if_neg c42, if_neg c97, if_neg c120, if_neg c99, m_isShared, decide_eq_false csh, tb_f, if_pos rfl, if_neg c114, mD12, f65]
  have b65 : 0 ≤ A 12 65 ∧ A 12 65 ≤ 4 := by
    by_cases c119 : c = 119
    · exact (x.wd c119).2
    · exact ⟨(x.wf c119).1, (x.wf c119).2.1⟩
  have w65 : wr (1 + A 12 65) = 1 + A 12 65 := by clear w2c w4c; exact wr_id (by omega) (by omega)
  rw [w65] at M0
  by_cases c102 : c = 102 ∨ c = 119
  · have e10 : zhD h 2 0 10 = A 12 65 := by
      by_cases c119 : c = 119
      · exact (x.wd c119).1
      · exact (x.wf c119).2.2.1 (c102.resolve_right c119)
    refine simple (1 + A 12 65) (fun kr => ?_) M0 (by clear w2c w4c w65; omega) (by clear w2c w4c w65; omega) (fun z => absurd z csh)
    unfold Co_delayOf Co_delayOf_101
    rw [zob_n i1, i2, if_neg c42, if_neg c82, if_neg c87, if_neg c97, if_neg c99]
    by_cases c2 : c = 102
    · rw [if_pos c2, zob_0 x.q.rs.N2, e10, w65]
    · rw [if_neg c2, if_neg c114, if_pos (c102.resolve_left c2), zob_0 x.q.rs.N2, e10, w65]
  · have c119 : c ≠ 119 := fun z => c102 (Or.inr z)
    have c2 : c ≠ 102 := fun z => c102 (Or.inl z)
    have e65 := (x.wf c119).2.2.2 c2
    rw [e65, Int.add_zero] at M0
    refine simple 1 (fun kr => ?_) M0 (by decide) (by decide) (fun _ => Int.le_refl 1)
    unfold Co_delayOf
    rw [zob_n i1, i2, if_neg c42, if_neg c82, if_neg c87, if_neg c97, if_neg c99, if_neg c2, if_neg c114, if_neg c119, if_neg c120]
/-- behind the lanes the model counts what the class has counted -/
theorem m_178 {A0 : zA} (q : RR (fg u b j A) h K L bc tc gc n B N M) (hu : u < 2) (hy : 4 * u + i < 8) (hj4 : j < 4) (e95 : A 95 (4 * u + i) = (j : Int)) (hb : b < 72) (bn : n ≤ 10000000) (d64 : 0 ≤ A 12 64 ∧ A 12 64 ≤ 4) (hM : ∀ kr : Int → zH → Option ρ, M_doLanes ((4 * u + i : Nat) : Int) c ((40 * k + p : Nat) : Int) (mh g A0) kr = kr 0 (mh g A)) : M_carryOut_178 kr (u : Int) ((4 * u + i : Nat) : Int) (b : Int) ((b / 6 : Nat) : Int) (p : Int) ((40 * k + p : Nat) : Int) c (mh g A0) = (if A 12 66 = 45 then (M_delayOf (u : Int) c ((40 * k + p : Nat) : Int) (mh g (fg u b j A)) fun v10 h11 =>
    zlet (zset h11 12 0 56 (wr ((zhD h11 12 0 56) + 1))) fun h12 =>
    zlet (zset h12 12 0 57 (wr ((zhD h12 12 0 57) + v10))) fun h13 =>
    M_isShared c h13 fun v14 h15 =>
    if v14 = 0 then M_carryOut_324 kr ((4 * u + i : Nat) : Int) (b : Int) v10 0 (zhD h13 12 0 59) h15
    else M_carryOut_324 kr ((4 * u + i : Nat) : Int) (b : Int) v10 (wr (v10 - 1)) (zhD h13 12 0 59) h15)
    else M_fail ((b / 6 : Nat) : Int) (A 12 66) ((b % 6 : Nat) : Int) (wr ((4 * j : Nat) + A 12 67)) (p : Int) (mh g (fg u b j A)) fun _ h18 => kr 0 h18) := by
  have b55 := q.bd.1 55 (by decide)
  have b54 := q.bd.1 54 (by decide)
  rw [fg_55] at b55
  rw [fg_54] at b54
  have a1 : -2147483648 ≤ A 12 55 + 1 ∧ A 12 55 + 1 < 2147483648 := by omega
  have a2 : -9223372036854775808 ≤ A 12 54 + A 12 64 ∧ A 12 54 + A 12 64 < 9223372036854775808 := by omega
  have j4 : wr (4 * (j : Int)) = ((4 * j : Nat) : Int) := by
    rw [wr_id (by omega) (by omega)]
    omega
  have e54 : au A 12 55 (A 12 55 + 1) 12 54 = A 12 54 := by rw [au_j, if_neg (by decide)]
  have e64 : au A 12 55 (A 12 55 + 1) 12 64 = A 12 64 := by rw [au_j, if_neg (by decide)]
  have e95' : ∀ v w z, au (au (au A 12 55 v) 12 54 w) 100 u z 95 (4 * u + i) = (j : Int) := fun v w z => by rw [au_ne (by decide), au_ne (by decide), au_ne (by decide)]; exact e95
  have f66 : fg u b j A 12 66 = A 12 66 := fg_j (by decide) (by decide)
  have f67 : fg u b j A 12 67 = A 12 67 := fg_j (by decide) (by decide)
  have f95 : fg u b j A 95 (4 * u + i) = (j : Int) := by rw [fg_c (by decide)]; exact e95
  have fold : au (au (au (au A 12 55 (A 12 55 + 1)) 12 54 (A 12 54 + A 12 64)) 100 u (b : Int)) 101 u (j : Int) = fg u b j A := rfl
  unfold M_carryOut_178
  rw [hM, mD12, wr_id a1.1 a1.2, mS12, zlet_d, mD12, mD12, e54, e64, wrl_id a2.1 a2.2, mS12, zlet_d, zix_n hu, mS100, zlet_d, zix_n hy, zix_n hu, mD95, e95', mS101, zlet_d, fold, mD12, f66]
  by_cases h66 : A 12 66 = 45
  · rw [if_pos h66, if_pos h66]
  · rw [if_neg h66, if_neg h66, zix_n hy, wtm6, mD95, f95, mD12, f67, j4]
end
