/-! ONE LANE, ALL LETTERS -/
section
variable {ρ : Type} {h g : zH} {A B : zA} {kr : Int → zH → Option ρ} {K L n : Nat} {bc tc gc : Nat → Nat} {N M : Int} {u i b j m k p r a : Nat} {b2 d c : Int} {F : Nat → Bool}
theorem lo_all (x : LC A h K L bc tc gc n B N M u i b j m k p r a b2 d c F) (hg : (c = 114 ∨ c = 119 ∨ c = 97 ∨ c = 120) → ∃ cn : Nat, cn < 64 ∧ zhD h 24 0 m = (cn : Int)) (hs : (c = 82 ∨ c = 87) → ∃ cn : Nat, (cn : Int) < A 62 k ∧ zhD h 24 0 m = (cn : Int)) : LO ρ g A h K L bc tc gc n B N M u i b j m k p r a b2 d c := by
  have hm : c ∈ zlets := Decidable.byContradiction (fun z => x.ok.1 (zbits_out z))
  unfold zlets at hm
  simp only [List.mem_cons, List.not_mem_nil, or_false] at hm
  rcases hm with hz | hz | hz | hz | hz | hz | hz | hz | hz | hz | hz | hz | hz | hz | hz | hz | hz | hz | hz | hz | hz | hz | hz
  · exact lo_add x hz
  · exact lo_sub x hz
  · exact lo_mul x hz
  · exact lo_lt x hz
  · exact lo_eq x hz
  · obtain ⟨cn, y1, y2⟩ := hg (by omega)
    exact lo_a x hz y1 y2
  · obtain ⟨cn, y1, y2⟩ := hg (by omega)
    exact lo_x x hz y1 y2
  · exact lo_s x hz
  · obtain ⟨cn, y1, y2⟩ := hg (by omega)
    exact lo_r x hz y1 y2
  · obtain ⟨cn, y1, y2⟩ := hg (by omega)
    exact lo_w x hz y1 y2
  · obtain ⟨cn, y1, y2⟩ := hs (by omega)
    exact lo_R x hz y1 y2
  · obtain ⟨cn, y1, y2⟩ := hs (by omega)
    exact lo_W x hz y1 y2
  · exact lo_v x hz
  · exact lo_k x hz
  · exact lo_t x hz
  · exact lo_n x hz
  · exact lo_l x hz
  · exact lo_no x (by omega)
  · exact lo_c x hz
  · exact lo_no x (by omega)
  · exact lo_no x (by omega)
  · exact lo_no x (by omega)
  · exact lo_no x (by omega)
theorem LC.cell (x : LC A h K L bc tc gc n B N M u i b j m k p r a b2 d c F) (hc : (c = 114 ∨ c = 119 ∨ c = 97 ∨ c = 120) ∨ (c = 82 ∨ c = 87)) : ∃ bn : Nat, b2 = (bn : Int) ∧ (bn : Int) < A 61 k ∧ (a : Int) < A 61 k ∧ zbits c ≠ 0 ∧ zhD h 24 0 m = A 109 (8 * m + (if c = 119 ∨ c = 87 then a else bn)) := by
  obtain ⟨-, o1, o2, -⟩ := x.ok
  have hz : zbits c = 6 ∨ zbits c = 7 := by rcases hc with (h1 | h1 | h1 | h1) | h1 | h1 <;> subst h1 <;> decide
  have ha := o1 (by omega)
  have hb2 := o2 (by omega)
  obtain ⟨bn, rfl⟩ : ∃ q : Nat, b2 = (q : Int) := ⟨b2.toNat, (Int.toNat_of_nonneg hb2.1).symm⟩
  refine ⟨bn, rfl, hb2.2, ha.2, by omega, ?_⟩
  rw [x.nm]
  by_cases h9 : c = 119 ∨ c = 87
  · rw [if_pos h9, if_pos h9, zlat_in ha.2]
  · rw [if_neg h9, if_neg h9, zlat_in hb2.2]
theorem m_dlx {r19 : Int → Int → Int → Int → Int → zH → Option ρ} (x : LC A h K L bc tc gc n B N M u i b j m k p r a b2 d c F) (hF : F m = true) (h66 : A 12 66 = 45) (hg : (c = 114 ∨ c = 119 ∨ c = 97 ∨ c = 120) → zwi (zhD h 24 0 m) 0 63 = true) (hs : (c = 82 ∨ c = 87) → zwi (zhD h 24 0 m) 0 (A 62 k - 1) = true) : M_doLanes_19b kr r19 ((4 * u + i : Nat) : Int) c ((40 * k + p : Nat) : Int) (k : Int) (m : Int) (mh g A) = (if c = 114 ∨ c = 119 ∨ c = 97 ∨ c = 120 ∨ c = 82 ∨ c = 87 then M_doCell ((4 * u + i : Nat) : Int) (m : Int) c ((40 * k + p : Nat) : Int) (mh g A) (fun _ h2 => M_doLane ((4 * u + i : Nat) : Int) (m : Int) c ((40 * k + p : Nat) : Int) h2 (fun _ h2 => zlet (zset h2 12 0 64 (wr (zhD h2 12 0 64 + 1))) fun h3 => r19 ((4 * u + i : Nat) : Int) c ((40 * k + p : Nat) : Int) (k : Int) ((m + 1 : Nat) : Int) h3)) else M_doLane ((4 * u + i : Nat) : Int) (m : Int) c ((40 * k + p : Nat) : Int) (mh g A) (fun _ h2 => zlet (zset h2 12 0 64 (wr (zhD h2 12 0 64 + 1))) fun h3 => r19 ((4 * u + i : Nat) : Int) c ((40 * k + p : Nat) : Int) (k : Int) ((m + 1 : Nat) : Int) h3)) := by
  have hk4 : k < 4 := x.ml.2.2.2.2.1
  have hm4 := x.hm4
  have i4 : (m : Int) < 4 := Int.ofNat_lt.mpr hm4
  have w1 : wr ((m : Int) + 1) = ((m + 1 : Nat) : Int) := wk1 (Nat.le_of_lt hm4)
  have w62 : wr (A 62 k - 1) = A 62 k - 1 := by
    have h1 := x.kk.2.2.1
    have h2 := x.kk.2.2.2.1
    exact wr_id (by omega) (by omega)
  unfold M_doLanes_19b M_doLanes_64 M_doLanes_95 M_doLanes_99 M_doLanes_100 M_doLanes_148 M_doLanes_157 M_doLanes_122 M_doLanes_176 M_doLanes_182
  rw [if_pos i4, mD12, h66, if_pos rfl, m_isUnder x.ms.2 hm4, hF, tb_t, if_neg (by decide), m_isGlobal]
  simp only [w1]
  by_cases hgc : (c = 114 ∨ c = 119 ∨ c = 97 ∨ c = 120)
  · obtain ⟨bn, rfl, y1, y2, y3, y4⟩ := x.cell (Or.inl hgc)
    have hsc : ¬ (c = 82 ∨ c = 87) := by omega
    rw [decide_eq_true hgc, tb_t, if_neg (by decide), m_cellOf x.hat (x.j2 y3) x.j3 (x.r8 y2) (x.r8 y1) hm4, ← y4, m_noCell, hg hgc, Bool.not_true, tb_f, if_pos rfl, m_isShared, decide_eq_false hsc, tb_f, if_pos rfl, if_pos trivial, m_isGlobal, decide_eq_true hgc, tb_t, if_neg (by decide)]
    rw [if_pos (by omega)]
  · rw [decide_eq_false hgc, tb_f, if_pos rfl, m_isShared]
    by_cases hsc : (c = 82 ∨ c = 87)
    · obtain ⟨bn, rfl, y1, y2, y3, y4⟩ := x.cell (Or.inr hsc)
      rw [decide_eq_true hsc, tb_t, if_neg (by decide), m_cellOf x.hat (x.j2 y3) x.j3 (x.r8 y2) (x.r8 y1) hm4, zix_n hk4, ← y4, mD62, w62, m_in, hs hsc, tb_t, if_neg (by decide), if_pos trivial, m_isGlobal, decide_eq_false hgc, tb_f, if_pos rfl, m_isShared, decide_eq_true hsc, tb_t, if_neg (by decide)]
      rw [if_pos (by omega)]
    · rw [decide_eq_false hsc, tb_f, if_pos rfl, if_pos trivial, m_isGlobal, decide_eq_false hgc, tb_f, if_pos rfl, m_isShared, decide_eq_false hsc, tb_f, if_pos rfl]
      rw [if_neg (by omega)]
/-- a fault of a lane -/
theorem m_dlf {r19 : Int → Int → Int → Int → Int → zH → Option ρ} (x : LC A h K L bc tc gc n B N M u i b j m k p r a b2 d c F) (hF : F m = true) (h66 : A 12 66 = 45) {f : Int} (hf : ((c = 114 ∨ c = 119 ∨ c = 97 ∨ c = 120) ∧ zwi (zhD h 24 0 m) 0 63 = false ∧ f = 103) ∨ ((c = 82 ∨ c = 87) ∧ zwi (zhD h 24 0 m) 0 (A 62 k - 1) = false ∧ f = 115)) : M_doLanes_19b kr r19 ((4 * u + i : Nat) : Int) c ((40 * k + p : Nat) : Int) (k : Int) (m : Int) (mh g A) = r19 ((4 * u + i : Nat) : Int) c ((40 * k + p : Nat) : Int) (k : Int) ((m + 1 : Nat) : Int) (mh g (au (au A 12 66 f) 12 67 (m : Int))) := by
  have hk4 : k < 4 := x.ml.2.2.2.2.1
  have hm4 := x.hm4
  have i4 : (m : Int) < 4 := Int.ofNat_lt.mpr hm4
  have w1 : wr ((m : Int) + 1) = ((m + 1 : Nat) : Int) := wk1 (Nat.le_of_lt hm4)
  have w62 : wr (A 62 k - 1) = A 62 k - 1 := by
    have h1 := x.kk.2.2.1
    have h2 := x.kk.2.2.2.1
    exact wr_id (by omega) (by omega)
  unfold M_doLanes_19b M_doLanes_64 M_doLanes_95 M_doLanes_99 M_doLanes_100 M_doLanes_148 M_doLanes_157 M_doLanes_122 M_doLanes_176 M_doLanes_182
  rw [if_pos i4, mD12, h66, if_pos rfl, m_isUnder x.ms.2 hm4, hF, tb_t, if_neg (by decide), m_isGlobal]
  simp only [w1]
  rcases hf with ⟨hgc, hw, rfl⟩ | ⟨hsc, hw, rfl⟩
  · obtain ⟨bn, rfl, y1, y2, y3, y4⟩ := x.cell (Or.inl hgc)
    rw [decide_eq_true hgc, tb_t, if_neg (by decide), m_cellOf x.hat (x.j2 y3) x.j3 (x.r8 y2) (x.r8 y1) hm4, ← y4, m_noCell, hw, Bool.not_false, tb_t, if_neg (by decide), if_neg (by decide), m_isGlobal, decide_eq_true hgc, tb_t, if_neg (by decide), znar_c (by decide), mS12, zlet_d, mS12, zlet_d]
  · obtain ⟨bn, rfl, y1, y2, y3, y4⟩ := x.cell (Or.inr hsc)
    have hgc : ¬ (c = 114 ∨ c = 119 ∨ c = 97 ∨ c = 120) := by omega
    rw [decide_eq_false hgc, tb_f, if_pos rfl, m_isShared, decide_eq_true hsc, tb_t, if_neg (by decide), m_cellOf x.hat (x.j2 y3) x.j3 (x.r8 y2) (x.r8 y1) hm4, zix_n hk4, ← y4, mD62, w62, m_in, hw, tb_f, if_pos rfl, if_neg (by decide), m_isGlobal, decide_eq_false hgc, tb_f, if_pos rfl, znar_c (by decide), mS12, zlet_d, mS12, zlet_d]
theorem x_clf (x : LC A h K L bc tc gc n B N M u i b j m k p r a b2 d c F) {f : Int} (hf : ((c = 114 ∨ c = 119 ∨ c = 97 ∨ c = 120) ∧ zwi (zhD h 24 0 m) 0 63 = false ∧ f = 103) ∨ ((c = 82 ∨ c = 87) ∧ zwi (zhD h 24 0 m) 0 (A 62 k - 1) = false ∧ f = 115)) : Co_carryLane 0 (gc (4 * b + j) : Int) (m : Int) (tc (16 * b + (4 * j + m)) : Int) (r : Int) h kr = kr f h := by
  obtain ⟨-, -, -, -, -, -, -, -, z2, z3⟩ := zone_all c
  unfold Co_carryLane
  rw [zob_n x.i1, x_isOneOf (s := 2) rfl x.i1, x.i2, z2]
  rcases hf with ⟨hgc, hw, rfl⟩ | ⟨hsc, hw, rfl⟩
  · unfold Co_carryGlobal
    rw [decide_eq_true hgc, tb_t, if_neg (by decide), zob_0 x.q.rs.N2, x.q.rs.D2_0_6, zob_0 x.q.rs.N24, x.q.rs.L24_0, zix_n x.hm4, zob_0 x.q.rs.N2, x_isCell, hw, tb_f, if_pos rfl]
    exact znar_c (by decide)
  · have hgc : ¬ (c = 114 ∨ c = 119 ∨ c = 97 ∨ c = 120) := by omega
    have f62 : ((fg u b j A) 62 ((fg u b j A) 70 (b / 6)).toNat) = A 62 k := by rw [fg_c (by decide), fg_c (by decide), x.h70, Int.toNat_natCast]
    unfold Co_carryShared
    rw [decide_eq_false hgc, tb_f, if_pos rfl, zob_n x.i1, x_isOneOf (s := 3) rfl x.i1, x.i2, z3, decide_eq_true hsc, tb_t, if_neg (by decide), zob_n x.hG.1, zob_0 x.q.rs.N2, x.q.rs.D2_0_6, zob_0 x.q.rs.N24, x.q.rs.L24_0, zix_n x.hm4, x.g0, zob_n x.bb1, x_hasShared x.q x.hb x.hin, f62, hw, tb_f, if_pos rfl]
    exact znar_c (by decide)
/-! going on -/
theorem hGO_N {T : Nat} {nx len : Int} : zhN (hGO h T c nx len) = zhN h := by
  unfold hGO
  split
  · rfl
  · split
    · rfl
    · split <;> rfl
theorem hGO_L {T : Nat} {nx len : Int} : zhL (hGO h T c nx len) = zhL h := by
  unfold hGO
  split
  · rfl
  · split
    · rfl
    · split <;> rfl
theorem hGO_D {T : Nat} {nx len : Int} {c2 : Nat} (h6 : c2 ≠ 6) : zhD (hGO h T c nx len) c2 = zhD h c2 := by
  unfold hGO
  split
  · rw [zD_ne h6]
  · split
    · rw [zD_ne h6]
    · split
      · rw [zD_ne h6]
      · rw [zD_ne h6, zD_ne h6]
theorem mGO_c {x : Nat} {nx len : Int} {c2 : Nat} (h1 : c2 ≠ 89) (h2 : c2 ≠ 90) : mGO A x c nx len c2 = A c2 := by
  unfold mGO
  split
  · rw [au_ne h1]
  · rw [au_ne h1, au_ne h2]
theorem mGO_j {x : Nat} {nx len : Int} {c2 j2 : Nat} (h1 : j2 ≠ x) : mGO A x c nx len c2 j2 = A c2 j2 := by
  unfold mGO
  split
  · exact if_neg (fun z => h1 z.2)
  · exact (if_neg (fun z => h1 z.2)).trans (if_neg (fun z => h1 z.2))
theorem fg0_64 {w : Int} : fg0 (au A 12 64 (A 12 64 + w)) = au (au (fg0 A) 12 54 (fg0 A 12 54 + w)) 12 64 (A 12 64 + w) := by
  funext c2 j2
  by_cases hc : c2 = 12
  · subst hc
    by_cases h54 : j2 = 54
    · subst h54
      rw [fg0_54, au_j, if_neg (by decide), au_same, fg0_54, au_j, if_neg (by decide), au_same]
      omega
    · by_cases h55 : j2 = 55
      · subst h55
        rw [fg0_55, au_j, if_neg (by decide), au_j, if_neg (by decide), au_j, if_neg (by decide), fg0_55]
      · by_cases h64 : j2 = 64
        · subst h64
          rw [fg0_j (by decide) (by decide), au_same, au_same]
        · rw [fg0_j h54 h55, au_j, if_neg h64, au_j, if_neg h64, au_j, if_neg h54, fg0_j h54 h55]
  · rw [fg0_c hc, au_ne hc, au_ne hc, au_ne hc, fg0_c hc]
theorem fg_64 {w : Int} : fg u b j (au A 12 64 (A 12 64 + w)) = au (au (fg u b j A) 12 54 (fg u b j A 12 54 + w)) 12 64 (A 12 64 + w) := by
  have e : fg u b j A 12 54 = fg0 A 12 54 := by
    unfold fg
    rw [au_ne (by decide), au_ne (by decide)]
  rw [e]
  unfold fg
  rw [fg0_64, au_cm (c := 101) (c2 := 12) (by decide), au_cm (c := 100) (c2 := 12) (by decide), au_cm (c := 101) (c2 := 12) (by decide), au_cm (c := 100) (c2 := 12) (by decide)]
/-- a lane has ended its instruction: counted -/
theorem rr_64 (q : RR (fg u b j A) h K L bc tc gc n B N M) (bn : n ≤ 10000000) (h0 : 0 ≤ A 12 64) (h1 : A 12 64 ≤ 4) : RR (fg u b j (au A 12 64 (A 12 64 + 1))) (zset h 4 0 1 (wrl (zhD h 4 0 1 + 1))) K L bc tc gc (n + 1) B N M := by
  have b54 := q.bd.1 54 (by decide)
  have e : zhD h 4 0 1 = fg u b j A 12 54 := q.rm.2.2.2.2.2.1
  have w : wrl (zhD h 4 0 1 + 1) = fg u b j A 12 54 + 1 := by rw [e]; exact wrl_id (by omega) (by omega)
  rw [fg_64, w]
  exact rr_au (rr_f1 q (by omega) (by omega)) rfl
/-- who waits at the last place of its kernel: its group runs no more and has written all -/
def WL (A : zA) : Prop := ∀ u i b j k : Nat, u < 2 → (i : Int) < A 93 u → A 94 (4 * u + i) = (b : Int) → A 95 (4 * u + i) = (j : Int) → k < 4 → ((4 * j + k : Nat) : Int) < A 73 (b / 6) → A 89 (16 * b + (4 * j + k)) = 119 → A 63 (A 70 (b / 6)).toNat ≤ A 90 (16 * b + (4 * j + k)) + 1 → A 97 (4 * u + i) = 0 ∧ ∀ k2 : Nat, k2 < 4 → ((4 * j + k2 : Nat) : Int) < A 73 (b / 6) → A 89 (16 * b + (4 * j + k2)) ≠ 114
theorem WL.fr {A1 : zA} (x : WL A) (h63 : A1 63 = A 63) (h70 : A1 70 = A 70) (h73 : A1 73 = A 73) (h89 : A1 89 = A 89) (h90 : A1 90 = A 90) (h93 : A1 93 = A 93) (h94 : A1 94 = A 94) (h95 : A1 95 = A 95) (h97 : A1 97 = A 97) : WL A1 := by
  unfold WL
  rw [h63, h70, h73, h89, h90, h93, h94, h95, h97]
  exact x
/-- what a stretch of lanes leaves of who waits, and of buffers -/
def LST (A A1 : zA) (c : Int) (y b j L : Nat) (F : Nat → Bool) (m m' : Nat) : Prop := (A1 63 = A 63 ∧ A1 93 = A 93 ∧ A1 94 = A 94 ∧ A1 95 = A 95) ∧ (∀ l, l < L → A1 70 l = A 70 l ∧ A1 73 l = A 73 l) ∧ (∀ x, (∀ m2, m ≤ m2 → m2 < m' → F m2 = true → x ≠ 16 * b + (4 * j + m2)) → A1 89 x = A 89 x ∧ A1 90 x = A 90 x) ∧ (∀ m2, m ≤ m2 → m2 < m' → F m2 = true → (c = 98 → A1 89 (16 * b + (4 * j + m2)) = 119 ∧ A1 90 (16 * b + (4 * j + m2)) = A 90 (16 * b + (4 * j + m2))) ∧ (c ≠ 98 → A1 89 (16 * b + (4 * j + m2)) ≠ 119)) ∧ (∀ y2, y2 ≠ y → A1 97 y2 = A 97 y2) ∧ (c ≠ 119 → A1 97 = A 97)
theorem LST.rfl' {A : zA} {c : Int} {y b j L : Nat} {F : Nat → Bool} {m m' : Nat} (hF : ∀ m2, m ≤ m2 → m2 < m' → F m2 = false) : LST A A c y b j L F m m' := ⟨⟨rfl, rfl, rfl, rfl⟩, fun _ _ => ⟨rfl, rfl⟩, fun _ _ => ⟨rfl, rfl⟩, fun m2 h1 h2 h3 => absurd (h3.symm.trans (hF m2 h1 h2)) (by decide), fun _ _ => rfl, fun _ => rfl⟩
theorem LST.tr {A A1 A2 : zA} {c : Int} {y b j L L1 : Nat} {F : Nat → Bool} {m m1 m2 : Nat} (x : LST A A1 c y b j L F m m1) (z : LST A1 A2 c y b j L1 F m1 m2) (hL : L ≤ L1) (h1 : m ≤ m1) (h2 : m1 ≤ m2) : LST A A2 c y b j L F m m2 := by
  obtain ⟨⟨x1, x2, x3, x4⟩, x5, x6, x7, x8, x9⟩ := x
  obtain ⟨⟨z1, z2, z3, z4⟩, z5, z6, z7, z8, z9⟩ := z
  refine ⟨⟨z1.trans x1, z2.trans x2, z3.trans x3, z4.trans x4⟩, fun l hl => ?_, fun q hq => ?_, fun m3 k1 k2 k3 => ?_, fun y2 hy => (z8 y2 hy).trans (x8 y2 hy), fun hc => (z9 hc).trans (x9 hc)⟩
  · obtain ⟨w1, w2⟩ := x5 l hl
    obtain ⟨w3, w4⟩ := z5 l (Nat.lt_of_lt_of_le hl hL)
    exact ⟨w3.trans w1, w4.trans w2⟩
  · obtain ⟨w1, w2⟩ := x6 q (fun m3 k1 k2 k3 => hq m3 k1 (Nat.lt_of_lt_of_le k2 h2) k3)
    obtain ⟨w3, w4⟩ := z6 q (fun m3 k1 k2 k3 => hq m3 (Nat.le_trans h1 k1) k2 k3)
    exact ⟨w3.trans w1, w4.trans w2⟩
  · by_cases hm : m3 < m1
    · obtain ⟨w1, w2⟩ := x7 m3 k1 hm k3
      obtain ⟨w3, w4⟩ := z6 (16 * b + (4 * j + m3)) (fun m4 n1 n2 n3 => by omega)
      rw [w3, w4]
      exact ⟨w1, w2⟩
    · obtain ⟨w1, w2⟩ := z7 m3 (by omega) k2 k3
      obtain ⟨w3, w4⟩ := x6 (16 * b + (4 * j + m3)) (fun m4 n1 n2 n3 => by omega)
      rw [w4] at w1
      exact ⟨w1, w2⟩
/-! launches of which nothing is left -/
def zen (A : zA) (L l : Nat) : Prop := A 69 l = 114 ∧ A 70 l ≠ -1 ∧ A 79 l = A 72 l ∧ ∀ k, k < L → A 76 k = (l : Int) → zover (A 69 k) = true
def CL (A : zA) (L : Nat) : Prop := (∀ l, l < L → ¬ zen A L l) ∧ (∀ l, l < L → A 76 l ≠ -1 → A 70 (A 76 l).toNat ≠ -1 ∧ (A 76 l).toNat < l) ∧ (∀ l, l < L → A 69 l = 113 → A 70 l ≠ -1 → A 79 l ≠ A 72 l) ∧ (∀ l, l < L → A 76 l ≠ -1 → A 71 l = -1)
theorem CL.mv {A1 : zA} {L1 : Nat} (x : CL A L) (hL : L ≤ L1 ∧ ∀ l, L ≤ l → l < L1 → A1 69 l = 113 ∧ A1 79 l ≠ A1 72 l ∧ A1 71 l = -1 ∧ ∃ p : Nat, A1 76 l = (p : Int) ∧ p < L ∧ A 70 p ≠ -1) (hr : ∀ c, c = 70 ∨ c = 73 ∨ c = 69 ∨ c = 72 ∨ c = 76 ∨ c = 79 ∨ c = 71 → ∀ l, l < L → A1 c l = A c l) : CL A1 L1 := by
  refine ⟨fun l hl z => ?_, fun l hl z => ?_, fun l hl z1 z2 => ?_, fun l hl z => ?_⟩
  · obtain ⟨z1, z2, z3, z4⟩ := z
    by_cases h : l < L
    · rw [hr 69 (by decide) l h] at z1
      rw [hr 70 (by decide) l h] at z2
      rw [hr 79 (by decide) l h, hr 72 (by decide) l h] at z3
      exact x.1 l h ⟨z1, z2, z3, fun k hk e => by rw [← hr 69 (by decide) k hk]; exact z4 k (Nat.lt_of_lt_of_le hk hL.1) (by rw [hr 76 (by decide) k hk]; exact e)⟩
    · have := (hL.2 l (Nat.le_of_not_lt h) hl).1
      rw [this] at z1
      exact absurd z1 (by decide)
  · by_cases h : l < L
    · rw [hr 76 (by decide) l h] at z ⊢
      obtain ⟨y1, y2⟩ := x.2.1 l h z
      rw [hr 70 (by decide) _ (Nat.lt_trans y2 h)]
      exact ⟨y1, y2⟩
    · obtain ⟨-, -, -, p, y1, y2, y3⟩ := hL.2 l (Nat.le_of_not_lt h) hl
      rw [y1, Int.toNat_natCast, hr 70 (by decide) p y2]
      exact ⟨y3, Nat.lt_of_lt_of_le y2 (Nat.le_of_not_lt h)⟩
  · by_cases h : l < L
    · rw [hr 69 (by decide) l h] at z1
      rw [hr 70 (by decide) l h] at z2
      rw [hr 79 (by decide) l h, hr 72 (by decide) l h]
      exact x.2.2.1 l h z1 z2
    · exact (hL.2 l (Nat.le_of_not_lt h) hl).2.1
  · by_cases h : l < L
    · rw [hr 76 (by decide) l h] at z
      rw [hr 71 (by decide) l h]
      exact x.2.2.2 l h z
    · exact (hL.2 l (Nat.le_of_not_lt h) hl).2.2.1
end
