/-! ALL LANES -/
def LI (A : zA) (h : zH) (K L : Nat) (bc tc gc : Nat → Nat) (n : Nat) (B : zA) (N M : Int) (u i b j k p r a : Nat) (b2 d c : Int) (F : Nat → Bool) (m : Nat) : Prop := RR (fg u b j A) h K L bc tc gc n B N M ∧ u < 2 ∧ (i : Int) < A 93 u ∧ A 94 (4 * u + i) = (b : Int) ∧ A 95 (4 * u + i) = (j : Int) ∧ A 87 b = 1 ∧ b < 72 ∧ A 70 (b / 6) = (k : Int) ∧ ((4 * j : Nat) : Int) < A 73 (b / 6) ∧ (r < zhN h 8 ∧ zhD h 8 r 0 = c ∧ (zbits c ≠ 0 → zhD h 8 r 1 = (a : Int)) ∧ zhD h 8 r 2 = b2 ∧ zhD h 8 r 3 = d) ∧ (A 65 (40 * k + p) = c ∧ (zbits c ≠ 0 → A 66 (40 * k + p) = (a : Int)) ∧ A 67 (40 * k + p) = b2 ∧ A 68 (40 * k + p) = d) ∧ zinsOK (A 61 k) c (a : Int) b2 d ∧ (1 ≤ A 61 k ∧ A 61 k ≤ 8 ∧ 0 ≤ A 62 k ∧ A 62 k ≤ 16 ∧ (p : Int) < A 63 k ∧ A 63 k ≤ 40 ∧ k < K) ∧ (zhD h 2 0 8 = zbs F 4 ∧ A 12 63 = zbs F 4) ∧ (∀ m2 : Nat, m2 < 4 → F m2 = true → ((4 * j + m2 : Nat) : Int) < A 73 (b / 6)) ∧ (∀ m2 : Nat, m ≤ m2 → m2 < 4 → F m2 = true → A 90 (16 * b + (4 * j + m2)) = (p : Int) ∧ A 89 (16 * b + (4 * j + m2)) = 114 ∧ ∀ q : Nat, (q : Int) < A 61 k → A 109 (8 * m2 + q) = A 91 (8 * (16 * b + (4 * j + m2)) + q)) ∧ (∀ m2 : Nat, m2 < 4 → ((4 * j + m2 : Nat) : Int) < A 73 (b / 6) → zhD h 24 0 m2 = zlat A k (if c = 119 ∨ c = 87 then (a : Int) else b2) m2 ∧ zhD h 25 0 m2 = zlat A k b2 m2) ∧ zhD h 2 0 9 = zbs (fun m2 => F m2 && decide (zlat A k b2 m2 ≠ 0)) 4 ∧ n ≤ 9999900 + 4 * m ∧ (∀ q : Nat, q < 32 → zir (A 109 q)) ∧ (c = 119 → zhD h 2 0 10 = A 12 65 ∧ 0 ≤ A 12 65 ∧ A 12 65 ≤ (m : Int)) ∧ (c ≠ 119 → 0 ≤ A 12 65 ∧ A 12 65 ≤ 4 ∧ (c = 102 → zhD h 2 0 10 = A 12 65) ∧ (c ≠ 102 → A 12 65 = 0)) ∧ (0 ≤ A 12 64 ∧ A 12 64 ≤ (m : Int) ∧ A 12 66 = 45) ∧ CL A L ∧ (∀ m2 : Nat, m2 < m → F m2 = true → ((c = 114 ∨ c = 119 ∨ c = 97 ∨ c = 120) → zwi (zhD h 24 0 m2) 0 63 = true) ∧ ((c = 82 ∨ c = 87) → zwi (zhD h 24 0 m2) 0 (A 62 k - 1) = true))
section
variable {ρ : Type} {h g : zH} {A B : zA} {kr : Int → zH → Option ρ} {K L n : Nat} {bc tc gc : Nat → Nat} {N M : Int} {u i b j m k p r a : Nat} {b2 d c : Int} {F : Nat → Bool}
theorem LI.q (x : LI A h K L bc tc gc n B N M u i b j k p r a b2 d c F m) : RR (fg u b j A) h K L bc tc gc n B N M := x.1
theorem LI.hu (x : LI A h K L bc tc gc n B N M u i b j k p r a b2 d c F m) : u < 2 := x.2.1
theorem LI.hi (x : LI A h K L bc tc gc n B N M u i b j k p r a b2 d c F m) : (i : Int) < A 93 u := x.2.2.1
theorem LI.e94 (x : LI A h K L bc tc gc n B N M u i b j k p r a b2 d c F m) : A 94 (4 * u + i) = (b : Int) := x.2.2.2.1
theorem LI.e95 (x : LI A h K L bc tc gc n B N M u i b j k p r a b2 d c F m) : A 95 (4 * u + i) = (j : Int) := x.2.2.2.2.1
theorem LI.hin (x : LI A h K L bc tc gc n B N M u i b j k p r a b2 d c F m) : A 87 b = 1 := x.2.2.2.2.2.1
theorem LI.hb (x : LI A h K L bc tc gc n B N M u i b j k p r a b2 d c F m) : b < 72 := x.2.2.2.2.2.2.1
theorem LI.h70 (x : LI A h K L bc tc gc n B N M u i b j k p r a b2 d c F m) : A 70 (b / 6) = (k : Int) := x.2.2.2.2.2.2.2.1
theorem LI.hj (x : LI A h K L bc tc gc n B N M u i b j k p r a b2 d c F m) : ((4 * j : Nat) : Int) < A 73 (b / 6) := x.2.2.2.2.2.2.2.2.1
theorem LI.ir (x : LI A h K L bc tc gc n B N M u i b j k p r a b2 d c F m) : (r < zhN h 8 ∧ zhD h 8 r 0 = c ∧ (zbits c ≠ 0 → zhD h 8 r 1 = (a : Int)) ∧ zhD h 8 r 2 = b2 ∧ zhD h 8 r 3 = d) := x.2.2.2.2.2.2.2.2.2.1
theorem LI.ia (x : LI A h K L bc tc gc n B N M u i b j k p r a b2 d c F m) : (A 65 (40 * k + p) = c ∧ (zbits c ≠ 0 → A 66 (40 * k + p) = (a : Int)) ∧ A 67 (40 * k + p) = b2 ∧ A 68 (40 * k + p) = d) := x.2.2.2.2.2.2.2.2.2.2.1
theorem LI.ok (x : LI A h K L bc tc gc n B N M u i b j k p r a b2 d c F m) : zinsOK (A 61 k) c (a : Int) b2 d := x.2.2.2.2.2.2.2.2.2.2.2.1
theorem LI.kk (x : LI A h K L bc tc gc n B N M u i b j k p r a b2 d c F m) : (1 ≤ A 61 k ∧ A 61 k ≤ 8 ∧ 0 ≤ A 62 k ∧ A 62 k ≤ 16 ∧ (p : Int) < A 63 k ∧ A 63 k ≤ 40 ∧ k < K) := x.2.2.2.2.2.2.2.2.2.2.2.2.1
theorem LI.ms (x : LI A h K L bc tc gc n B N M u i b j k p r a b2 d c F m) : (zhD h 2 0 8 = zbs F 4 ∧ A 12 63 = zbs F 4) := x.2.2.2.2.2.2.2.2.2.2.2.2.2.1
theorem LI.fp (x : LI A h K L bc tc gc n B N M u i b j k p r a b2 d c F m) : (∀ m2 : Nat, m2 < 4 → F m2 = true → ((4 * j + m2 : Nat) : Int) < A 73 (b / 6)) := x.2.2.2.2.2.2.2.2.2.2.2.2.2.2.1
theorem LI.rn (x : LI A h K L bc tc gc n B N M u i b j k p r a b2 d c F m) : (∀ m2 : Nat, m ≤ m2 → m2 < 4 → F m2 = true → A 90 (16 * b + (4 * j + m2)) = (p : Int) ∧ A 89 (16 * b + (4 * j + m2)) = 114 ∧ ∀ q : Nat, (q : Int) < A 61 k → A 109 (8 * m2 + q) = A 91 (8 * (16 * b + (4 * j + m2)) + q)) := x.2.2.2.2.2.2.2.2.2.2.2.2.2.2.2.1
theorem LI.nt (x : LI A h K L bc tc gc n B N M u i b j k p r a b2 d c F m) : (∀ m2 : Nat, m2 < 4 → ((4 * j + m2 : Nat) : Int) < A 73 (b / 6) → zhD h 24 0 m2 = zlat A k (if c = 119 ∨ c = 87 then (a : Int) else b2) m2 ∧ zhD h 25 0 m2 = zlat A k b2 m2) := x.2.2.2.2.2.2.2.2.2.2.2.2.2.2.2.2.1
theorem LI.vt (x : LI A h K L bc tc gc n B N M u i b j k p r a b2 d c F m) : zhD h 2 0 9 = zbs (fun m2 => F m2 && decide (zlat A k b2 m2 ≠ 0)) 4 := x.2.2.2.2.2.2.2.2.2.2.2.2.2.2.2.2.2.1
theorem LI.bn (x : LI A h K L bc tc gc n B N M u i b j k p r a b2 d c F m) : n ≤ 9999900 + 4 * m := x.2.2.2.2.2.2.2.2.2.2.2.2.2.2.2.2.2.2.1
theorem LI.wz (x : LI A h K L bc tc gc n B N M u i b j k p r a b2 d c F m) : (∀ q : Nat, q < 32 → zir (A 109 q)) := x.2.2.2.2.2.2.2.2.2.2.2.2.2.2.2.2.2.2.2.1
theorem LI.wd (x : LI A h K L bc tc gc n B N M u i b j k p r a b2 d c F m) : (c = 119 → zhD h 2 0 10 = A 12 65 ∧ 0 ≤ A 12 65 ∧ A 12 65 ≤ (m : Int)) := x.2.2.2.2.2.2.2.2.2.2.2.2.2.2.2.2.2.2.2.2.1
theorem LI.wf (x : LI A h K L bc tc gc n B N M u i b j k p r a b2 d c F m) : (c ≠ 119 → 0 ≤ A 12 65 ∧ A 12 65 ≤ 4 ∧ (c = 102 → zhD h 2 0 10 = A 12 65) ∧ (c ≠ 102 → A 12 65 = 0)) := x.2.2.2.2.2.2.2.2.2.2.2.2.2.2.2.2.2.2.2.2.2.1
theorem LI.dn (x : LI A h K L bc tc gc n B N M u i b j k p r a b2 d c F m) : (0 ≤ A 12 64 ∧ A 12 64 ≤ (m : Int) ∧ A 12 66 = 45) := x.2.2.2.2.2.2.2.2.2.2.2.2.2.2.2.2.2.2.2.2.2.2.1
theorem LI.cl (x : LI A h K L bc tc gc n B N M u i b j k p r a b2 d c F m) : CL A L := x.2.2.2.2.2.2.2.2.2.2.2.2.2.2.2.2.2.2.2.2.2.2.2.1
theorem LI.vc (x : LI A h K L bc tc gc n B N M u i b j k p r a b2 d c F m) : (∀ m2 : Nat, m2 < m → F m2 = true → ((c = 114 ∨ c = 119 ∨ c = 97 ∨ c = 120) → zwi (zhD h 24 0 m2) 0 63 = true) ∧ ((c = 82 ∨ c = 87) → zwi (zhD h 24 0 m2) 0 (A 62 k - 1) = true)) := x.2.2.2.2.2.2.2.2.2.2.2.2.2.2.2.2.2.2.2.2.2.2.2.2
theorem LI.j4 (x : LI A h K L bc tc gc n B N M u i b j k p r a b2 d c F m) : j < 4 ∧ 4 * u + i < 8 ∧ 1 ≤ A 73 (b / 6) ∧ A 73 (b / 6) ≤ 16 ∧ k < 4 ∧ b / 6 < L ∧ p < 40 := by
  obtain ⟨k9, hk9, e70, hbL, ⟨f1, f2⟩, -⟩ := x.q.blk x.hb (by rw [fg_c (by decide)]; exact x.hin)
  rw [fg_c (by decide)] at f1 f2
  have h1 := (x.q.un x.hu).2.1
  rw [fg_c (by decide)] at h1
  have h2 := x.hi
  have h3 := x.hj
  have h4 := x.hu
  obtain ⟨-, -, -, -, k5, k6, k7⟩ := x.kk
  have k8 := x.q.rk.2.1
  refine ⟨by omega, by omega, f1, f2, by omega, hbL, by omega⟩
theorem LI.lc (x : LI A h K L bc tc gc n B N M u i b j k p r a b2 d c F m) (hm : m < 4) (hF : F m = true) : LC A h K L bc tc gc n B N M u i b j m k p r a b2 d c F := by
  obtain ⟨l1, l2, l3, l4, l5, l6, l7⟩ := x.j4
  obtain ⟨r1, r2, r3⟩ := x.rn m (Nat.le_refl _) hm hF
  have hlt := x.fp m hm hF
  exact ⟨x.q, x.hu, x.hi, x.e94, x.e95, ⟨⟨l2, x.hb, l1, x.e94, x.e95, by omega, l4⟩, hm, hlt, x.h70, l5, r1, l7⟩, x.hin, r2, x.ir, x.ia, x.ok, x.kk, x.ms, r3, (x.nt m hm hlt).1, fun m2 h1 h2 => (x.nt m2 h1 h2).2, x.fp, x.vt, by have := x.bn; omega, x.wz, x.wd⟩
/-- the place behind an instruction -/
theorem znx_0 (x : LC A h K L bc tc gc n B N M u i b j m k p r a b2 d c F) {ra : Int} : 0 ≤ znx c b2 (p : Int) ra := by
  unfold znx
  split
  · have := x.ok.2.2.2.2.1 (by omega)
    exact this.1
  · omega
theorem li_skip (x : LI A h K L bc tc gc n B N M u i b j k p r a b2 d c F m) (hF : F m = false) : LI A h K L bc tc gc n B N M u i b j k p r a b2 d c F (m + 1) := by
  refine ⟨x.q, x.hu, x.hi, x.e94, x.e95, x.hin, x.hb, x.h70, x.hj, x.ir, x.ia, x.ok, x.kk, x.ms, x.fp, fun m2 h1 h2 hf => x.rn m2 (Nat.le_of_succ_le h1) h2 hf, x.nt, x.vt, by have := x.bn; omega, x.wz, fun hc => ?_, x.wf, ?_, x.cl, fun m2 hm2 hF2 => x.vc m2 (Nat.lt_of_le_of_ne (Nat.le_of_lt_succ hm2) (fun z => by rw [z, hF] at hF2; cases hF2)) hF2⟩
  · obtain ⟨y1, y2, y3⟩ := x.wd hc
    exact ⟨y1, y2, by omega⟩
  · obtain ⟨y1, y2, y3⟩ := x.dn
    exact ⟨y1, by omega, y3⟩
theorem m_skip {r19 : Int → Int → Int → Int → Int → zH → Option ρ} (x : LI A h K L bc tc gc n B N M u i b j k p r a b2 d c F m) (hm : m < 4) (hF : F m = false) : M_doLanes_19b kr r19 ((4 * u + i : Nat) : Int) c ((40 * k + p : Nat) : Int) (k : Int) (m : Int) (mh g A) = r19 ((4 * u + i : Nat) : Int) c ((40 * k + p : Nat) : Int) (k : Int) ((m + 1 : Nat) : Int) (mh g A) := by
  have i4 : (m : Int) < 4 := Int.ofNat_lt.mpr hm
  have w1 : wr ((m : Int) + 1) = ((m + 1 : Nat) : Int) := wk1 (Nat.le_of_lt hm)
  unfold M_doLanes_19b M_doLanes_176
  rw [if_pos i4, mD12, x.dn.2.2, if_pos rfl, m_isUnder x.ms.2 hm, hF, tb_f, if_pos rfl, w1]
theorem LI.grp (x : LI A h K L bc tc gc n B N M u i b j k p r a b2 d c F m) : GW h (gc (4 * b + j)) ∧ (∀ m2 : Nat, m2 < 4 → zhD h 42 (gc (4 * b + j)) m2 = if ((4 * j + m2 : Nat) : Int) < A 73 (b / 6) then (tc (16 * b + (4 * j + m2)) : Int) else -1) ∧ zhD h 11 (gc (4 * b + j)) 0 = (bc b : Int) := by
  have hin : fg u b j A 87 b = 1 := by rw [fg_c (by decide)]; exact x.hin
  have hj : ((4 * j : Nat) : Int) < fg u b j A 73 (b / 6) := by rw [fg_c (by decide)]; exact x.hj
  obtain ⟨g1, g2, g3, g4, g5⟩ := x.q.gh.1 b x.hb hin j hj
  obtain ⟨gw, -⟩ := x.q.grp x.hb hin hj
  rw [fg_c (by decide)] at g5
  exact ⟨gw, g5, g3⟩
theorem x_skip {r63 : Int → Int → Int → Int → Int → Int → Int → zH → Option ρ} (x : LI A h K L bc tc gc n B N M u i b j k p r a b2 d c F m) (hm : m < 4) (hF : F m = false) : Co_carryOut_63b kr r63 0 (u : Int) (gc (4 * b + j) : Int) (p : Int) (k : Int) (r : Int) (m : Int) h = r63 0 (u : Int) (gc (4 * b + j) : Int) (p : Int) (k : Int) (r : Int) ((m + 1 : Nat) : Int) h := by
  have i4 : (m : Int) < 4 := Int.ofNat_lt.mpr hm
  have w1 : wr ((m : Int) + 1) = ((m + 1 : Nat) : Int) := wk1 (Nat.le_of_lt hm)
  obtain ⟨hG, e42, -⟩ := x.grp
  unfold Co_carryOut_63b Co_carryOut_160
  rw [if_pos i4, zob_n hG.1, x_threadIn_n x.q.rd hG hm, e42 m hm, w1]
  by_cases hlt : ((4 * j + m : Nat) : Int) < A 73 (b / 6)
  · rw [if_pos hlt, if_neg (Int.not_lt.mpr (Int.natCast_nonneg _)), zob_0 x.q.rs.N2, x.ms.1, x_isIn hm, hF, tb_f, if_pos rfl]
  · rw [if_neg hlt, if_pos (by decide)]
theorem mGO_x {A : zA} {x : Nat} {c nx len : Int} : (c = 98 → mGO A x c nx len 89 x = 119 ∧ mGO A x c nx len 90 x = A 90 x) ∧ (c ≠ 98 → mGO A x c nx len 89 x ≠ 119) := by
  unfold mGO
  refine ⟨fun hc => ?_, fun hc => ?_⟩
  · rw [if_pos hc, au_same, au_ne (by decide)]
    exact ⟨rfl, rfl⟩
  · rw [if_neg hc, au_same]
    split <;> decide
/-- a lane that carries out its instruction -/
theorem li_step (x : LI A h K L bc tc gc n B N M u i b j k p r a b2 d c F m) (hm : m < 4) (hF : F m = true) (hg : (c = 114 ∨ c = 119 ∨ c = 97 ∨ c = 120) → zwi (zhD h 24 0 m) 0 63 = true) (hs : (c = 82 ∨ c = 87) → zwi (zhD h 24 0 m) 0 (A 62 k - 1) = true) : ∃ (h1 : zH) (A1 : zA) (L1 : Nat), L ≤ L1 ∧ (∀ (kr : Int → zH → Option ρ) (r63 : Int → Int → Int → Int → Int → Int → Int → zH → Option ρ), Co_carryOut_63b kr r63 0 (u : Int) (gc (4 * b + j) : Int) (p : Int) (k : Int) (r : Int) (m : Int) h = r63 0 (u : Int) (gc (4 * b + j) : Int) (p : Int) (k : Int) (r : Int) ((m + 1 : Nat) : Int) h1) ∧
    (∀ (kr : Int → zH → Option ρ) (r19 : Int → Int → Int → Int → Int → zH → Option ρ), M_doLanes_19b kr r19 ((4 * u + i : Nat) : Int) c ((40 * k + p : Nat) : Int) (k : Int) (m : Int) (mh g A) = r19 ((4 * u + i : Nat) : Int) c ((40 * k + p : Nat) : Int) (k : Int) ((m + 1 : Nat) : Int) (mh g A1)) ∧ LI A1 h1 K L1 bc tc gc (n + 2) B N M u i b j k p r a b2 d c F (m + 1) ∧ LST A A1 c (4 * u + i) b j L F m (m + 1) := by
  have lc := x.lc hm hF
  have i4 : (m : Int) < 4 := Int.ofNat_lt.mpr hm
  have w1 : wr ((m : Int) + 1) = ((m + 1 : Nat) : Int) := wk1 (Nat.le_of_lt hm)
  obtain ⟨d1, d2, d3⟩ := x.dn
  obtain ⟨l1, l2, l3, l4, l5, l6, l7⟩ := x.j4
  have hlo : LO ρ g A h K L bc tc gc n B N M u i b j m k p r a b2 d c := lo_all lc (fun hc => by
    have y := zwi_t (hg hc)
    exact ⟨(zhD h 24 0 m).toNat, by omega, by omega⟩) (fun hc => by
    have y := zwi_t (hs hc)
    exact ⟨(zhD h 24 0 m).toNat, by omega, by omega⟩)
  obtain ⟨h1, A1, L1, ⟨hL, hn⟩, hX, hM, q1, lf, e122, e119, eo⟩ := hlo
  obtain ⟨t1, t2, t3, t4, t5, t6⟩ := lc_th lc
  have s : ∀ c, lfa c = true → A1 c = A c := lf.1
  have dd : ∀ c p j, lfd c j = true → zhD h1 c p j = zhD h c p j := lf.2.2.2.1
  have N1 : ∀ c, c ≠ 9 → c ≠ 34 → c ≠ 35 → zhN h1 c = zhN h c := lf.2.2.2.2.2.1
  have L32 : ∀ p, zhL h1 32 p = zhL h 32 p := lf.2.2.2.2.2.2.2
  have s73 := lf.2.1 73 (by decide) (b / 6) l6
  have s70 := lf.2.1 70 (by decide) (b / 6) l6
  have h89 : A1 89 (16 * b + (4 * j + m)) = 114 := by rw [s 89 rfl]; exact lc.h89
  have hin1 : A1 87 b = 1 := by rw [s 87 rfl]; exact x.hin
  have hlt1 : ((4 * j + m : Nat) : Int) < A1 73 (b / 6) := by rw [s73]; exact lc.hlt
  have n6 : tc (16 * b + (4 * j + m)) < zhN h1 6 := by rw [N1 6 (by decide) (by decide) (by decide)]; exact t1
  have n8 : r < zhN h1 8 := by rw [N1 8 (by decide) (by decide) (by decide)]; exact lc.i1
  have e80 : zhD h1 8 r 0 = c := by rw [dd 8 r 0 rfl]; exact lc.i2
  have e82 : zhD h1 8 r 2 = b2 := by rw [dd 8 r 2 rfl]; exact lc.i4
  have nx0 := znx_0 lc (ra := A 109 (8 * m + a))
  have q2 := rr_go (c := c) q1 x.hb (by rw [fg_c (by decide)]; exact hin1) (by rw [fg_c (by decide)]; exact hlt1) (by rw [fg_c (by decide)]; exact h89) nx0
  rw [fg_go, fg_c (c := 63) (by decide), fg_c (c := 70) (by decide), s70, x.h70, Int.toNat_natCast, s 63 rfl] at q2
  have e63 : A1 63 k = A 63 k := by rw [s 63 rfl]
  have enx : znx c b2 (p : Int) (zhD h1 32 (tc (16 * b + (4 * j + m))) (zhD h1 8 r 1).toNat) = znx c b2 (p : Int) (A 109 (8 * m + a)) := by
    by_cases h122 : c = 122
    · rw [dd 8 r 1 rfl, lc.i3 (by rw [h122]; decide), Int.toNat_natCast, e122 h122]
    · unfold znx
      by_cases h106 : c = 106
      · rw [if_pos (Or.inl h106), if_pos (Or.inl h106)]
      · rw [if_neg (fun z => z.elim h106 (fun z => h122 z.1)), if_neg (fun z => z.elim h106 (fun z => h122 z.1))]
  have hgo : ∀ kr2 : Int → zH → Option ρ, Th_goOn (tc (16 * b + (4 * j + m)) : Int) (r : Int) (A 63 k) h1 kr2 = kr2 0 (hGO h1 (tc (16 * b + (4 * j + m))) c (znx c b2 (p : Int) (A 109 (8 * m + a))) (A 63 k)) := fun kr2 => by
    rw [x_goOn q1.rd n6 n8 (pl := (p : Int)) (by rw [dd 6 _ 3 rfl]; exact t5) (by omega) (fun hc => by rw [e80] at hc; rw [e82]; exact (lc.ok.2.2.2.2.1 (by omega)).1) (fun hc => by
      rw [e80] at hc
      have hz : zbits c = 4 := by rw [hc]; decide
      rw [dd 8 r 1 rfl, lc.i3 (by omega), L32, t2]
      exact zwi_lt (lc.ok.2.1 (by omega)).2), e80, e82, enx]
  have k7 : k < zhN h1 7 := by rw [N1 7 (by decide) (by decide) (by decide), x.q.rk.2.2.1]; exact x.kk.2.2.2.2.2.2
  have e73 : zhD h1 7 k 3 = A 63 k := by
    obtain ⟨-, -, -, -, -, -, -, -, -, -, c3, -⟩ := q1.rk.2.2.2.2.1 k x.kk.2.2.2.2.2.2
    rw [c3, fg_c (by decide), e63]
  obtain ⟨hG, e42, g0⟩ := x.grp
  have f64 : A1 12 64 = A 12 64 := lf.2.2.1 64 rfl
  have G12 : ∀ j2, mGO A1 (16 * b + (4 * j + m)) c (znx c b2 (p : Int) (A 109 (8 * m + a))) (A 63 k) 12 j2 = A1 12 j2 := fun j2 => by rw [mGO_c (by decide) (by decide)]
  have q3 := rr_64 q2 (by have := x.bn; omega) (by rw [G12, f64]; exact d1) (by rw [G12, f64]; omega)
  refine ⟨zset (hGO h1 (tc (16 * b + (4 * j + m))) c (znx c b2 (p : Int) (A 109 (8 * m + a))) (A 63 k)) 4 0 1 (wrl (zhD (hGO h1 (tc (16 * b + (4 * j + m))) c (znx c b2 (p : Int) (A 109 (8 * m + a))) (A 63 k)) 4 0 1 + 1)), au (mGO A1 (16 * b + (4 * j + m)) c (znx c b2 (p : Int) (A 109 (8 * m + a))) (A 63 k)) 12 64 (mGO A1 (16 * b + (4 * j + m)) c (znx c b2 (p : Int) (A 109 (8 * m + a))) (A 63 k) 12 64 + 1), L1, hL, fun kr r63 => ?_, fun kr r19 => ?_, ?_⟩
  · unfold Co_carryOut_63b Co_carryOut_160
    have g2 : zhN (hGO h1 (tc (16 * b + (4 * j + m))) c (znx c b2 (p : Int) (A 109 (8 * m + a))) (A 63 k)) 2 = 1 := by rw [hGO_N]; exact q1.rs.N2
    have g4 : zhN (hGO h1 (tc (16 * b + (4 * j + m))) c (znx c b2 (p : Int) (A 109 (8 * m + a))) (A 63 k)) 4 = 1 := by rw [hGO_N]; exact q1.rs.N4
    have g23 : zhD (hGO h1 (tc (16 * b + (4 * j + m))) c (znx c b2 (p : Int) (A 109 (8 * m + a))) (A 63 k)) 2 0 3 = 0 := by rw [hGO_D (by decide)]; exact q1.rs.D2_0_3
    rw [if_pos i4, zob_n hG.1, x_threadIn_n x.q.rd hG hm, e42 m hm, if_pos lc.hlt, if_neg (Int.not_lt.mpr (Int.natCast_nonneg _)), zob_0 x.q.rs.N2, x.ms.1, x_isIn hm, hF, tb_t, if_neg (by decide), zob_0 x.q.rs.N2, hX, if_pos rfl, zob_n k7, e73, zob_n n6, hgo, zob_0 g2, g23, zob_0 g4, zob_0 g4, zlet_d, w1]
  · have w64 : wr (A 12 64 + 1) = A 12 64 + 1 := wr_id (by omega) (by omega)
    rw [m_dlx lc hF d3 hg hs, hM, m_413 x.hb (show 16 * b + (4 * j + m) < 1152 by have := x.hb; omega) l5 (by rw [s70]; exact x.h70), e63, mD12, G12, f64, w64, mS12, zlet_d]
  · have D6 : ∀ c9 p9 j9, c9 ≠ 6 → ¬ (c9 = 4 ∧ j9 = 1) → zhD (zset (hGO h1 (tc (16 * b + (4 * j + m))) c (znx c b2 (p : Int) (A 109 (8 * m + a))) (A 63 k)) 4 0 1 (wrl (zhD (hGO h1 (tc (16 * b + (4 * j + m))) c (znx c b2 (p : Int) (A 109 (8 * m + a))) (A 63 k)) 4 0 1 + 1))) c9 p9 j9 = zhD h1 c9 p9 j9 := fun c9 p9 j9 y1 y2 => by
      rw [zD_set, if_neg (fun z => y2 ⟨z.1, z.2.2⟩), hGO_D y1]
    have R : ∀ c9, c9 ≠ 12 → c9 ≠ 89 → c9 ≠ 90 → au (mGO A1 (16 * b + (4 * j + m)) c (znx c b2 (p : Int) (A 109 (8 * m + a))) (A 63 k)) 12 64 (mGO A1 (16 * b + (4 * j + m)) c (znx c b2 (p : Int) (A 109 (8 * m + a))) (A 63 k) 12 64 + 1) c9 = A1 c9 := fun c9 y1 y2 y3 => by rw [au_ne y1, mGO_c y2 y3]
    have R12 : ∀ j9, j9 ≠ 64 → au (mGO A1 (16 * b + (4 * j + m)) c (znx c b2 (p : Int) (A 109 (8 * m + a))) (A 63 k)) 12 64 (mGO A1 (16 * b + (4 * j + m)) c (znx c b2 (p : Int) (A 109 (8 * m + a))) (A 63 k) 12 64 + 1) 12 j9 = A1 12 j9 := fun j9 y1 => by rw [au_j, if_neg y1, G12]
    have RX : ∀ c9 j9, c9 ≠ 12 → j9 ≠ (16 * b + (4 * j + m)) → au (mGO A1 (16 * b + (4 * j + m)) c (znx c b2 (p : Int) (A 109 (8 * m + a))) (A 63 k)) 12 64 (mGO A1 (16 * b + (4 * j + m)) c (znx c b2 (p : Int) (A 109 (8 * m + a))) (A 63 k) 12 64 + 1) c9 j9 = A1 c9 j9 := fun c9 j9 y1 y2 => by rw [au_ne y1, mGO_j y2]
    have R64 : au (mGO A1 (16 * b + (4 * j + m)) c (znx c b2 (p : Int) (A 109 (8 * m + a))) (A 63 k)) 12 64 (mGO A1 (16 * b + (4 * j + m)) c (znx c b2 (p : Int) (A 109 (8 * m + a))) (A 63 k) 12 64 + 1) 12 64 = A 12 64 + 1 := by rw [au_same, G12, f64]
    have N9 : zhN (zset (hGO h1 (tc (16 * b + (4 * j + m))) c (znx c b2 (p : Int) (A 109 (8 * m + a))) (A 63 k)) 4 0 1 (wrl (zhD (hGO h1 (tc (16 * b + (4 * j + m))) c (znx c b2 (p : Int) (A 109 (8 * m + a))) (A 63 k)) 4 0 1 + 1))) = zhN h1 := by rw [zN_set, hGO_N]
    have G98 : (c = 98 → (au (mGO A1 (16 * b + (4 * j + m)) c (znx c b2 (p : Int) (A 109 (8 * m + a))) (A 63 k)) 12 64 (mGO A1 (16 * b + (4 * j + m)) c (znx c b2 (p : Int) (A 109 (8 * m + a))) (A 63 k) 12 64 + 1)) 89 (16 * b + (4 * j + m)) = 119 ∧ (au (mGO A1 (16 * b + (4 * j + m)) c (znx c b2 (p : Int) (A 109 (8 * m + a))) (A 63 k)) 12 64 (mGO A1 (16 * b + (4 * j + m)) c (znx c b2 (p : Int) (A 109 (8 * m + a))) (A 63 k) 12 64 + 1)) 90 (16 * b + (4 * j + m)) = A1 90 (16 * b + (4 * j + m))) ∧ (c ≠ 98 → (au (mGO A1 (16 * b + (4 * j + m)) c (znx c b2 (p : Int) (A 109 (8 * m + a))) (A 63 k)) 12 64 (mGO A1 (16 * b + (4 * j + m)) c (znx c b2 (p : Int) (A 109 (8 * m + a))) (A 63 k) 12 64 + 1)) 89 (16 * b + (4 * j + m)) ≠ 119) := by
      have r1 : (au (mGO A1 (16 * b + (4 * j + m)) c (znx c b2 (p : Int) (A 109 (8 * m + a))) (A 63 k)) 12 64 (mGO A1 (16 * b + (4 * j + m)) c (znx c b2 (p : Int) (A 109 (8 * m + a))) (A 63 k) 12 64 + 1)) 89 = mGO A1 (16 * b + (4 * j + m)) c (znx c b2 (p : Int) (A 109 (8 * m + a))) (A 63 k) 89 := au_ne (by decide)
      have r2 : (au (mGO A1 (16 * b + (4 * j + m)) c (znx c b2 (p : Int) (A 109 (8 * m + a))) (A 63 k)) 12 64 (mGO A1 (16 * b + (4 * j + m)) c (znx c b2 (p : Int) (A 109 (8 * m + a))) (A 63 k) 12 64 + 1)) 90 = mGO A1 (16 * b + (4 * j + m)) c (znx c b2 (p : Int) (A 109 (8 * m + a))) (A 63 k) 90 := au_ne (by decide)
      rw [r1, r2]
      exact mGO_x
    generalize zset (hGO h1 (tc (16 * b + (4 * j + m))) c (znx c b2 (p : Int) (A 109 (8 * m + a))) (A 63 k)) 4 0 1 (wrl (zhD (hGO h1 (tc (16 * b + (4 * j + m))) c (znx c b2 (p : Int) (A 109 (8 * m + a))) (A 63 k)) 4 0 1 + 1)) = h9 at q3 D6 N9 ⊢
    generalize au (mGO A1 (16 * b + (4 * j + m)) c (znx c b2 (p : Int) (A 109 (8 * m + a))) (A 63 k)) 12 64 (mGO A1 (16 * b + (4 * j + m)) c (znx c b2 (p : Int) (A 109 (8 * m + a))) (A 63 k) 12 64 + 1) = A9 at q3 R R12 RX R64 G98 ⊢
    have n89 : r < zhN h9 8 := by rw [N9]; exact n8
    have Ra : ∀ c9, lfa c9 = true → c9 ≠ 89 → c9 ≠ 90 → A9 c9 = A c9 := fun c9 y1 y2 y3 => by rw [R c9 (fun z => by subst z; cases y1) y2 y3, s c9 y1]
    have zl : ∀ v m2, zlat A9 k v m2 = zlat A k v m2 := fun v m2 => by
      unfold zlat
      rw [Ra 61 rfl (by decide) (by decide), Ra 109 rfl (by decide) (by decide)]
    have S70 : ∀ c9, c9 = 70 ∨ c9 = 73 ∨ c9 = 69 ∨ c9 = 72 ∨ c9 = 76 ∨ c9 = 79 ∨ c9 = 71 → ∀ l, l < L → A9 c9 l = A c9 l := fun c9 y l yl => by rw [R c9 (by omega) (by omega) (by omega)]; exact lf.2.1 c9 y l yl
    have Z73 := S70 73 (by decide) (b / 6) l6
    have Z70 := S70 70 (by decide) (b / 6) l6
    have lst : LST A A9 c (4 * u + i) b j L F m (m + 1) := by
      refine ⟨⟨Ra 63 rfl (by decide) (by decide), Ra 93 rfl (by decide) (by decide), Ra 94 rfl (by decide) (by decide), Ra 95 rfl (by decide) (by decide)⟩, fun l hl => ⟨S70 70 (by decide) l hl, S70 73 (by decide) l hl⟩, fun q9 hq => ?_, fun m2 k1 k2 k3 => ?_, fun y2 hy => ?_, fun hc => ?_⟩
      · have hne := hq m (Nat.le_refl _) (Nat.lt_succ_self _) hF
        rw [RX 89 q9 (by decide) hne, s 89 rfl, RX 90 q9 (by decide) hne, s 90 rfl]
        exact ⟨rfl, rfl⟩
      · have e9 : m2 = m := by omega
        rw [e9]
        obtain ⟨g1, g2⟩ := G98
        refine ⟨fun hc => ?_, g2⟩
        obtain ⟨w1, w2⟩ := g1 hc
        rw [w1, w2, s 90 rfl]
        exact ⟨rfl, rfl⟩
      · rw [R 97 (by decide) (by decide) (by decide)]
        by_cases hc : c = 119
        · exact (e119 hc).2.2.2 y2 hy
        · rw [(eo hc).2.2]
      · rw [R 97 (by decide) (by decide) (by decide), (eo hc).2.2]
    refine ⟨⟨q3, x.hu, by rw [Ra 93 rfl (by decide) (by decide)]; exact x.hi, by rw [Ra 94 rfl (by decide) (by decide)]; exact x.e94, by rw [Ra 95 rfl (by decide) (by decide)]; exact x.e95, by rw [Ra 87 rfl (by decide) (by decide)]; exact x.hin, x.hb, by rw [Z70]; exact x.h70, by rw [Z73]; exact x.hj, ⟨n89, ?_, fun hz => ?_, ?_, ?_⟩, ⟨?_, fun hz => ?_, ?_, ?_⟩, by rw [Ra 61 rfl (by decide) (by decide)]; exact x.ok, by rw [Ra 61 rfl (by decide) (by decide), Ra 62 rfl (by decide) (by decide), Ra 63 rfl (by decide) (by decide)]; exact x.kk, ⟨?_, ?_⟩, fun m2 y1 y2 => by rw [Z73]; exact x.fp m2 y1 y2, fun m2 y1 y2 y3 => ?_, fun m2 y1 y2 => ?_, ?_, by have := x.bn; omega, fun q9 y => by rw [Ra 109 rfl (by decide) (by decide)]; exact x.wz q9 y, fun hc => ?_, fun hc => ?_, ⟨?_, ?_, ?_⟩, x.cl.mv ⟨hL, fun l y1 y2 => ⟨by rw [R 69 (by decide) (by decide) (by decide)]; exact (hn l y1 y2).1, by rw [R 79 (by decide) (by decide) (by decide), R 72 (by decide) (by decide) (by decide)]; exact (hn l y1 y2).2.2.1, by rw [R 71 (by decide) (by decide) (by decide)]; exact (hn l y1 y2).2.2.2, b / 6, by rw [R 76 (by decide) (by decide) (by decide)]; exact (hn l y1 y2).2.1, l6, by rw [x.h70]; exact fun z => absurd (z ▸ Int.natCast_nonneg k) (by decide)⟩⟩ S70, fun m2 hm2 hF2 => ?_⟩, lst⟩
    · rw [D6 8 r 0 (by decide) (fun z => absurd z.1 (by decide)), dd 8 r 0 rfl]
      exact lc.i2
    · rw [D6 8 r 1 (by decide) (fun z => absurd z.1 (by decide)), dd 8 r 1 rfl]
      exact lc.i3 hz
    · rw [D6 8 r 2 (by decide) (fun z => absurd z.1 (by decide)), dd 8 r 2 rfl]
      exact lc.i4
    · rw [D6 8 r 3 (by decide) (fun z => absurd z.1 (by decide)), dd 8 r 3 rfl]
      exact lc.i5
    · rw [Ra 65 rfl (by decide) (by decide)]
      exact x.ia.1
    · rw [Ra 66 rfl (by decide) (by decide)]
      exact x.ia.2.1 hz
    · rw [Ra 67 rfl (by decide) (by decide)]
      exact x.ia.2.2.1
    · rw [Ra 68 rfl (by decide) (by decide)]
      exact x.ia.2.2.2
    · rw [D6 2 0 8 (by decide) (fun z => absurd z.1 (by decide)), dd 2 0 8 rfl]
      exact x.ms.1
    · rw [R12 63 (by decide)]
      exact (lf.2.2.1 63 rfl).trans x.ms.2
    · obtain ⟨z1, z2, z3⟩ := x.rn m2 (Nat.le_of_succ_le y1) y2 y3
      rw [RX 90 _ (by decide) (by omega), s 90 rfl, RX 89 _ (by decide) (by omega), s 89 rfl]
      refine ⟨z1, z2, fun q9 hq => ?_⟩
      rw [Ra 61 rfl (by decide) (by decide)] at hq
      have := lc.r8 hq
      rw [Ra 109 rfl (by decide) (by decide), R 91 (by decide) (by decide) (by decide), lf.2.2.2.2.1 (8 * (16 * b + (4 * j + m2)) + q9) (by omega)]
      exact z3 q9 hq
    · rw [Z73] at y2
      rw [D6 24 0 m2 (by decide) (fun z => absurd z.1 (by decide)), dd 24 0 m2 rfl, D6 25 0 m2 (by decide) (fun z => absurd z.1 (by decide)), dd 25 0 m2 rfl, zl, zl]
      exact x.nt m2 y1 y2
    · rw [D6 2 0 9 (by decide) (fun z => absurd z.1 (by decide)), dd 2 0 9 rfl, x.vt]
      exact congrArg (fun f => zbs f 4) (funext fun m2 => by rw [zl])
    · rw [D6 2 0 10 (by decide) (fun z => absurd z.1 (by decide)), R12 65 (by decide)]
      obtain ⟨z1, z2, z3, -⟩ := e119 hc
      exact ⟨z1, z2, by omega⟩
    · rw [D6 2 0 10 (by decide) (fun z => absurd z.1 (by decide)), R12 65 (by decide), (eo hc).1, (eo hc).2.1]
      exact x.wf hc
    · rw [R64]
      omega
    · rw [R64]
      omega
    · rw [R12 66 (by decide)]
      exact (lf.2.2.1 66 rfl).trans d3
    · rw [D6 24 0 m2 (by decide) (fun z => absurd z.1 (by decide)), dd 24 0 m2 rfl, Ra 62 rfl (by decide) (by decide)]
      by_cases hmm : m2 = m
      · subst hmm
        exact ⟨hg, hs⟩
      · exact x.vc m2 (Nat.lt_of_le_of_ne (Nat.le_of_lt_succ hm2) hmm) hF2
end
