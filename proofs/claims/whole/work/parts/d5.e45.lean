/-! LANES: cells of the memory -/
section
variable {ρ : Type} {h h1 g : zH} {A A1 B : zA} {kr : Int → zH → Option ρ} {K L n : Nat} {bc tc gc : Nat → Nat} {N M : Int}
theorem zwi_lt {q : Nat} {x : Int} (h : (q : Int) < x) : zwi (q : Int) 0 (x - 1) = true := by
  unfold zwi
  simp
  omega
theorem znar_45 {k : Int → Option ρ} : znar 2 45 k = k 45 := znar_c (by decide)
theorem m_isShared {c : Int} : M_isShared c h kr = kr (tb (decide (c = 82 ∨ c = 87))) h := by
  unfold M_isShared M_isShared_12 M_isShared_17
  by_cases h1 : c = 82
  · simp [h1, znar_1, tb_t]
  · by_cases h2 : c = 87
    · simp [h2, znar_1, tb_t]
    · simp [h1, h2, znar_0, tb_f]
theorem m_isGlobal {c : Int} : M_isGlobal c h kr = kr (tb (decide (c = 114 ∨ c = 119 ∨ c = 97 ∨ c = 120))) h := by
  unfold M_isGlobal M_isGlobal_24 M_isGlobal_29
  by_cases h1 : c = 114
  · simp [h1, znar_1, tb_t]
  · by_cases h2 : c = 119
    · simp [h2, znar_1, tb_t]
    · by_cases h3 : c = 97
      · simp [h3, znar_1, tb_t]
      · by_cases h4 : c = 120
        · simp [h4, znar_1, tb_t]
        · simp [h1, h2, h3, h4, znar_0, tb_f]
theorem m_cellOf {c : Int} {at1 a b m : Nat} (hat : at1 < 160) (h66 : A 66 at1 = (a : Int)) (h67 : A 67 at1 = (b : Int)) (ha : a < 8) (hb : b < 8) (hm : m < 4) : M_cellOf c (at1 : Int) (m : Int) (mh g A) kr = kr (A 109 (8 * m + (if c = 119 ∨ c = 87 then a else b))) (mh g A) := by
  unfold M_cellOf M_cellOf_12 M_cellOf_37
  simp only [zix_n hat, mD66, mD67, h66, h67, m_lane hm ha, m_lane hm hb]
  by_cases h1 : c = 119
  · simp [h1]
  · by_cases h2 : c = 87
    · simp [h2]
    · simp [h1, h2]
theorem rr_rc (q : RR A h K L bc tc gc n B N M) {l : Nat} (hl : l < L) : 0 ≤ zhD h 9 l 18 ∧ zhD h 9 l 18 ≤ 160 := by
  have hL := q.rl.2.1
  obtain ⟨-, e⟩ := q.tl l hl
  obtain ⟨-, -, -, t4, t5, -⟩ := q.ta
  have r1 := zsum_rng (s := A 105) (b := 64 * l) 64 (fun k hk => t5 l k (by omega) hk)
  have r2 := zsum_rng (s := A 108) (b := 96 * l) 96 (fun k hk => by
    have := t4 (6 * l + k / 16) (k % 16) (by omega) (by omega)
    rw [show 16 * (6 * l + k / 16) + k % 16 = 96 * l + k by omega] at this
    exact this)
  omega
theorem zsn_ir {mem cs vs : Nat → Int} {c : Int} (h1 : ∀ j, zir (mem j)) (h2 : ∀ k, zir (vs k)) : ∀ m, zir (zsn mem cs vs c m)
  | 0 => h1 _
  | m + 1 => by
    unfold zsn
    split
    · exact h2 m
    · exact zsn_ir h1 h2 m
theorem lf_acc {b x l k t c : Nat} {w : Bool} : LF h A (hTG h (bc b) l k t c w) (mAC A b t c w) b x L := by
  refine ⟨fun c2 hc => mAC_c (fun z => by subst z; cases hc) (fun z => by subst z; cases hc) (fun z => by subst z; cases hc), fun c2 hc l2 hl => by rw [mAC_c (by omega) (by omega) (by omega)], fun j hj => by rw [mAC_c (by decide) (by decide) (by decide)], fun c2 p j hc => ?_, fun i hi => by rw [mAC_c (by decide) (by decide) (by decide)], fun c2 _ _ _ => by rw [hTG_N], by rw [hTG_N]; exact Nat.le_refl _, fun p => by rw [hTG_L]⟩
  exact hTG_D (fun z => by subst z; cases hc) (fun z => by subst z; cases hc) (fun z => by subst z; cases hc) (fun z => by rw [z.1, z.2] at hc; cases hc)
theorem lf_w {b x : Nat} (fw : Fw h A h1 A1) (h65 : True) : LF h A h1 A1 b x L := by
  obtain ⟨f1, f2, f3, f4, f5, f6⟩ := fw
  refine ⟨fun c hc => f1 c (fun z => by subst z; cases hc) (fun z => by subst z; cases hc) (fun z => by subst z; cases hc) (fun z => by subst z; cases hc), fun c hc l hl => by rw [f1 c (by omega) (by omega) (by omega) (by omega)], fun j hj => by rw [f1 12 (by decide) (by decide) (by decide) (by decide)], fun c p j hc => f2 c p j (fun z => by subst z; cases hc) (fun z => by subst z; cases hc) (fun z => by subst z; cases hc) (fun z => by rw [z.1, z.2] at hc; cases hc), fun i hi => by rw [f1 91 (by decide) (by decide) (by decide) (by decide)], fun c _ _ _ => by rw [f3], by rw [f3]; exact Nat.le_refl _, fun p => by rw [f4]⟩
end
section
variable {ρ : Type} {h h1 g : zH} {A A1 B : zA} {kr : Int → zH → Option ρ} {K L n : Nat} {bc tc gc : Nat → Nat} {N M : Int} {u i b j m k p r a : Nat} {b2 d c : Int} {F : Nat → Bool}
/-- the lane behind a change that isn't its registers' -/
theorem LC.mv (x : LC A h K L bc tc gc n B N M u i b j m k p r a b2 d c F) (q : RR (fg u b j A1) h1 K L bc tc gc n B N M) (lf : LF h A h1 A1 b (16 * b + (4 * j + m)) L) (h91 : A1 91 = A 91) (h10 : zhD h1 2 0 10 = zhD h 2 0 10) (h65 : A1 12 65 = A 12 65) : LC A1 h1 K L bc tc gc n B N M u i b j m k p r a b2 d c F := by
  have hb : b < 72 := x.ml.1.2.1
  obtain ⟨k9, hk9, e70, hbL, -⟩ := x.q.blk hb x.hin
  have s : ∀ c, lfa c = true → A1 c = A c := lf.1
  have s73 := lf.2.1 73 (by decide) (b / 6) hbL
  have s70 := lf.2.1 70 (by decide) (b / 6) hbL
  have d : ∀ c p j, lfd c j = true → zhD h1 c p j = zhD h c p j := lf.2.2.2.1
  have zl : ∀ v m2, zlat A1 k v m2 = zlat A k v m2 := fun v m2 => by
    unfold zlat
    rw [s 61 rfl, s 109 rfl]
  obtain ⟨⟨y1, y2, y3, y4, y5, y6, y7⟩, m1, m2, m3, m4, m5, m6⟩ := x.ml
  obtain ⟨i1, i2, i3, i4, i5⟩ := x.ir
  obtain ⟨j1, j2, j3, j4⟩ := x.ia
  refine ⟨q, x.hu, by rw [s 93 rfl]; exact x.hi, by rw [s 94 rfl]; exact x.e94, by rw [s 95 rfl]; exact x.e95, ⟨⟨y1, y2, y3, by rw [s 94 rfl]; exact y4, by rw [s 95 rfl]; exact y5, by rw [s73]; exact y6, by rw [s73]; exact y7⟩, m1, by rw [s73]; exact m2, by rw [s70]; exact m3, m4, by rw [s 90 rfl]; exact m5, m6⟩, by rw [s 87 rfl]; exact x.hin, by rw [s 89 rfl]; exact x.h89, ⟨by rw [lf.2.2.2.2.2.1 8 (by decide) (by decide) (by decide)]; exact i1, by rw [d 8 r 0 rfl]; exact i2, fun hz => by rw [d 8 r 1 rfl]; exact i3 hz, by rw [d 8 r 2 rfl]; exact i4, by rw [d 8 r 3 rfl]; exact i5⟩, ⟨by rw [s 65 rfl]; exact j1, fun hz => by rw [s 66 rfl]; exact j2 hz, by rw [s 67 rfl]; exact j3, by rw [s 68 rfl]; exact j4⟩, by rw [s 61 rfl]; exact x.ok, by rw [s 61 rfl, s 62 rfl, s 63 rfl]; exact x.kk, ⟨by rw [d 2 0 8 rfl]; exact x.ms.1, (lf.2.2.1 63 rfl).trans x.ms.2⟩, fun q2 hq => by rw [s 109 rfl, h91]; rw [s 61 rfl] at hq; exact x.ws q2 hq, by rw [d 24 0 m rfl, zl]; exact x.nm, fun m2 hm hlt => by rw [d 25 0 m2 rfl, zl]; rw [s73] at hlt; exact x.tk m2 hm hlt, fun m2 hm hF => by rw [s73]; exact x.fp m2 hm hF, ?_, x.bn, fun q2 hq => by rw [s 109 rfl]; exact x.wz q2 hq, fun hc => by rw [h10, h65]; exact x.wd hc⟩
  rw [d 2 0 9 rfl, x.vt]
  exact congrArg (fun f => zbs f 4) (funext fun m2 => by rw [zl])
theorem lc_b (x : LC A h K L bc tc gc n B N M u i b j m k p r a b2 d c F) : (bc b < zhN h 10 ∧ zhD h 10 (bc b) 0 = ((b / 6 : Nat) : Int) ∧ zhD h 10 (bc b) 1 = ((b % 6 : Nat) : Int)) ∧ (b / 6 < L ∧ b / 6 < zhN h 9) ∧ (1 ≤ A 73 (b / 6) ∧ A 73 (b / 6) ≤ 16) ∧ (1 ≤ A 72 (b / 6) ∧ A 72 (b / 6) ≤ 6) ∧ (0 ≤ A 86 b ∧ A 86 b ≤ 100000000) ∧ (0 ≤ zhD h 9 (b / 6) 18 ∧ zhD h 9 (b / 6) 18 ≤ 160) ∧ (A 105 = A 105 ∧ ∀ cell, cell < 64 → A 105 (64 * (b / 6) + cell) = 0 ∨ A 105 (64 * (b / 6) + cell) = 1) ∧ (∀ cell, cell < 16 → A 108 (16 * b + cell) = 0 ∨ A 108 (16 * b + cell) = 1) := by
  have hb : b < 72 := x.ml.1.2.1
  obtain ⟨k9, hk9, e70, hbL, ⟨f1, f2⟩, -, ⟨-, g2, -, g4⟩, -⟩ := x.q.blk hb x.hin
  obtain ⟨bh1, bh2, bh3, -⟩ := x.q.bh.1 b hb x.hin
  obtain ⟨-, -, -, -, -, -, -, -, -, -, -, r12, -⟩ := x.q.rl.l hbL
  have r := r12 (by rw [e70]; omega)
  have p86 := (x.q.bi.2.1 b hb x.hin).2.2.2.2.2
  have b86 := x.q.bd.2 b hb
  have bn := x.bn
  obtain ⟨-, -, -, t4, t5, -⟩ := x.q.ta
  rw [fg_c (by decide)] at p86 b86 f1 f2
  rw [fg_c (by decide)] at t4 t5
  rw [fg_c (by decide)] at r
  exact ⟨⟨bh1, bh2, bh3⟩, ⟨hbL, g2⟩, ⟨f1, f2⟩, ⟨r.1, r.2.1⟩, ⟨p86, by omega⟩, rr_rc x.q hbL, ⟨rfl, fun cell hc => t5 (b / 6) cell g4 hc⟩, fun cell hc => t4 b cell hb hc⟩
theorem x_cg (x : LC A h K L bc tc gc n B N M u i b j m k p r a b2 d c F) (hc : c = 114 ∨ c = 119 ∨ c = 97 ∨ c = 120) {cn : Nat} (hcn : cn < 64) (hcell : zhD h 24 0 m = (cn : Int)) {w : Bool} (hw : w = decide (c = 119)) : Co_carryLane 0 (gc (4 * b + j) : Int) (m : Int) (tc (16 * b + (4 * j + m)) : Int) (r : Int) h kr = Co_carryGlobal_34 (fun v h39 => znar 2 v fun x40 => kr x40 h39) 0 (gc (4 * b + j) : Int) (cn : Int) (tc (16 * b + (4 * j + m)) : Int) (r : Int) (tb w) (cn : Int) ((4 * j + m : Nat) : Int) (bc b : Int) h := by
  obtain ⟨i1, i2, i3, i4, i5⟩ := x.ir
  obtain ⟨t1, t2, t3, t4, t5, t6⟩ := lc_th x
  obtain ⟨hG, -, g0, -⟩ := lc_g x
  obtain ⟨-, -, -, -, -, -, -, -, z2, z3⟩ := zone_all c
  unfold Co_carryLane Co_carryGlobal
  rw [zob_n i1, x_isOneOf (s := 2) rfl i1, i2, z2, decide_eq_true hc, tb_t, if_neg (by decide), zob_0 x.q.rs.N2, x.q.rs.D2_0_6, zob_0 x.q.rs.N24, x.q.rs.L24_0, zix_n x.ml.2.1, hcell, zob_0 x.q.rs.N2, x_isCell, show zwi (cn : Int) 0 63 = true by (unfold zwi; simp; omega), tb_t, if_neg (by decide), zob_n hG.1, zob_n t1, zob_n i1, i2, t3, g0]
  by_cases h9 : c = 119
  · rw [if_pos h9, hw, decide_eq_true h9, tb_t]
  · rw [if_neg h9, hw, decide_eq_false h9, tb_f]
theorem LC.hb (x : LC A h K L bc tc gc n B N M u i b j m k p r a b2 d c F) : b < 72 := x.ml.1.2.1
theorem LC.hy (x : LC A h K L bc tc gc n B N M u i b j m k p r a b2 d c F) : 4 * u + i < 8 := x.ml.1.1
theorem LC.hj4 (x : LC A h K L bc tc gc n B N M u i b j m k p r a b2 d c F) : j < 4 := x.ml.1.2.2.1
theorem LC.hm4 (x : LC A h K L bc tc gc n B N M u i b j m k p r a b2 d c F) : m < 4 := x.ml.2.1
theorem LC.hlt (x : LC A h K L bc tc gc n B N M u i b j m k p r a b2 d c F) : ((4 * j + m : Nat) : Int) < A 73 (b / 6) := x.ml.2.2.1
theorem LC.h70 (x : LC A h K L bc tc gc n B N M u i b j m k p r a b2 d c F) : A 70 (b / 6) = (k : Int) := x.ml.2.2.2.1
theorem LC.hat (x : LC A h K L bc tc gc n B N M u i b j m k p r a b2 d c F) : 40 * k + p < 160 := by
  have h1 := x.ml.2.2.2.2.1
  have h2 := x.ml.2.2.2.2.2.2
  omega
theorem LC.ht (x : LC A h K L bc tc gc n B N M u i b j m k p r a b2 d c F) : 4 * j + m < 16 := by
  have h1 := x.hj4
  have h2 := x.hm4
  omega
theorem LC.r8 (x : LC A h K L bc tc gc n B N M u i b j m k p r a b2 d c F) {q : Nat} (hq : (q : Int) < A 61 k) : q < 8 := by
  have := x.kk.2.1
  omega
theorem LC.r6 (x : LC A h K L bc tc gc n B N M u i b j m k p r a b2 d c F) {q : Nat} (hq : (q : Int) < A 61 k) : (q : Int) < A 61 (A 70 (b / 6)).toNat := by
  rw [x.h70, Int.toNat_natCast]
  exact hq
theorem LC.q32 (x : LC A h K L bc tc gc n B N M u i b j m k p r a b2 d c F) {q : Nat} (hq : (q : Int) < A 61 k) {m2 : Nat} (hm : m2 < 4) : 8 * m2 + q < 32 := by
  have := x.r8 hq
  omega
theorem LC.i1 (x : LC A h K L bc tc gc n B N M u i b j m k p r a b2 d c F) : r < zhN h 8 := x.ir.1
theorem LC.i2 (x : LC A h K L bc tc gc n B N M u i b j m k p r a b2 d c F) : zhD h 8 r 0 = c := x.ir.2.1
theorem LC.i3 (x : LC A h K L bc tc gc n B N M u i b j m k p r a b2 d c F) : zbits c ≠ 0 → zhD h 8 r 1 = (a : Int) := x.ir.2.2.1
theorem LC.i4 (x : LC A h K L bc tc gc n B N M u i b j m k p r a b2 d c F) : zhD h 8 r 2 = b2 := x.ir.2.2.2.1
theorem LC.i5 (x : LC A h K L bc tc gc n B N M u i b j m k p r a b2 d c F) : zhD h 8 r 3 = d := x.ir.2.2.2.2
theorem LC.j2 (x : LC A h K L bc tc gc n B N M u i b j m k p r a b2 d c F) : zbits c ≠ 0 → A 66 (40 * k + p) = (a : Int) := x.ia.2.1
theorem LC.j3 (x : LC A h K L bc tc gc n B N M u i b j m k p r a b2 d c F) : A 67 (40 * k + p) = b2 := x.ia.2.2.1
theorem LC.j4 (x : LC A h K L bc tc gc n B N M u i b j m k p r a b2 d c F) : A 68 (40 * k + p) = d := x.ia.2.2.2
theorem LC.t1 (x : LC A h K L bc tc gc n B N M u i b j m k p r a b2 d c F) : tc (16 * b + (4 * j + m)) < zhN h 6 := (lc_th x).1
theorem LC.t3 (x : LC A h K L bc tc gc n B N M u i b j m k p r a b2 d c F) : zhD h 6 (tc (16 * b + (4 * j + m))) 0 = ((4 * j + m : Nat) : Int) := (lc_th x).2.2.1
theorem LC.hG (x : LC A h K L bc tc gc n B N M u i b j m k p r a b2 d c F) : GW h (gc (4 * b + j)) := (lc_g x).1
theorem LC.g0 (x : LC A h K L bc tc gc n B N M u i b j m k p r a b2 d c F) : zhD h 11 (gc (4 * b + j)) 0 = (bc b : Int) := (lc_g x).2.2.1
theorem LC.setz (x : LC A h K L bc tc gc n B N M u i b j m k p r a b2 d c F) {q : Nat} {v v9 : Int} {c9 p9 j9 : Nat} (hq : (q : Int) < A 61 k) (hk : rdk c9 j9 = true) : ∀ kr2 : Int → zH → Option ρ, Th_set (tc (16 * b + (4 * j + m)) : Int) (q : Int) v (zset h c9 p9 j9 v9) kr2 = kr2 0 (zset (zset h c9 p9 j9 v9) 32 (tc (16 * b + (4 * j + m))) q v) := fun kr2 => by
  obtain ⟨t1, t2, -⟩ := lc_th x
  rw [x_set (x.q.rd.set hk) (show tc (16 * b + (4 * j + m)) < zhN (zset h c9 p9 j9 v9) 6 from t1), zL_set, if_pos (zwi_lt (by omega)), Int.toNat_natCast]
theorem LC.xtg (x : LC A h K L bc tc gc n B N M u i b j m k p r a b2 d c F) {cn : Nat} {w : Bool} (hcn : cn < 64) : ∀ kr2 : Int → zH → Option ρ, Bl_touchGlobal (bc b : Int) ((4 * j + m : Nat) : Int) (cn : Int) (tb w) h kr2 = kr2 0 (hTG h (bc b) (b / 6) (b % 6) (4 * j + m) cn w) := fun kr2 => by
  obtain ⟨⟨bb1, bb2, bb3⟩, ⟨hbL, bb4⟩, -, -, -, crc, -⟩ := lc_b x
  exact x_touchGlobal x.q.rd bb1 bb2 bb3 bb4 hcn (by have := x.hb; omega) x.ht crc.1 (by omega)
theorem LC.mac (x : LC A h K L bc tc gc n B N M u i b j m k p r a b2 d c F) {cn : Nat} {w : Bool} (hcn : cn < 64) : ∀ kr2 : Int → zH → Option ρ, M_access (b : Int) ((4 * j + m : Nat) : Int) (cn : Int) (tb w) (mh g A) kr2 = kr2 0 (mh g (mAC A b (4 * j + m) cn w)) := fun kr2 => by
  obtain ⟨-, -, c73, c72, c86, -, ⟨-, c105⟩, -⟩ := lc_b x
  exact m_access x.hb x.ht hcn ⟨by omega, c73.2⟩ ⟨by omega, c72.2⟩ c86 (c105 cn hcn)
theorem LC.bb1 (x : LC A h K L bc tc gc n B N M u i b j m k p r a b2 d c F) : bc b < zhN h 10 := (lc_b x).1.1
theorem LC.bb2 (x : LC A h K L bc tc gc n B N M u i b j m k p r a b2 d c F) : zhD h 10 (bc b) 0 = ((b / 6 : Nat) : Int) := (lc_b x).1.2.1
theorem LC.bb3 (x : LC A h K L bc tc gc n B N M u i b j m k p r a b2 d c F) : zhD h 10 (bc b) 1 = ((b % 6 : Nat) : Int) := (lc_b x).1.2.2
/-- behind a touch of the memory -/
theorem LC.acc (x : LC A h K L bc tc gc n B N M u i b j m k p r a b2 d c F) {cn : Nat} {w : Bool} (hcn : cn < 64) : LC (mAC A b (4 * j + m) cn w) (hTG h (bc b) (b / 6) (b % 6) (4 * j + m) cn w) K L bc tc gc n B N M u i b j m k p r a b2 d c F ∧ LF h A (hTG h (bc b) (b / 6) (b % 6) (4 * j + m) cn w) (mAC A b (4 * j + m) cn w) b (16 * b + (4 * j + m)) L := by
  have q2 := rr_acc (w := w) x.q x.hb x.hin x.hlt hcn
  rw [fg_acc] at q2
  have lf := lf_acc (h := h) (A := A) (L := L) (bc := bc) (b := b) (x := (16 * b + (4 * j + m))) (l := b / 6) (k := b % 6) (t := 4 * j + m) (c := cn) (w := w)
  exact ⟨x.mv q2 lf (mAC_c (by decide) (by decide) (by decide)) (hTG_D (by decide) (by decide) (by decide) (fun z => absurd z.1 (by decide))) (by rw [mAC_c (by decide) (by decide) (by decide)]), lf⟩
/-- the buffer of the lane's group -/
theorem LC.buf (x : LC A h K L bc tc gc n B N M u i b j m k p r a b2 d c F) : ∃ w : Nat, w ≤ 4 ∧ A 97 (4 * u + i) = (w : Int) ∧ zhD h 11 (gc (4 * b + j)) 5 = (w : Int) ∧ ∀ k9 : Nat, k9 < w → zhD h 43 (gc (4 * b + j)) k9 = A 98 (4 * (4 * u + i) + k9) ∧ zhD h 44 (gc (4 * b + j)) k9 = A 99 (4 * (4 * u + i) + k9) ∧ 0 ≤ A 98 (4 * (4 * u + i) + k9) ∧ A 98 (4 * (4 * u + i) + k9) < 64 := by
  obtain ⟨u1, u2, u3, u4, u5⟩ := x.q.ug u i x.hu (by rw [fg_c (by decide)]; exact x.hi) b j (by rw [fg_c (by decide)]; exact x.e94) (by rw [fg_c (by decide)]; exact x.e95)
  rw [fg_c (by decide)] at u2 u3 u4 u5
  rw [fg_c (by decide), fg_c (by decide)] at u5
  refine ⟨(A 97 (4 * u + i)).toNat, by omega, by omega, by omega, fun k9 hk => u5 k9 (by omega)⟩
theorem LC.rreg (x : LC A h K L bc tc gc n B N M u i b j m k p r a b2 d c F) {A9 : zA} {h9 : zH} {n9 : Nat} {q : Nat} {v : Int} (q9 : RR (fg u b j A9) h9 K L bc tc gc n9 B N M) (e61 : A9 61 = A 61) (e70 : A9 70 = A 70) (e73 : A9 73 = A 73) (e87 : A9 87 = A 87) (hq : (q : Int) < A 61 k) (hv : zir v) : RR (fg u b j (au A9 91 (8 * (16 * b + (4 * j + m)) + q) v)) (zset h9 32 (tc (16 * b + (4 * j + m))) q v) K L bc tc gc n9 B N M := by
  rw [← fg_au (by decide)]
  exact rr_reg q9 x.hb (by rw [fg_c (by decide), e87]; exact x.hin) (by rw [fg_c (by decide), e73]; exact x.hlt) (by rw [fg_c (by decide), fg_c (by decide), e61, e70]; exact x.r6 hq) hv
theorem ml_reg {y x7 : Nat} {v : Int} (x : ML A y b j m k p) : ML (au A 91 x7 v) y b j m k p := x
theorem m_dl0 {y : Nat} (x : ML A y b j m k p) (hc : c = 114 ∨ c = 119 ∨ c = 97 ∨ c = 120 ∨ c = 82 ∨ c = 87) : M_doLane (y : Int) (m : Int) c ((40 * k + p : Nat) : Int) (mh g A) kr = M_doLane_413 kr c (b : Int) ((16 * b + (4 * j + m) : Nat) : Int) ((p : Int) + 1) (mh g A) := by
  rw [m_dl x, if_neg (by omega), if_neg (by omega), if_neg (by omega), if_neg (by omega), if_neg (by omega), if_neg (by omega), if_neg (by omega), if_neg (by omega), if_neg (by omega), if_neg (by omega)]
theorem ml_60 {y x7 : Nat} {v : Int} (x : ML A y b j m k p) : ML (au A 60 x7 v) y b j m k p := x
end
