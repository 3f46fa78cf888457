/-! LANES: reads, exchanges -/
section
variable {ρ : Type} {h g : zH} {A B : zA} {kr : Int → zH → Option ρ} {K L n : Nat} {bc tc gc : Nat → Nat} {N M : Int} {u i b j m k p r a : Nat} {b2 d c : Int} {F : Nat → Bool}
theorem lo_r (x : LC A h K L bc tc gc n B N M u i b j m k p r a b2 d c F) (hc : c = 114) {cn : Nat} (hcn : cn < 64) (hcell : zhD h 24 0 m = (cn : Int)) : LO ρ g A h K L bc tc gc n B N M u i b j m k p r a b2 d c := by
  subst hc
  obtain ⟨-, o1, o2, o3, -⟩ := x.ok
  have ha := (o1 (by decide)).2
  have hb2 := o2 (by decide)
  obtain ⟨bn, rfl⟩ : ∃ q : Nat, b2 = (q : Int) := ⟨b2.toNat, (Int.toNat_of_nonneg hb2.1).symm⟩
  have hb2 := hb2.2
  clear o1 o2 o3
  have ecell : A 109 (8 * m + bn) = (cn : Int) := by
    have := x.nm
    rw [hcell, if_neg (by decide), zlat_in hb2] at this
    exact this.symm
  obtain ⟨x2, lf⟩ := x.acc (w := false) hcn
  have mac := fun kr2 : Int → zH → Option ρ => x.mac (g := g) (w := false) hcn kr2
  have xtg := fun kr2 : Int → zH → Option ρ => x.xtg (w := false) hcn kr2
  have cg := fun kr : Int → zH → Option ρ => x_cg (kr := kr) x (by decide) hcn hcell (w := false) rfl
  obtain ⟨w, w4, hw, h5, hbuf⟩ := x2.buf
  have docell : ∀ kr : Int → zH → Option ρ, M_doCell ((4 * u + i : Nat) : Int) (m : Int) 114 ((40 * k + p : Nat) : Int) (mh g A) kr = kr 0 (mh g (au (mAC A b (4 * j + m) cn false) 91 (8 * (16 * b + (4 * j + m)) + a) (zsn ((mAC A b (4 * j + m) cn false) 60) (fun k => (mAC A b (4 * j + m) cn false) 98 (4 * (4 * u + i) + k)) (fun k => (mAC A b (4 * j + m) cn false) 99 (4 * (4 * u + i) + k)) (cn : Int) w))) := fun kr => by
    unfold M_doCell
    rw [zix_n x.hy, zix_n x.hy, m_cellOf x.hat (x.j2 (by decide)) x.j3 (x.r8 ha) (x.r8 hb2) x.hm4]
    simp only [reduceIte, Int.reduceEq, or_true, true_or, or_false, false_or, or_self, if_true, if_false]
    rw [ecell, m_isShared, decide_eq_false (by decide), tb_f, if_pos rfl]
    unfold M_doCell_137
    have mac2 : ∀ kr2 : Int → zH → Option ρ, M_access (b : Int) ((4 * j + m : Nat) : Int) (cn : Int) 0 (mh g A) kr2 = kr2 0 (mh g (mAC A b (4 * j + m) cn false)) := mac
    rw [mD94, mD95, x.e94, x.e95, wi2 x.hj4 (Nat.le_of_lt x.hm4), mac2]
    simp only [reduceIte, Int.reduceEq, if_true, if_false]
    rw [zix_n x.hat, m_seen x.hy w4 hw ⟨Int.natCast_nonneg _, Int.ofNat_lt.mpr hcn⟩, mD66, (x2.j2 (by decide)), m_set x2.ml.1 x.hm4 (x.r8 ha)]
    rfl
  have hv : zir (zsn ((mAC A b (4 * j + m) cn false) 60) (fun k => (mAC A b (4 * j + m) cn false) 98 (4 * (4 * u + i) + k)) (fun k => (mAC A b (4 * j + m) cn false) 99 (4 * (4 * u + i) + k)) (cn : Int) w) := zsn_ir (fun j => by have := (x2.q.iv j).1; rw [fg_c (by decide)] at this; exact this) (fun k => by have := (x2.q.iv (4 * (4 * u + i) + k)).2.2.2.2; rw [fg_c (by decide)] at this; exact this) w
  have ev : zsn (zhD (hTG h (bc b) (b / 6) (b % 6) (4 * j + m) cn false) 22 0) (zhD (hTG h (bc b) (b / 6) (b % 6) (4 * j + m) cn false) 43 (gc (4 * b + j))) (zhD (hTG h (bc b) (b / 6) (b % 6) (4 * j + m) cn false) 44 (gc (4 * b + j))) (cn : Int) w = (zsn ((mAC A b (4 * j + m) cn false) 60) (fun k => (mAC A b (4 * j + m) cn false) 98 (4 * (4 * u + i) + k)) (fun k => (mAC A b (4 * j + m) cn false) 99 (4 * (4 * u + i) + k)) (cn : Int) w) := by
    refine zsn_congr ?_ w (fun k hk => ⟨(hbuf k hk).1, (hbuf k hk).2.1⟩)
    rw [Int.toNat_natCast, x2.q.rm.1 cn hcn, fg_c (by decide)]
  refine ⟨zset (hTG h (bc b) (b / 6) (b % 6) (4 * j + m) cn false) 32 (tc (16 * b + (4 * j + m))) a (zsn ((mAC A b (4 * j + m) cn false) 60) (fun k => (mAC A b (4 * j + m) cn false) 98 (4 * (4 * u + i) + k)) (fun k => (mAC A b (4 * j + m) cn false) 99 (4 * (4 * u + i) + k)) (cn : Int) w), au (mAC A b (4 * j + m) cn false) 91 (8 * (16 * b + (4 * j + m)) + a) (zsn ((mAC A b (4 * j + m) cn false) 60) (fun k => (mAC A b (4 * j + m) cn false) 98 (4 * (4 * u + i) + k)) (fun k => (mAC A b (4 * j + m) cn false) 99 (4 * (4 * u + i) + k)) (cn : Int) w), L, le0, fun kr => ?_, fun kr => ?_, ?_, lf.tr (lf_reg (x.r8 ha)) (Nat.le_refl _), fun z => absurd z (by decide), fun z => absurd z (by decide), fun _ => ⟨?_, ?_, ?_⟩⟩
  · rw [cg]
    unfold Co_carryGlobal_34 Co_carryGlobal_131
    rw [zob_n x.bb1, xtg, zob_n x2.i1, x2.i2, if_pos rfl, zob_n x2.i1, zob_0 x2.q.rs.N2, x2.q.rs.D2_0_1, zob_n x2.hG.1, x_seenIn x2.q.rs x2.q.rd x2.hG.1 ⟨Int.natCast_nonneg _, Int.ofNat_lt.mpr hcn⟩ (w := w) w4 h5, ev, zob_n x2.t1, (x2.i3 (by decide)), lc_set x2 ha]
    exact znar_45
  · rw [if_pos (by decide), docell, m_dl0 (ml_reg x2.ml) (by decide)]
    rfl
  · exact (x.rreg x2.q (mAC_c (by decide) (by decide) (by decide)) (mAC_c (by decide) (by decide) (by decide)) (mAC_c (by decide) (by decide) (by decide)) (mAC_c (by decide) (by decide) (by decide)) ha hv).up
  · rw [zD_ne (by decide), hTG_D (by decide) (by decide) (by decide) (fun z => absurd z.1 (by decide))]
  · rw [au_ne (by decide), mAC_c (by decide) (by decide) (by decide)]
  · rw [au_ne (by decide), mAC_c (by decide) (by decide) (by decide)]
theorem lf_mem {cn x9 b9 : Nat} {v v2 : Int} : LF h A (zset h 22 0 cn v) (au A 60 cn v2) b9 x9 L := ⟨fun c hc => au_ne (fun z => by subst z; cases hc), fun c hc l hl => by rw [au_ne (by omega)], fun j hj => by rw [au_ne (by decide)], fun c p j hc => if_neg (fun z => by rw [z.1] at hc; cases hc), fun ii hi => by rw [au_ne (by decide)], fun _ _ _ _ => rfl, Nat.le_refl _, fun _ => rfl⟩
theorem lo_a (x : LC A h K L bc tc gc n B N M u i b j m k p r a b2 d c F) (hc : c = 97) {cn : Nat} (hcn : cn < 64) (hcell : zhD h 24 0 m = (cn : Int)) : LO ρ g A h K L bc tc gc n B N M u i b j m k p r a b2 d c := by
  subst hc
  obtain ⟨-, o1, o2, o3, -⟩ := x.ok
  have ha := (o1 (by decide)).2
  have hb2 := o2 (by decide)
  obtain ⟨bn, rfl⟩ : ∃ q : Nat, b2 = (q : Int) := ⟨b2.toNat, (Int.toNat_of_nonneg hb2.1).symm⟩
  have hb2 := hb2.2
  have hd := o3 (by decide)
  obtain ⟨dn, rfl⟩ : ∃ q : Nat, d = (q : Int) := ⟨d.toNat, (Int.toNat_of_nonneg hd.1).symm⟩
  have hd := hd.2
  clear o1 o2 o3
  have ecell : A 109 (8 * m + bn) = (cn : Int) := by
    have := x.nm
    rw [hcell, if_neg (by decide), zlat_in hb2] at this
    exact this.symm
  obtain ⟨x2, lf⟩ := x.acc (w := false) hcn
  have mac := fun kr2 : Int → zH → Option ρ => x.mac (g := g) (w := false) hcn kr2
  have xtg := fun kr2 : Int → zH → Option ρ => x.xtg (w := false) hcn kr2
  have cg := fun kr : Int → zH → Option ρ => x_cg (kr := kr) x (by decide) hcn hcell (w := false) rfl
  obtain ⟨w, w4, hw, h5, hbuf⟩ := x2.buf
  have s109 : (mAC A b (4 * j + m) cn false) 109 (8 * m + dn) = A 109 (8 * m + dn) := by rw [mAC_c (by decide) (by decide) (by decide)]
  have docell : ∀ kr : Int → zH → Option ρ, M_doCell ((4 * u + i : Nat) : Int) (m : Int) 97 ((40 * k + p : Nat) : Int) (mh g A) kr = kr 0 (mh g (au (au (mAC A b (4 * j + m) cn false) 60 cn (wr ((mAC A b (4 * j + m) cn false) 60 cn + A 109 (8 * m + dn)))) 91 (8 * (16 * b + (4 * j + m)) + a) ((mAC A b (4 * j + m) cn false) 60 cn))) := fun kr => by
    unfold M_doCell
    rw [zix_n x.hy, zix_n x.hy, m_cellOf x.hat (x.j2 (by decide)) x.j3 (x.r8 ha) (x.r8 hb2) x.hm4]
    simp only [reduceIte, Int.reduceEq, or_true, true_or, or_false, false_or, or_self, if_true, if_false]
    rw [ecell, m_isShared, decide_eq_false (by decide), tb_f, if_pos rfl]
    unfold M_doCell_137
    have mac2 : ∀ kr2 : Int → zH → Option ρ, M_access (b : Int) ((4 * j + m : Nat) : Int) (cn : Int) 0 (mh g A) kr2 = kr2 0 (mh g (mAC A b (4 * j + m) cn false)) := mac
    rw [mD94, mD95, x.e94, x.e95, wi2 x.hj4 (Nat.le_of_lt x.hm4), mac2]
    simp only [reduceIte, Int.reduceEq, if_true, if_false]
    have hml : MG (au (mAC A b (4 * j + m) cn false) 60 cn (wr ((mAC A b (4 * j + m) cn false) 60 cn + A 109 (8 * m + dn)))) (4 * u + i) b j := (ml_60 x2.ml).1
    rw [zix_n hcn, zix_n x.hat, mD68, x2.j4, m_lane x.hm4 (x.r8 hd), s109, mD60]
    unfold M_doCell_308 M_doCell_324
    rw [zix_n hcn, zlet_d, mS60, zix_n x.hat, mD66, au_ne (by decide), (x2.j2 (by decide)), m_set hml x.hm4 (x.r8 ha)]
  have hv : zir ((mAC A b (4 * j + m) cn false) 60 cn) := by have := (x2.q.iv cn).1; rw [fg_c (by decide)] at this; exact this
  have hv2 : zir (wr ((mAC A b (4 * j + m) cn false) 60 cn + A 109 (8 * m + dn))) := by exact wr_rng _
  have em : zhD (hTG h (bc b) (b / 6) (b % 6) (4 * j + m) cn false) 22 0 cn = ((mAC A b (4 * j + m) cn false) 60 cn) := by rw [x2.q.rm.1 cn hcn, fg_c (by decide)]
  have q3 := rr_mem (c := cn) x2.q hv2
  rw [fg_au (by decide)] at q3
  refine ⟨zset (zset (hTG h (bc b) (b / 6) (b % 6) (4 * j + m) cn false) 22 0 cn (wr ((mAC A b (4 * j + m) cn false) 60 cn + A 109 (8 * m + dn)))) 32 (tc (16 * b + (4 * j + m))) a ((mAC A b (4 * j + m) cn false) 60 cn), au (au (mAC A b (4 * j + m) cn false) 60 cn (wr ((mAC A b (4 * j + m) cn false) 60 cn + A 109 (8 * m + dn)))) 91 (8 * (16 * b + (4 * j + m)) + a) ((mAC A b (4 * j + m) cn false) 60 cn), L, le0, fun kr => ?_, fun kr => ?_, ?_, (lf.tr lf_mem (Nat.le_refl _)).tr (lf_reg (x.r8 ha)) (Nat.le_refl _), fun z => absurd z (by decide), fun z => absurd z (by decide), fun _ => ⟨?_, ?_, ?_⟩⟩
  · rw [cg]
    unfold Co_carryGlobal_34 Co_carryGlobal_131
    rw [zob_n x.bb1, xtg, zob_n x2.i1, x2.i2, if_neg (by decide), zob_n x2.i1, x2.i2, if_neg (by decide), zob_0 x2.q.rs.N2, x2.q.rs.D2_0_1]
    unfold X_exchange_22 X_exchange_22_36
    have n8 : r < zhN (zset (hTG h (bc b) (b / 6) (b % 6) (4 * j + m) cn false) 22 0 cn (wr ((mAC A b (4 * j + m) cn false) 60 cn + A 109 (8 * m + dn)))) 8 := by rw [zN_set]; exact x2.i1
    have n6 : tc (16 * b + (4 * j + m)) < zhN (zset (hTG h (bc b) (b / 6) (b % 6) (4 * j + m) cn false) 22 0 cn (wr ((mAC A b (4 * j + m) cn false) 60 cn + A 109 (8 * m + dn)))) 6 := by rw [zN_set]; exact x2.t1
    rw [zob_0 x2.q.rs.N22, x2.q.rs.L22_0, zix_n hcn, zob_n x2.i1, zob_n x2.t1, x2.i5, lc_reg x2 hd, s109, zob_n x2.i1, x2.i2, em]
    rw [if_pos rfl, zob_0 x2.q.rs.N22, x2.q.rs.L22_0, zix_n hcn, zlet_d, zob_n n8, zob_n n6, zD_ne (by decide), (x2.i3 (by decide)), x2.setz ha rfl]
    exact znar_45
  · rw [if_pos (by decide), docell, m_dl0 (ml_reg (ml_60 x2.ml)) (by decide)]
    rfl
  · exact (x.rreg q3 ((au_ne (by decide)).trans (mAC_c (by decide) (by decide) (by decide))) ((au_ne (by decide)).trans (mAC_c (by decide) (by decide) (by decide))) ((au_ne (by decide)).trans (mAC_c (by decide) (by decide) (by decide))) ((au_ne (by decide)).trans (mAC_c (by decide) (by decide) (by decide))) ha hv).up
  · rw [zD_ne (by decide), zD_ne (by decide), hTG_D (by decide) (by decide) (by decide) (fun z => absurd z.1 (by decide))]
  · rw [au_ne (by decide), au_ne (by decide), mAC_c (by decide) (by decide) (by decide)]
  · rw [au_ne (by decide), au_ne (by decide), mAC_c (by decide) (by decide) (by decide)]
theorem lo_x (x : LC A h K L bc tc gc n B N M u i b j m k p r a b2 d c F) (hc : c = 120) {cn : Nat} (hcn : cn < 64) (hcell : zhD h 24 0 m = (cn : Int)) : LO ρ g A h K L bc tc gc n B N M u i b j m k p r a b2 d c := by
  subst hc
  obtain ⟨-, o1, o2, o3, -⟩ := x.ok
  have ha := (o1 (by decide)).2
  have hb2 := o2 (by decide)
  obtain ⟨bn, rfl⟩ : ∃ q : Nat, b2 = (q : Int) := ⟨b2.toNat, (Int.toNat_of_nonneg hb2.1).symm⟩
  have hb2 := hb2.2
  have hd := o3 (by decide)
  obtain ⟨dn, rfl⟩ : ∃ q : Nat, d = (q : Int) := ⟨d.toNat, (Int.toNat_of_nonneg hd.1).symm⟩
  have hd := hd.2
  clear o1 o2 o3
  have ecell : A 109 (8 * m + bn) = (cn : Int) := by
    have := x.nm
    rw [hcell, if_neg (by decide), zlat_in hb2] at this
    exact this.symm
  obtain ⟨x2, lf⟩ := x.acc (w := false) hcn
  have mac := fun kr2 : Int → zH → Option ρ => x.mac (g := g) (w := false) hcn kr2
  have xtg := fun kr2 : Int → zH → Option ρ => x.xtg (w := false) hcn kr2
  have cg := fun kr : Int → zH → Option ρ => x_cg (kr := kr) x (by decide) hcn hcell (w := false) rfl
  obtain ⟨w, w4, hw, h5, hbuf⟩ := x2.buf
  have s109 : (mAC A b (4 * j + m) cn false) 109 (8 * m + dn) = A 109 (8 * m + dn) := by rw [mAC_c (by decide) (by decide) (by decide)]
  have docell : ∀ kr : Int → zH → Option ρ, M_doCell ((4 * u + i : Nat) : Int) (m : Int) 120 ((40 * k + p : Nat) : Int) (mh g A) kr = kr 0 (mh g (au (au (mAC A b (4 * j + m) cn false) 60 cn (A 109 (8 * m + dn))) 91 (8 * (16 * b + (4 * j + m)) + a) ((mAC A b (4 * j + m) cn false) 60 cn))) := fun kr => by
    unfold M_doCell
    rw [zix_n x.hy, zix_n x.hy, m_cellOf x.hat (x.j2 (by decide)) x.j3 (x.r8 ha) (x.r8 hb2) x.hm4]
    simp only [reduceIte, Int.reduceEq, or_true, true_or, or_false, false_or, or_self, if_true, if_false]
    rw [ecell, m_isShared, decide_eq_false (by decide), tb_f, if_pos rfl]
    unfold M_doCell_137
    have mac2 : ∀ kr2 : Int → zH → Option ρ, M_access (b : Int) ((4 * j + m : Nat) : Int) (cn : Int) 0 (mh g A) kr2 = kr2 0 (mh g (mAC A b (4 * j + m) cn false)) := mac
    rw [mD94, mD95, x.e94, x.e95, wi2 x.hj4 (Nat.le_of_lt x.hm4), mac2]
    simp only [reduceIte, Int.reduceEq, if_true, if_false]
    have hml : MG (au (mAC A b (4 * j + m) cn false) 60 cn (A 109 (8 * m + dn))) (4 * u + i) b j := (ml_60 x2.ml).1
    rw [zix_n hcn, zix_n x.hat, mD68, x2.j4, m_lane x.hm4 (x.r8 hd), s109, mD60]
    unfold M_doCell_308 M_doCell_324
    rw [zix_n hcn, zlet_d, mS60, zix_n x.hat, mD66, au_ne (by decide), (x2.j2 (by decide)), m_set hml x.hm4 (x.r8 ha)]
  have hv : zir ((mAC A b (4 * j + m) cn false) 60 cn) := by have := (x2.q.iv cn).1; rw [fg_c (by decide)] at this; exact this
  have hv2 : zir (A 109 (8 * m + dn)) := by exact x.wz _ (x.q32 hd x.hm4)
  have em : zhD (hTG h (bc b) (b / 6) (b % 6) (4 * j + m) cn false) 22 0 cn = ((mAC A b (4 * j + m) cn false) 60 cn) := by rw [x2.q.rm.1 cn hcn, fg_c (by decide)]
  have q3 := rr_mem (c := cn) x2.q hv2
  rw [fg_au (by decide)] at q3
  refine ⟨zset (zset (hTG h (bc b) (b / 6) (b % 6) (4 * j + m) cn false) 22 0 cn (A 109 (8 * m + dn))) 32 (tc (16 * b + (4 * j + m))) a ((mAC A b (4 * j + m) cn false) 60 cn), au (au (mAC A b (4 * j + m) cn false) 60 cn (A 109 (8 * m + dn))) 91 (8 * (16 * b + (4 * j + m)) + a) ((mAC A b (4 * j + m) cn false) 60 cn), L, le0, fun kr => ?_, fun kr => ?_, ?_, (lf.tr lf_mem (Nat.le_refl _)).tr (lf_reg (x.r8 ha)) (Nat.le_refl _), fun z => absurd z (by decide), fun z => absurd z (by decide), fun _ => ⟨?_, ?_, ?_⟩⟩
  · rw [cg]
    unfold Co_carryGlobal_34 Co_carryGlobal_131
    rw [zob_n x.bb1, xtg, zob_n x2.i1, x2.i2, if_neg (by decide), zob_n x2.i1, x2.i2, if_neg (by decide), zob_0 x2.q.rs.N2, x2.q.rs.D2_0_1]
    unfold X_exchange_22 X_exchange_22_36
    have n8 : r < zhN (zset (hTG h (bc b) (b / 6) (b % 6) (4 * j + m) cn false) 22 0 cn (A 109 (8 * m + dn))) 8 := by rw [zN_set]; exact x2.i1
    have n6 : tc (16 * b + (4 * j + m)) < zhN (zset (hTG h (bc b) (b / 6) (b % 6) (4 * j + m) cn false) 22 0 cn (A 109 (8 * m + dn))) 6 := by rw [zN_set]; exact x2.t1
    rw [zob_0 x2.q.rs.N22, x2.q.rs.L22_0, zix_n hcn, zob_n x2.i1, zob_n x2.t1, x2.i5, lc_reg x2 hd, s109, zob_n x2.i1, x2.i2, em]
    rw [if_neg (by decide), zob_0 x2.q.rs.N22, x2.q.rs.L22_0, zix_n hcn, zlet_d, zob_n n8, zob_n n6, zD_ne (by decide), (x2.i3 (by decide)), x2.setz ha rfl]
    exact znar_45
  · rw [if_pos (by decide), docell, m_dl0 (ml_reg (ml_60 x2.ml)) (by decide)]
    rfl
  · exact (x.rreg q3 ((au_ne (by decide)).trans (mAC_c (by decide) (by decide) (by decide))) ((au_ne (by decide)).trans (mAC_c (by decide) (by decide) (by decide))) ((au_ne (by decide)).trans (mAC_c (by decide) (by decide) (by decide))) ((au_ne (by decide)).trans (mAC_c (by decide) (by decide) (by decide))) ha hv).up
  · rw [zD_ne (by decide), zD_ne (by decide), hTG_D (by decide) (by decide) (by decide) (fun z => absurd z.1 (by decide))]
  · rw [au_ne (by decide), au_ne (by decide), mAC_c (by decide) (by decide) (by decide)]
  · rw [au_ne (by decide), au_ne (by decide), mAC_c (by decide) (by decide) (by decide)]
end
