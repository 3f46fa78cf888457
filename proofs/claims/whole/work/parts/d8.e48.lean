/-! LANES: shared cells -/
section
variable {ρ : Type} {h g : zH} {A B : zA} {kr : Int → zH → Option ρ} {K L n : Nat} {bc tc gc : Nat → Nat} {N M : Int} {u i b j m k p r a : Nat} {b2 d c : Int} {F : Nat → Bool}
theorem lf_acs {bb x l t c9 : Nat} {w : Bool} : LF h A (hTS h bb l t c9 w) (mAS A b t c9 w) b x L := by
  refine ⟨fun c2 hc => mAS_c (fun z => by subst z; cases hc) (fun z => by subst z; cases hc) (fun z => by subst z; cases hc), fun c2 hc l2 hl => by rw [mAS_c (by omega) (by omega) (by omega)], fun j hj => by rw [mAS_c (by decide) (by decide) (by decide)], fun c2 p j hc => ?_, fun i hi => by rw [mAS_c (by decide) (by decide) (by decide)], fun c2 _ _ _ => by rw [hTS_N], by rw [hTS_N]; exact Nat.le_refl _, fun p => by rw [hTS_L]⟩
  exact hTS_D (fun z => by subst z; cases hc) (fun z => by subst z; cases hc) (fun z => by rw [z.1, z.2] at hc; cases hc)
theorem LC.sh62 (x : LC A h K L bc tc gc n B N M u i b j m k p r a b2 d c F) {cn : Nat} (hcn : (cn : Int) < A 62 k) : (cn : Int) < A 62 (A 70 (b / 6)).toNat ∧ cn < 16 ∧ (zhL h 38 (bc b) : Int) = A 62 k ∧ zhD h 10 (bc b) 4 = (bc b : Int) ∧ bc b < zhN h 38 ∧ 16 * b + cn < 1152 := by
  have hb := x.hb
  have h70 := x.h70
  have k62 := x.kk.2.2.2.1
  obtain ⟨-, -, -, -, -, e6⟩ := x.q.bh.1 b hb x.hin
  obtain ⟨-, -, n38, -, -, -, d⟩ := x.q.rd.2.2.2.1
  obtain ⟨-, -, d4, -⟩ := d (bc b) x.bb1
  have e6' : (zhL h 38 (bc b) : Int) = A 62 (A 70 (b / 6)).toNat := e6
  rw [h70, Int.toNat_natCast] at e6' ⊢
  refine ⟨hcn, by omega, e6', d4, by rw [n38]; exact x.bb1, by omega⟩
theorem LC.acs (x : LC A h K L bc tc gc n B N M u i b j m k p r a b2 d c F) {cn : Nat} {w : Bool} (hcn : (cn : Int) < A 62 k) : LC (mAS A b (4 * j + m) cn w) (hTS h (bc b) (b / 6) (4 * j + m) cn w) K L bc tc gc n B N M u i b j m k p r a b2 d c F ∧ LF h A (hTS h (bc b) (b / 6) (4 * j + m) cn w) (mAS A b (4 * j + m) cn w) b (16 * b + (4 * j + m)) L := by
  have q2 := rr_acs (w := w) x.q x.hb x.hin x.hlt (x.sh62 hcn).1
  rw [fg_acs] at q2
  have lf := lf_acs (h := h) (A := A) (L := L) (bb := bc b) (b := b) (x := (16 * b + (4 * j + m))) (l := b / 6) (t := 4 * j + m) (c9 := cn) (w := w)
  exact ⟨x.mv q2 lf (mAS_c (by decide) (by decide) (by decide)) (hTS_D (by decide) (by decide) (fun z => absurd z.1 (by decide))) (by rw [mAS_c (by decide) (by decide) (by decide)]), lf⟩
theorem LC.xts (x : LC A h K L bc tc gc n B N M u i b j m k p r a b2 d c F) {cn : Nat} {w : Bool} (hcn : (cn : Int) < A 62 k) : ∀ kr2 : Int → zH → Option ρ, Bl_touchShared (bc b : Int) ((4 * j + m : Nat) : Int) (cn : Int) (tb w) h kr2 = kr2 0 (hTS h (bc b) (b / 6) (4 * j + m) cn w) := fun kr2 => by
  obtain ⟨⟨bb1, bb2, bb3⟩, ⟨hbL, bb4⟩, -, -, -, crc, -⟩ := lc_b x
  obtain ⟨-, -, s3, -⟩ := x.sh62 hcn
  exact x_touchShared x.q.rd bb1 bb2 bb4 (by omega) x.ht crc.1 (by omega)
theorem LC.mas (x : LC A h K L bc tc gc n B N M u i b j m k p r a b2 d c F) {cn : Nat} {w : Bool} (hcn : (cn : Int) < A 62 k) : ∀ kr2 : Int → zH → Option ρ, M_accessShared (b : Int) ((4 * j + m : Nat) : Int) (cn : Int) (tb w) (mh g A) kr2 = kr2 0 (mh g (mAS A b (4 * j + m) cn w)) := fun kr2 => by
  obtain ⟨-, -, c73, c72, c86, -, -, c108⟩ := lc_b x
  have s2 := (x.sh62 hcn).2.1
  exact m_accessShared x.hb x.ht s2 ⟨by omega, c73.2⟩ c86 (c108 cn s2)
theorem x_cs (x : LC A h K L bc tc gc n B N M u i b j m k p r a b2 d c F) (hc : c = 82 ∨ c = 87) {cn : Nat} (hcn : (cn : Int) < A 62 k) (hcell : zhD h 24 0 m = (cn : Int)) {w : Bool} (hw : w = decide (c = 87)) : Co_carryLane 0 (gc (4 * b + j) : Int) (m : Int) (tc (16 * b + (4 * j + m)) : Int) (r : Int) h kr = Co_carryShared_31 (fun v h39 => znar 2 v fun x40 => kr x40 h39) (bc b : Int) (cn : Int) (tc (16 * b + (4 * j + m)) : Int) (r : Int) (tb w) (cn : Int) ((4 * j + m : Nat) : Int) (bc b : Int) h := by
  obtain ⟨-, -, -, -, -, -, -, -, z2, z3⟩ := zone_all c
  have s1 := (x.sh62 hcn).1
  have f62 : ((fg u b j A) 62 ((fg u b j A) 70 (b / 6)).toNat) = A 62 k := by rw [fg_c (by decide), fg_c (by decide), x.h70, Int.toNat_natCast]
  unfold Co_carryLane Co_carryShared
  rw [zob_n x.i1, x_isOneOf (s := 2) rfl x.i1, x.i2, z2, decide_eq_false (by omega), tb_f, if_pos rfl, zob_n x.i1, x_isOneOf (s := 3) rfl x.i1, x.i2, z3, decide_eq_true hc, tb_t, if_neg (by decide), zob_n x.hG.1, zob_0 x.q.rs.N2, x.q.rs.D2_0_6, zob_0 x.q.rs.N24, x.q.rs.L24_0, zix_n x.hm4, hcell, x.g0, zob_n x.bb1, x_hasShared x.q x.hb x.hin, f62, zwi_lt hcn, tb_t, if_neg (by decide), zob_n x.t1, zob_n x.i1, x.i2, x.t3]
  by_cases h9 : c = 87
  · rw [if_pos h9, hw, decide_eq_true h9, tb_t]
  · rw [if_neg h9, hw, decide_eq_false h9, tb_f]
theorem hTS_38 {b2 l t c : Nat} {w : Bool} {p j : Nat} : zhD (hTS h b2 l t c w) 38 p j = zhD h 38 p j := hTS_D (by decide) (by decide) (fun z => absurd z.1 (by decide))
theorem ml_92 {y x7 : Nat} {v : Int} (x : ML A y b j m k p) : ML (au A 92 x7 v) y b j m k p := x
theorem lf_shr {x9 p9 j9 x7 : Nat} {v v2 : Int} : LF h A (zset h 38 p9 j9 v) (au A 92 x7 v2) b x9 L := ⟨fun c hc => au_ne (fun z => by subst z; cases hc), fun c hc l hl => by rw [au_ne (by omega)], fun j hj => by rw [au_ne (by decide)], fun c p j hc => if_neg (fun z => by rw [z.1] at hc; cases hc), fun ii hi => by rw [au_ne (by decide)], fun _ _ _ _ => rfl, Nat.le_refl _, fun _ => rfl⟩
theorem wr_y16 {b c : Nat} (hb : b < 72) (hc : c < 16) : wr (wr (16 * (b : Int)) + (c : Int)) = ((16 * b + c : Nat) : Int) ∧ 16 * b + c < 1152 := by
  rw [wr_id (x := 16 * (b : Int)) (by omega) (by omega), wr_id (by omega) (by omega)]
  omega
theorem lo_R (x : LC A h K L bc tc gc n B N M u i b j m k p r a b2 d c F) (hc : c = 82) {cn : Nat} (hcn : (cn : Int) < A 62 k) (hcell : zhD h 24 0 m = (cn : Int)) : LO ρ g A h K L bc tc gc n B N M u i b j m k p r a b2 d c := by
  subst hc
  obtain ⟨-, o1, o2, -⟩ := x.ok
  have ha := (o1 (by decide)).2
  have hb2 := o2 (by decide)
  obtain ⟨bn, rfl⟩ : ∃ q : Nat, b2 = (q : Int) := ⟨b2.toNat, (Int.toNat_of_nonneg hb2.1).symm⟩
  have hb2 := hb2.2
  clear o1 o2
  have ecell : A 109 (8 * m + bn) = (cn : Int) := by
    have := x.nm
    rw [hcell, if_neg (by decide), zlat_in hb2] at this
    exact this.symm
  obtain ⟨x2, lf⟩ := x.acs (w := false) hcn
  obtain ⟨s1, s2, s3, s4, s5, s6⟩ := x.sh62 hcn
  have hcn2 : (cn : Int) < (mAS A b (4 * j + m) cn false) 62 k := by rw [mAS_c (by decide) (by decide) (by decide)]; exact hcn
  obtain ⟨s1', -, s3', s4', s5', -⟩ := x2.sh62 hcn2
  have l38 : cn < zhL (hTS h (bc b) (b / 6) (4 * j + m) cn false) 38 (bc b) := by rw [← Int.ofNat_lt, s3']; exact hcn2
  have mas : ∀ kr2 : Int → zH → Option ρ, M_accessShared (b : Int) ((4 * j + m : Nat) : Int) (cn : Int) 0 (mh g A) kr2 = kr2 0 (mh g (mAS A b (4 * j + m) cn false)) := x.mas (w := false) hcn
  have xts := fun kr2 : Int → zH → Option ρ => x.xts (w := false) hcn kr2
  have cg := fun kr : Int → zH → Option ρ => x_cs (kr := kr) x (by decide) hcn hcell (w := false) rfl
  have e16 := (wr_y16 x.hb s2).1
  have s109 : (mAS A b (4 * j + m) cn false) 109 (8 * m + bn) = A 109 (8 * m + bn) := by rw [mAS_c (by decide) (by decide) (by decide)]
  have docell : ∀ kr : Int → zH → Option ρ, M_doCell ((4 * u + i : Nat) : Int) (m : Int) 82 ((40 * k + p : Nat) : Int) (mh g A) kr = kr 0 (mh g (au (mAS A b (4 * j + m) cn false) 91 (8 * (16 * b + (4 * j + m)) + a) ((mAS A b (4 * j + m) cn false) 92 (16 * b + cn)))) := fun kr => by
    unfold M_doCell
    rw [zix_n x.hy, zix_n x.hy, m_cellOf x.hat (x.j2 (by decide)) x.j3 (x.r8 ha) (x.r8 hb2) x.hm4]
    simp only [reduceIte, Int.reduceEq, or_true, true_or, or_false, false_or, or_self, if_true, if_false]
    rw [ecell, m_isShared, decide_eq_true (by decide), tb_t, if_neg (by decide)]
    unfold M_doCell_55 M_doCell_118
    rw [mD94, mD95, x.e94, x.e95, wi2 x.hj4 (Nat.le_of_lt x.hm4), mas]
    simp only [reduceIte, Int.reduceEq, if_true, if_false]
    rw [zix_n x.hat, e16, zix_n s6, mD66, mD92, (x2.j2 (by decide)), m_set x2.ml.1 x.hm4 (x.r8 ha)]
  have hv : zir ((mAS A b (4 * j + m) cn false) 92 (16 * b + cn)) := by have := (x2.q.iv (16 * b + cn)).2.2.2.1; rw [fg_c (by decide)] at this; exact this
  have ev : zhD (hTS h (bc b) (b / 6) (4 * j + m) cn false) 38 (bc b) cn = ((mAS A b (4 * j + m) cn false) 92 (16 * b + cn)) := by
    have := x2.q.sh b x.hb x2.hin cn (by rw [fg_c (by decide), fg_c (by decide)]; exact s1')
    rw [fg_c (by decide)] at this
    exact this
  refine ⟨zset (hTS h (bc b) (b / 6) (4 * j + m) cn false) 32 (tc (16 * b + (4 * j + m))) a ((mAS A b (4 * j + m) cn false) 92 (16 * b + cn)), au (mAS A b (4 * j + m) cn false) 91 (8 * (16 * b + (4 * j + m)) + a) ((mAS A b (4 * j + m) cn false) 92 (16 * b + cn)), L, le0, fun kr => ?_, fun kr => ?_, ?_, lf.tr (lf_reg (x.r8 ha)) (Nat.le_refl _), fun z => absurd z (by decide), fun z => absurd z (by decide), fun _ => ⟨?_, ?_, ?_⟩⟩
  · rw [cg]
    unfold Co_carryShared_31 Co_carryShared_74
    rw [zob_n x.bb1, xts, zob_n x2.i1, x2.i2, if_pos rfl, zob_n x2.i1, zob_n x2.bb1, s4', zob_n s5', zix_n l38, zob_n x2.t1, (x2.i3 (by decide)), ev, lc_set x2 ha]
    exact znar_45
  · rw [if_pos (by decide), docell, m_dl0 (ml_reg x2.ml) (by decide)]
    rfl
  · exact (x.rreg x2.q (mAS_c (by decide) (by decide) (by decide)) (mAS_c (by decide) (by decide) (by decide)) (mAS_c (by decide) (by decide) (by decide)) (mAS_c (by decide) (by decide) (by decide)) ha hv).up
  · rw [zD_ne (by decide), hTS_D (by decide) (by decide) (fun z => absurd z.1 (by decide))]
  · rw [au_ne (by decide), mAS_c (by decide) (by decide) (by decide)]
  · rw [au_ne (by decide), mAS_c (by decide) (by decide) (by decide)]
theorem lo_W (x : LC A h K L bc tc gc n B N M u i b j m k p r a b2 d c F) (hc : c = 87) {cn : Nat} (hcn : (cn : Int) < A 62 k) (hcell : zhD h 24 0 m = (cn : Int)) : LO ρ g A h K L bc tc gc n B N M u i b j m k p r a b2 d c := by
  subst hc
  obtain ⟨-, o1, o2, -⟩ := x.ok
  have ha := (o1 (by decide)).2
  have hb2 := o2 (by decide)
  obtain ⟨bn, rfl⟩ : ∃ q : Nat, b2 = (q : Int) := ⟨b2.toNat, (Int.toNat_of_nonneg hb2.1).symm⟩
  have hb2 := hb2.2
  clear o1 o2
  have ecell : A 109 (8 * m + a) = (cn : Int) := by
    have := x.nm
    rw [hcell, if_pos (by decide), zlat_in ha] at this
    exact this.symm
  obtain ⟨x2, lf⟩ := x.acs (w := true) hcn
  obtain ⟨s1, s2, s3, s4, s5, s6⟩ := x.sh62 hcn
  have hcn2 : (cn : Int) < (mAS A b (4 * j + m) cn true) 62 k := by rw [mAS_c (by decide) (by decide) (by decide)]; exact hcn
  obtain ⟨s1', -, s3', s4', s5', -⟩ := x2.sh62 hcn2
  have l38 : cn < zhL (hTS h (bc b) (b / 6) (4 * j + m) cn true) 38 (bc b) := by rw [← Int.ofNat_lt, s3']; exact hcn2
  have mas : ∀ kr2 : Int → zH → Option ρ, M_accessShared (b : Int) ((4 * j + m : Nat) : Int) (cn : Int) 1 (mh g A) kr2 = kr2 0 (mh g (mAS A b (4 * j + m) cn true)) := x.mas (w := true) hcn
  have xts := fun kr2 : Int → zH → Option ρ => x.xts (w := true) hcn kr2
  have cg := fun kr : Int → zH → Option ρ => x_cs (kr := kr) x (by decide) hcn hcell (w := true) rfl
  have e16 := (wr_y16 x.hb s2).1
  have s109 : (mAS A b (4 * j + m) cn true) 109 (8 * m + bn) = A 109 (8 * m + bn) := by rw [mAS_c (by decide) (by decide) (by decide)]
  have docell : ∀ kr : Int → zH → Option ρ, M_doCell ((4 * u + i : Nat) : Int) (m : Int) 87 ((40 * k + p : Nat) : Int) (mh g A) kr = kr 0 (mh g (au (mAS A b (4 * j + m) cn true) 92 (16 * b + cn) (A 109 (8 * m + bn)))) := fun kr => by
    unfold M_doCell
    rw [zix_n x.hy, zix_n x.hy, m_cellOf x.hat (x.j2 (by decide)) x.j3 (x.r8 ha) (x.r8 hb2) x.hm4]
    simp only [reduceIte, Int.reduceEq, or_true, true_or, or_false, false_or, or_self, if_true, if_false]
    rw [ecell, m_isShared, decide_eq_true (by decide), tb_t, if_neg (by decide)]
    unfold M_doCell_55 M_doCell_118
    rw [mD94, mD95, x.e94, x.e95, wi2 x.hj4 (Nat.le_of_lt x.hm4), mas]
    simp only [reduceIte, Int.reduceEq, if_true, if_false]
    rw [zix_n x.hat, mD67, x2.j3, m_lane x.hm4 (x.r8 hb2), e16, zix_n s6, zlet_d, mS92, s109]
  have hv : zir (A 109 (8 * m + bn)) := x.wz _ (x.q32 hb2 x.hm4)
  have q3 := rr_shr x2.q x.hb x2.hin (by rw [fg_c (by decide), fg_c (by decide)]; exact s1') hv
  rw [fg_au (by decide)] at q3
  have r2 := fun kr2 : Int → zH → Option ρ => lc_reg x2 hb2 kr2
  rw [s109] at r2
  refine ⟨zset (hTS h (bc b) (b / 6) (4 * j + m) cn true) 38 (bc b) cn (A 109 (8 * m + bn)), au (mAS A b (4 * j + m) cn true) 92 (16 * b + cn) (A 109 (8 * m + bn)), L, le0, fun kr => ?_, fun kr => ?_, q3.up, lf.tr lf_shr (Nat.le_refl _), fun z => absurd z (by decide), fun z => absurd z (by decide), fun _ => ⟨?_, ?_, ?_⟩⟩
  · rw [cg]
    unfold Co_carryShared_31 Co_carryShared_74
    rw [zob_n x.bb1, xts, zob_n x2.i1, x2.i2, if_neg (by decide), zob_n x2.bb1, zob_n x2.i1, zob_n x2.t1, x2.i4, r2, s4', zob_n s5', zix_n l38, zlet_d]
    exact znar_45
  · rw [if_pos (by decide), docell, m_dl0 (ml_92 x2.ml) (by decide)]
    rfl
  · rw [zD_ne (by decide), hTS_D (by decide) (by decide) (fun z => absurd z.1 (by decide))]
  · rw [au_ne (by decide), mAS_c (by decide) (by decide) (by decide)]
  · rw [au_ne (by decide), mAS_c (by decide) (by decide) (by decide)]
end
