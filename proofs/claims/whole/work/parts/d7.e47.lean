/-! LANES: writes -/
section
variable {ρ : Type} {h g : zH} {A B : zA} {kr : Int → zH → Option ρ} {K L n : Nat} {bc tc gc : Nat → Nat} {N M : Int} {u i b j m k p r a : Nat} {b2 d c : Int} {F : Nat → Bool}
theorem wr_y4 {y w : Nat} (hy : y < 8) (hw : w < 4) : wr (wr (4 * (y : Int)) + (w : Int)) = ((4 * y + w : Nat) : Int) ∧ 4 * y + w < 32 ∧ wr ((w : Int) + 1) = (w : Int) + 1 := by
  rw [wr_id (x := 4 * (y : Int)) (by omega) (by omega), wr_id (by omega) (by omega), wr_id (by omega) (by omega)]
  omega
theorem m_d200 {AA : zA} {y w9 cn bn : Nat} {vv : Int} (hy : y < 8) (hat : 40 * k + p < 160) (hm : m < 4) (hb8 : bn < 8) (h9 : w9 < 4) (e97 : AA 97 y = (w9 : Int)) (e67 : AA 67 (40 * k + p) = (bn : Int)) (e109 : AA 109 (8 * m + bn) = vv) : M_doCell_200 kr (y : Int) (m : Int) ((40 * k + p : Nat) : Int) (cn : Int) (mh g AA) = kr 0 (mh g (au (au (au AA 98 (4 * y + w9) (cn : Int)) 99 (4 * y + w9) vv) 97 y ((w9 : Int) + 1))) := by
  obtain ⟨ww, l32, w9'⟩ := wr_y4 hy h9
  have q97 : ∀ z zz, au (au AA 98 (4 * y + w9) z) 99 (4 * y + w9) zz 97 y = (w9 : Int) := fun z zz => by rw [au_ne (by decide), au_ne (by decide)]; exact e97
  have q97b : ∀ z, au AA 98 (4 * y + w9) z 97 y = (w9 : Int) := fun z => by rw [au_ne (by decide)]; exact e97
  have q67 : ∀ z, au AA 98 (4 * y + w9) z 67 (40 * k + p) = (bn : Int) := fun z => by rw [au_ne (by decide)]; exact e67
  have q109 : ∀ z, au AA 98 (4 * y + w9) z 109 (8 * m + bn) = vv := fun z => by rw [au_ne (by decide)]; exact e109
  unfold M_doCell_200 M_doCell_324
  rw [zix_n hy, mD97, e97, ww, zix_n l32, zlet_d, mS98, zix_n hy, zix_n hat, mD67, q67, m_lane hm hb8, q109, mD97, q97b, ww, zix_n l32, zlet_d, mS99, zix_n hy, zix_n hy, mD97, q97, w9', zlet_d, mS97]
theorem LC.d34 (x : LC A h K L bc tc gc n B N M u i b j m k p r a b2 d c F) {H : zH} {w9 bn cn : Nat} (hb2 : (bn : Int) < A 61 k) (eb : b2 = (bn : Int)) (qd : RD H) (h9 : w9 < 4) (eN : zhN H = zhN h) (eL : zhL H = zhL h) (e5 : zhD H 11 (gc (4 * b + j)) 5 = (w9 : Int)) (e8 : zhD H 8 = zhD h 8) (e32 : zhD H 32 (tc (16 * b + (4 * j + m))) bn = zhD h 32 (tc (16 * b + (4 * j + m))) bn) : Co_carryGlobal_103 kr (gc (4 * b + j) : Int) (cn : Int) (tc (16 * b + (4 * j + m)) : Int) (r : Int) H = kr 45 (hPW H (gc (4 * b + j)) w9 (cn : Int) (A 109 (8 * m + bn))) := by
  have n8 : r < zhN H 8 := by rw [eN]; exact x.i1
  have n6 : tc (16 * b + (4 * j + m)) < zhN H 6 := by rw [eN]; exact x.t1
  have n11 : gc (4 * b + j) < zhN H 11 := by rw [eN]; exact x.hG.1
  have tl := (lc_th x).2.1
  unfold Co_carryGlobal_103 Co_carryGlobal_131
  rw [zob_n n8, zob_n n6, e8, x.i4, eb, x_at qd n6, eL, if_pos (zwi_lt (by rw [tl]; exact hb2)), Int.toNat_natCast, e32, (lc_th x).2.2.2.2.2 bn hb2, zob_n n11, x_putWrite qd n11 h9 e5]
theorem ml_w {y : Nat} {A1 : zA} {v1 v2 v3 : Int} {x1 x2 x3 : Nat} (x : ML A y b j m k p) (h1 : A1 94 = A 94) (h2 : A1 95 = A 95) (h3 : A1 73 = A 73) (h4 : A1 70 = A 70) (h5 : A1 90 = A 90) : ML (au (au (au A1 98 x1 v1) 99 x2 v2) 97 x3 v3) y b j m k p := by
  obtain ⟨⟨y1, y2, y3, y4, y5, y6, y7⟩, m1, m2, m3, m4, m5, m6⟩ := x
  have n : ∀ c j, c ≠ 97 → c ≠ 98 → c ≠ 99 → au (au (au A1 98 x1 v1) 99 x2 v2) 97 x3 v3 c j = A1 c j := fun c j a1 a2 a3 => by rw [au_ne a1, au_ne a3, au_ne a2]
  exact ⟨⟨y1, y2, y3, by rw [n _ _ (by decide) (by decide) (by decide), h1]; exact y4, by rw [n _ _ (by decide) (by decide) (by decide), h2]; exact y5, by rw [n _ _ (by decide) (by decide) (by decide), h3]; exact y6, by rw [n _ _ (by decide) (by decide) (by decide), h3]; exact y7⟩, m1, by rw [n _ _ (by decide) (by decide) (by decide), h3]; exact m2, by rw [n _ _ (by decide) (by decide) (by decide), h4]; exact m3, m4, by rw [n _ _ (by decide) (by decide) (by decide), h5]; exact m5, m6⟩
theorem lf_65 {b9 xx : Nat} {v v2 : Int} : LF h A (zset h 2 0 10 v) (au A 12 65 v2) b9 xx L := ⟨fun c hc => au_ne (fun z => by subst z; cases hc), fun c hc l hl => by rw [au_ne (by omega)], fun j hj => by rw [au_j, if_neg (fun z => by subst z; cases hj)], fun c p j hc => if_neg (fun z => by rw [z.1, z.2.2] at hc; cases hc), fun ii hi => by rw [au_ne (by decide)], fun _ _ _ _ => rfl, Nat.le_refl _, fun _ => rfl⟩
theorem lf_pw {b9 xx G w9 x1 x2 x3 : Nat} {cc vv v3 : Int} : LF h A (hPW h G w9 cc vv) (au (au (au A 98 x1 cc) 99 x2 vv) 97 x3 v3) b9 xx L := by
  refine ⟨fun c hc => ?_, fun c hc l hl => ?_, fun j hj => ?_, fun c p j hc => ?_, fun ii hi => ?_, fun _ _ _ _ => rfl, Nat.le_refl _, fun _ => rfl⟩
  · rw [au_ne (fun z => by subst z; cases hc), au_ne (fun z => by subst z; cases hc), au_ne (fun z => by subst z; cases hc)]
  · rw [au_ne (by omega), au_ne (by omega), au_ne (by omega)]
  · rw [au_ne (by decide), au_ne (by decide), au_ne (by decide)]
  · unfold hPW
    have h1 : ¬ (c = 11 ∧ p = G ∧ j = 5) := fun z => by rw [z.1] at hc; cases hc
    rw [zD_set, if_neg h1, zD_ne (fun z => by subst z; cases hc), zD_ne (fun z => by subst z; cases hc)]
  · rw [au_ne (by decide), au_ne (by decide), au_ne (by decide)]
theorem pw_65 {G w9 x1 x2 x3 : Nat} {cc vv v3 : Int} : zhD (hPW h G w9 cc vv) 2 0 10 = zhD h 2 0 10 ∧ au (au (au A 98 x1 cc) 99 x2 vv) 97 x3 v3 12 65 = A 12 65 := by
  unfold hPW
  rw [zD_ne (by decide), zD_ne (by decide), zD_ne (by decide), au_ne (by decide), au_ne (by decide), au_ne (by decide)]
  exact ⟨rfl, rfl⟩
theorem hTG_10 {b2 l k t c : Nat} {w : Bool} : zhD (hTG h b2 l k t c w) 2 0 10 = zhD h 2 0 10 := hTG_D (by decide) (by decide) (by decide) (fun z => absurd z.1 (by decide))
theorem hWF_N {G : Nat} : zhN (hWF h G) = zhN h := rfl
theorem hWF_L {G : Nat} : zhL (hWF h G) = zhL h := rfl
theorem hWF_o2 {G c p q : Nat} (h1 : c ≠ 43) (h2 : c ≠ 44) (h4 : c ≠ 11) (h3 : c ≠ 22) : zhD (hWF h G) c p q = zhD h c p q := hWF_o (fun z => z.1.elim h1 h2) (fun z => h4 z.1) h3
theorem lo_w (x : LC A h K L bc tc gc n B N M u i b j m k p r a b2 d c F) (hc : c = 119) {cn : Nat} (hcn : cn < 64) (hcell : zhD h 24 0 m = (cn : Int)) : LO ρ g A h K L bc tc gc n B N M u i b j m k p r a b2 d c := by
  subst hc
  obtain ⟨-, o1, o2, o3, -⟩ := x.ok
  have ha := (o1 (by decide)).2
  have hb2 := o2 (by decide)
  obtain ⟨bn, rfl⟩ : ∃ q : Nat, b2 = (q : Int) := ⟨b2.toNat, (Int.toNat_of_nonneg hb2.1).symm⟩
  have hb2 := hb2.2
  clear o1 o2 o3
  have ecell : A 109 (8 * m + a) = (cn : Int) := by
    have := x.nm
    rw [hcell, if_pos (by decide), zlat_in ha] at this
    exact this.symm
  obtain ⟨x2, lf⟩ := x.acc (w := true) hcn
  have mac := fun kr2 : Int → zH → Option ρ => x.mac (g := g) (w := true) hcn kr2
  have xtg := fun kr2 : Int → zH → Option ρ => x.xtg (w := true) hcn kr2
  have cg := fun kr : Int → zH → Option ρ => x_cg (kr := kr) x (by decide) hcn hcell (w := true) rfl
  obtain ⟨w, w4, hw, h5, hbuf⟩ := x2.buf
  obtain ⟨wd1, wd2, wd3⟩ := x.wd rfl
  have w65 : wr (A 12 65 + 1) = A 12 65 + 1 := wr_id (Int.le_trans (by decide) (Int.le_add_one wd2)) (by have := x.hm4; clear hbuf ecell hcell w4 hw h5; omega)
  have docell : ∀ kr : Int → zH → Option ρ, M_doCell ((4 * u + i : Nat) : Int) (m : Int) 119 ((40 * k + p : Nat) : Int) (mh g A) kr = if w = 4 then M_doCell_200 kr ((4 * u + i : Nat) : Int) (m : Int) ((40 * k + p : Nat) : Int) (cn : Int) (mh g (au (mWF (mAC A b (4 * j + m) cn true) (4 * u + i)) 12 65 (A 12 65 + 1))) else M_doCell_200 kr ((4 * u + i : Nat) : Int) (m : Int) ((40 * k + p : Nat) : Int) (cn : Int) (mh g (mAC A b (4 * j + m) cn true)) := fun kr => by
    unfold M_doCell
    rw [zix_n x.hy, zix_n x.hy, m_cellOf x.hat (x.j2 (by decide)) x.j3 (x.r8 ha) (x.r8 hb2) x.hm4]
    simp only [reduceIte, Int.reduceEq, or_true, true_or, or_false, false_or, or_self, if_true, if_false]
    rw [ecell, m_isShared, decide_eq_false (by decide), tb_f, if_pos rfl]
    unfold M_doCell_137
    have mac2 : ∀ kr2 : Int → zH → Option ρ, M_access (b : Int) ((4 * j + m : Nat) : Int) (cn : Int) 1 (mh g A) kr2 = kr2 0 (mh g (mAC A b (4 * j + m) cn true)) := mac
    rw [mD94, mD95, x.e94, x.e95, wi2 x.hj4 (Nat.le_of_lt x.hm4), mac2]
    simp only [reduceIte, Int.reduceEq, if_true, if_false]
    rw [zix_n x.hy, mD97, hw]
    by_cases hw4 : w = 4
    · subst hw4
      rw [if_pos (show ((4 : Nat) : Int) = 4 from rfl), if_pos rfl, m_writeFirst x.hy (by rw [hw]; decide) (by rw [hw]; decide) (hbuf 0 (by decide)).2.2, mD12, mS12, zlet_d, mWF_c (by decide) (by decide) (by decide) (by decide), mAC_c (by decide) (by decide) (by decide), w65]
    · rw [if_neg hw4, if_neg (show ¬ (w : Int) = 4 from fun z => hw4 (Int.ofNat.inj z))]
  have hv : zir (A 109 (8 * m + bn)) := x.wz _ (x.q32 hb2 x.hm4)
  have e67 : (mAC A b (4 * j + m) cn true) 67 (40 * k + p) = (bn : Int) := x2.j3
  have e109 : (mAC A b (4 * j + m) cn true) 109 (8 * m + bn) = A 109 (8 * m + bn) := by rw [mAC_c (by decide) (by decide) (by decide)]
  have hcn2 : 0 ≤ (cn : Int) ∧ (cn : Int) < 64 := ⟨Int.natCast_nonneg _, Int.ofNat_lt.mpr hcn⟩
  have f93 : (i : Int) < fg u b j (mAC A b (4 * j + m) cn true) 93 u := by rw [fg_c (by decide)]; exact x2.hi
  have f94 : fg u b j (mAC A b (4 * j + m) cn true) 94 (4 * u + i) = (b : Int) := by rw [fg_c (by decide)]; exact x2.e94
  have f95 : fg u b j (mAC A b (4 * j + m) cn true) 95 (4 * u + i) = (j : Int) := by rw [fg_c (by decide)]; exact x2.e95
  by_cases hw4 : w = 4
  · subst hw4
    have q3 := rr_wf x2.q x.hu f93 f94 f95 (by rw [fg_c (by decide), hw]; decide)
    rw [fg_wf] at q3
    have q4 := rr_au (rr_zs (v := A 12 65 + 1) q3 (c := 2) (p := 0) (j := 10) rfl) (c := 12) (j := 65) (v := A 12 65 + 1) rfl
    rw [fg_12 (by decide) (by decide) (by decide)] at q4
    have e97 : (au (mWF (mAC A b (4 * j + m) cn true) (4 * u + i)) 12 65 (A 12 65 + 1)) 97 (4 * u + i) = ((3 : Nat) : Int) := by rw [au_ne (by decide), mWF_97, if_pos rfl, hw]; rfl
    have g93 : (i : Int) < fg u b j (au (mWF (mAC A b (4 * j + m) cn true) (4 * u + i)) 12 65 (A 12 65 + 1)) 93 u := by rw [fg_c (by decide), au_ne (by decide), mWF_c (by decide) (by decide) (by decide) (by decide)]; exact x2.hi
    have g94 : fg u b j (au (mWF (mAC A b (4 * j + m) cn true) (4 * u + i)) 12 65 (A 12 65 + 1)) 94 (4 * u + i) = (b : Int) := by rw [fg_c (by decide), au_ne (by decide), mWF_c (by decide) (by decide) (by decide) (by decide)]; exact x2.e94
    have g95 : fg u b j (au (mWF (mAC A b (4 * j + m) cn true) (4 * u + i)) 12 65 (A 12 65 + 1)) 95 (4 * u + i) = (j : Int) := by rw [fg_c (by decide), au_ne (by decide), mWF_c (by decide) (by decide) (by decide) (by decide)]; exact x2.e95
    have q5 := rr_pw (c := (cn : Int)) (v := A 109 (8 * m + bn)) q4 x.hu g93 g94 g95 (w := 3) (by decide) (by rw [fg_c (by decide)]; exact e97) hcn2 hv
    rw [fg_au (by decide), fg_au (by decide), fg_au (by decide)] at q5
    have lf2 := ((lf.tr (lf_w (L := L) (b := b) (x := (16 * b + (4 * j + m))) (fw_wf (h := (hTG h (bc b) (b / 6) (b % 6) (4 * j + m) cn true)) (A := (mAC A b (4 * j + m) cn true)) (G := gc (4 * b + j)) (y := 4 * u + i)) trivial) (Nat.le_refl _)).tr (lf_65 (v := A 12 65 + 1) (v2 := A 12 65 + 1)) (Nat.le_refl _)).tr (lf_pw (G := gc (4 * b + j)) (w9 := 3) (x1 := 4 * (4 * u + i) + 3) (x2 := 4 * (4 * u + i) + 3) (x3 := 4 * u + i) (cc := (cn : Int)) (vv := A 109 (8 * m + bn)) (v3 := ((3 : Nat) : Int) + 1)) (Nat.le_refl _)
    have p65 := pw_65 (h := (zset (hWF (hTG h (bc b) (b / 6) (b % 6) (4 * j + m) cn true) (gc (4 * b + j))) 2 0 10 (A 12 65 + 1))) (A := (au (mWF (mAC A b (4 * j + m) cn true) (4 * u + i)) 12 65 (A 12 65 + 1))) (G := gc (4 * b + j)) (w9 := 3) (x1 := 4 * (4 * u + i) + 3) (x2 := 4 * (4 * u + i) + 3) (x3 := 4 * u + i) (cc := (cn : Int)) (vv := A 109 (8 * m + bn)) (v3 := ((3 : Nat) : Int) + 1)
    rw [zD_eq, au_same] at p65
    refine ⟨_, _, L, le0, fun kr => ?_, fun kr => ?_, q5.up, lf2, fun z => absurd z (by decide), fun _ => ⟨p65.1.trans p65.2.symm, ?_, ?_, fun y9 hy9 => ?_⟩, fun z => absurd rfl z⟩
    · have n12 : zhN (hWF (hTG h (bc b) (b / 6) (b % 6) (4 * j + m) cn true) (gc (4 * b + j))) 2 = 1 := by rw [hWF_N]; exact x2.q.rs.N2
      have e10 : zhD (hWF (hTG h (bc b) (b / 6) (b % 6) (4 * j + m) cn true) (gc (4 * b + j))) 2 0 10 = A 12 65 := by
        rw [hWF_o2 (by decide) (by decide) (by decide) (by decide), hTG_10]
        exact wd1
      have d34 := fun kr : Int → zH → Option ρ => x2.d34 (kr := kr) (H := (zset (hWF (hTG h (bc b) (b / 6) (b % 6) (4 * j + m) cn true) (gc (4 * b + j))) 2 0 10 (A 12 65 + 1))) (w9 := 3) (cn := cn) (bn := bn) (by rw [mAC_c (by decide) (by decide) (by decide)]; exact hb2) rfl q4.rd (by decide) (by rw [zN_set, hWF_N]) (by rw [zL_set, hWF_L]) (by rw [zD_ne (by decide), hWF_D, if_neg (fun z => z.1.elim (by decide) (by decide)), if_pos ⟨rfl, rfl, rfl⟩, h5]; rfl) (funext fun p => funext fun j => by rw [zD_ne (by decide), hWF_o2 (by decide) (by decide) (by decide) (by decide)]) (by rw [zD_ne (by decide), hWF_o2 (by decide) (by decide) (by decide) (by decide)])
      rw [e109] at d34
      rw [cg]
      unfold Co_carryGlobal_34
      rw [zob_n x.bb1, xtg, zob_n x2.i1, x2.i2, if_neg (by decide), zob_n x2.i1, x2.i2, if_pos rfl, zob_n x2.hG.1, x_isBufferFull x2.hG.1, h5, decide_eq_true (by decide), tb_t, if_neg (by decide), zob_0 x2.q.rs.N2, x2.q.rs.D2_0_1, zob_n x2.hG.1, x_writeFirst x2.q.rs x2.q.rd x2.hG.1 (by rw [h5]; decide) (by rw [h5]; decide) (by rw [(hbuf 0 (by decide)).1]; exact (hbuf 0 (by decide)).2.2), zob_0 n12, zob_0 n12, e10, w65, zlet_d, d34]
      exact znar_45
    · rw [if_pos (by decide), docell, if_pos rfl, m_d200 (vv := A 109 (8 * m + bn)) x.hy x.hat x.hm4 (x.r8 hb2) (by decide) e97 (by rw [au_ne (by decide), mWF_c (by decide) (by decide) (by decide) (by decide)]; exact e67) (by rw [au_ne (by decide), mWF_c (by decide) (by decide) (by decide) (by decide)]; exact e109), m_dl0 (ml_w x2.ml ((au_ne (by decide)).trans (mWF_c (by decide) (by decide) (by decide) (by decide))) ((au_ne (by decide)).trans (mWF_c (by decide) (by decide) (by decide) (by decide))) ((au_ne (by decide)).trans (mWF_c (by decide) (by decide) (by decide) (by decide))) ((au_ne (by decide)).trans (mWF_c (by decide) (by decide) (by decide) (by decide))) ((au_ne (by decide)).trans (mWF_c (by decide) (by decide) (by decide) (by decide)))) (by decide)]
      rfl
    · rw [p65.2]
      exact Int.le_add_one wd2
    · rw [p65.2]
      exact Int.add_le_add_right wd3 1
    · rw [au_j, if_neg hy9, au_ne (by decide), au_ne (by decide), au_ne (by decide), mWF_97, if_neg hy9, mAC_c (by decide) (by decide) (by decide)]
  · have hw3 : w < 4 := Nat.lt_of_le_of_ne w4 hw4
    have q5 := rr_pw (c := (cn : Int)) (v := A 109 (8 * m + bn)) x2.q x.hu f93 f94 f95 (w := w) hw3 (by rw [fg_c (by decide)]; exact hw) hcn2 hv
    rw [fg_au (by decide), fg_au (by decide), fg_au (by decide)] at q5
    have p65 := pw_65 (h := (hTG h (bc b) (b / 6) (b % 6) (4 * j + m) cn true)) (A := (mAC A b (4 * j + m) cn true)) (G := gc (4 * b + j)) (w9 := w) (x1 := 4 * (4 * u + i) + w) (x2 := 4 * (4 * u + i) + w) (x3 := 4 * u + i) (cc := (cn : Int)) (vv := A 109 (8 * m + bn)) (v3 := (w : Int) + 1)
    rw [hTG_10, mAC_c (by decide) (by decide) (by decide)] at p65
    refine ⟨_, _, L, le0, fun kr => ?_, fun kr => ?_, q5.up, lf.tr lf_pw (Nat.le_refl _), fun z => absurd z (by decide), fun _ => ⟨p65.1.trans (wd1.trans p65.2.symm), ?_, ?_, fun y9 hy9 => ?_⟩, fun z => absurd rfl z⟩
    · have d34 := fun kr : Int → zH → Option ρ => x2.d34 (kr := kr) (H := (hTG h (bc b) (b / 6) (b % 6) (4 * j + m) cn true)) (w9 := w) (cn := cn) (bn := bn) (by rw [mAC_c (by decide) (by decide) (by decide)]; exact hb2) rfl x2.q.rd hw3 rfl rfl h5 rfl rfl
      rw [e109] at d34
      rw [cg]
      unfold Co_carryGlobal_34
      rw [zob_n x.bb1, xtg, zob_n x2.i1, x2.i2, if_neg (by decide), zob_n x2.i1, x2.i2, if_pos rfl, zob_n x2.hG.1, x_isBufferFull x2.hG.1, h5, decide_eq_false (show ¬ (4 : Int) ≤ (w : Int) from fun z => hw4 (Nat.le_antisymm w4 (Int.ofNat_le.mp z))), tb_f, if_pos rfl, d34]
      exact znar_45
    · rw [if_pos (by decide), docell, if_neg hw4, m_d200 (vv := A 109 (8 * m + bn)) x.hy x.hat x.hm4 (x.r8 hb2) hw3 hw e67 e109, m_dl0 (ml_w x2.ml rfl rfl rfl rfl rfl) (by decide)]
      rfl
    · rw [p65.2]
      exact wd2
    · rw [p65.2]
      exact Int.le_trans wd3 (Int.le_add_one (Int.le_refl _))
    · rw [au_j, if_neg hy9, au_ne (by decide), au_ne (by decide), mAC_c (by decide) (by decide) (by decide)]
end
