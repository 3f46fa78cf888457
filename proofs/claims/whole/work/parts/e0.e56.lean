/-! DELAYS: banks -/
theorem zdiv8 {x : Int} (h0 : 0 ≤ x) (h1 : x < 64) : 0 ≤ x / 8 ∧ x / 8 < 8 := by omega
theorem zir64 {x : Int} (h0 : 0 ≤ x) (h1 : x < 64) : zir x := by
  unfold zir
  omega
theorem wr_v8 {v : Nat} (h : v < 8) : wr (v : Int) = (v : Int) := wr_id (by omega) (by omega)
theorem zckb_pos {F : Nat → Bool} {e : Nat → Int} {l : Nat} (hl : zfb F e l = true) : ∀ n, l < n → 1 ≤ zckb F e (e l % 4) n
  | 0, h => absurd h (Nat.not_lt_zero _)
  | n + 1, h => by
    unfold zckb
    by_cases hln : l = n
    · subst hln
      have := zckb_rng (F := F) (e := e) (bk := e l % 4) l
      rw [if_pos (by rw [hl, decide_eq_true rfl]; rfl)]
      omega
    · have := zckb_pos (e := e) hl n (by omega)
      split <;> omega
theorem zmx_ge {F : Nat → Bool} {e : Nat → Int} {r : Nat} : ∀ n, r < n → zckb F e (r : Int) 4 ≤ zmx F e n
  | 0, h => absurd h (Nat.not_lt_zero _)
  | n + 1, h => by
    unfold zmx
    by_cases hrn : r = n
    · subst hrn
      split <;> omega
    · have := zmx_ge (F := F) (e := e) (r := r) n (by omega)
      split <;> omega
theorem zmx_pos {F : Nat → Bool} {e : Nat → Int} (h : ∃ m, m < 4 ∧ F m = true) : 1 ≤ zmx F e 4 := by
  have key : ∃ l, l < 4 ∧ zfb F e l = true := by
    cases h0 : F 0 with
    | true => exact ⟨0, by decide, by simp [zfb, zfr, h0]⟩
    | false =>
      cases h1 : F 1 with
      | true => exact ⟨1, by decide, by simp [zfb, zfr, h0, h1]⟩
      | false =>
        cases h2 : F 2 with
        | true => exact ⟨2, by decide, by simp [zfb, zfr, h0, h1, h2]⟩
        | false =>
          cases h3 : F 3 with
          | true => exact ⟨3, by decide, by simp [zfb, zfr, h0, h1, h2, h3]⟩
          | false =>
            obtain ⟨m, hm, hF⟩ := h
            rcases (show m = 0 ∨ m = 1 ∨ m = 2 ∨ m = 3 by omega) with rfl | rfl | rfl | rfl
            · rw [h0] at hF; cases hF
            · rw [h1] at hF; cases hF
            · rw [h2] at hF; cases hF
            · rw [h3] at hF; cases hF
  obtain ⟨l, hl, hz⟩ := key
  have h1 := zckb_pos (e := e) hz 4 hl
  have h2 := zmx_ge (F := F) (e := e) (r := (e l % 4).toNat) 4 (by omega)
  rw [Int.toNat_of_nonneg (by omega)] at h2
  omega
theorem zfb_F {F : Nat → Bool} {e : Nat → Int} {l : Nat} (h : zfb F e l = true) : F l = true := (zand_t h).1
section
variable {ρ : Type} {h g : zH} {A B : zA} {kr : Int → zH → Option ρ} {K L n : Nat} {bc tc gc : Nat → Nat} {N M : Int} {F : Nat → Bool} {e : Nat → Int}
theorem x_bk14 {r4 : Int → Int → Int → zH → Option ρ} {gm : Int} {bk : Nat} (q : RS h) (hF : zhD h 2 0 8 = zbs F 4) (he : ∀ i : Nat, i < 4 → F i = true → zhD h 24 0 i = e i ∧ 0 ≤ e i ∧ e i < 64) (hbk : bk < 4) : ∀ f t : Nat, t ≤ 4 → 4 - t < f → zit (fun _ _ _ _ _ _ => none) (Co_bankDelay_14b kr r4) f 0 gm (bk : Int) (zckb F e (bk : Int) t) (t : Int) h = r4 0 (if gm < zckb F e (bk : Int) 4 then zckb F e (bk : Int) 4 else gm) ((bk + 1 : Nat) : Int) h
  | 0, t, _, hf => absurd hf (Nat.not_lt_zero _)
  | f + 1, t, ht, hf => by
    rw [zit_s]
    by_cases h4 : t < 4
    · have ih := x_bk14 (r4 := r4) (gm := gm) q hF he hbk f (t + 1) h4 (by omega)
      have hc := zckb_rng (F := F) (e := e) (bk := (bk : Int)) t
      have hc2 : -2147483648 ≤ zckb F e (bk : Int) t + 1 ∧ zckb F e (bk : Int) t + 1 < 2147483648 := by omega
      have e1 : zckb F e (bk : Int) (t + 1) = zckb F e (bk : Int) t + (if (zfb F e t && decide (e t % 4 = (bk : Int))) = true then 1 else 0) := rfl
      rw [e1] at ih
      have nf : ∀ kr : Int → zH → Option ρ, Co_isNamedFirst 0 (t : Int) 0 h kr = kr (tb (zfb F e t)) h := fun kr => x_nf (sh := 0) q hF h4 (Or.inl rfl) (fun i hi hFi => by
        have := he i hi hFi
        exact (zshr_0 (by unfold zir; omega)).trans this.1)
      have i4 : (t : Int) < 4 := by omega
      generalize zit (fun _ _ _ _ _ _ => none) (Co_bankDelay_14b kr r4) f = r2 at ih ⊢
      unfold Co_bankDelay_14b Co_bankDelay_48
      rw [if_pos i4, zob_0 q.N2, nf, wk1 ht]
      cases hz : zfb F e t with
      | false =>
        rw [hz, Bool.false_and, if_neg (by decide), Int.add_zero] at ih
        rw [tb_f, if_pos rfl]
        exact ih
      | true =>
        obtain ⟨y1, y2, y3⟩ := he t h4 (zfb_F hz)
        rw [hz, Bool.true_and] at ih
        rw [tb_t, if_neg (by decide), zob_0 q.N2, q.D2_0_6, zob_0 q.N24, q.L24_0, zix_n h4, y1, x_fm4 (by unfold zir; omega)]
        by_cases hb : e t % 4 = (bk : Int)
        · rw [if_pos (decide_eq_true hb)] at ih
          rw [if_pos hb, wr_id hc2.1 hc2.2]
          exact ih
        · rw [if_neg (by simp [hb]), Int.add_zero] at ih
          rw [if_neg hb]
          exact ih
    · have : t = 4 := by omega
      subst this
      have hw : wr ((bk : Int) + 1) = ((bk + 1 : Nat) : Int) := wk1 (Nat.le_of_lt hbk)
      generalize zit (fun _ _ _ _ _ _ => none) (Co_bankDelay_14b kr r4) f = r2
      unfold Co_bankDelay_14b Ma_max Ma_max_10
      rw [if_neg (by decide), hw]
      split <;> rfl
theorem x_bk4 (q : RS h) (hF : zhD h 2 0 8 = zbs F 4) (he : ∀ i : Nat, i < 4 → F i = true → zhD h 24 0 i = e i ∧ 0 ≤ e i ∧ e i < 64) : ∀ f r : Nat, r ≤ 4 → 4 - r < f → zit (fun _ _ _ _ => none) (Co_bankDelay_4b kr) f 0 (zmx F e r) (r : Int) h = kr (zmx F e 4) h
  | 0, r, _, hf => absurd hf (Nat.not_lt_zero _)
  | f + 1, r, hr, hf => by
    rw [zit_s]
    by_cases h4 : r < 4
    · have ih := x_bk4 q hF he f (r + 1) h4 (by omega)
      have i4 : (r : Int) < 4 := by omega
      generalize zit (fun _ _ _ _ => none) (Co_bankDelay_4b kr) f = r2 at ih ⊢
      unfold Co_bankDelay_4b
      rw [if_pos i4]
      exact Eq.trans (x_bk14 (kr := kr) (r4 := r2) q hF he h4 zN 0 (by decide) (by show 4 - 0 < 5000; decide)) ih
    · have : r = 4 := by omega
      subst this
      unfold Co_bankDelay_4b
      rw [if_neg (by decide)]
theorem x_bank (q : RS h) (hF : zhD h 2 0 8 = zbs F 4) (he : ∀ i : Nat, i < 4 → F i = true → zhD h 24 0 i = e i ∧ 0 ≤ e i ∧ e i < 64) : Co_bankDelay 0 h kr = kr (zmx F e 4) h := by
  unfold Co_bankDelay
  exact x_bk4 q hF he zN 0 (by decide) (by show 4 - 0 < 5000; decide)
theorem m_bk17 {at1 bk : Nat} {c gm : Int} {r5 : Int → Int → Int → Int → zH → Option ρ} (hF : A 12 63 = zbs F 4) (hce : ∀ i : Nat, i < 4 → ∀ kr : Int → zH → Option ρ, M_cellOf c (at1 : Int) (i : Int) (mh g A) kr = kr (e i) (mh g A)) (he : ∀ i : Nat, i < 4 → F i = true → 0 ≤ e i) (hbk : bk < 4) : ∀ f t : Nat, t ≤ 4 → 4 - t < f → zit (fun _ _ _ _ _ _ _ => none) (M_banks_17b kr r5) f c (at1 : Int) gm (bk : Int) (zckb F e (bk : Int) t) (t : Int) (mh g A) = r5 c (at1 : Int) (if gm < zckb F e (bk : Int) 4 then zckb F e (bk : Int) 4 else gm) ((bk + 1 : Nat) : Int) (mh g A)
  | 0, t, _, hf => absurd hf (Nat.not_lt_zero _)
  | f + 1, t, ht, hf => by
    rw [zit_s]
    by_cases h4 : t < 4
    · have ih := m_bk17 (r5 := r5) (gm := gm) hF hce he hbk f (t + 1) h4 (by omega)
      have hc := zckb_rng (F := F) (e := e) (bk := (bk : Int)) t
      have hc2 : -2147483648 ≤ zckb F e (bk : Int) t + 1 ∧ zckb F e (bk : Int) t + 1 < 2147483648 := by omega
      have hc3 : -2147483648 ≤ zckb F e (bk : Int) t + 0 ∧ zckb F e (bk : Int) t + 0 < 2147483648 := by omega
      have e1 : zckb F e (bk : Int) (t + 1) = zckb F e (bk : Int) t + (if (zfb F e t && decide (e t % 4 = (bk : Int))) = true then 1 else 0) := rfl
      rw [e1] at ih
      have i4 : (t : Int) < 4 := by omega
      generalize zit (fun _ _ _ _ _ _ _ => none) (M_banks_17b kr r5) f = r2 at ih ⊢
      unfold M_banks_17b M_banks_55 M_banks_56
      rw [if_pos i4, m_isNew hF hce h4, wk1 ht]
      cases hz : zfb F e t with
      | false =>
        rw [hz, Bool.false_and, if_neg (by decide)] at ih
        rw [tb_f, if_pos rfl, wr_id hc3.1 hc3.2]
        exact ih
      | true =>
        have y2 := he t h4 (zfb_F hz)
        rw [hz, Bool.true_and] at ih
        rw [tb_t, if_neg (by decide), hce t h4, Int.tmod_eq_emod_of_nonneg y2]
        by_cases hb : e t % 4 = (bk : Int)
        · rw [if_pos (decide_eq_true hb)] at ih
          rw [if_pos hb, wr_id hc2.1 hc2.2]
          exact ih
        · rw [if_neg (by simp [hb])] at ih
          rw [if_neg hb, wr_id hc3.1 hc3.2]
          exact ih
    · have : t = 4 := by omega
      subst this
      have hw : wr ((bk : Int) + 1) = ((bk + 1 : Nat) : Int) := wk1 (Nat.le_of_lt hbk)
      generalize zit (fun _ _ _ _ _ _ _ => none) (M_banks_17b kr r5) f = r2
      unfold M_banks_17b M_banks_77
      rw [if_neg (by decide), hw]
      split <;> rfl
theorem m_bk5 {at1 : Nat} {c : Int} (hF : A 12 63 = zbs F 4) (hce : ∀ i : Nat, i < 4 → ∀ kr : Int → zH → Option ρ, M_cellOf c (at1 : Int) (i : Int) (mh g A) kr = kr (e i) (mh g A)) (he : ∀ i : Nat, i < 4 → F i = true → 0 ≤ e i) : ∀ f r : Nat, r ≤ 4 → 4 - r < f → zit (fun _ _ _ _ _ => none) (M_banks_5b kr) f c (at1 : Int) (zmx F e r) (r : Int) (mh g A) = kr (zmx F e 4) (mh g A)
  | 0, r, _, hf => absurd hf (Nat.not_lt_zero _)
  | f + 1, r, hr, hf => by
    rw [zit_s]
    by_cases h4 : r < 4
    · have ih := m_bk5 hF hce he f (r + 1) h4 (by omega)
      have i4 : (r : Int) < 4 := by omega
      generalize zit (fun _ _ _ _ _ => none) (M_banks_5b kr) f = r2 at ih ⊢
      unfold M_banks_5b
      rw [if_pos i4]
      exact Eq.trans (m_bk17 (kr := kr) (r5 := r2) hF hce he h4 zN 0 (by decide) (by show 4 - 0 < 5000; decide)) ih
    · have : r = 4 := by omega
      subst this
      unfold M_banks_5b
      rw [if_neg (by decide)]
theorem m_banks {at1 : Nat} {c : Int} (hF : A 12 63 = zbs F 4) (hce : ∀ i : Nat, i < 4 → ∀ kr : Int → zH → Option ρ, M_cellOf c (at1 : Int) (i : Int) (mh g A) kr = kr (e i) (mh g A)) (he : ∀ i : Nat, i < 4 → F i = true → 0 ≤ e i) : M_banks c (at1 : Int) (mh g A) kr = kr (zmx F e 4) (mh g A) := by
  unfold M_banks
  exact m_bk5 hF hce he zN 0 (by decide) (by show 4 - 0 < 5000; decide)
/-! lines -/
theorem rr_line (q : RR A h K L bc tc gc n B N M) {u p : Nat} {v : Int} (hu : u < 2) (hp : p < 2) : RR (au A 102 (2 * u + p) v) (zset h 27 u p v) K L bc tc gc n B N M := by
  refine up_ul q (fr_au rfl) (fr_zs rfl) rfl rfl rfl rfl (fun u2 hu2 => ?_)
  obtain ⟨y1, y2, y3, y4⟩ := q.ul u2 hu2
  refine ⟨fun p2 hp2 => ?_, y2, y3, y4⟩
  rw [zD_set, au_j, y1 p2 hp2]
  by_cases hz : u2 = u ∧ p2 = p
  · rw [if_pos ⟨rfl, hz.1, hz.2⟩, if_pos (by omega)]
  · rw [if_neg (fun z => hz z.2), if_neg (by omega)]
def LNF (A A' : zA) (h h' : zH) : Prop := (∀ c, c ≠ 12 → c ≠ 102 → A' c = A c) ∧ (∀ j, j ≠ 58 → A' 12 j = A 12 j) ∧ (∀ c p j, c ≠ 27 → ¬ (c = 4 ∧ j = 4) → zhD h' c p j = zhD h c p j) ∧ zhN h' = zhN h
theorem LNF.tr {A1 A2 A3 : zA} {h1 h2 h3 : zH} (x : LNF A1 A2 h1 h2) (y : LNF A2 A3 h2 h3) : LNF A1 A3 h1 h3 := ⟨fun c c1 c2 => (y.1 c c1 c2).trans (x.1 c c1 c2), fun j hj => (y.2.1 j hj).trans (x.2.1 j hj), fun c p j c1 c2 => (y.2.2.1 c p j c1 c2).trans (x.2.2.1 c p j c1 c2), y.2.2.2.trans x.2.2.2⟩
/-- one lane that names a line first -/
theorem line_one (q : RR A h K L bc tc gc n B N M) {u at1 t bn : Nat} {dl : Int} {v : Nat} (hu : u < 2) (bnd : n ≤ 10000000) (ht : t < 4) (hv : v < 8) (hnm : zhD h 24 0 t / 8 = (v : Int)) (hz24 : zir (zhD h 24 0 t)) (hdl : 0 ≤ dl ∧ dl ≤ 24) (hnf : ∀ kr : Int → zH → Option ρ, Co_isNamedFirst 0 (t : Int) 3 h kr = kr 1 h) : ∃ (h' : zH) (A' : zA) (d2 : Int), (∀ (kr : Int → zH → Option ρ) (r4 : Int → Int → Int → Int → zH → Option ρ), Co_lineDelay_4b kr r4 0 (u : Int) dl (t : Int) h = r4 0 (u : Int) (dl + d2) ((t + 1 : Nat) : Int) h') ∧
    (∀ (kr : Int → zH → Option ρ) (r8 : Int → Int → Int → Int → Int → zH → Option ρ) (sn : Int), zand (zshr sn (v : Int)) 1 = 0 → M_lines_42 kr r8 (u : Int) (at1 : Int) dl sn (t : Int) (v : Int) (mh g A) = r8 (u : Int) (at1 : Int) (dl + d2) (zor sn (zshl 1 (v : Int))) ((t + 1 : Nat) : Int) (mh g A')) ∧ RR A' h' K L bc tc gc (n + 1) B N M ∧ LNF A A' h h' ∧ (d2 = 2 ∨ d2 = 6) := by
  obtain ⟨l1, -⟩ := q.ul u hu
  obtain ⟨s1, s2, s3, s4, s5, s6, s7⟩ := q.rs.u0 hu
  obtain ⟨p, hp⟩ : ∃ p : Nat, (v : Int) % 2 = (p : Int) := ⟨v % 2, by omega⟩
  have hp2 : p < 2 := by omega
  have b58 := q.bd.1 58 (by decide)
  have e44 : zhD h 4 0 4 = A 12 58 := q.rm.2.2.2.2.2.2.2.2.1
  have i4 : (t : Int) < 4 := by omega
  have hv1 : ¬ (v : Int) = -1 := by omega
  have ix4 : 2 * u + p < 4 := by omega
  have tm : Int.tmod (v : Int) 2 = (p : Int) := by rw [Int.tmod_eq_emod_of_nonneg (Int.natCast_nonneg _)]; exact hp
  have zv : zir (v : Int) := by unfold zir; omega
  have bx : 0 ≤ A 12 58 + 1 ∧ A 12 58 + 1 ≤ 64 * ((n : Int) + 1) := by omega
  have w1 : wr ((t : Int) + 1) = ((t + 1 : Nat) : Int) := wk1 (Nat.le_of_lt ht)
  have w2 : wr (dl + 2) = dl + 2 := wr_id (by omega) (by omega)
  have w6 : wr (dl + 6) = dl + 6 := wr_id (by omega) (by omega)
  have w24 : wr (wr (dl + 2) + 4) = dl + 6 := by
    rw [w2, wr_id (by omega) (by omega)]
    omega
  have w58 : wr (A 12 58 + 1) = A 12 58 + 1 := wr_id (by omega) (by omega)
  have w580 : wr (A 12 58 + 0) = A 12 58 := by rw [Int.add_zero]; exact wr_id (by omega) (by omega)
  have wix : wr (wr (2 * (u : Int)) + (p : Int)) = ((2 * u + p : Nat) : Int) := by
    rw [wr_id (x := 2 * (u : Int)) (by omega) (by omega), wr_id (by omega) (by omega)]
    omega
  have q1 := rr_line q (v := (v : Int)) hu hp2
  by_cases hhas : A 102 (2 * u + p) = (v : Int)
  · have hid : au A 102 (2 * u + p) (v : Int) = A := by rw [← hhas]; exact au_id
    refine ⟨zset h 27 u p (v : Int), A, 2, fun kr r4 => ?_, fun kr r8 sn hsn => ?_, ?_, ⟨fun _ _ _ => rfl, fun _ _ => rfl, fun c p2 j c1 c2 => if_neg (fun z => c1 z.1), rfl⟩, Or.inl rfl⟩
    · unfold Co_lineDelay_4b Co_lineDelay_55 Un_missesLine Un_missesLine_21
      have s1b : u < zhN h 3 := s1
      rw [if_pos i4, zob_0 q.rs.N2, hnf, if_neg (by decide), zob_0 q.rs.N2, q.rs.D2_0_6, zob_0 q.rs.N24, q.rs.L24_0, zix_n ht, zob_n s1, zshr_3 hz24, hnm, x_fm2 zv, hp, zob_n s1, s3, zob_n s6, s7, zix_n hp2, l1 p hp2, if_pos hhas, zob_n s1, s3, zob_n s6, s7, zix_n hp2, zlet_d, znar_0]
      refine Eq.trans (if_pos rfl) ?_
      rw [w2, w1]
    · unfold M_lines_42 M_lines_92 M_lines_106 M_lines_123 M_lines_142
      rw [if_neg hv1, if_pos hsn, tm, wix, zix_n ix4, mD102, if_pos hhas, if_neg (by decide), if_neg (by decide), w2, mD12, w580, mS12, zlet_d, au_id, zix_n ix4, mS102, zlet_d, hid, w1]
    · rw [hid] at q1
      exact q1.up
  · have q2 := rr_f4 q1 (v := A 12 58 + 1) bx.1 bx.2
    rw [au_cm (c := 102) (c2 := 12) (by decide)] at q2
    refine ⟨zset (zset h 27 u p (v : Int)) 4 0 4 (A 12 58 + 1), au (au A 12 58 (A 12 58 + 1)) 102 (2 * u + p) (v : Int), 6, fun kr r4 => ?_, fun kr r8 sn hsn => ?_, q2, ⟨fun c c1 c2 => by rw [au_ne c2, au_ne c1], fun j hj => by rw [au_ne (by decide), au_j, if_neg hj], fun c p2 j c1 c2 => by rw [zD_set, if_neg (fun z => c2 ⟨z.1, z.2.2⟩), zD_ne c1], rfl⟩, Or.inr rfl⟩
    · unfold Co_lineDelay_4b Co_lineDelay_55 Un_missesLine Un_missesLine_21
      have r4' : zhD (zset h 27 u p (v : Int)) 4 0 4 = A 12 58 := by rw [zD_ne (by decide)]; exact e44
      rw [if_pos i4, zob_0 q.rs.N2, hnf, if_neg (by decide), zob_0 q.rs.N2, q.rs.D2_0_6, zob_0 q.rs.N24, q.rs.L24_0, zix_n ht, zob_n s1, zshr_3 hz24, hnm, x_fm2 zv, hp, zob_n s1, s3, zob_n s6, s7, zix_n hp2, l1 p hp2, if_neg hhas, zob_n s1, s3, zob_n s6, s7, zix_n hp2, zlet_d, znar_1]
      refine Eq.trans (if_neg (by decide)) ?_
      rw [zob_0 q1.rs.N2, q1.rs.D2_0_3, zob_0 q1.rs.N4, zob_0 q1.rs.N4, zlet_d, r4', w58, w24, w1]
    · unfold M_lines_42 M_lines_92 M_lines_106 M_lines_123 M_lines_142
      rw [if_neg hv1, if_pos hsn, tm, wix, zix_n ix4, mD102, if_neg hhas, if_pos rfl, if_pos rfl, w6, mD12, w58, mS12, zlet_d, zix_n ix4, mS102, zlet_d, w1]
theorem lines_loop {u at1 bn : Nat} (hu : u < 2) (hat : at1 < 160) (hb8 : bn < 8) : ∀ (f t : Nat) (dl : Int) (n : Nat) (h : zH) (A : zA), t ≤ 4 → 4 - t < f → RR A h K L bc tc gc n B N M → n + (4 - t) ≤ 10000000 → zhD h 2 0 8 = zbs F 4 → A 12 63 = zbs F 4 → A 67 at1 = (bn : Int) → (∀ i : Nat, i < 4 → F i = true → zhD h 24 0 i = A 109 (8 * i + bn) ∧ 0 ≤ A 109 (8 * i + bn) ∧ A 109 (8 * i + bn) < 64) → (0 ≤ dl ∧ dl ≤ 6 * (t : Int)) →
    ∃ (h' : zH) (A' : zA) (dl' : Int), (∀ kr : Int → zH → Option ρ, zit (fun _ _ _ _ _ => none) (Co_lineDelay_4b kr) f 0 (u : Int) dl (t : Int) h = kr dl' h') ∧ (∀ kr : Int → zH → Option ρ, zit (fun _ _ _ _ _ _ => none) (M_lines_8b kr) f (u : Int) (at1 : Int) dl (zsl F (fun i => A 109 (8 * i + bn) / 8) t) (t : Int) (mh g A) = kr dl' (mh g A')) ∧ RR A' h' K L bc tc gc (n + (4 - t)) B N M ∧ LNF A A' h h' ∧ 0 ≤ dl' ∧ dl' ≤ 24
  | 0, t, _, _, _, _, _, hf, _, _, _, _, _, _, _ => absurd hf (Nat.not_lt_zero _)
  | f + 1, t, dl, n, h, A, ht, hf, q, bnd, hF, hFA, h67, he, hdl => by
    by_cases h4 : t < 4
    · have i4 : (t : Int) < 4 := by omega
      have hf2 : 4 - (t + 1) < f := by omega
      have bnd2 : n + 1 + (4 - (t + 1)) ≤ 10000000 := by omega
      have bnd3 : n + (4 - (t + 1)) ≤ 10000000 := by omega
      have bnd4 : n ≤ 10000000 := by omega
      have d24 : dl ≤ 24 := by omega
      have dl6 : dl ≤ 6 * ((t + 1 : Nat) : Int) := by omega
      have hn1 : n + (4 - (t + 1)) ≤ n + (4 - t) := by omega
      have hn2 : n + 1 + (4 - (t + 1)) ≤ n + (4 - t) := by omega
      have dlx : ∀ d2 : Int, d2 = 2 ∨ d2 = 6 → 0 ≤ dl + d2 ∧ dl + d2 ≤ 6 * ((t + 1 : Nat) : Int) := fun d2 h2 => by omega
      have w1 : wr ((t : Int) + 1) = ((t + 1 : Nat) : Int) := wk1 (Nat.le_of_lt h4)
      have es : zsl F (fun i => A 109 (8 * i + bn) / 8) (t + 1) = if zfb F (fun i => A 109 (8 * i + bn) / 8) t = true then zor (zsl F (fun i => A 109 (8 * i + bn) / 8) t) (zshl 1 (A 109 (8 * t + bn) / 8)) else zsl F (fun i => A 109 (8 * i + bn) / 8) t := rfl
      have nf : ∀ kr : Int → zH → Option ρ, Co_isNamedFirst 0 (t : Int) 3 h kr = kr (tb (zfb F (fun i => A 109 (8 * i + bn) / 8) t)) h := fun kr => x_nf (sh := 3) q.rs hF h4 (Or.inr rfl) (fun i hi hFi => by
        obtain ⟨y1, y2, y3⟩ := he i hi hFi
        rw [y1]
        exact zshr_3 (zir64 y2 y3))
      have skip : zfb F (fun i => A 109 (8 * i + bn) / 8) t = false → (∀ (kr : Int → zH → Option ρ) (r8 : Int → Int → Int → Int → Int → zH → Option ρ), M_lines_8b kr r8 (u : Int) (at1 : Int) dl (zsl F (fun i => A 109 (8 * i + bn) / 8) t) (t : Int) (mh g A) = r8 (u : Int) (at1 : Int) dl (zsl F (fun i => A 109 (8 * i + bn) / 8) t) ((t + 1 : Nat) : Int) (mh g A)) → (∃ (h' : zH) (A' : zA) (dl' : Int), (∀ kr : Int → zH → Option ρ, zit (fun _ _ _ _ _ => none) (Co_lineDelay_4b kr) (f + 1) 0 (u : Int) dl (t : Int) h = kr dl' h') ∧ (∀ kr : Int → zH → Option ρ, zit (fun _ _ _ _ _ _ => none) (M_lines_8b kr) (f + 1) (u : Int) (at1 : Int) dl (zsl F (fun i => A 109 (8 * i + bn) / 8) t) (t : Int) (mh g A) = kr dl' (mh g A')) ∧ RR A' h' K L bc tc gc (n + (4 - t)) B N M ∧ LNF A A' h h' ∧ 0 ≤ dl' ∧ dl' ≤ 24) := fun hz hM => by
        rw [if_neg (by rw [hz]; decide)] at es
        obtain ⟨h', A', dl', y1, y2, y3, y4, y5⟩ := lines_loop hu hat hb8 f (t + 1) dl n h A h4 hf2 q bnd3 hF hFA h67 he ⟨hdl.1, dl6⟩
        rw [es] at y2
        refine ⟨h', A', dl', fun kr => ?_, fun kr => (hM kr _).trans (y2 kr), y3.le hn1, y4, y5⟩
        rw [zit_s, ← y1 kr]
        generalize zit (fun _ _ _ _ _ => none) (Co_lineDelay_4b kr) f = r2
        unfold Co_lineDelay_4b Co_lineDelay_55
        rw [if_pos i4, zob_0 q.rs.N2, nf, hz, tb_f, if_pos rfl, w1]
      cases hFt : F t with
      | false =>
        refine skip (by unfold zfb; rw [hFt]; rfl) (fun kr r8 => ?_)
        unfold M_lines_8b M_lines_42 M_lines_142
        rw [if_pos i4, m_isUnder hFA h4, hFt, tb_f, if_pos rfl, if_pos rfl, w1]
      | true =>
        obtain ⟨y1, y2, y3⟩ := he t h4 hFt
        obtain ⟨v, hv⟩ : ∃ v : Nat, A 109 (8 * t + bn) / 8 = (v : Int) := ⟨(A 109 (8 * t + bn) / 8).toNat, (Int.toNat_of_nonneg (zdiv8 y2 y3).1).symm⟩
        have v8 : v < 8 := by
          have := zdiv8 y2 y3
          rw [hv] at this
          exact Int.ofNat_lt.mp this.2
        have z24 : zir (zhD h 24 0 t) := by rw [y1]; exact zir64 y2 y3
        have wdv : wr (Int.tdiv (A 109 (8 * t + bn)) 8) = (v : Int) := by
          rw [Int.tdiv_eq_ediv_of_nonneg y2, hv]
          exact wr_v8 v8
        have M0 : ∀ (kr : Int → zH → Option ρ) (r8 : Int → Int → Int → Int → Int → zH → Option ρ), M_lines_8b kr r8 (u : Int) (at1 : Int) dl (zsl F (fun i => A 109 (8 * i + bn) / 8) t) (t : Int) (mh g A) = M_lines_42 kr r8 (u : Int) (at1 : Int) dl (zsl F (fun i => A 109 (8 * i + bn) / 8) t) (t : Int) (v : Int) (mh g A) := fun kr r8 => by
          unfold M_lines_8b
          rw [if_pos i4, m_isUnder hFA h4, hFt, tb_t, if_neg (by decide), zix_n hat, mD67, h67, m_lane h4 hb8, wdv]
        have hbit : zand (zshr (zsl F (fun i => A 109 (8 * i + bn) / 8) t) (v : Int)) 1 = tb (!(zfb F (fun i => A 109 (8 * i + bn) / 8) t)) := by
          rw [zshr_bit v8, zsl_bit v8 t (fun k hk hFk => by
            obtain ⟨z1, z2, z3⟩ := he k (Nat.lt_trans hk h4) hFk
            exact zdiv8 z2 z3)]
          refine congrArg tb ?_
          have := zan_first (F := F) (e := fun i => A 109 (8 * i + bn) / 8) (l := t)
          rw [hv] at this
          unfold zfb
          rw [hFt, Bool.true_and]
          exact this
        cases hz : zfb F (fun i => A 109 (8 * i + bn) / 8) t with
        | false =>
          refine skip hz (fun kr r8 => ?_)
          rw [hz, Bool.not_false, tb_t] at hbit
          rw [M0]
          unfold M_lines_42 M_lines_142
          rw [if_neg (show ¬ (v : Int) = -1 from fun z => absurd (z ▸ Int.natCast_nonneg v) (by decide)), hbit, if_neg (by decide), w1]
        | true =>
          rw [hz, Bool.not_true, tb_f] at hbit
          rw [if_pos hz] at es
          obtain ⟨h1, A1, d2, x1, x2, x3, x4, x5⟩ := line_one (ρ := ρ) (g := g) (at1 := at1) (dl := dl) (bn := bn) q hu bnd4 h4 v8 (by rw [y1]; exact hv) z24 ⟨hdl.1, d24⟩ (fun kr => by rw [nf, hz, tb_t])
          obtain ⟨f1, f2, f3, f4⟩ := x4
          have e109 : A1 109 = A 109 := f1 109 (by decide) (by decide)
          obtain ⟨h', A', dl', z1, z2, z3, z4, z5⟩ := lines_loop hu hat hb8 f (t + 1) (dl + d2) (n + 1) h1 A1 h4 hf2 x3 bnd2 (by rw [f3 2 0 8 (by decide) (by decide)]; exact hF) (by rw [f2 63 (by decide)]; exact hFA) (by rw [f1 67 (by decide) (by decide)]; exact h67) (fun i hi hFi => by rw [f3 24 0 i (by decide) (fun z => absurd z.1 (by decide)), e109]; exact he i hi hFi) (dlx d2 x5)
          rw [e109, es, hv] at z2
          refine ⟨h', A', dl', fun kr => ?_, fun kr => ?_, z3.le hn2, LNF.tr ⟨f1, f2, f3, f4⟩ z4, z5⟩
          · rw [zit_s, x1, z1]
          · rw [zit_s, M0, x2 _ _ _ hbit, z2]
    · have : t = 4 := by omega
      subst this
      refine ⟨h, A, dl, fun kr => ?_, fun kr => ?_, q, ⟨fun _ _ _ => rfl, fun _ _ => rfl, fun _ _ _ _ _ => rfl, rfl⟩, hdl.1, by omega⟩
      · rw [zit_s]
        unfold Co_lineDelay_4b
        rw [if_neg (by decide)]
      · rw [zit_s]
        unfold M_lines_8b
        rw [if_neg (by decide)]
end
