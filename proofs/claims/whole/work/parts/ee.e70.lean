/-! A BARRIER PASSED -/
section
variable {ρ : Type} {h h' g : zH} {A A' B : zA} {kr : Int → zH → Option ρ} {K L n n' : Nat} {bc tc gc : Nat → Nat} {N M : Int} {s : Nat → Int} {b : Nat}
theorem PF.le (x : PF A h K L bc tc gc n B N M) (hn : n ≤ n') : PF A h K L bc tc gc n' B N M := x.mv rfl rfl rfl rfl rfl rfl (fun w => w) (fun _ q => q.le hn)
/-- the class's touches forgotten -/
def hfg (h : zH) (p : Nat) : zH := hrw (hrw h 39 p (zf0 (zhD h 39 p) (zhL h 39 p))) 40 p (zf0 (zhD (hrw h 39 p (zf0 (zhD h 39 p) (zhL h 39 p))) 40 p) (zhL h 40 p))
theorem hfg_D {p c p2 j : Nat} (h1 : c ≠ 39) (h2 : c ≠ 40) : zhD (hfg h p) c p2 j = zhD h c p2 j := by
  unfold hfg
  rw [hrw_D, if_neg (fun z => h2 z.1), hrw_D, if_neg (fun z => h1 z.1)]
theorem hfg_p {p c p2 j : Nat} (h1 : p2 ≠ p) : zhD (hfg h p) c p2 j = zhD h c p2 j := by
  unfold hfg
  rw [hrw_D, if_neg (fun z => h1 z.2), hrw_D, if_neg (fun z => h1 z.2)]
theorem hfg_39 {p j : Nat} (hj : j < zhL h 39 p) : zhD (hfg h p) 39 p j = 0 := by
  unfold hfg
  rw [hrw_D, if_neg (fun z => absurd z.1 (by decide)), hrw_D, if_pos ⟨rfl, rfl⟩]
  exact if_pos hj
theorem hfg_40 {p j : Nat} (hj : j < zhL h 40 p) : zhD (hfg h p) 40 p j = 0 := by
  unfold hfg
  rw [hrw_D, if_pos ⟨rfl, rfl⟩]
  exact if_pos hj
theorem rr_pass (q : RR A h K L bc tc gc n B N M) (hb : b < 72) (hin : A 87 b = 1) : RR (au A 86 b (A 86 b + 1)) (hfg h (bc b)) K L bc tc gc (n + 1) B N M := by
  have e : ∀ c, c ≠ 86 → au A 86 b (A 86 b + 1) c = A c := fun c hc => au_ne hc
  have fa : ∀ f : Nat → Nat → Bool, f 86 0 = false → (∀ j, f 86 j = f 86 0) → ∀ c j, f c j = true → au A 86 b (A 86 b + 1) c j = A c j := fun f h1 h2 c j hz => by
    rw [e c (fun z => by subst z; rw [h2, h1] at hz; cases hz)]
  have fd : ∀ f : Nat → Nat → Bool, (∀ j, f 39 j = false) → (∀ j, f 40 j = false) → ∀ c p j, f c j = true → zhD (hfg h (bc b)) c p j = zhD h c p j := fun f h1 h2 c p j hz => hfg_D (fun z => by subst z; rw [h1] at hz; cases hz) (fun z => by subst z; rw [h2] at hz; cases hz)
  obtain ⟨bi1, bi2, bi3⟩ := q.bi
  obtain ⟨ta1, ta2, ta3, ta4, ta5, ta6, ta7, ta8⟩ := q.ta
  obtain ⟨tb1, tb2⟩ := q.tb
  have bd := q.bd
  have n86 : ∀ b2, au A 86 b (A 86 b + 1) 86 b2 = if b2 = b then A 86 b + 1 else A 86 b2 := fun b2 => au_j
  have ge : ∀ b2, A 86 b2 ≤ au A 86 b (A 86 b + 1) 86 b2 := fun b2 => by
    rw [n86]
    split
    · rename_i e2
      rw [e2]
      omega
    · exact Int.le_refl _
  obtain ⟨b1, b2', b3', b4', b5', b6'⟩ := q.bh.1 b hb hin
  obtain ⟨-, -, -, -, -, -, d⟩ := q.rd.2.2.2.1
  obtain ⟨-, -, -, -, -, -, L39, L40, -⟩ := d (bc b) b1
  refine ⟨q.rs.fr (fd rsf (fun _ => rfl) (fun _ => rfl)) rfl rfl, q.rd.fr (fd rdf (fun _ => rfl) (fun _ => rfl)) rfl rfl, q.rk.fr (fa RKa rfl (fun _ => rfl)) (fd RKd (fun _ => rfl) (fun _ => rfl)) rfl, q.rl.fr (fa RLa rfl (fun _ => rfl)) (fd RLd (fun _ => rfl) (fun _ => rfl)) rfl, q.rm.fr (fa RMa rfl (fun _ => rfl)) (fd RMd (fun _ => rfl) (fun _ => rfl)) rfl, q.rc.fr (fa RCa rfl (fun _ => rfl)), ?_, q.bh.fr (fa BHa rfl (fun _ => rfl)) (fd BHd (fun _ => rfl) (fun _ => rfl)) rfl rfl, q.th.fr (fa THa rfl (fun _ => rfl)) (fd THd (fun _ => rfl) (fun _ => rfl)) rfl rfl, q.td.fr (fa TDa rfl (fun _ => rfl)) (fd TDd (fun _ => rfl) (fun _ => rfl)) rfl rfl, q.gh.fr (fa GHa rfl (fun _ => rfl)) (fd GHd (fun _ => rfl) (fun _ => rfl)) rfl rfl, q.sh.fr (fa SHa rfl (fun _ => rfl)) (fd SHd (fun _ => rfl) (fun _ => rfl)) rfl rfl, q.us.fr (fa USa rfl (fun _ => rfl)) (fd USd (fun _ => rfl) (fun _ => rfl)) rfl rfl, q.ug.fr (fa UGa rfl (fun _ => rfl)) (fd UGd (fun _ => rfl) (fun _ => rfl)) rfl rfl, q.ul.fr (fa ULa rfl (fun _ => rfl)) (fd ULd (fun _ => rfl) (fun _ => rfl)) rfl rfl, q.su.fr (fa SUa rfl (fun _ => rfl)), ?_, ?_, q.tl.fr (fa TLa rfl (fun _ => rfl)) (fd TLd (fun _ => rfl) (fun _ => rfl)) rfl rfl, ?_, q.rh.fr (fd RHd (fun _ => rfl) (fun _ => rfl)) rfl rfl, q.iv.fr (fa IVa rfl (fun _ => rfl)), q.rn.fr (fa RNa rfl (fun _ => rfl)) rfl rfl⟩
  · unfold BI
    rw [e 87 (by decide), e 70 (by decide), e 78 (by decide), e 69 (by decide), e 88 (by decide), e 79 (by decide)]
    refine ⟨bi1, fun b2 hb2 h1 => ?_, bi3⟩
    obtain ⟨y1, y2, y3, y4, y5, y6⟩ := bi2 b2 hb2 h1
    have := ge b2
    exact ⟨y1, y2, y3, y4, y5, by omega⟩
  · unfold TA
    rw [e 103 (by decide), e 104 (by decide), e 105 (by decide), e 106 (by decide), e 107 (by decide), e 108 (by decide), e 73 (by decide), e 78 (by decide), e 87 (by decide)]
    refine ⟨ta1, ta2, ta3, ta4, ta5, ta6, fun b2 cell t h1 h2 h3 h4 => ?_, fun b2 c t h1 h2 h3 h4 => ?_⟩
    · obtain ⟨y1, y2⟩ := ta7 b2 cell t h1 h2 h3 h4
      have := ge b2
      exact ⟨by omega, by omega⟩
    · obtain ⟨y1, y2⟩ := ta8 b2 c t h1 h2 h3 h4
      have := ge b2
      exact ⟨by omega, by omega⟩
  · unfold TB
    rw [e 103 (by decide), e 104 (by decide), e 106 (by decide), e 107 (by decide), e 108 (by decide), e 62 (by decide), e 70 (by decide), e 87 (by decide)]
    refine ⟨fun b2 cell t h1 h2 h3 h4 => ?_, fun b2 c h1 h2 h3 => ?_⟩
    · rw [n86]
      by_cases eb : b2 = b
      · subst eb
        obtain ⟨y1, y2⟩ := ta7 b2 cell t h1 h2 h3 h4
        rw [if_pos rfl, hfg_39 (by omega), zbt_0, zbt_0, decide_eq_false (by omega), decide_eq_false (by omega)]
        exact ⟨rfl, rfl⟩
      · rw [if_neg eb, hfg_p (fun z => eb (q.bh.2 b2 b h1 hb h2 hin z))]
        exact tb1 b2 cell t h1 h2 h3 h4
    · rw [n86]
      obtain ⟨y1, y2⟩ := tb2 b2 c h1 h2 h3
      refine ⟨by rw [hfg_D (by decide) (by decide)]; exact y1, fun t ht => ?_⟩
      by_cases eb : b2 = b
      · subst eb
        have c16 : c < 16 := by
          obtain ⟨k, hkK, hk, hbL, -, ⟨r0, r1, r2, r3, r4, r5⟩, -⟩ := q.blk hb hin
          rw [hk, Int.toNat_natCast] at h3
          omega
        obtain ⟨y3, y4⟩ := ta8 b2 c t h1 h2 c16 ht
        rw [if_pos rfl, hfg_40 (by omega), zbt_0, zbt_0, decide_eq_false (by omega), decide_eq_false (by omega)]
        exact ⟨rfl, rfl⟩
      · rw [if_neg eb, hfg_p (fun z => eb (q.bh.2 b2 b h1 hb h2 hin z))]
        exact y2 t ht
  · refine ⟨fun j hj => ?_, fun b2 hb2 => ?_⟩
    · rw [e 12 (by decide)]
      have := bd.1 j hj
      omega
    · rw [n86]
      have y1 := bd.2 b2 hb2
      have y2 := bd.2 b hb
      split
      · omega
      · omega
theorem zsw {c j : Nat} {v v1 v2 : Int} (h1 : c ≠ 12) (h2 : c ≠ 86) : au (au (au A 12 60 v1) 86 b v2) c j v = au (au (au A c j v) 12 60 v1) 86 b v2 := by
  rw [au_cm (fun z => h2 z.symm), au_cm (fun z => h1 z.symm)]
theorem PF.pass (x : PF A h K L bc tc gc n B N M) (hb : b < 72) (hin : A 87 b = 1) : PF (au (au A 12 60 (A 12 60 + 1)) 86 b (A 86 b + 1)) (zset (hfg h (bc b)) 4 0 6 (A 12 60 + 1)) K L bc tc gc (n + 2) B N M ∧ 0 ≤ A 12 60 ∧ A 12 60 ≤ 64 * (n : Int) ∧ zhD h 4 0 6 = A 12 60 ∧ 0 ≤ A 86 b ∧ A 86 b ≤ n := by
  obtain ⟨s0, q0, -⟩ := id x
  have bd := q0.bd
  have m11 := q0.rm.2.2.2.2.2.2.2.2.2.2.1
  have bi := (q0.bi.2.1 b hb (by rw [ard_ne (by decide)]; exact hin)).2.2.2.2.2
  have g1 := bd.1 60 (by omega)
  have g2 := bd.2 b hb
  rw [ard_ne (by decide)] at g1 g2 m11 bi
  refine ⟨x.mv (by rw [au_ne (by decide), au_ne (by decide)]) (by rw [au_ne (by decide), au_ne (by decide)]) (by rw [au_ne (by decide), au_ne (by decide)]) (by rw [au_ne (by decide), au_ne (by decide)]) (by rw [au_ne (by decide), au_ne (by decide)]) (by rw [au_ne (by decide), au_ne (by decide)]) (fun w => w.fr (by rw [au_ne (by decide), au_ne (by decide)]) (by rw [au_ne (by decide), au_ne (by decide)]) (by rw [au_ne (by decide), au_ne (by decide)]) (by rw [au_ne (by decide), au_ne (by decide)]) (by rw [au_ne (by decide), au_ne (by decide)]) (by rw [au_ne (by decide), au_ne (by decide)]) (by rw [au_ne (by decide), au_ne (by decide)]) (by rw [au_ne (by decide), au_ne (by decide)]) (by rw [au_ne (by decide), au_ne (by decide)])) (fun s q => ?_), g1.1, g1.2.1, m11, bi, g2⟩
  have y := rr_pass q hb (by rw [ard_ne (by decide)]; exact hin)
  rw [ard_ne (show 86 ≠ 69 by decide)] at y
  have z := rr_f6 y (v := A 12 60 + 1) (by omega) (by omega)
  rw [ard_cm (by decide), ard_cm (by decide), au_cm (c := 12) (by decide)]
  exact z
theorem wl_wake {t : Nat} {P len : Int} (w : WL A) (hA : ∀ c, c ≠ 89 → c ≠ 90 → A' c = A c) (h2 : ∀ j, j ≠ 16 * b + t → A' 89 j = A 89 j ∧ A' 90 j = A 90 j) (h3 : A' 89 (16 * b + t) = if P + 1 < len then 114 else 101) (ht : t < 16) (hl : A 63 (A 70 (b / 6)).toNat = len) (hall : P + 1 < len → ∀ t' : Nat, (t' : Int) < A 73 (b / 6) → A 89 (16 * b + t') = 119 → A 90 (16 * b + t') = P) (h16 : ∀ u i b2 : Nat, u < 2 → (i : Int) < A 93 u → A 94 (4 * u + i) = (b2 : Int) → A 73 (b2 / 6) ≤ 16) : WL A' := by
  intro u i b2 j k hu hi e94 e95 hk hlt hw hp
  rw [hA 93 (by decide) (by decide)] at hi
  rw [hA 94 (by decide) (by decide)] at e94
  rw [hA 95 (by decide) (by decide)] at e95
  rw [hA 73 (by decide) (by decide)] at hlt
  rw [hA 63 (by decide) (by decide), hA 70 (by decide) (by decide)] at hp
  have ht2 := h16 u i b2 hu hi e94
  have ne : 16 * b2 + (4 * j + k) ≠ 16 * b + t := fun z => by
    rw [z, h3] at hw
    by_cases hz : P + 1 < len
    · rw [if_pos hz] at hw
      cases hw
    · rw [if_neg hz] at hw
      cases hw
  obtain ⟨v1, v2⟩ := h2 _ ne
  rw [v1] at hw
  rw [v2] at hp
  obtain ⟨x1, x2⟩ := w u i b2 j k hu hi e94 e95 hk hlt hw hp
  refine ⟨by rw [hA 97 (by decide) (by decide)]; exact x1, fun k2 hk2 hlt2 => ?_⟩
  rw [hA 73 (by decide) (by decide)] at hlt2
  by_cases e : 16 * b2 + (4 * j + k2) = 16 * b + t
  · rw [e, h3]
    by_cases hz : P + 1 < len
    · exfalso
      have eb : b2 = b := by omega
      subst eb
      have := hall hz (4 * j + k) hlt hw
      rw [this, hl] at hp
      omega
    · rw [if_neg hz]
      decide
  · rw [(h2 _ e).1]
    exact x2 k2 hk2 hlt2
theorem PF.wake (x : PF A h K L bc tc gc n B N M) {t : Nat} {P len : Int} (hb : b < 72) (hin : A 87 b = 1) (ht : (t : Int) < A 73 (b / 6)) (hP : 0 ≤ P) (hl : A 63 (A 70 (b / 6)).toNat = len) (hall : P + 1 < len → ∀ t' : Nat, (t' : Int) < A 73 (b / 6) → A 89 (16 * b + t') = 119 → A 90 (16 * b + t') = P) : PF (au (au (au A 89 (16 * b + t) 114) 90 (16 * b + t) (P + 1)) 89 (16 * b + t) (if P + 1 < len then 114 else 101)) (if P + 1 < len then zset (zset h 6 (tc (16 * b + t)) 4 114) 6 (tc (16 * b + t)) 3 (P + 1) else zset (zset (zset h 6 (tc (16 * b + t)) 4 114) 6 (tc (16 * b + t)) 3 (P + 1)) 6 (tc (16 * b + t)) 4 101) K L bc tc gc n B N M := by
  obtain ⟨h16, ht16⟩ : (∀ u i b2 : Nat, u < 2 → (i : Int) < A 93 u → A 94 (4 * u + i) = (b2 : Int) → A 73 (b2 / 6) ≤ 16) ∧ t < 16 := by
    obtain ⟨s0, q0, -⟩ := id x
    have E : ∀ c, c ≠ 69 → ard A 69 s0 c = A c := fun c hc => ard_ne hc
    have bl : ∀ b2, b2 < 72 → A 87 b2 = 1 → A 73 (b2 / 6) ≤ 16 := fun b2 h1 h2 => by
      obtain ⟨k, -, -, -, ⟨-, y⟩, -⟩ := q0.blk h1 (by rw [E 87 (by decide)]; exact h2)
      rw [E 73 (by decide)] at y
      exact y
    refine ⟨fun u i b2 hu hi e94 => ?_, by have := bl b hb hin; omega⟩
    obtain ⟨b9, j9, e1, e2, -, -, e5, -⟩ := (q0.us u hu).2.1 i (by rw [E 93 (by decide)]; exact hi)
    rw [E 94 (by decide), e94] at e1
    rw [E 87 (by decide)] at e5
    rw [Int.ofNat.inj e1]
    exact bl b9 e2 e5
  refine x.mv (by rw [au_ne (by decide), au_ne (by decide), au_ne (by decide)]) (by rw [au_ne (by decide), au_ne (by decide), au_ne (by decide)]) (by rw [au_ne (by decide), au_ne (by decide), au_ne (by decide)]) (by rw [au_ne (by decide), au_ne (by decide), au_ne (by decide)]) (by rw [au_ne (by decide), au_ne (by decide), au_ne (by decide)]) (by rw [au_ne (by decide), au_ne (by decide), au_ne (by decide)]) (fun w => wl_wake (P := P) (len := len) w (fun c c1 c2 => by rw [au_ne c1, au_ne c2, au_ne c1]) (fun j hj => by unfold au; rw [if_neg (fun z => hj z.2), if_neg (fun z => hj z.2), if_neg (fun z => hj z.2), if_neg (fun z => hj z.2), if_neg (fun z => hj z.2), if_neg (fun z => hj z.2)]; exact ⟨rfl, rfl⟩) au_same ht16 hl hall h16) (fun s q => ?_)
  rw [ard_cm (by decide), ard_cm (by decide), ard_cm (by decide)]
  have E : ∀ c, c ≠ 69 → ard A 69 s c = A c := fun c hc => ard_ne hc
  have hlen : ard A 69 s 63 (ard A 69 s 70 (b / 6)).toNat = len := by rw [E 63 (by decide), E 70 (by decide)]; exact hl
  refine rr_st q hb (by rw [E 87 (by decide)]; exact hin) (by rw [E 73 (by decide)]; exact ht) (fun c j hz => ?_) (fun c p j hz => ?_) (by split <;> rfl) (by split <;> rfl) (by split <;> rfl) (by split <;> rfl) ?_ ?_ ?_
  · unfold au
    rw [if_neg (fun z => hz ⟨Or.inl z.1, z.2⟩), if_neg (fun z => hz ⟨Or.inr z.1, z.2⟩), if_neg (fun z => hz ⟨Or.inl z.1, z.2⟩)]
  · split
    · rw [zD_set, if_neg (fun z => hz ⟨z.1, z.2.1, Or.inl z.2.2⟩), zD_set, if_neg (fun z => hz ⟨z.1, z.2.1, Or.inr z.2.2⟩)]
    · rw [zD_set, if_neg (fun z => hz ⟨z.1, z.2.1, Or.inr z.2.2⟩), zD_set, if_neg (fun z => hz ⟨z.1, z.2.1, Or.inl z.2.2⟩), zD_set, if_neg (fun z => hz ⟨z.1, z.2.1, Or.inr z.2.2⟩)]
  · rw [au_same]
    split
    · exact Or.inl rfl
    · exact Or.inr (Or.inr rfl)
  · rw [au_same]
    by_cases hz : P + 1 < len
    · rw [if_pos hz, if_pos hz, zD_nj (by decide), zD_eq]
    · rw [if_neg hz, if_neg hz, zD_eq]
  · rw [au_same]
    by_cases hz : P + 1 < len
    · rw [if_pos hz, if_pos hz, zD_eq, au_ne (by decide), au_same, hlen]
      exact fun _ => ⟨rfl, by omega, hz⟩
    · rw [if_neg hz]
      exact fun z => absurd rfl z
/-- a block's threads, at their places -/
theorem PF.tt (x : PF A h K L bc tc gc n B N M) (hb : b < 72) (hin : A 87 b = 1) {th : Nat} (h73 : A 73 (b / 6) = (th : Int)) : TT A h bc tc b th ∧ (∀ t, t < th → A 89 (16 * b + t) = 119 → zhD h 6 (tc (16 * b + t)) 3 = A 90 (16 * b + t) ∧ 0 ≤ A 90 (16 * b + t) ∧ A 90 (16 * b + t) < 40) ∧ (∀ t, t < th → zhD h 6 (tc (16 * b + t)) 0 = (t : Int)) := by
  obtain ⟨s, q, -⟩ := x
  have E : ∀ c, c ≠ 69 → ard A 69 s c = A c := fun c hc => ard_ne hc
  have hin' : ard A 69 s 87 b = 1 := by rw [E 87 (by decide)]; exact hin
  have h73' : ard A 69 s 73 (b / 6) = (th : Int) := by rw [E 73 (by decide)]; exact h73
  have t0 := q.thr9 hb hin' h73'
  unfold TT at t0 ⊢
  rw [E 89 (by decide)] at t0
  refine ⟨t0, fun t ht hw => ?_, fun t ht => ?_⟩
  · obtain ⟨d1, d2, d3, d4⟩ := q.td b hb hin' t (by rw [h73']; omega)
    rw [E 89 (by decide), E 90 (by decide)] at d3
    obtain ⟨e1, e2, e3⟩ := d3 (by rw [hw]; decide)
    obtain ⟨k, hkK, hk, hbL, -, ⟨r0, r1, r2, r3, r4, r5⟩, -⟩ := q.blk hb hin'
    rw [hk, Int.toNat_natCast] at e3
    exact ⟨e1, e2, by omega⟩
  · exact (q.th.1 b hb hin' t (by rw [h73']; omega)).2.2.2.1
theorem wk_loop {th : Nat} {P len v1 v2 : Int} (hb : b < 72) (hP : 0 ≤ P ∧ P < 40) (g : zH) : ∀ (f2 t f1 : Nat) (h : zH) (A : zA), t ≤ th → th - t < f2 → th - t < f1 → PF A h K L bc tc gc n B N M → A 87 b = 1 → A 73 (b / 6) = (th : Int) → A 63 (A 70 (b / 6)).toNat = len → (∀ t', t ≤ t' → t' < th → A 89 (16 * b + t') = 119 → A 90 (16 * b + t') = P) → (∀ t', t' < t → A 89 (16 * b + t') ≠ 119) → ∃ (h' : zH) (A' : zA), (∀ kr : Int → zH → Option ρ, zit (fun _ _ _ _ _ _ => none) (Th_release_36_48b kr) f1 (bc b : Int) (th : Int) P len (t : Int) h = kr 1 h') ∧ (∀ kr : Int → zH → Option ρ, zit (fun _ _ _ _ => none) (M_lookAt_191b kr) f2 (b : Int) ((b / 6 : Nat) : Int) (t : Int) (mh g (au (au A 12 60 v1) 86 b v2)) = kr 0 (mh g (au (au A' 12 60 v1) 86 b v2))) ∧ PF A' h' K L bc tc gc n B N M ∧ (∀ c, c ≠ 89 → c ≠ 90 → A' c = A c) ∧ (∀ t', t' < th → A' 89 (16 * b + t') ≠ 119) ∧ (∀ c p j, c ≠ 6 → zhD h' c p j = zhD h c p j) ∧ zhN h' = zhN h ∧ zhL h' = zhL h ∧ (∀ t', t' < th → A' 89 (16 * b + t') = if A 89 (16 * b + t') = 119 then (if P + 1 < len then 114 else 101) else A 89 (16 * b + t'))
  | 0, _, _, _, _, _, hf, _, _, _, _, _, _, _ => absurd hf (Nat.not_lt_zero _)
  | f2 + 1, t, f1, h, A, ht, hf, hf1, x, hin, h73, hl, hw, hd => by
    obtain ⟨tt, tp, -⟩ := x.tt hb hin h73
    obtain ⟨b1, b2, b3, b4, b5, b6, b7⟩ := tt
    obtain ⟨f, rfl⟩ : ∃ f, f1 = f + 1 := ⟨f1 - 1, by omega⟩
    have b12 : b / 6 < 12 := by omega
    have a73 : au (au A 12 60 v1) 86 b v2 73 = A 73 := by rw [au_ne (by decide), au_ne (by decide)]
    have a89 : au (au A 12 60 v1) 86 b v2 89 = A 89 := by rw [au_ne (by decide), au_ne (by decide)]
    by_cases h4 : t < th
    · have hlt : (t : Int) < (th : Int) := by omega
      have t9 : t < 100000 := by omega
      have t16 : t < 16 := by omega
      have i1 : 16 * b + t < 1152 := by omega
      obtain ⟨t1, t2, t3⟩ := b7 t h4
      by_cases hv : A 89 (16 * b + t) = 119
      · have e90 : A 90 (16 * b + t) = P := hw t (Nat.le_refl _) h4 hv
        have x1 := x.wake (t := t) (P := P) (len := len) hb hin (by rw [h73]; exact hlt) hP.1 hl (fun _ t' k1 k2 => by
          rw [h73] at k1
          by_cases k3 : t' < t
          · exact absurd k2 (hd t' k3)
          · exact hw t' (by omega) (by omega) k2)
        generalize eA : au (au (au A 89 (16 * b + t) 114) 90 (16 * b + t) (P + 1)) 89 (16 * b + t) (if P + 1 < len then 114 else 101) = A1 at x1
        generalize eh : (if P + 1 < len then zset (zset h 6 (tc (16 * b + t)) 4 114) 6 (tc (16 * b + t)) 3 (P + 1) else zset (zset (zset h 6 (tc (16 * b + t)) 4 114) 6 (tc (16 * b + t)) 3 (P + 1)) 6 (tc (16 * b + t)) 4 101) = h1 at x1
        have V : ∀ c, c ≠ 89 → c ≠ 90 → A1 c = A c := fun c c1 c2 => by rw [← eA, au_ne c1, au_ne c2, au_ne c1]
        have V2 : ∀ j, j ≠ 16 * b + t → A1 89 j = A 89 j ∧ A1 90 j = A 90 j := fun j hj => by
          rw [← eA]
          unfold au
          refine ⟨?_, ?_⟩
          · rw [if_neg (fun z => hj z.2), if_neg (fun z => hj z.2), if_neg (fun z => hj z.2)]
          · rw [if_neg (fun z => hj z.2), if_neg (fun z => hj z.2), if_neg (fun z => hj z.2)]
        have V3 : A1 89 (16 * b + t) ≠ 119 := by
          rw [← eA, au_same]
          split <;> decide
        have V4 : A1 89 (16 * b + t) = if P + 1 < len then 114 else 101 := by rw [← eA, au_same]
        have D : (∀ c p j, c ≠ 6 → zhD h1 c p j = zhD h c p j) ∧ zhN h1 = zhN h ∧ zhL h1 = zhL h := by
          rw [← eh]
          split
          · exact ⟨fun c p j hc => by rw [zD_ne hc, zD_ne hc], rfl, rfl⟩
          · exact ⟨fun c p j hc => by rw [zD_ne hc, zD_ne hc, zD_ne hc], rfl, rfl⟩
        obtain ⟨h', A', z1, z2, z3, z4, z5, z6, z7, z8, z9⟩ := wk_loop (len := len) (v1 := v1) (v2 := v2) hb hP g f2 (t + 1) f h1 A1 h4 (by omega) (by omega) x1 (by rw [V 87 (by decide) (by decide)]; exact hin) (by rw [V 73 (by decide) (by decide)]; exact h73) (by rw [V 63 (by decide) (by decide), V 70 (by decide) (by decide)]; exact hl) (fun t' k1 k2 k3 => by
          obtain ⟨y1, y2⟩ := V2 (16 * b + t') (by omega)
          rw [y1] at k3
          rw [y2]
          exact hw t' (by omega) k2 k3) (fun t' k1 => by
          by_cases e : t' = t
          · rw [e]
            exact V3
          · rw [(V2 (16 * b + t') (by omega)).1]
            exact hd t' (by omega))
        refine ⟨h', A', fun kr => ?_, fun kr => ?_, z3, fun c c1 c2 => (z4 c c1 c2).trans (V c c1 c2), z5, fun c p j hc => (z6 c p j hc).trans (D.1 c p j hc), z7.trans D.2.1, z8.trans D.2.2, fun t' k1 => ?_⟩
        rotate_left
        rotate_left
        · rw [z9 t' k1]
          by_cases e : t' = t
          · rw [e, if_neg V3, V4, if_pos hv]
          · rw [(V2 (16 * b + t') (by omega)).1]
        · have wp : wr (P + 1) = P + 1 := wr_id (by omega) (by omega)
          have p0 : 0 ≤ P + 1 := by clear wp; omega
          have b3' : bc b < zhN (zset h 6 (tc (16 * b + t)) 4 114) 36 := b3
          have t2' : tc (16 * b + t) < zhN (zset h 6 (tc (16 * b + t)) 4 114) 6 := t2
          have b4' : zhL (zset h 6 (tc (16 * b + t)) 4 114) 36 (bc b) = th := b4
          rw [zit_s, ← z1 kr]
          generalize zit (fun _ _ _ _ _ _ => none) (Th_release_36_48b kr) f = r9
          unfold Th_release_36_48b Th_release_36_91
          rw [if_pos hlt, zob_n b3, b4, if_pos hlt, zob_n b3, b4, zix_n h4, t1, zob_n t2, x_isWaiting t2, t3, decide_eq_true hv, tb_t, if_neg (by decide), zob_n b3, b4, zix_n h4, t1, zob_n t2, zlet_d, zob_n b3', b4', zix_n h4, zD_ne (show 36 ≠ 6 by decide), t1, zob_n t2', wp, x_goTo t2' p0, eh, wr_s t9]
        · have wp : wr (P + 1) = P + 1 := wr_id (by omega) (by omega)
          have k4 : (A 70 (b / 6)).toNat < 4 ∧ 0 ≤ A 70 (b / 6) := by
            obtain ⟨s, q, -⟩ := x
            obtain ⟨k, hkK, hk, -, -, -, ⟨-, -, k4, -⟩, -⟩ := q.blk hb (by rw [ard_ne (by decide)]; exact hin)
            rw [ard_ne (by decide)] at hk
            clear wp
            omega
          obtain ⟨kk, hk, hk4⟩ : ∃ kk : Nat, A 70 (b / 6) = (kk : Int) ∧ kk < 4 := ⟨(A 70 (b / 6)).toNat, by clear wp; omega, k4.1⟩
          have hl2 : A 63 kk = len := by rw [hk, Int.toNat_natCast] at hl; exact hl
          rw [zit_s, ← z2 kr]
          generalize zit (fun _ _ _ _ => none) (M_lookAt_191b kr) f2 = r9
          unfold M_lookAt_191b M_lookAt_277 M_lookAt_278
          rw [zix_n b12, mD73, a73, h73, if_pos hlt, m_threadCell hb t16, zix_n i1, mD89, a89, if_pos hv, zix_n i1, mS89, zlet_d, zix_n i1, zix_n i1, mD90, mS90, zlet_d, zsw (c := 89) (by decide) (by decide), au_ne (c := 86) (by decide), au_ne (c := 12) (by decide), au_ne (c := 89) (by decide), e90, wp, zsw (c := 90) (by decide) (by decide), zix_n i1, zix_n b12, mD70, au_ne (c := 86) (by decide), au_ne (c := 12) (by decide), au_ne (c := 90) (by decide), au_ne (c := 89) (by decide), hk, zix_n hk4, mD90, mD63, au_ne (c := 86) (by decide), au_ne (c := 12) (by decide), au_same, au_ne (c := 86) (by decide), au_ne (c := 12) (by decide), au_ne (c := 90) (by decide), au_ne (c := 89) (by decide), hl2, wr_s t9]
          by_cases hz : P + 1 < len
          · rw [if_pos hz, zix_n i1, znar_c (by decide), mS89, zlet_d, zsw (c := 89) (by decide) (by decide)]
            rw [if_pos hz] at eA
            rw [eA]
          · rw [if_neg hz, zix_n i1, znar_c (by decide), mS89, zlet_d, zsw (c := 89) (by decide) (by decide)]
            rw [if_neg hz] at eA
            rw [eA]
      · obtain ⟨h', A', z1, z2, z3⟩ := wk_loop (len := len) (v1 := v1) (v2 := v2) hb hP g f2 (t + 1) f h A h4 (by omega) (by omega) x hin h73 hl (fun t' k1 k2 k3 => hw t' (by omega) k2 k3) (fun t' k1 => by
          by_cases e : t' = t
          · rw [e]
            exact hv
          · exact hd t' (by omega))
        refine ⟨h', A', fun kr => ?_, fun kr => ?_, z3⟩
        · rw [zit_s, ← z1 kr]
          generalize zit (fun _ _ _ _ _ _ => none) (Th_release_36_48b kr) f = r9
          unfold Th_release_36_48b Th_release_36_91
          rw [if_pos hlt, zob_n b3, b4, if_pos hlt, zob_n b3, b4, zix_n h4, t1, zob_n t2, x_isWaiting t2, t3, decide_eq_false hv, tb_f, if_pos rfl, wr_s t9]
        · rw [zit_s, ← z2 kr]
          generalize zit (fun _ _ _ _ => none) (M_lookAt_191b kr) f2 = r9
          unfold M_lookAt_191b M_lookAt_277 M_lookAt_278
          rw [zix_n b12, mD73, a73, h73, if_pos hlt, m_threadCell hb t16, zix_n i1, mD89, a89, if_neg hv, wr_s t9]
    · have : t = th := by omega
      subst this
      refine ⟨h, A, fun kr => ?_, fun kr => ?_, x, fun _ _ _ => rfl, hd, fun _ _ _ _ => rfl, rfl, rfl, fun t' k1 => by rw [if_neg (hd t' k1)]⟩
      · rw [zit_s]
        unfold Th_release_36_48b Th_release_36_97
        rw [if_neg (Int.lt_irrefl _)]
      · rw [zit_s]
        unfold M_lookAt_191b
        rw [zix_n b12, mD73, a73, h73, if_neg (Int.lt_irrefl _)]
end
