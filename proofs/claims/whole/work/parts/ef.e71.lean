/-! A BLOCK SETTLES -/
section
variable {ρ : Type} {h h' g : zH} {A A' B : zA} {kr : Int → zH → Option ρ} {K L n n' : Nat} {bc tc gc : Nat → Nat} {N M : Int} {s : Nat → Int} {b : Nat}
theorem zcv_114 {th : Nat} (hr : zan (fun t => decide (A 89 (16 * b + t) = 114)) th = true) : 0 < zcv A b 114 th := by
  obtain ⟨k, k1, k2⟩ := (zan_iff th).mp hr
  have r := zcv_r (A := A) (b := b) (v := 114) th
  have : zcv A b 114 th ≠ 0 := fun z => (r.2.2.mp z) k k1 (of_decide_eq_true k2)
  omega
theorem zcv_114n {th : Nat} (hr : zan (fun t => decide (A 89 (16 * b + t) = 114)) th = false) : zcv A b 114 th = 0 := by
  refine (zcv_r th).2.2.mpr (fun k hk z => ?_)
  have := (zan_iff (f := fun t => decide (A 89 (16 * b + t) = 114)) th).mpr ⟨k, hk, decide_eq_true z⟩
  rw [hr] at this
  cases this
theorem zcv_119 {th : Nat} : zcv A b 119 th = 0 ↔ zlw A b 0 th = -1 := by
  rw [(zcv_r th).2.2]
  constructor
  · intro z
    rcases zlw_r (A := A) (b := b) th 0 with r | ⟨r1, r2, r3, -⟩
    · exact r
    · exact absurd r3 (z _ (by omega))
  · intro z k hk
    exact zlw_n th 0 z k (Nat.zero_le _) (by omega)
theorem m_look_run {th : Nat} (hb : b < 72) (hth : th ≤ 16) (hin : A 87 b = 1) (h73 : A 73 (b / 6) = (th : Int)) (hr : zan (fun t => decide (A 89 (16 * b + t) = 114)) th = true) : M_lookAt (b : Int) (mh g A) kr = kr 0 (mh g A) := by
  unfold M_lookAt M_lookAt_24
  rw [zix_n hb, mD87, if_neg (by rw [hin]; decide), m_count hb hth h73, if_pos (zcv_114 hr)]
theorem m_look_end {th : Nat} (hb : b < 72) (hth : th ≤ 16) (hin : A 87 b = 1) (h73 : A 73 (b / 6) = (th : Int)) (hr : zan (fun t => decide (A 89 (16 * b + t) = 114)) th = false) (hw : zlw A b 0 th = -1) (h79 : 0 ≤ A 79 (b / 6) ∧ A 79 (b / 6) < 1000) : M_lookAt (b : Int) (mh g A) kr = M_leave (b : Int) (mh g (au A 79 (b / 6) (A 79 (b / 6) + 1))) (fun _ h11 => kr 0 h11) := by
  have b12 : b / 6 < 12 := by omega
  have w1 : wr (A 79 (b / 6) + 1) = A 79 (b / 6) + 1 := wr_id (by omega) (by omega)
  unfold M_lookAt
  rw [zix_n hb, mD87, if_neg (by rw [hin]; decide), m_count hb hth h73, zcv_114n hr, if_neg (Int.lt_irrefl 0), m_count hb hth h73, zcv_119.mpr hw, if_pos rfl, wtd6 hb, zix_n b12, zix_n b12, mD79, w1, mS79, zlet_d]
theorem m_look_wait {th : Nat} (hb : b < 72) (hth : th ≤ 16) (hin : A 87 b = 1) (h73 : A 73 (b / 6) = (th : Int)) (hr : zan (fun t => decide (A 89 (16 * b + t) = 114)) th = false) (hw : zlw A b 0 th ≠ -1) : M_lookAt (b : Int) (mh g A) kr = M_lookAt_66b kr (fun _ _ _ _ _ _ => none) (b : Int) ((b / 6 : Nat) : Int) (zlw A b 0 th) (tb (zeq A b 0 th)) (-1) (mh g A) := by
  have b12 : b / 6 < 12 := by omega
  have n1 : ¬ zcv A b 119 th = 0 := fun z => hw (zcv_119.mp z)
  have f1 : th < zN := by show th < 5000; omega
  have w1 : wr ((th : Int) - 1) = (th : Int) - 1 := wr_id (by omega) (by omega)
  unfold M_lookAt
  rw [zix_n hb, mD87, if_neg (by rw [hin]; decide), m_count hb hth h73, zcv_114n hr, if_neg (Int.lt_irrefl 0), m_count hb hth h73, if_neg n1, wtd6 hb, zix_n b12, mD73, h73, w1]
  exact m_la66 hb hth zN th 0 rfl f1
theorem x_end_no {th : Nat} (q : TT A h bc tc b th) (hn : zan (fun t => decide (A 89 (16 * b + t) = 114)) th = true ∨ zlw A b 0 th ≠ -1) : Co_endIfEnded 0 (bc b : Int) h kr = kr 0 h := by
  have b1 := q.1
  unfold Co_endIfEnded
  rw [zob_n b1, x_isAllEnded q]
  rcases hn with z | z
  · rw [z, Bool.not_true, Bool.false_and, tb_f, if_pos rfl]
  · rw [decide_eq_false z, Bool.and_false, tb_f, if_pos rfl]
theorem end_any (x : PF A h K L bc tc gc n B N M) {th : Nat} (hb : b < 72) (hin : A 87 b = 1) (h73 : A 73 (b / 6) = (th : Int)) (hn : zan (fun t => decide (A 89 (16 * b + t) = 114)) th = true ∨ zlw A b 0 th = -1) (g : zH) : ∃ (h' : zH) (A' : zA), (∀ kr : Int → zH → Option ρ, Co_endIfEnded 0 (bc b : Int) h kr = kr 0 h') ∧ (∀ kr : Int → zH → Option ρ, M_lookAt (b : Int) (mh g A) kr = kr 0 (mh g A')) ∧ PF A' h' K L bc tc gc n B N M ∧ A' 12 = A 12 := by
  obtain ⟨tt, -, -⟩ := x.tt hb hin h73
  have hth := tt.2.2.2.2.2.1
  cases hr : zan (fun t => decide (A 89 (16 * b + t) = 114)) th with
  | true => exact ⟨h, A, fun kr => x_end_no tt (Or.inl hr), fun kr => m_look_run hb hth hin h73 hr, x, rfl⟩
  | false =>
    have hw := hn.resolve_left (by rw [hr]; decide)
    have h79 : 0 ≤ A 79 (b / 6) ∧ A 79 (b / 6) < 1000 := by
      obtain ⟨s, q, -⟩ := x
      have E : ∀ c, c ≠ 69 → ard A 69 s c = A c := fun c hc => ard_ne hc
      obtain ⟨i1, i2, -⟩ := q.bi.2.1 b hb (by rw [E 87 (by decide)]; exact hin)
      have r12 := (q.rl.l i1).2.2.2.2.2.2.2.2.2.2.2.1 i2
      rw [E 79 (by decide), E 78 (by decide), E 72 (by decide)] at r12
      omega
    obtain ⟨h', A', z1, z2, z3, z4, z5⟩ := end_both (ρ := ρ) x hb hin h73 hr hw g
    exact ⟨h', A', z1, fun kr => by rw [m_look_end hb hth hin h73 hr hw h79, z2], z3, z5 12 (by decide) (by decide) (Or.inl (by decide))⟩
theorem ms_step {r2 : Int → Int → zH → Option ρ} {a2 : Int} (hb : b < 72) (hin : A 87 b = 1) (hne : a2 ≠ A 12 60) : M_settle_2b kr r2 (b : Int) a2 (mh g A) = M_writeEnded (b : Int) (mh g A) fun _ h3 => M_lookAt (b : Int) h3 fun _ h5 => r2 (b : Int) (A 12 60) h5 := by
  unfold M_settle_2b
  rw [zix_n hb, mD87, if_neg (by rw [hin]; decide), mD12, if_neg hne]
theorem ms_stop {r2 : Int → Int → zH → Option ρ} {a2 : Int} (hb : b < 72) (hs : A 87 b = 0 ∨ a2 = A 12 60) : M_settle_2b kr r2 (b : Int) a2 (mh g A) = kr 0 (mh g A) := by
  unfold M_settle_2b M_settle_37
  rw [zix_n hb, mD87]
  by_cases h0 : A 87 b = 0
  · rw [if_pos h0]
  · rw [if_neg h0, mD12, if_pos (hs.resolve_left h0)]
theorem PF.rs (x : PF A h K L bc tc gc n B N M) : RS h := by
  obtain ⟨s, q, -⟩ := x
  exact q.rs
theorem PF.th9 (x : PF A h K L bc tc gc n B N M) (hb : b < 72) (hin : A 87 b = 1) : ∃ th : Nat, A 73 (b / 6) = (th : Int) := by
  obtain ⟨s, q, -⟩ := x
  obtain ⟨k, -, -, -, ⟨t0, -⟩, -⟩ := q.blk hb (by rw [ard_ne (by decide)]; exact hin)
  rw [ard_ne (by decide)] at t0
  exact ⟨(A 73 (b / 6)).toNat, by omega⟩
theorem m_we1_loop {u : Nat} (x : PF A h K L bc tc gc n B N M) {mm : Nat} (hu : u < 2) (h93 : A 93 u = (mm : Int)) (hz : ∀ i j' : Nat, i < mm → A 94 (4 * u + i) = (b : Int) → A 95 (4 * u + i) = (j' : Int) → zal (men A b j') 4 = true → A 97 (4 * u + i) = 0) (g : zH) : ∀ f i : Nat, i ≤ mm → mm - i < f → zit (fun _ _ _ _ => none) (M_writeEnded_9b kr) f (b : Int) (u : Int) (i : Int) (mh g A) = kr 0 (mh g A)
  | 0, _, _, hf => absurd hf (Nat.not_lt_zero _)
  | f + 1, i, hi, hf => by
    rw [zit_s]
    obtain ⟨m4, sl⟩ : mm ≤ 4 ∧ ∀ i : Nat, (i : Int) < A 93 u → ∃ b9 j9 : Nat, A 94 (4 * u + i) = (b9 : Int) ∧ MG A (4 * u + i) b9 j9 := by
      obtain ⟨s, q, -⟩ := x
      have E : ∀ c, c ≠ 69 → ard A 69 s c = A c := fun c hc => ard_ne hc
      have un := q.un hu
      rw [E 93 (by decide)] at un
      refine ⟨by omega, fun i hi => ?_⟩
      obtain ⟨b9, j9, z1, z2, z3, z4, z5, z6, z7, z8⟩ := q.slot hu (i := i) (by rw [E 93 (by decide)]; exact hi)
      rw [E 94 (by decide)] at z1
      refine ⟨b9, j9, z1, ?_⟩
      unfold MG at z8 ⊢
      rw [E 94 (by decide), E 95 (by decide), E 73 (by decide)] at z8
      exact z8
    by_cases hlt : i < mm
    · have ih := m_we1_loop x hu h93 hz g f (i + 1) hlt (by omega)
      have hlt' : (i : Int) < (mm : Int) := by omega
      have i9 : i < 100000 := by omega
      have y8 : 4 * u + i < 8 := by omega
      obtain ⟨b9, j9, z1, z2⟩ := sl i (by rw [h93]; exact hlt')
      generalize zit (fun _ _ _ _ => none) (M_writeEnded_9b kr) f = r2 at ih ⊢
      unfold M_writeEnded_9b M_writeEnded_53
      rw [zix_n hu, mD93, h93, if_pos hlt', wr_ut y8, zix_n y8, mD94, wr_s i9]
      by_cases he : A 94 (4 * u + i) = (b : Int)
      · rw [if_pos he, m_hasEnded z2]
        cases hal : zal (men A b9 j9) 4 with
        | false => rw [tb_f, if_pos rfl]; exact ih
        | true =>
          have eb : b9 = b := Int.ofNat.inj (z1.symm.trans he)
          rw [eb] at hal
          have z97 := hz i j9 hlt he z2.2.2.2.2.1 hal
          rw [tb_t, if_neg (by decide), m_writeAll (m := 0) y8 (by decide) (by rw [z97]; rfl) (fun k hk => absurd hk (Nat.not_lt_zero _))]
          exact ih
      · rw [if_neg he]; exact ih
    · have : i = mm := by omega
      subst this
      unfold M_writeEnded_9b
      rw [zix_n hu, mD93, h93, if_neg (Int.lt_irrefl _)]
theorem settle_both (x : PF A h K L bc tc gc n B N M) (bn : n ≤ 9999990) (hb : b < 72) (hin : A 87 b = 1) (g : zH) : ∃ (h' : zH) (A' : zA), (∀ kr : Int → zH → Option ρ, Co_settle 0 (bc b : Int) h kr = kr 0 h') ∧ (∀ kr : Int → zH → Option ρ, M_settle (b : Int) (mh g A) kr = kr 0 (mh g A')) ∧ PF A' h' K L bc tc gc (n + 2) B N M := by
  have un : ∀ (kr : Int → zH → Option ρ) (hh : zH), M_settle (b : Int) hh kr = M_settle_2b kr (M_settle_2b kr (M_settle_2b kr (zit (fun _ _ _ => none) (M_settle_2b kr) 4997))) (b : Int) (-1) hh := fun kr hh => rfl
  have rs0 := x.rs
  obtain ⟨h1, A1, y1, y2, x1, ⟨f1, f2, f3, f4, f5, f6⟩, we1⟩ := we_both (ρ := ρ) x hb hin g
  have hin1 : A1 87 b = 1 := by rw [f1 87 (by decide) (by decide) (by decide) (by decide)]; exact hin
  have e12 : A1 12 = A 12 := f1 12 (by decide) (by decide) (by decide) (by decide)
  have neq : (-1 : Int) ≠ A 12 60 := by
    have := (x.pass hb hin).2.1
    omega
  obtain ⟨th, h73⟩ := x1.th9 hb hin1
  obtain ⟨tt, tp, t0⟩ := x1.tt hb hin1 h73
  have tt' := tt
  obtain ⟨b1, b2, b3, b4, b5, b6, b7⟩ := tt'
  have rs1 := x1.rs
  have b1' : bc b < zhN h 10 := by rw [← f3]; exact b1
  by_cases hn : zan (fun t => decide (A1 89 (16 * b + t) = 114)) th = true ∨ zlw A1 b 0 th = -1
  · obtain ⟨h2, A2, z1, z2, x2, e2⟩ := end_any (ρ := ρ) x1 hb hin1 h73 hn g
    refine ⟨h2, A2, fun kr => ?_, fun kr => ?_, x2.le (by omega)⟩
    · unfold Co_settle Co_settle_20
      rw [zob_0 rs0.N2, zob_n b1', rs0.D2_0_1, y1, zob_n b1, x_isAllWaiting tt]
      have : (!(zan (fun t => decide (A1 89 (16 * b + t) = 114)) th) && !(decide (zlw A1 b 0 th = -1))) = false := by
        rcases hn with w | w
        · rw [w]; rfl
        · rw [decide_eq_true w, Bool.not_true, Bool.and_false]
      rw [this, tb_f, if_pos rfl, zob_0 rs1.N2, z1]
    · rw [un, ms_step hb hin neq, y2, z2]
      exact ms_stop hb (Or.inr (by rw [e2, e12]))
  · have hr : zan (fun t => decide (A1 89 (16 * b + t) = 114)) th = false := by
      cases z : zan (fun t => decide (A1 89 (16 * b + t) = 114)) th with
      | false => rfl
      | true => exact absurd (Or.inl z) hn
    have hw : zlw A1 b 0 th ≠ -1 := fun z => hn (Or.inr z)
    obtain ⟨lo, hlo⟩ : ∃ lo : Nat, zlw A1 b 0 th = (lo : Int) := by
      rcases zlw_r (A := A1) (b := b) th 0 with r | ⟨r1, -⟩
      · exact absurd r hw
      · exact ⟨(zlw A1 b 0 th).toNat, by omega⟩
    have low : lo < th ∧ A1 89 (16 * b + lo) = 119 := by
      rcases zlw_r (A := A1) (b := b) th 0 with r | ⟨r1, r2, r3, -⟩
      · exact absurd r hw
      · rw [hlo, Int.toNat_natCast] at r3
        exact ⟨by omega, r3⟩
    obtain ⟨p1, p2, p3⟩ := tp lo low.1 low.2
    obtain ⟨tl1, tl2, tl3⟩ := b7 lo low.1
    have ze := zeq_iff (A := A1) (b := b) th 0
    rw [hlo, Int.toNat_natCast] at ze
    obtain ⟨k, len, k1, k2, k3, k4, k5, k6, k7⟩ : ∃ (k : Nat) (len : Int), k < zhN h1 7 ∧ b / 6 < zhN h1 9 ∧ zhD h1 10 (bc b) 0 = ((b / 6 : Nat) : Int) ∧ zhD h1 9 (b / 6) 5 = (k : Int) ∧ zhD h1 7 k 3 = len ∧ A1 63 (A1 70 (b / 6)).toNat = len ∧ b / 6 < 12 := by
      obtain ⟨s, q, -⟩ := x1
      have E : ∀ c, c ≠ 69 → ard A1 69 s c = A1 c := fun c hc => ard_ne hc
      have hin' : ard A1 69 s 87 b = 1 := by rw [E 87 (by decide)]; exact hin1
      obtain ⟨k, c1, c2, c3, c4, c5, ⟨d1, d2, d3, d4⟩, ⟨e1, e2, e3, e4, e5⟩⟩ := q.blk hb hin'
      rw [E 70 (by decide)] at c2
      rw [E 63 (by decide)] at e5
      exact ⟨k, A1 63 k, d1, d2, (q.bh.1 b hb hin').2.1, e2, e5, by rw [c2, Int.toNat_natCast], by omega⟩
    have aw : (!(zan (fun t => decide (A1 89 (16 * b + t) = 114)) th) && !(decide (zlw A1 b 0 th = -1))) = true := by rw [hr, decide_eq_false hw]; rfl
    have nlt : ¬ ((tc (16 * b + lo) : Nat) : Int) < 0 := by omega
    have ch3 : ∀ t, t < th → A1 89 (16 * b + t) = 119 → zhD h1 6 (tc (16 * b + t)) 3 = A1 90 (16 * b + t) := fun t ht hz => (tp t ht hz).1
    have fN : th - 0 < zN := by show th - 0 < 5000; omega
    have low1 : 16 * b + lo < 1152 := by omega
    have lo16 : lo < 16 := by omega
    -- the class, to the barrier
    have CB : ∀ kr : Int → zH → Option ρ, Co_settle 0 (bc b : Int) h kr = Bl_passBarrier (bc b : Int) (A1 90 (16 * b + lo)) h1 (fun v4 h5 => if v4 = 0 then (zob h5 6 ((tc (16 * b + lo) : Nat) : Int) fun p6 => zob h5 6 ((tc (16 * b + lo) : Nat) : Int) fun p7 => zob h5 2 0 fun _ => Co_fail 0 (bc b : Int) (zhD h5 6 p6 0) (zhD h5 6 p7 3) 98 h5 fun _ h9 => Co_settle_20 kr 0 (bc b : Int) h9) else zob h5 2 0 fun p10 => zob h5 4 (zhD h5 2 p10 3) fun p11 => zob h5 4 (zhD h5 2 p10 3) fun p12 => zlet (zset h5 4 p12 6 (wr ((zhD h5 4 p11 6) + 1))) fun h13 => Co_settle_20 kr 0 (bc b : Int) h13) := fun kr => by
      unfold Co_settle Co_lookAtBarrier Co_lookAtBarrier_52 Bl_lowestWaiting
      rw [zob_0 rs0.N2, zob_n b1', rs0.D2_0_1, y1, zob_n b1, x_isAllWaiting tt, aw, tb_t, if_neg (by decide), zob_0 rs1.N2, zob_n b1, zob_n b1, zob_n b1, b2, zob_n b3, b4, x_lowest tt, if_neg hw, hlo, Int.toNat_natCast]
      dsimp only
      rw [if_neg nlt, zob_n tl2, zob_n b1, p1]
    have PB : ∀ kr : Int → zH → Option ρ, Bl_passBarrier (bc b : Int) (A1 90 (16 * b + lo)) h1 kr = zit (fun _ _ _ _ _ _ => none) (Th_release_36_3b (fun v7 h8 => if v7 = 0 then kr 0 h8 else zob h8 10 (bc b : Int) fun p9 => Ar_fill_39 (zhD h8 10 p9 5) 0 h8 fun _ h11 => zob h11 10 (bc b : Int) fun p12 => Ar_fill_40 (zhD h11 10 p12 6) 0 h11 fun _ h14 => kr 1 h14)) zN (bc b : Int) (th : Int) (A1 90 (16 * b + lo)) len ((0 : Nat) : Int) h1 := fun kr => by
      unfold Bl_passBarrier
      rw [zob_n b1, zob_n b1, b2, zob_n b3, zob_n b1, k3, zob_n k2, k4, zob_n k1, b4, k5]
      rfl
    cases hz : zeq A1 b 0 th with
    | false =>
      have bad : ∃ t2, 0 ≤ t2 ∧ t2 < th ∧ A1 89 (16 * b + t2) = 119 ∧ A1 90 (16 * b + t2) ≠ A1 90 (16 * b + lo) := by
        refine Classical.byContradiction (fun z => ?_)
        have : zeq A1 b 0 th = true := ze.mpr (fun t _ c2 c3 => Classical.byContradiction (fun w => z ⟨t, Nat.zero_le _, by omega, c3, w⟩))
        rw [hz] at this
        cases this
      obtain ⟨h2, A2, z1, z2, x2, a87, V, D1, D2, D3⟩ := fail_both (ρ := ρ) (t := (lo : Int)) (p := A1 90 (16 * b + lo)) (f := 98) x1 hb hin1 (by decide) g
      have tt2 : TT A1 h2 bc tc b th := by
        refine ⟨by rw [D2]; exact b1, by rw [D1 _ _ _ (by decide) (by decide) (by decide)]; exact b2, by rw [D2]; exact b3, by rw [D3]; exact b4, b5, b6, fun t ht => ?_⟩
        obtain ⟨c1, c2, c3⟩ := b7 t ht
        exact ⟨by rw [D1 _ _ _ (by decide) (by decide) (by decide)]; exact c1, by rw [D2]; exact c2, by rw [D1 _ _ _ (by decide) (by decide) (by decide)]; exact c3⟩
      refine ⟨h2, A2, fun kr => ?_, fun kr => ?_, x2.le (by omega)⟩
      · rw [CB, PB, x_chk_bad tt ch3 zN 0 (Nat.zero_le _) fN bad, if_pos rfl, if_pos rfl, zob_n tl2, zob_n tl2, zob_0 rs1.N2, t0 lo low.1, p1, z1]
        unfold Co_settle_20
        rw [zob_0 x2.rs.N2, x_end_no tt2 (Or.inr hw)]
      · rw [un, ms_step hb hin neq, y2, m_look_wait hb b6 hin1 h73 hr hw, hz, tb_f, hlo]
        unfold M_lookAt_66b
        rw [if_pos (by decide), if_pos rfl, m_threadCell hb lo16, zix_n low1, mD90, wtm6, z2]
        exact ms_stop hb (Or.inl a87)
    | true =>
      have ok : ∀ t, t < th → A1 89 (16 * b + t) = 119 → A1 90 (16 * b + t) = A1 90 (16 * b + lo) := fun t ht hc => ze.mp hz t (Nat.zero_le _) (by omega) hc
      obtain ⟨h2, A2, z1, z2, x2, V, nw, D1, D2, D3, Z⟩ := wk_loop (ρ := ρ) (v1 := A1 12 60 + 1) (v2 := A1 86 b + 1) hb ⟨p2, p3⟩ g zN 0 zN h1 A1 (Nat.zero_le _) fN fN x1 hin1 h73 k6 (fun t _ c2 c3 => ok t c2 c3) (fun t hh => absurd hh (Nat.not_lt_zero _))
      have hin2 : A2 87 b = 1 := by rw [V 87 (by decide) (by decide)]; exact hin1
      obtain ⟨x3, g1, g2, g3, g4, g5⟩ := x2.pass hb hin2
      rw [V 12 (by decide) (by decide)] at x3 g1 g2 g3
      rw [V 86 (by decide) (by decide)] at x3 g4 g5
      have hin3 : au (au A2 12 60 (A1 12 60 + 1)) 86 b (A1 86 b + 1) 87 b = 1 := by rw [au_ne (by decide), au_ne (by decide)]; exact hin2
      have S : ∀ c, c ≠ 12 → c ≠ 86 → au (au A2 12 60 (A1 12 60 + 1)) 86 b (A1 86 b + 1) c = A2 c := fun c c1 c2 => by rw [au_ne c2, au_ne c1]
      have h733 : au (au A2 12 60 (A1 12 60 + 1)) 86 b (A1 86 b + 1) 73 (b / 6) = (th : Int) := by rw [S 73 (by decide) (by decide), V 73 (by decide) (by decide)]; exact h73
      have hn3 : zlw (au (au A2 12 60 (A1 12 60 + 1)) 86 b (A1 86 b + 1)) b 0 th = -1 := by
        rcases zlw_r (A := au (au A2 12 60 (A1 12 60 + 1)) 86 b (A1 86 b + 1)) (b := b) th 0 with r | ⟨r1, r2, r3, -⟩
        · exact r
        · rw [S 89 (by decide) (by decide)] at r3
          exact absurd r3 (nw _ (by omega))
      obtain ⟨u, hu, h88⟩ : ∃ u : Nat, u < 2 ∧ A 88 b = (u : Int) := by
        obtain ⟨s, q, -⟩ := x
        have E : ∀ c, c ≠ 69 → ard A 69 s c = A c := fun c hc => ard_ne hc
        have i5 := (q.bi.2.1 b hb (by rw [E 87 (by decide)]; exact hin)).2.2.2.2.1
        rw [E 88 (by decide)] at i5
        rcases i5 with z | z
        · exact ⟨0, by decide, z⟩
        · exact ⟨1, by decide, z⟩
      obtain ⟨mm, h93, m4⟩ : ∃ mm : Nat, A 93 u = (mm : Int) ∧ mm ≤ 4 := by
        obtain ⟨s, q, -⟩ := x
        have y := q.un hu
        rw [ard_ne (by decide)] at y
        exact ⟨(A 93 u).toNat, by omega, by omega⟩
      have wl1 : WL A1 := by
        obtain ⟨s, q, -, -, -, -, -, wl⟩ := x1
        exact wl
      have F1 : ∀ c, c ≠ 60 → c ≠ 97 → c ≠ 98 → c ≠ 99 → A1 c = A c := f1
      have h931 : A1 93 u = (mm : Int) := by rw [F1 93 (by decide) (by decide) (by decide) (by decide)]; exact h93
      have h933 : au (au A2 12 60 (A1 12 60 + 1)) 86 b (A1 86 b + 1) 93 u = (mm : Int) := by rw [S 93 (by decide) (by decide), V 93 (by decide) (by decide)]; exact h931
      have we3 : ∀ kr : Int → zH → Option ρ, M_writeEnded (b : Int) (mh g (au (au A2 12 60 (A1 12 60 + 1)) 86 b (A1 86 b + 1))) kr = kr 0 (mh g (au (au A2 12 60 (A1 12 60 + 1)) 86 b (A1 86 b + 1))) := fun kr => by
        have lp := m_we1_loop (kr := kr) (b := b) x3 hu h933 (fun i j' hi he he2 hal => by
          have hi' : (i : Int) < A1 93 u := by rw [h931]; omega
          rw [S 94 (by decide) (by decide), V 94 (by decide) (by decide)] at he
          rw [S 95 (by decide) (by decide), V 95 (by decide) (by decide)] at he2
          rw [S 97 (by decide) (by decide), V 97 (by decide) (by decide)]
          have al : ∀ k, k < 4 → ((4 * j' + k : Nat) : Int) < (th : Int) → A2 89 (16 * b + (4 * j' + k)) = 101 := fun k hk hlt => by
            have y := zal_t 4 hal k hk
            unfold men at y
            rw [h733, S 89 (by decide) (by decide), decide_eq_true (show _ ∧ _ from ⟨hlt, hk⟩), Bool.not_true, Bool.false_or] at y
            exact of_decide_eq_true y
          by_cases hwt : ∃ k, k < 4 ∧ ((4 * j' + k : Nat) : Int) < (th : Int) ∧ A1 89 (16 * b + (4 * j' + k)) = 119
          · obtain ⟨k9, w1, w2, w3⟩ := hwt
            have y1 := al k9 w1 w2
            rw [Z (4 * j' + k9) (by omega), if_pos w3] at y1
            have y2 : ¬ A1 90 (16 * b + lo) + 1 < len := fun z => by
              rw [if_pos z] at y1
              cases y1
            exact (wl1 u i b j' k9 hu hi' he he2 w1 (by rw [h73]; exact w2) w3 (by
              rw [ok (4 * j' + k9) (by omega) w3, k6]
              omega)).1
          · refine we1 u i j' h88 (by rw [h93]; omega) (by rw [← F1 94 (by decide) (by decide) (by decide) (by decide)]; exact he) (by rw [← F1 95 (by decide) (by decide) (by decide) (by decide)]; exact he2) (zal_i 4 (fun k hk => ?_))
            unfold men
            rw [← F1 73 (by decide) (by decide) (by decide) (by decide), ← F1 89 (by decide) (by decide) (by decide) (by decide), h73]
            by_cases hlt : ((4 * j' + k : Nat) : Int) < (th : Int)
            · have y1 := al k hk hlt
              have n9 : A1 89 (16 * b + (4 * j' + k)) ≠ 119 := fun z => hwt ⟨k, hk, hlt, z⟩
              rw [Z (4 * j' + k) (by omega), if_neg n9] at y1
              rw [y1, decide_eq_true (show (101 : Int) = 101 from rfl), Bool.or_true]
            · rw [decide_eq_false (fun z => hlt z.1)]
              rfl) g zN 0 (Nat.zero_le _) (by show mm - 0 < 5000; omega)
        unfold M_writeEnded
        rw [zix_n hb, mD88, S 88 (by decide) (by decide), V 88 (by decide) (by decide), F1 88 (by decide) (by decide) (by decide) (by decide), h88]
        exact lp
      obtain ⟨h5, A5, u1, u2, x5, e5⟩ := end_any (ρ := ρ) x3 hb hin3 h733 (Or.inr hn3) g
      have rs2 := x2.rs
      have rs3 := x3.rs
      have e60 : au (au A2 12 60 (A1 12 60 + 1)) 86 b (A1 86 b + 1) 12 60 = A1 12 60 + 1 := by rw [au_ne (by decide), au_same]
      have n60 : A 12 60 ≠ A1 12 60 + 1 := by rw [← e12]; omega
      refine ⟨h5, A5, fun kr => ?_, fun kr => ?_, x5⟩
      · obtain ⟨tq, rd2, bq⟩ : True ∧ RD h2 ∧ bc b < zhN h2 10 := by
          obtain ⟨s, q, -⟩ := x2
          exact ⟨trivial, q.rd, (q.bh.1 b hb (by rw [ard_ne (by decide)]; exact hin2)).1⟩
        obtain ⟨-, -, -, n39, n40, -, d⟩ := rd2.2.2.2.1
        obtain ⟨-, -, -, d5, d6, -, L39, L40, -⟩ := d (bc b) bq
        have n39' : bc b < zhN h2 39 := by rw [n39]; exact bq
        have n40' : bc b < zhN h2 40 := by rw [n40]; exact bq
        have l40 : zhL h2 40 (bc b) ≤ 1000 := by
          obtain ⟨s, q, -⟩ := x2
          have E : ∀ c, c ≠ 69 → ard A2 69 s c = A2 c := fun c hc => ard_ne hc
          have hin' : ard A2 69 s 87 b = 1 := by rw [E 87 (by decide)]; exact hin2
          have := (q.bh.1 b hb hin').2.2.2.2.2
          obtain ⟨k, c1, c2, c3, c4, ⟨c5, c6, c7, c8, -⟩, -⟩ := q.blk hb hin'
          rw [c2, Int.toNat_natCast] at this
          omega
        have r45 : ∀ kr : Int → zH → Option ρ, Th_release_36_45 kr (bc b : Int) (th : Int) (A1 90 (16 * b + lo)) len h1 = zit (fun _ _ _ _ _ _ => none) (Th_release_36_48b kr) zN (bc b : Int) (th : Int) (A1 90 (16 * b + lo)) len ((0 : Nat) : Int) h1 := fun kr => rfl
        have fin : hrw (hrw h2 39 (bc b) (zf0 (zhD h2 39 (bc b)) (zhL h2 39 (bc b)))) 40 (bc b) (zf0 (zhD (hrw h2 39 (bc b) (zf0 (zhD h2 39 (bc b)) (zhL h2 39 (bc b)))) 40 (bc b)) (zhL h2 40 (bc b))) = hfg h2 (bc b) := rfl
        rw [CB, PB, x_chk_ok tt ch3 ok zN 0 (Nat.zero_le _) fN, r45, z1, if_neg (by decide), zob_n bq, d5, x_fl39 n39' rfl (by omega), zob_n (h := hrw h2 39 (bc b) (zf0 (zhD h2 39 (bc b)) (zhL h2 39 (bc b)))) bq, hrw_D, if_neg (fun z => absurd z.1 (by decide)), d6, x_fl40 (len := zhL h2 40 (bc b)) (h := hrw h2 39 (bc b) (zf0 (zhD h2 39 (bc b)) (zhL h2 39 (bc b)))) n40' rfl l40, fin, if_neg (by decide), zob_0 (h := hfg h2 (bc b)) rs2.N2, hfg_D (by decide) (by decide), rs2.D2_0_3, zob_0 (h := hfg h2 (bc b)) rs2.N4, zob_0 (h := hfg h2 (bc b)) rs2.N4, hfg_D (by decide) (by decide), g3]
        have wv : wr (A1 12 60 + 1) = A1 12 60 + 1 := wr_id (by omega) (by omega)
        rw [wv, zlet_d]
        unfold Co_settle_20
        rw [zob_0 rs3.N2, u1]
      · have wv : wr (A1 12 60 + 1) = A1 12 60 + 1 := wr_id (by omega) (by omega)
        have wu : wr (A1 86 b + 1) = A1 86 b + 1 := by
          clear wv
          exact wr_id (by omega) (by omega)
        have r191 : ∀ (kr : Int → zH → Option ρ) (hh : zH), M_lookAt_191 kr (b : Int) ((b / 6 : Nat) : Int) 0 hh = zit (fun _ _ _ _ => none) (M_lookAt_191b kr) zN (b : Int) ((b / 6 : Nat) : Int) ((0 : Nat) : Int) hh := fun kr hh => rfl
        have nt : ¬ (1 : Int) = 0 := by decide
        rw [un, ms_step hb hin neq, y2, m_look_wait hb b6 hin1 h73 hr hw, hz, tb_t]
        unfold M_lookAt_66b
        rw [if_pos (by decide), if_neg nt, mD12, wv, mS12, zlet_d, zix_n hb, zix_n hb, mD86, au_ne (show 86 ≠ 12 by decide), wu, mS86, zlet_d, r191, z2]
        rw [ms_step hb hin3 (by rw [e60]; exact n60), we3, u2, e60]
        exact ms_stop hb (Or.inr (by rw [e5, e60]))
end
