/-! A BLOCK IS GIVEN AND SETTLES; ALL THAT ARE GIVEN IN A CYCLE -/
section
variable {ρ : Type} {h h' g : zH} {A A' B : zA} {kr : Int → zH → Option ρ} {K L n n' : Nat} {bc tc gc bc2 tc2 gc2 : Nat → Nat} {N M : Int} {s : Nat → Int} {l u b : Nat}
theorem PF.cg (h69 : A' 69 = A 69) (h70 : A' 70 = A 70) (h71 : A' 71 = A 71) (h72 : A' 72 = A 72) (h76 : A' 76 = A 76) (h79 : A' 79 = A 79) (q' : RR (ard A' 69 s) h' K L bc2 tc2 gc2 n' B N M) (m : MKS A L (A 69) s) (cl : ∀ l, l < L → ¬ zenb A L s l) (cp : ∀ l, l < L → A 76 l ≠ -1 → A 70 (A 76 l).toNat ≠ -1 ∧ (A 76 l).toNat < l) (cq : ∀ l, l < L → A 69 l = 113 → A 70 l ≠ -1 → A 79 l ≠ A 72 l) (c7 : ∀ l, l < L → A 76 l ≠ -1 → A 71 l = -1) (wl : WL A') : PF A' h' K L bc2 tc2 gc2 n' B N M := by
  refine ⟨s, q', ⟨fun l => by rw [h69]; exact m.1 l, fun T hT l hl => m.2 T (fun l2 y1 y2 y3 y4 y5 => hT l2 y1 (by rw [h69]; exact y2) (by rw [h70]; exact y3) (by rw [h79, h72]; exact y4) (fun k k1 k2 => by rw [h69]; exact y5 k k1 (by rw [← h76]; exact k2))) l (by rw [← h69]; exact hl)⟩, fun l hl z => cl l hl ((zenb_row h70 h72 h76 (by rw [h79])).mp z), fun l hl z => ?_, fun l hl y1 y2 => by rw [h69] at y1; rw [h70] at y2; rw [h79, h72]; exact cq l hl y1 y2, fun l hl y => by rw [h76] at y; rw [h71]; exact c7 l hl y, wl⟩
  rw [h76] at z ⊢
  rw [h70]
  exact cp l hl z
theorem zwi_i {v lo hi : Int} (h0 : lo ≤ v) (h1 : v ≤ hi) : zwi v lo hi = true := by
  cases z : zwi v lo hi with
  | true => rfl
  | false =>
    have := zwi_f z
    omega
theorem mWA_0 {y : Nat} : mWA A y 0 = A := rfl
/-- nothing to write -/
theorem m_we0_loop (x : PF A h K L bc tc gc n B N M) {mm : Nat} (hu : u < 2) (h93 : A 93 u = (mm : Int)) (hz : ∀ i : Nat, i < mm → A 94 (4 * u + i) = (b : Int) → A 97 (4 * u + i) = 0) (g : zH) : ∀ f i : Nat, i ≤ mm → mm - i < f → zit (fun _ _ _ _ => none) (M_writeEnded_9b kr) f (b : Int) (u : Int) (i : Int) (mh g A) = kr 0 (mh g A)
  | 0, _, _, hf => absurd hf (Nat.not_lt_zero _)
  | f + 1, i, hi, hf => by
    rw [zit_s]
    obtain ⟨m4, sl⟩ : mm ≤ 4 ∧ ∀ i : Nat, (i : Int) < A 93 u → ∃ b9 j9 : Nat, A 94 (4 * u + i) = (b9 : Int) ∧ MG A (4 * u + i) b9 j9 := by
      obtain ⟨s, q, -⟩ := x
      have E : ∀ c, c ≠ 69 → ard A 69 s c = A c := fun c hc => ard_ne hc
      have un := q.un hu
      rw [E 93 (by decide)] at un
      refine ⟨by omega, fun i hi => ?_⟩
      obtain ⟨b9, j9, z1, z2, z3, z4, z5, z6, z7, z8⟩ := q.slot hu (i := i) (by rw [E 93 (by decide)]; exact hi)
      rw [E 94 (by decide)] at z1
      refine ⟨b9, j9, z1, ?_⟩
      unfold MG at z8 ⊢
      rw [E 94 (by decide), E 95 (by decide), E 73 (by decide)] at z8
      exact z8
    by_cases hlt : i < mm
    · have ih := m_we0_loop x hu h93 hz g f (i + 1) hlt (by omega)
      have hlt' : (i : Int) < (mm : Int) := by omega
      have i9 : i < 100000 := by omega
      have y8 : 4 * u + i < 8 := by omega
      obtain ⟨b9, j9, z1, z2⟩ := sl i (by rw [h93]; exact hlt')
      generalize zit (fun _ _ _ _ => none) (M_writeEnded_9b kr) f = r2 at ih ⊢
      unfold M_writeEnded_9b M_writeEnded_53
      rw [zix_n hu, mD93, h93, if_pos hlt', wr_ut y8, zix_n y8, mD94, wr_s i9]
      by_cases he : A 94 (4 * u + i) = (b : Int)
      · rw [if_pos he, m_hasEnded z2]
        cases zal (men A b9 j9) 4 with
        | false => rw [tb_f, if_pos rfl]; exact ih
        | true =>
          have z97 := hz i hlt he
          rw [tb_t, if_neg (by decide), m_writeAll (m := 0) y8 (by decide) (by rw [z97]; rfl) (fun k hk => absurd hk (Nat.not_lt_zero _)), mWA_0]
          exact ih
      · rw [if_neg he]; exact ih
    · have : i = mm := by omega
      subst this
      unfold M_writeEnded_9b
      rw [zix_n hu, mD93, h93, if_neg (Int.lt_irrefl _)]
/-- a new block settles -/
theorem new_settle (x : PF A h K L bc tc gc n B N M) {T : Nat} {st : Int} (hb : b < 72) (hin : A 87 b = 1) (h88 : A 88 b = (u : Int)) (hu : u < 2) (h73 : A 73 (b / 6) = (T : Int)) (t1 : 1 ≤ T) (hst : st = 114 ∨ st = 101) (h89 : ∀ t, t < T → A 89 (16 * b + t) = st) (hz : ∀ i : Nat, (i : Int) < A 93 u → A 94 (4 * u + i) = (b : Int) → A 97 (4 * u + i) = 0) (g : zH) : ∃ (h' : zH) (A' : zA), (∀ kr : Int → zH → Option ρ, Co_endIfEnded 0 (bc b : Int) h kr = kr 0 h') ∧ (∀ kr : Int → zH → Option ρ, M_settle (b : Int) (mh g A) kr = kr 0 (mh g A')) ∧ PF A' h' K L bc tc gc n B N M ∧ (∀ c, c ≠ 79 → c ≠ 87 → c < 93 ∨ 100 < c → A' c = A c) := by
  have un : ∀ (kr : Int → zH → Option ρ) (hh : zH), M_settle (b : Int) hh kr = M_settle_2b kr (M_settle_2b kr (zit (fun _ _ _ => none) (M_settle_2b kr) 4998)) (b : Int) (-1) hh := fun kr hh => rfl
  have neq : (-1 : Int) ≠ A 12 60 := by
    have := (x.pass hb hin).2.1
    omega
  obtain ⟨tt, tp, t0⟩ := x.tt hb hin h73
  have th16 : T ≤ 16 := tt.2.2.2.2.2.1
  obtain ⟨mm, h93, m4⟩ : ∃ mm : Nat, A 93 u = (mm : Int) ∧ mm ≤ 4 := by
    obtain ⟨s, q, -⟩ := x
    have := q.n93 hu
    rw [ard_ne (by decide)] at this
    exact this
  have we : ∀ kr : Int → zH → Option ρ, M_writeEnded (b : Int) (mh g A) kr = kr 0 (mh g A) := fun kr => by
    have lp := m_we0_loop (kr := kr) (b := b) x hu h93 (fun i hi he => hz i (by rw [h93]; omega) he) g zN 0 (Nat.zero_le _) (by show mm - 0 < 5000; omega)
    unfold M_writeEnded
    rw [zix_n hb, mD88, h88]
    exact lp
  rcases hst with rfl | rfl
  · have hr : zan (fun t => decide (A 89 (16 * b + t) = 114)) T = true := by
      cases z : zan (fun t => decide (A 89 (16 * b + t) = 114)) T with
      | true => rfl
      | false =>
        have c0 := zcv_114n z
        have := ((zcv_r (A := A) (b := b) (v := 114) T).2.2.mp c0) 0 (by omega)
        exact absurd (h89 0 (by omega)) this
    refine ⟨h, A, fun kr => x_end_no tt (Or.inl hr), fun kr => ?_, x, fun c _ _ _ => rfl⟩
    rw [un, ms_step hb hin neq, we, m_look_run hb th16 hin h73 hr]
    exact ms_stop hb (Or.inr rfl)
  · have hw : zlw A b 0 T = -1 := by
      rcases zlw_r (A := A) (b := b) T 0 with r | ⟨r1, r2, r3, -⟩
      · exact r
      · have := h89 (zlw A b 0 T).toNat (by omega)
        rw [r3] at this
        cases this
    have hr : zan (fun t => decide (A 89 (16 * b + t) = 114)) T = false := by
      cases z : zan (fun t => decide (A 89 (16 * b + t) = 114)) T with
      | false => rfl
      | true =>
        have c0 := zcv_114 z
        have : zcv A b 114 T = 0 := (zcv_r (A := A) (b := b) (v := 114) T).2.2.mpr (fun k hk z2 => by rw [h89 k hk] at z2; cases z2)
        omega
    have h79 : 0 ≤ A 79 (b / 6) ∧ A 79 (b / 6) < 1000 := by
      obtain ⟨s, q, -⟩ := x
      have E : ∀ c, c ≠ 69 → ard A 69 s c = A c := fun c hc => ard_ne hc
      have hin' : ard A 69 s 87 b = 1 := by rw [E 87 (by decide)]; exact hin
      obtain ⟨i1, i2, -⟩ := q.bi.2.1 b hb hin'
      obtain ⟨k9, k1, k2, k3, ⟨t1, t2, t3, t4, t5, t6, t7⟩, -⟩ := q.lnk i1 i2
      rw [E 79 (by decide)] at t5 t6
      exact ⟨t5, by omega⟩
    obtain ⟨h2, A2, z1, z2, x2, a87, V⟩ := end_both (ρ := ρ) x hb hin h73 hr hw g
    refine ⟨h2, A2, z1, fun kr => ?_, x2, V⟩
    rw [un, ms_step hb hin neq, we, m_look_end hb th16 hin h73 hr hw h79, z2]
    exact ms_stop hb (Or.inl a87)
/-- whether a launch has a block to give -/
theorem PF.gv (x : PF A h K L bc tc gc n B N M) (q : RR (ard A 69 s) h K L bc tc gc n B N M) (m : MKS A L (A 69) s) (hl : l < L) : (ard A 69 s 70 l ≠ -1 ∧ ard A 69 s 69 l = 114 ∧ ard A 69 s 78 l < ard A 69 s 72 l) ↔ (A 70 l ≠ -1 ∧ A 69 l = 114 ∧ A 78 l < A 72 l) := by
  have E : ∀ c, c ≠ 69 → ard A 69 s c = A c := fun c hc => ard_ne hc
  have q' := q
  rw [E 70 (by decide), E 78 (by decide), E 72 (by decide), ard_same]
  by_cases he : s l = A 69 l
  · rw [he]
  · obtain ⟨y1, y2⟩ := m.2 (fun l => A 79 l = A 72 l ∧ A 70 l ≠ -1) (fun l2 _ _ h70 h79 _ => ⟨h79, h70⟩) l he
    obtain ⟨k9, k1, k2, k3, ⟨t1, t2, t3, t4, t5, t6, t7⟩, -⟩ := q'.lnk hl (by rw [E 70 (by decide)]; exact y2)
    rw [E 79 (by decide), E 78 (by decide)] at t6
    exact ⟨fun z => absurd z.2.2 (by omega), fun z => absurd z.2.2 (by omega)⟩
theorem wl_give {A1 : zA} {T nG kn m0 : Nat} {st : Int} (v : MW A A1 l u b T nG kn m0 st) (w : WL A) (hst : st = 114 ∨ st = 101) (h73 : A 73 (b / 6) = (T : Int)) (hT : T ≤ 16) (h93 : A 93 u = (m0 : Int)) (hm : m0 + nG ≤ 4) (sl : ∀ u2 i2 b2 : Nat, u2 < 2 → (i2 : Int) < A 93 u2 → A 94 (4 * u2 + i2) = (b2 : Int) → b2 ≠ b ∧ A 73 (b2 / 6) ≤ 16) : WL A1 := by
  obtain ⟨v1, -, ⟨v89, v90, -, -⟩, ⟨v93, v94, v95, -, v97⟩⟩ := v
  intro u2 i2 b2 j2 k hu2 hi2 e94 e95 hk hlt hw hp
  rw [v1 73 (by decide) (by decide)] at hlt
  rw [v1 63 (by decide) (by decide), v1 70 (by decide) (by decide)] at hp
  by_cases hq : 4 * u + m0 ≤ 4 * u2 + i2 ∧ 4 * u2 + i2 < 4 * u + (m0 + nG)
  · exfalso
    rw [v94, if_pos hq] at e94
    have eb : b2 = b := (Int.ofNat.inj e94).symm
    rw [eb] at hlt hw
    rw [h73] at hlt
    rw [v89, if_pos ⟨by omega, by omega⟩] at hw
    rcases hst with rfl | rfl <;> cases hw
  · have i2o : (i2 : Int) < A 93 u2 := by
      rw [v93] at hi2
      by_cases e : u2 = u
      · rw [if_pos e] at hi2
        rw [e, h93]
        rw [e] at hq
        omega
      · rw [if_neg e] at hi2
        exact hi2
    rw [v94, if_neg hq] at e94
    rw [v95, if_neg hq] at e95
    obtain ⟨nb, t16⟩ := sl u2 i2 b2 hu2 i2o e94
    have far : ∀ k3, k3 < 4 → ((4 * j2 + k3 : Nat) : Int) < A 73 (b2 / 6) → ¬ (16 * b ≤ 16 * b2 + (4 * j2 + k3) ∧ 16 * b2 + (4 * j2 + k3) < 16 * b + T) := fun k3 h1 h2 z => by omega
    rw [v89, if_neg (far k hk hlt)] at hw
    rw [v90, if_neg (far k hk hlt)] at hp
    obtain ⟨x1, x2⟩ := w u2 i2 b2 j2 k hu2 i2o e94 e95 hk hlt hw hp
    refine ⟨by rw [v97, if_neg hq]; exact x1, fun k3 hk3 hlt3 => ?_⟩
    rw [v1 73 (by decide) (by decide)] at hlt3
    rw [v89, if_neg (far k3 hk3 hlt3)]
    exact x2 k3 hk3 hlt3
theorem give_both (x : PF A h K L bc tc gc n B N M) (q : RR (ard A 69 s) h K L bc tc gc n B N M) (m : MKS A L (A 69) s) (cl : ∀ l, l < L → ¬ zenb A L s l) (cp : ∀ l, l < L → A 76 l ≠ -1 → A 70 (A 76 l).toNat ≠ -1 ∧ (A 76 l).toNat < l) (cq : ∀ l, l < L → A 69 l = 113 → A 70 l ≠ -1 → A 79 l ≠ A 72 l) (c7 : ∀ l, l < L → A 76 l ≠ -1 → A 71 l = -1) (wl : WL A) (hl : l < L) (hu : u < 2) (hrm : zrm (ard A 69 s) u l = true) (gv : A 70 l ≠ -1 ∧ A 69 l = 114 ∧ A 78 l < A 72 l) (g : zH) : ∃ (h' : zH) (A' : zA) (bc' tc' gc' : Nat → Nat), (∀ kr : Int → zH → Option ρ, Co_give 0 (u : Int) (l : Int) h kr = kr 0 h') ∧ (∀ kr : Int → zH → Option ρ, M_give (l : Int) (u : Int) (mh g A) kr = kr 0 (mh g A')) ∧ PF A' h' K L bc' tc' gc' n B N M ∧ A' 78 l = A 78 l + 1 ∧ (∀ c, c < 78 → A' c = A c) := by
  have gq := (x.gv q m hl).mpr gv
  have E : ∀ c, c ≠ 69 → ard A 69 s c = A c := fun c hc => ard_ne hc
  obtain ⟨k, k1, k2, ⟨k3, k4, k5, k6⟩, ⟨t1, t2, t3, t4, t5, t6, t7⟩, ⟨r1, r2, r3, r4, r5, r6⟩, -⟩ := q.lnk hl gq.1
  obtain ⟨T, hT⟩ : ∃ T : Nat, ard A 69 s 73 l = (T : Int) := ⟨(ard A 69 s 73 l).toNat, by omega⟩
  obtain ⟨R, hR⟩ : ∃ R : Nat, ard A 69 s 61 k = (R : Int) := ⟨(ard A 69 s 61 k).toNat, by omega⟩
  obtain ⟨S, hS⟩ : ∃ S : Nat, ard A 69 s 62 k = (S : Int) := ⟨(ard A 69 s 62 k).toNat, by omega⟩
  obtain ⟨kn, hkn⟩ : ∃ kn : Nat, ard A 69 s 78 l = (kn : Int) := ⟨(ard A 69 s 78 l).toNat, by omega⟩
  obtain ⟨m0, h93, m4⟩ := q.n93 hu
  have t1' : (1 : Int) ≤ (T : Int) := by omega
  have t2' : (T : Int) ≤ 16 := by omega
  obtain ⟨-, gg⟩ := zgroups t1' t2'
  obtain ⟨nG, hG⟩ : ∃ nG : Nat, Int.tdiv ((T : Int) + 3) 4 = (nG : Int) := ⟨(Int.tdiv ((T : Int) + 3) 4).toNat, by omega⟩
  have rm := hrm
  unfold zrm at rm
  rw [Bool.and_eq_true, Bool.and_eq_true, decide_eq_true_eq, decide_eq_true_eq, decide_eq_true_eq, k2, Int.toNat_natCast] at rm
  obtain ⟨⟨rm1, rm2⟩, rm3⟩ := rm
  rw [h93, hT, hG] at rm1
  have hm : m0 + nG ≤ 4 := by omega
  have cs : GS (ard A 69 s) L l k T R S nG u m0 kn (if 0 < ard A 69 s 63 k then 114 else 101) := ⟨⟨hl, k2, hT, hR, hS, hkn⟩, ⟨hG, hu, h93, hm⟩, gq.2.1, by rw [← hkn]; exact gq.2.2, ⟨rm2, rm3⟩, rfl⟩
  obtain ⟨⟨f1, f2, f3, f4, f5, f6, f7, f8, f9, f10, f11, f12, f13, f14⟩, fg, ⟨p1, p2, p3, p4⟩⟩ := gs_f q cs
  obtain ⟨H, w1, w2⟩ := x_give (ρ := ρ) q hl k2 hT hR hS hkn hG hu h93 hm
  have k2A : A 70 l = (k : Int) := by rw [← E 70 (by decide)]; exact k2
  have hTA : A 73 l = (T : Int) := by rw [← E 73 (by decide)]; exact hT
  have hknA : A 78 l = (kn : Int) := by rw [← E 78 (by decide)]; exact hkn
  have h93A : A 93 u = (m0 : Int) := by rw [← E 93 (by decide)]; exact h93
  have h63A : ard A 69 s 63 = A 63 := E 63 (by decide)
  obtain ⟨A1, v1, v2⟩ := m_give (ρ := ρ) (A := A) (l := l) (u := u) (k := k) (T := T) (nG := nG) (m0 := m0) (kn := kn) f3 hu f2 k2A hTA hknA f4 f5 f6 hG h93A hm (by rw [← h63A]; exact f10) g
  rw [h63A] at w2 cs
  have q2 := rr_give q cs w2 v2.ard
  have e := v2.1
  have wl2 : WL A1 := wl_give v2 wl (by
    by_cases hz : 0 < A 63 k
    · rw [if_pos hz]; exact Or.inl rfl
    · rw [if_neg hz]; exact Or.inr rfl) (by rw [p2]; exact hTA) (by omega) h93A hm (fun u2 i2 b2 hu2 hi2 he => by
    obtain ⟨b9, j9, y1, y2, y3, y4, -⟩ := q.slot hu2 (i := i2) (by rw [E 93 (by decide)]; exact hi2)
    rw [E 94 (by decide), he] at y1
    have e9 : b9 = b2 := (Int.ofNat.inj y1).symm
    rw [e9] at y3 y4
    obtain ⟨k9, -, -, -, ⟨-, t9⟩, -⟩ := q.blk y3 y4
    rw [E 73 (by decide)] at t9
    refine ⟨fun z => ?_, t9⟩
    rw [z, p1] at y4
    cases y4)
  have x2 : PF A1 H K L _ _ _ n B N M := PF.cg (e 69 (by decide) (by decide)) (e 70 (by decide) (by decide)) (e 71 (by decide) (by decide)) (e 72 (by decide) (by decide)) (e 76 (by decide) (by decide)) (e 79 (by decide) (by decide)) q2 m cl cp cq c7 wl2
  obtain ⟨⟨v78, v87, v88, v86⟩, ⟨v89, v90, v91, v92⟩, ⟨v93, v94, v95, v96, v97⟩⟩ := v2.2
  obtain ⟨h9, A9, z1, z2, z3, z4⟩ := new_settle (ρ := ρ) (u := u) (b := 6 * l + kn) (T := T) (st := if 0 < A 63 k then 114 else 101) x2 p4 (by rw [v87, if_pos rfl]) (by rw [v88, if_pos rfl]) hu (by rw [e 73 (by decide) (by decide), p2]; exact hTA) f5 (by
    by_cases hz : 0 < A 63 k
    · rw [if_pos hz]; exact Or.inl rfl
    · rw [if_neg hz]; exact Or.inr rfl) (fun t ht => by rw [v89, if_pos ⟨by omega, by omega⟩]) (fun i hi he => by
    rw [v97]
    by_cases hq : 4 * u + m0 ≤ 4 * u + i ∧ 4 * u + i < 4 * u + (m0 + nG)
    · rw [if_pos hq]
    · rw [v94, if_neg hq] at he
      rw [v93, if_pos rfl] at hi
      obtain ⟨b9, j9, y1, y2, y3, y4, -⟩ := q.slot hu (i := i) (by rw [h93]; omega)
      rw [E 94 (by decide)] at y1
      have : b9 = 6 * l + kn := by omega
      rw [this, p1] at y4
      cases y4) g
  rw [nbc_n] at z1
  refine ⟨h9, A9, _, _, _, fun kr => ?_, fun kr => ?_, z3, ?_, fun c hc => ?_⟩
  · rw [w1, z1]
  · rw [v1, z2]
  · rw [z4 78 (by decide) (by decide) (by decide), v78, if_pos rfl, hknA]
  · rw [z4 c (by omega) (by omega) (by omega), e c (by omega) (by omega)]
/-- the blocks of a launch that are given in a cycle -/
theorem gl_loop (hl : l < L) (g : zH) : ∀ (f1 f2 i : Nat) (h : zH) (A : zA) (bc tc gc : Nat → Nat), i ≤ 6 → 6 - i < f1 → 6 - i < f2 → (i : Int) ≤ A 78 l → PF A h K L bc tc gc n B N M → ∃ (h' : zH) (A' : zA) (bc' tc' gc' : Nat → Nat), (∀ (kr : Int → zH → Option ρ) (r2 : Int → Int → zH → Option ρ) (a1 : Int), zit (fun _ _ _ _ _ => none) (Co_giveBlocks_24b kr r2) f1 0 a1 (l : Int) (i : Int) h = r2 0 (wr (a1 + 1)) h') ∧ (∀ (kr : Int → zH → Option ρ) (r101 : Int → Int → zH → Option ρ) (a1 : Int), zit (fun _ _ _ => none) (M_comeOne_109b kr r101) f2 a1 (l : Int) (mh g A) = r101 a1 (wr ((l : Int) + 1)) (mh g A')) ∧ PF A' h' K L bc' tc' gc' n B N M
  | 0, _, _, _, _, _, _, _, _, hf, _, _, _ => absurd hf (Nat.not_lt_zero _)
  | _ + 1, 0, _, _, _, _, _, _, _, _, hf, _, _ => absurd hf (Nat.not_lt_zero _)
  | f1 + 1, f2 + 1, i, h, A, bc, tc, gc, hi, hf1, hf2, h78, x => by
    have x' := x
    obtain ⟨s, q, m, cl, cp, cq, c7, wl⟩ := x'
    have E : ∀ c, c ≠ 69 → ard A 69 s c = A c := fun c hc => ard_ne hc
    have rs := q.rs
    have l12 : l < 12 := by have := q.rl.2.1; omega
    have l9 : l < zhN h 9 := by have := q.rl.2.2.1; omega
    have l0 : ¬ (l : Int) < 0 := by omega
    have gvi := x.gv q m hl
    have hb := fun kr : Int → zH → Option ρ => x_hasBlock (kr := kr) q hl
    by_cases gv : A 70 l ≠ -1 ∧ A 69 l = 114 ∧ A 78 l < A 72 l
    · have gq := gvi.mpr gv
      have h70q := gq.1
      have i6 : i < 6 := by
        obtain ⟨k9, k1, k2, k3, ⟨t1, t2, t3, t4, t5, t6, t7⟩, -⟩ := q.lnk hl h70q
        rw [E 72 (by decide)] at t4
        have := gv.2.2
        omega
      have i6' : (i : Int) < 6 := by omega
      have cu := fun kr : Int → zH → Option ρ => x_unitFor (kr := kr) q hl h70q
      have mu := fun kr : Int → zH → Option ρ => m_unitFor (kr := kr) (g := g) q (A0 := A) (fun c hc => (E c hc).symm) hl h70q
      have n1 : ¬ (1 : Int) = 0 := by decide
      rcases zuf_v (A := ard A 69 s) (l := l) with hu | ⟨u, hu2, hu, hrm⟩
      · refine ⟨h, A, bc, tc, gc, fun kr r2 a1 => ?_, fun kr r101 a1 => ?_, x⟩
        · rw [zit_s]
          generalize zit (fun _ _ _ _ _ => none) (Co_giveBlocks_24b kr r2) f1 = r3
          unfold Co_giveBlocks_24b Co_giveBlocks_69
          rw [if_pos i6', if_neg l0, zob_n l9, hb, decide_eq_true gq, tb_t, if_neg n1, zob_0 rs.N2, cu, hu, if_pos (by decide)]
        · rw [zit_s]
          generalize zit (fun _ _ _ => none) (M_comeOne_109b kr r101) f2 = r3
          unfold M_comeOne_109b M_comeOne_167
          rw [zix_n l12, mD69, if_pos gv.2.1, zix_n l12, mD70, if_neg gv.1, zix_n l12, zix_n l12, mD78, mD72, if_pos gv.2.2, mu, hu, if_pos rfl]
      · obtain ⟨h1, A1, bc1, tc1, gc1, z1, z2, z3, z4, z5⟩ := give_both (ρ := ρ) x q m cl cp cq c7 wl hl hu2 hrm gv g
        obtain ⟨h2, A2, bc2, tc2, gc2, y1, y2, y3⟩ := gl_loop hl g f1 f2 (i + 1) h1 A1 bc1 tc1 gc1 (by omega) (by omega) (by omega) (by rw [z4]; omega) z3
        refine ⟨h2, A2, bc2, tc2, gc2, fun kr r2 a1 => ?_, fun kr r101 a1 => ?_, y3⟩
        · have u0 : ¬ (u : Int) < 0 := by omega
          have i9 : i < 100000 := by omega
          rw [zit_s, ← y1 kr r2 a1]
          generalize zit (fun _ _ _ _ _ => none) (Co_giveBlocks_24b kr r2) f1 = r3
          unfold Co_giveBlocks_24b
          rw [if_pos i6', if_neg l0, zob_n l9, hb, decide_eq_true gq, tb_t, if_neg n1, zob_0 rs.N2, cu, hu, if_neg u0, zob_0 rs.N2, z1, wr_s i9]
        · have u1 : ¬ (u : Int) = -1 := by omega
          rw [zit_s, ← y2 kr r101 a1]
          generalize zit (fun _ _ _ => none) (M_comeOne_109b kr r101) f2 = r3
          unfold M_comeOne_109b
          rw [zix_n l12, mD69, if_pos gv.2.1, zix_n l12, mD70, if_neg gv.1, zix_n l12, zix_n l12, mD78, mD72, if_pos gv.2.2, mu, hu, if_neg u1, mu, hu, z2]
    · refine ⟨h, A, bc, tc, gc, fun kr r2 a1 => ?_, fun kr r101 a1 => ?_, x⟩
      · rw [zit_s]
        generalize zit (fun _ _ _ _ _ => none) (Co_giveBlocks_24b kr r2) f1 = r3
        unfold Co_giveBlocks_24b Co_giveBlocks_69
        by_cases i6 : (i : Int) < 6
        · rw [if_pos i6, if_neg l0, zob_n l9, hb, decide_eq_false (fun z => gv (gvi.mp z)), tb_f, if_pos rfl]
        · rw [if_neg i6]
      · rw [zit_s]
        generalize zit (fun _ _ _ => none) (M_comeOne_109b kr r101) f2 = r3
        unfold M_comeOne_109b M_comeOne_167
        rw [zix_n l12, mD69]
        by_cases h69 : A 69 l = 114
        · rw [if_pos h69, zix_n l12, mD70]
          by_cases h70 : A 70 l = -1
          · rw [if_pos h70]
          · rw [if_neg h70, zix_n l12, zix_n l12, mD78, mD72, if_neg (fun z => gv ⟨h70, h69, z⟩)]
        · rw [if_neg h69]
/-- all launches -/
theorem gb_loop (g : zH) : ∀ (f1 f2 l : Nat) (h : zH) (A : zA) (bc tc gc : Nat → Nat), l ≤ L → L - l < f1 → L - l < f2 → PF A h K L bc tc gc n B N M → ∃ (h' : zH) (A' : zA) (bc' tc' gc' : Nat → Nat), (∀ kr : Int → zH → Option ρ, zit (fun _ _ _ => none) (Co_giveBlocks_2b kr) f1 0 (l : Int) h = kr 0 h') ∧ (∀ (kr : Int → zH → Option ρ) (a1 : Int), zit (fun _ _ _ => none) (M_comeOne_101b kr) f2 a1 (l : Int) (mh g A) = M_comeOne_179 kr a1 0 (mh g A')) ∧ RR A' h' K L bc' tc' gc' n B N M ∧ CW A' L
  | 0, _, _, _, _, _, _, _, _, hf, _, _ => absurd hf (Nat.not_lt_zero _)
  | _ + 1, 0, _, _, _, _, _, _, _, _, hf, _ => absurd hf (Nat.not_lt_zero _)
  | f1 + 1, f2 + 1, l, h, A, bc, tc, gc, hl, hf1, hf2, x => by
    have x' := x
    obtain ⟨s, q, m, cl, cp, cq, c7, wl⟩ := x'
    have rs := q.rs
    obtain ⟨a1, a2, a3, a4⟩ := q.rl.at
    rw [ard_ne (by decide)] at a1
    by_cases h4 : l < L
    · obtain ⟨h1, A1, bc1, tc1, gc1, y1, y2, y3⟩ := gl_loop (ρ := ρ) h4 g zN zN 0 h A bc tc gc (by decide) (by decide) (by decide) (by
        have := (q.rl.l h4)
        by_cases h70 : A 70 l = -1
        · have z := this.2.2.2.2.2.2.2.2.2.2.2.2.1 (by rw [ard_ne (by decide)]; exact h70)
          have := z.2.2.2.2.2.2.2.2.2.1
          rw [ard_ne (by decide)] at this
          rw [this]
          decide
        · obtain ⟨k9, k1, k2, k3, ⟨t1, t2, t3, t4, t5, t6, t7⟩, -⟩ := q.lnk h4 (by rw [ard_ne (by decide)]; exact h70)
          rw [ard_ne (by decide), ard_ne (by decide)] at t6
          rw [ard_ne (by decide)] at t5
          omega) x
      obtain ⟨h2, A2, bc2, tc2, gc2, w1, w2, w3, w4⟩ := gb_loop g f1 f2 (l + 1) h1 A1 bc1 tc1 gc1 h4 (by omega) (by omega) y3
      have l9 : l < 100000 := by omega
      have lt' : (l : Int) < (L : Int) := by omega
      refine ⟨h2, A2, bc2, tc2, gc2, fun kr => ?_, fun kr b1 => ?_, w3, w4⟩
      · rw [zit_s, ← w1 kr]
        have lo := x_launchOf (kr := fun v4 h5 => Co_giveBlocks_24 kr (zit (fun _ _ _ => none) (Co_giveBlocks_2b kr) f1) 0 (l : Int) v4 0 h5) q.rs q.rl (l := (l : Int))
        rw [ard_ne (by decide), a1, if_pos (zwi_i (by omega) (by omega))] at lo
        have y := y1 kr (zit (fun _ _ _ => none) (Co_giveBlocks_2b kr) f1) (l : Int)
        rw [wr_s l9] at y
        refine Eq.trans ?_ y
        generalize zit (fun _ _ _ => none) (Co_giveBlocks_2b kr) f1 = r2 at lo ⊢
        unfold Co_giveBlocks_2b
        rw [zob_0 rs.N2, rs.D2_0_0, zob_0 rs.N1, a4, if_pos lt', zob_0 rs.N2, rs.D2_0_0, zob_0 rs.N1, lo]
        rfl
      · rw [zit_s, ← w2 kr b1]
        have y := y2 kr (zit (fun _ _ _ => none) (M_comeOne_101b kr) f2) b1
        rw [wr_s l9] at y
        refine Eq.trans ?_ y
        generalize zit (fun _ _ _ => none) (M_comeOne_101b kr) f2 = r2
        unfold M_comeOne_101b
        rw [mD12, a1, if_pos lt']
        rfl
    · have : l = L := by omega
      subst this
      obtain ⟨A1, z1, z2, z3, z4⟩ := x.fin (ρ := ρ) g
      refine ⟨h, A1, bc, tc, gc, fun kr => ?_, fun kr b1 => ?_, z2, z3⟩
      · rw [zit_s]
        unfold Co_giveBlocks_2b
        rw [zob_0 rs.N2, rs.D2_0_0, zob_0 rs.N1, a4, if_neg (Int.lt_irrefl _)]
      · rw [zit_s]
        unfold M_comeOne_101b
        rw [mD12, a1, if_neg (Int.lt_irrefl _), z1]
/-- a cycle -/
theorem cyc_both (q : RR A h K L bc tc gc n B N M) (cl : CW A L) (bn : n ≤ 9999700) (g : zH) : ∃ (h' : zH) (A' : zA) (L' : Nat) (bc' tc' gc' : Nat → Nat), (∀ kr : Int → zH → Option ρ, Co_letCycleCome 0 h kr = kr 0 h') ∧ (∀ kr : Int → zH → Option ρ, M_comeOne (mh g A) kr = kr (wr (A' 12 55 - A 12 55)) (mh g A')) ∧ RR A' h' K L' bc' tc' gc' (n + 37) B N M ∧ CW A' L' ∧ L ≤ L' ∧ zhD h' 4 0 0 = A' 12 55 := by
  have rs := q.rs
  obtain ⟨q1, cl1⟩ := rr_stq q cl
  obtain ⟨h2, A2, y1, y2, q2, cl2⟩ := rr_cop (ρ := ρ) q1 cl1
  obtain ⟨h3, A3, bc3, tc3, gc3, z1, z2, q3, cl3⟩ := gb_loop (ρ := ρ) g zN zN 0 h2 A2 bc tc gc (Nat.zero_le _) (by have := q2.rl.2.1; show L - 0 < 5000; omega) (by have := q2.rl.2.1; show L - 0 < 5000; omega) (PF.of q2 cl2)
  obtain ⟨h4, A4, L', w1, w2, q4, cl4, le, e4⟩ := units_end (ρ := ρ) q3 cl3 bn g
  refine ⟨h4, A4, L', bc3, tc3, gc3, fun kr => ?_, fun kr => ?_, q4, cl4, le, e4⟩
  · have g1 : ∀ kr : Int → zH → Option ρ, Co_giveBlocks 0 h2 kr = kr 0 h3 := z1
    unfold Co_letCycleCome
    rw [zob_0 rs.N2, rs.D2_0_0, zob_0 rs.N1, x_startQueued rs q.rl, zob_0 q1.rs.N2, y1, zob_0 q2.rs.N2, g1, w1]
  · have g1 : ∀ (kr : Int → zH → Option ρ) (a1 : Int), M_comeOne_101 kr a1 0 (mh g A2) = M_comeOne_179 kr a1 0 (mh g A3) := z2
    rw [m_comeOne_0 q.rl, y2, g1, w2]
end
