/-! GROUPS THAT HAVE ENDED WRITE -/
section
variable {ρ : Type} {h h' g : zH} {A A' B : zA} {kr : Int → zH → Option ρ} {K L n n' : Nat} {bc tc gc : Nat → Nat} {N M : Int} {s : Nat → Int}
theorem PF.mv (x : PF A h K L bc tc gc n B N M) (h69 : A' 69 = A 69) (h70 : A' 70 = A 70) (h71 : A' 71 = A 71) (h72 : A' 72 = A 72) (h76 : A' 76 = A 76) (h79 : A' 79 = A 79) (wl : WL A → WL A') (st : ∀ s, RR (ard A 69 s) h K L bc tc gc n B N M → RR (ard A' 69 s) h' K L bc tc gc n' B N M) : PF A' h' K L bc tc gc n' B N M := by
  obtain ⟨s, q, m, cl, cp, cq, c7, w0⟩ := x
  refine ⟨s, st s q, ⟨fun l => by rw [h69]; exact m.1 l, fun T hT l hl => m.2 T (fun l2 y1 y2 y3 y4 y5 => hT l2 y1 (by rw [h69]; exact y2) (by rw [h70]; exact y3) (by rw [h79, h72]; exact y4) (fun k k1 k2 => by rw [h69]; exact y5 k k1 (by rw [← h76]; exact k2))) l (by rw [← h69]; exact hl)⟩, fun l hl z => cl l hl ((zenb_row h70 h72 h76 (by rw [h79])).mp z), fun l hl z => ?_, fun l hl y1 y2 => by rw [h69] at y1; rw [h70] at y2; rw [h79, h72]; exact cq l hl y1 y2, fun l hl y => by rw [h76] at y; rw [h71]; exact c7 l hl y, wl w0⟩
  rw [h76] at z ⊢
  rw [h70]
  exact cp l hl z
theorem mWF_ard {y : Nat} : mWF (ard A 69 s) y = ard (mWF A y) 69 s := by
  refine zA_ext (fun c => ?_)
  by_cases h1 : c = 69
  · subst h1
    rw [mWF_c (by decide) (by decide) (by decide) (by decide), ard_same, ard_same]
  · rw [ard_ne h1]
    unfold mWF
    rw [ard_ne (c' := 98) (by decide), ard_ne (c' := 99) (by decide), ard_ne (c' := 97) (by decide)]
    by_cases h2 : c = 99
    · subst h2
      rw [ard_same, ard_same]
    · rw [ard_ne h2, ard_ne h2]
      by_cases h3 : c = 98
      · subst h3
        rw [ard_same, ard_same]
      · rw [ard_ne h3, ard_ne h3]
        funext j
        unfold au
        rw [ard_ne h1]
theorem mWA_ard {y : Nat} : ∀ (m : Nat) (A : zA), mWA (ard A 69 s) y m = ard (mWA A y m) 69 s
  | 0, A => rfl
  | m + 1, A => by
    show mWA (mWF (ard A 69 s) y) y m = ard (mWA (mWF A y) y m) 69 s
    rw [mWF_ard, mWA_ard m]
theorem PF.wa (x : PF A h K L bc tc gc n B N M) {u i b j m : Nat} (hu : u < 2) (hi : (i : Int) < A 93 u) (e94 : A 94 (4 * u + i) = (b : Int)) (e95 : A 95 (4 * u + i) = (j : Int)) (h97 : A 97 (4 * u + i) = (m : Int)) : PF (mWA A (4 * u + i) m) (hWA h (gc (4 * b + j))) K L bc tc gc n B N M := by
  have E : ∀ c, c ≠ 60 → c ≠ 97 → c ≠ 98 → c ≠ 99 → mWA A (4 * u + i) m c = A c := fun c h1 h2 h3 h4 => mWA_c h1 h2 h3 h4 m A
  refine x.mv (E 69 (by decide) (by decide) (by decide) (by decide)) (E 70 (by decide) (by decide) (by decide) (by decide)) (E 71 (by decide) (by decide) (by decide) (by decide)) (E 72 (by decide) (by decide) (by decide) (by decide)) (E 76 (by decide) (by decide) (by decide) (by decide)) (E 79 (by decide) (by decide) (by decide) (by decide)) (fun w => w.lo (E 63 (by decide) (by decide) (by decide) (by decide)) (E 70 (by decide) (by decide) (by decide) (by decide)) (E 73 (by decide) (by decide) (by decide) (by decide)) (E 89 (by decide) (by decide) (by decide) (by decide)) (E 90 (by decide) (by decide) (by decide) (by decide)) (E 93 (by decide) (by decide) (by decide) (by decide)) (E 94 (by decide) (by decide) (by decide) (by decide)) (E 95 (by decide) (by decide) (by decide) (by decide)) (fun y hy => by
    rw [mWA_97]
    split
    · omega
    · exact hy)) (fun s q => ?_)
  rw [← mWA_ard]
  exact rr_wa q hu (by rw [ard_ne (by decide)]; exact hi) (by rw [ard_ne (by decide)]; exact e94) (by rw [ard_ne (by decide)]; exact e95) (by rw [ard_ne (by decide)]; exact h97)
theorem wr_ut {u t : Nat} (h : 4 * u + t < 8) : wr (wr (4 * (u : Int)) + (t : Int)) = ((4 * u + t : Nat) : Int) := by
  rw [wr_id (x := 4 * (u : Int)) (by omega) (by omega), wr_id (by omega) (by omega)]
  omega
theorem wr_s {t : Nat} (h : t < 100000) : wr ((t : Int) + 1) = ((t + 1 : Nat) : Int) := by
  rw [wr_id (by omega) (by omega)]
  omega
def WEI (A : zA) (b u m t j : Nat) : Prop := ∀ i, i < m → A 94 (4 * u + i) = (b : Int) → (i < t ↔ A 95 (4 * u + i) < (j : Int))
theorem we_loop {b u m nG : Nat} (hb : b < 72) (hu : u < 2) (g : zH) : ∀ (f2 t j f1 : Nat) (h : zH) (A : zA), t ≤ m → m - t < f2 → j ≤ nG → nG - j < f1 → PF A h K L bc tc gc n B N M → A 93 u = (m : Int) → A 87 b = 1 → A 88 b = (u : Int) → (∀ j : Nat, ((4 * j : Nat) : Int) < A 73 (b / 6) ↔ j < nG) → zhL h 37 (bc b) = nG → WEI A b u m t j → ∃ (h' : zH) (A' : zA), (∀ kr : Int → zH → Option ρ, zit (fun _ _ _ _ => none) (Bl_writeEndedGroups_2b kr) f1 (bc b : Int) 0 (j : Int) h = kr 0 h') ∧ (∀ kr : Int → zH → Option ρ, zit (fun _ _ _ _ => none) (M_writeEnded_9b kr) f2 (b : Int) (u : Int) (t : Int) (mh g A) = kr 0 (mh g A')) ∧ PF A' h' K L bc tc gc n B N M ∧ Fw h A h' A' ∧ (∀ y, A 97 y = 0 → A' 97 y = 0) ∧ (∀ i j' : Nat, t ≤ i → i < m → A 94 (4 * u + i) = (b : Int) → A 95 (4 * u + i) = (j' : Int) → zal (men A b j') 4 = true → A' 97 (4 * u + i) = 0)
  | 0, _, _, _, _, _, _, hf, _, _, _, _, _, _, _, _, _ => absurd hf (Nat.not_lt_zero _)
  | f2 + 1, t, j, f1, h, A, ht, hf, hj, hf1, x, h93, hin, h88, hG, hL, w => by
    obtain ⟨s, q, m0, cl, cp⟩ := x
    have x : PF A h K L bc tc gc n B N M := ⟨s, q, m0, cl, cp⟩
    have E : ∀ c, c ≠ 69 → ard A 69 s c = A c := fun c hc => ard_ne hc
    have m4 : m ≤ 4 := by
      have := (q.un hu).2.1
      rw [E 93 (by decide), h93] at this
      omega
    have hin' : ard A 69 s 87 b = 1 := by rw [E 87 (by decide)]; exact hin
    obtain ⟨u1, u2, u3, u4, u5⟩ := q.us u hu
    rw [E 93 (by decide), E 94 (by decide), E 95 (by decide)] at u5
    rw [E 93 (by decide), E 94 (by decide), E 95 (by decide), E 87 (by decide), E 88 (by decide), E 73 (by decide)] at u4 u2
    obtain ⟨b1, -⟩ := q.bh.1 b hb hin'
    obtain ⟨-, n37, -, -, -, -, d⟩ := q.rd.2.2.2.1
    obtain ⟨-, d3, -⟩ := d (bc b) b1
    have n37' : bc b < zhN h 37 := by rw [n37]; exact b1
    by_cases htm : t < m
    · have y8 : 4 * u + t < 8 := by omega
      have t9 : t < 100000 := by omega
      have tm : (t : Int) < (m : Int) := by omega
      by_cases e94 : A 94 (4 * u + t) = (b : Int)
      · obtain ⟨b', j', e1, e2, e3, e4, -⟩ := u2 t (by rw [h93]; exact tm)
        have : b' = b := Int.ofNat.inj (e1.symm.trans e94)
        subst this
        have hj' : j' < nG := (hG j').mp e4
        have jle : j ≤ j' := by
          have := w t htm e94
          rw [e3] at this
          omega
        have jeq : j' = j := by
          by_cases hlt : j < j'
          · exfalso
            obtain ⟨i', i1, i2, i3⟩ := u4 b' j hb hin h88 ((hG j).mpr (by omega))
            rw [h93] at i1
            have w3 := w i' (by omega) i2
            rw [i3] at w3
            have hti : t < i' := by
              have : i' ≠ t := fun e => by
                rw [e, e3] at i3
                omega
              omega
            have := u5 t i' hti (by rw [h93]; exact i1) (e94.trans i2.symm)
            rw [e3, i3] at this
            omega
          · omega
        subst jeq
        have wn : WEI A b' u m (t + 1) (j' + 1) := fun i hi he => by
          by_cases hit : i = t
          · subst hit
            rw [e3]
            omega
          · have w3 := w i hi he
            by_cases hlt : i < t
            · have := w3.mp hlt
              omega
            · have := u5 t i (by omega) (by rw [h93]; omega) (e94.trans he.symm)
              rw [e3] at this
              omega
        obtain ⟨gw, -, gen9, -⟩ := q.grp hb hin' (j := j') (by rw [E 73 (by decide)]; exact e4)
        obtain ⟨g1, g2, -⟩ := q.gh.1 b' hb hin' j' (by rw [E 73 (by decide)]; exact e4)
        obtain ⟨d1, d5, d6, d7, d8⟩ := q.ug u t hu (by rw [E 93 (by decide), h93]; exact tm) b' j' (by rw [E 94 (by decide)]; exact e94) (by rw [E 95 (by decide)]; exact e3)
        rw [E 97 (by decide)] at d5 d6 d7 d8
        rw [E 98 (by decide)] at d8
        have eal : zal (gen h (gc (4 * b' + j'))) 4 = zal (men A b' j') 4 := zal_congr 4 (fun k hk => by
          rw [gen9 k hk]
          unfold men
          rw [E 73 (by decide), E 89 (by decide)])
        obtain ⟨mb, hmb⟩ : ∃ mb : Nat, A 97 (4 * u + t) = (mb : Int) := ⟨(A 97 (4 * u + t)).toNat, by omega⟩
        obtain ⟨-, -, -, -, ⟨t0, t1⟩, -⟩ := q.blk hb hin'
        rw [E 73 (by decide)] at t0 t1
        have mg : MG A (4 * u + t) b' j' := ⟨y8, hb, by have := (hG j').mpr hj'; omega, e94, e3, by omega, t1⟩
        have jn : (j' : Int) < (nG : Int) := by omega
        have j9 : j' < 100000 := by omega
        obtain ⟨f, rfl⟩ : ∃ f, f1 = f + 1 := ⟨f1 - 1, by omega⟩
        cases hz : zal (men A b' j') 4 with
        | false =>
          obtain ⟨h', A', z1, z2, z3, z4, z5, z6⟩ := we_loop hb hu g f2 (t + 1) (j' + 1) f h A htm (by omega) hj' (by omega) x h93 hin h88 hG hL wn
          refine ⟨h', A', fun kr => ?_, fun kr => ?_, z3, z4, z5, fun i j9 k1 k2 k3 k4 k5 => ?_⟩
          · rw [zit_s, ← z1 kr]
            generalize zit (fun _ _ _ _ => none) (Bl_writeEndedGroups_2b kr) f = r9
            unfold Bl_writeEndedGroups_2b Bl_writeEndedGroups_34
            rw [zob_n b1, d3, zob_n n37', hL, if_pos jn, zob_n b1, d3, zob_n n37', hL, zix_n hj', g2, zob_n g1, x_hasEnded q.rd gw, eal, hz, tb_f, if_pos rfl, wr_s j9]
          · rw [zit_s, ← z2 kr]
            generalize zit (fun _ _ _ _ => none) (M_writeEnded_9b kr) f2 = r9
            unfold M_writeEnded_9b M_writeEnded_53
            rw [zix_n hu, mD93, h93, if_pos tm, wr_ut y8, zix_n y8, mD94, e94, if_pos rfl, m_hasEnded mg, hz, tb_f, if_pos rfl, wr_s t9]
          · by_cases hit : i = t
            · subst hit
              rw [show j9 = j' from Int.ofNat.inj (k4.symm.trans e3), hz] at k5
              cases k5
            · exact z6 i j9 (by omega) k2 k3 k4 k5
        | true =>
          have x1 := x.wa hu (by rw [h93]; exact tm) e94 e3 hmb
          have fw : Fw h A (hWA h (gc (4 * b' + j'))) (mWA A (4 * u + t) mb) := fw_wa
          have FE : ∀ c, c ≠ 60 → c ≠ 97 → c ≠ 98 → c ≠ 99 → mWA A (4 * u + t) mb c = A c := fw.1
          obtain ⟨h', A', z1, z2, z3, z4, z5, z6⟩ := we_loop hb hu g f2 (t + 1) (j' + 1) f _ _ htm (by omega) hj' (by omega) x1 (by rw [FE 93 (by decide) (by decide) (by decide) (by decide)]; exact h93) (by rw [FE 87 (by decide) (by decide) (by decide) (by decide)]; exact hin) (by rw [FE 88 (by decide) (by decide) (by decide) (by decide)]; exact h88) (by rw [FE 73 (by decide) (by decide) (by decide) (by decide)]; exact hG) (by rw [fw.2.2.2.1]; exact hL) (by
            unfold WEI
            rw [FE 94 (by decide) (by decide) (by decide) (by decide), FE 95 (by decide) (by decide) (by decide) (by decide)]
            exact wn)
          have mb4 : mb ≤ 4 := by omega
          have hc1 : ∀ k, k < mb → 0 ≤ zhD h 43 (gc (4 * b' + j')) k ∧ zhD h 43 (gc (4 * b' + j')) k < 64 := fun k hk => by
            obtain ⟨p1, -, p3, p4⟩ := d8 k (by omega)
            rw [p1]
            exact ⟨p3, p4⟩
          have hc2 : ∀ k, k < mb → 0 ≤ A 98 (4 * (4 * u + t) + k) ∧ A 98 (4 * (4 * u + t) + k) < 64 := fun k hk => by
            obtain ⟨-, -, p3, p4⟩ := d8 k (by omega)
            exact ⟨p3, p4⟩
          have y97 : ∀ y, mWA A (4 * u + t) mb 97 y = if y = 4 * u + t then 0 else A 97 y := fun y => by
            rw [mWA_97, hmb, Int.sub_self]
          refine ⟨h', A', fun kr => ?_, fun kr => ?_, z3, fw.tr z4, fun y hy => z5 y (by
            rw [y97]
            split
            · rfl
            · exact hy), fun i j9 k1 k2 k3 k4 k5 => ?_⟩
          · rw [zit_s, ← z1 kr]
            generalize zit (fun _ _ _ _ => none) (Bl_writeEndedGroups_2b kr) f = r9
            unfold Bl_writeEndedGroups_2b Bl_writeEndedGroups_34
            rw [zob_n b1, d3, zob_n n37', hL, if_pos jn, zob_n b1, d3, zob_n n37', hL, zix_n hj', g2, zob_n g1, x_hasEnded q.rd gw, eal, hz, tb_t, if_neg (by decide), zob_n b1, d3, zob_n n37', hL, zix_n hj', g2, zob_n g1, x_writeAll q.rs q.rd g1 mb4 (by rw [d5]; exact hmb) hc1, wr_s j9]
          · rw [zit_s, ← z2 kr]
            generalize zit (fun _ _ _ _ => none) (M_writeEnded_9b kr) f2 = r9
            unfold M_writeEnded_9b M_writeEnded_53
            rw [zix_n hu, mD93, h93, if_pos tm, wr_ut y8, zix_n y8, mD94, e94, if_pos rfl, m_hasEnded mg, hz, tb_t, if_neg (by decide), m_writeAll y8 mb4 hmb hc2, wr_s t9]
          · by_cases hit : i = t
            · subst hit
              exact z5 _ (by rw [y97, if_pos rfl])
            · refine z6 i j9 (by omega) k2 (by rw [FE 94 (by decide) (by decide) (by decide) (by decide)]; exact k3) (by rw [FE 95 (by decide) (by decide) (by decide) (by decide)]; exact k4) ?_
              unfold men at k5 ⊢
              rw [FE 73 (by decide) (by decide) (by decide) (by decide), FE 89 (by decide) (by decide) (by decide) (by decide)]
              exact k5
      · have wn : WEI A b u m (t + 1) j := fun i hi he => by
          have hit : i ≠ t := fun e => e94 (by rw [← e]; exact he)
          have w3 := w i hi he
          omega
        obtain ⟨h', A', z1, z2, z3, z4, z5, z6⟩ := we_loop hb hu g f2 (t + 1) j f1 h A htm (by omega) hj hf1 x h93 hin h88 hG hL wn
        refine ⟨h', A', z1, fun kr => ?_, z3, z4, z5, fun i j9 k1 k2 k3 k4 k5 => z6 i j9 (Nat.lt_of_le_of_ne k1 (fun z => e94 (by rw [z]; exact k3))) k2 k3 k4 k5⟩
        rw [zit_s, ← z2 kr]
        generalize zit (fun _ _ _ _ => none) (M_writeEnded_9b kr) f2 = r9
        unfold M_writeEnded_9b M_writeEnded_53
        rw [zix_n hu, mD93, h93, if_pos tm, wr_ut y8, zix_n y8, mD94, if_neg e94, wr_s t9]
    · have ej : j = nG := by
        by_cases hlt : j < nG
        · obtain ⟨i', i1, i2, i3⟩ := u4 b j hb hin h88 ((hG j).mpr hlt)
          rw [h93] at i1
          have w3 := w i' (by omega) i2
          rw [i3] at w3
          omega
        · omega
      subst ej
      refine ⟨h, A, fun kr => ?_, fun kr => ?_, x, Fw.rfl', fun _ hy => hy, fun i j9 k1 k2 _ _ _ => absurd (Nat.lt_of_le_of_lt k1 k2) htm⟩
      · obtain ⟨f, rfl⟩ : ∃ f, f1 = f + 1 := ⟨f1 - 1, by omega⟩
        rw [zit_s]
        unfold Bl_writeEndedGroups_2b
        rw [zob_n b1, d3, zob_n n37', hL, if_neg (Int.lt_irrefl _)]
      · rw [zit_s]
        unfold M_writeEnded_9b
        rw [zix_n hu, mD93, h93, if_neg (by omega)]
/-- a block's ended groups write: both sides -/
theorem we_both (x : PF A h K L bc tc gc n B N M) {b : Nat} (hb : b < 72) (hin : A 87 b = 1) (g : zH) : ∃ (h' : zH) (A' : zA), (∀ kr : Int → zH → Option ρ, Bl_writeEndedGroups (bc b : Int) 0 h kr = kr 0 h') ∧ (∀ kr : Int → zH → Option ρ, M_writeEnded (b : Int) (mh g A) kr = kr 0 (mh g A')) ∧ PF A' h' K L bc tc gc n B N M ∧ Fw h A h' A' ∧ (∀ u i j' : Nat, A 88 b = (u : Int) → (i : Int) < A 93 u → A 94 (4 * u + i) = (b : Int) → A 95 (4 * u + i) = (j' : Int) → zal (men A b j') 4 = true → A' 97 (4 * u + i) = 0) := by
  obtain ⟨s, q, m0, cl, cp⟩ := x
  have E : ∀ c, c ≠ 69 → ard A 69 s c = A c := fun c hc => ard_ne hc
  have hin' : ard A 69 s 87 b = 1 := by rw [E 87 (by decide)]; exact hin
  obtain ⟨i1, i2, i3, i4, i5, i6⟩ := q.bi.2.1 b hb hin'
  rw [E 88 (by decide)] at i5
  obtain ⟨u, hu, h88⟩ : ∃ u : Nat, u < 2 ∧ A 88 b = (u : Int) := by
    rcases i5 with z | z
    · exact ⟨0, by decide, z⟩
    · exact ⟨1, by decide, z⟩
  obtain ⟨u0, u4, -⟩ := q.un hu
  rw [E 93 (by decide)] at u0 u4
  obtain ⟨-, -, -, -, bh5, -⟩ := q.bh.1 b hb hin'
  obtain ⟨-, -, -, -, ⟨t0, t1⟩, -⟩ := q.blk hb hin'
  rw [E 73 (by decide)] at t0 t1 bh5
  have hG : ∀ j : Nat, ((4 * j : Nat) : Int) < A 73 (b / 6) ↔ j < zhL h 37 (bc b) := fun j => by
    rw [Int.tdiv_eq_ediv_of_nonneg (by omega)] at bh5
    omega
  have m5 : (A 93 u).toNat - 0 < zN := by
    show _ < 5000
    omega
  have g5 : zhL h 37 (bc b) - 0 < zN := by
    show _ < 5000
    rw [Int.tdiv_eq_ediv_of_nonneg (by omega)] at bh5
    omega
  obtain ⟨h', A', z1, z2, z3, z4, -, z6⟩ := we_loop (ρ := ρ) hb hu g zN 0 0 zN h A (Nat.zero_le _) m5 (Nat.zero_le _) g5 ⟨s, q, m0, cl, cp⟩ (by omega) hin h88 hG rfl (fun i hi he => by
    obtain ⟨b', j', e1, e2, e3, -⟩ := (q.us u hu).2.1 i (by rw [E 93 (by decide)]; omega)
    rw [E 95 (by decide)] at e3
    rw [e3]
    omega)
  refine ⟨h', A', z1, fun kr => ?_, z3, z4, fun u2 i j' k1 k2 k3 k4 k5 => ?_⟩
  · unfold M_writeEnded
    rw [zix_n hb, mD88, h88]
    exact z2 kr
  · rw [h88] at k1
    have eu : u2 = u := (Int.ofNat.inj k1).symm
    subst eu
    exact z6 i j' (Nat.zero_le _) (by omega) k3 k4 k5
end
