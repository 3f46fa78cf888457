/-! AN INSTRUCTION BEGINS: both sides -/
section
variable {ρ : Type} {h h0 g : zH} {A B : zA} {kr : Int → zH → Option ρ} {K L n : Nat} {bc tc gc : Nat → Nat} {N M : Int} {u i b j k p r : Nat} {c : Int}
theorem x_la {F : Nat → Bool} {c1 c2 : Int} {w : Nat} (q : RR A h0 K L bc tc gc n B N M) (hb : b < 72) (hin : A 87 b = 1) (hj : ((4 * j : Nat) : Int) < A 73 (b / 6)) (h70 : A 70 (b / 6) = (k : Int)) (hr : r < zhN h0 8) (r0 : zhD h0 8 r 0 = c) (r1 : (if c = 119 ∨ c = 87 then zhD h0 8 r 1 else zhD h0 8 r 2) = c1) (r2 : zhD h0 8 r 2 = c2) (hF : zhD h0 2 0 8 = zbs F 4) (hFp : ∀ m2 : Nat, m2 < 4 → F m2 = true → ((4 * j + m2 : Nat) : Int) < A 73 (b / 6)) (w4 : w ≤ 4) (h5 : zhD h0 11 (gc (4 * b + j)) 5 = (w : Int)) (hcs : ∀ k, k < w → 0 ≤ zhD h0 43 (gc (4 * b + j)) k ∧ zhD h0 43 (gc (4 * b + j)) k < 64) : ∃ h' : zH, LQ h0 h' (fun l => if ((4 * j + l : Nat) : Int) < A 73 (b / 6) then zrg A k (16 * b + (4 * j + l)) c1 else 0) (fun l => if ((4 * j + l : Nat) : Int) < A 73 (b / 6) then zrg A k (16 * b + (4 * j + l)) c2 else 0) (fun l => F l && decide ((if ((4 * j + l : Nat) : Int) < A 73 (b / 6) then zrg A k (16 * b + (4 * j + l)) c2 else 0) ≠ 0)) 4 ∧ ∀ kr : Int → zH → Option ρ, Co_lookAhead 0 (gc (4 * b + j) : Int) (r : Int) h0 kr = if (c = 97 ∨ c = 120 ∨ c = 98 ∨ c = 102) then kr 0 (zset (hWA h' (gc (4 * b + j))) 2 0 10 (w : Int)) else kr 0 (zset h' 2 0 10 0) := by
  have x0 : LQ h0 (zset h0 2 0 9 0) (fun l => if ((4 * j + l : Nat) : Int) < A 73 (b / 6) then zrg A k (16 * b + (4 * j + l)) c1 else 0) (fun l => if ((4 * j + l : Nat) : Int) < A 73 (b / 6) then zrg A k (16 * b + (4 * j + l)) c2 else 0) (fun l => F l && decide ((if ((4 * j + l : Nat) : Int) < A 73 (b / 6) then zrg A k (16 * b + (4 * j + l)) c2 else 0) ≠ 0)) 0 := ⟨fun c p j hc => by rw [zD_set, if_neg (fun z => hc (Or.inr (Or.inr ⟨z.1, z.2.2⟩)))], ⟨rfl, rfl, rfl, rfl⟩, fun l hl => absurd hl (Nat.not_lt_zero _), zD_eq⟩
  obtain ⟨h', y1, y2⟩ := la_loop (ρ := ρ) q hb hin hj h70 hr r0 r1 r2 hF hFp zN 0 (zset h0 2 0 9 0) (by decide) (by show 4 - 0 < 5000; decide) x0
  refine ⟨h', y2, fun kr => ?_⟩
  have q1 := y2.rr q
  obtain ⟨gw, -⟩ := q1.grp hb hin hj
  obtain ⟨-, z1, -⟩ := zone_all c
  have zz : zone 1 c = decide (c = 97 ∨ c = 120 ∨ c = 98 ∨ c = 102) := by
    have := zone_all c
    exact this.2.2.2.2.2.2.2.1
  have hr1 : r < zhN h' 8 := by rw [y2.2.1.1]; exact hr
  have e0 : zhD h' 8 r 0 = c := by rw [y2.1 8 r 0 (by decide)]; exact r0
  unfold Co_lookAhead
  rw [zob_0 q.rs.N2, zlet_d]
  refine Eq.trans (y1 kr) ?_
  unfold Co_lookAhead_7b Co_lookAhead_127
  rw [if_neg (by decide), zob_n hr1, x_isOneOf (s := 1) rfl hr1, e0, zz]
  by_cases hw : (c = 97 ∨ c = 120 ∨ c = 98 ∨ c = 102)
  · have n2 : zhN (hWA h' (gc (4 * b + j))) 2 = 1 := q1.rs.N2
    rw [decide_eq_true hw, tb_t, if_neg (by decide), if_pos hw, zob_0 q1.rs.N2, q1.rs.D2_0_1, zob_n gw.1, x_writeAll q1.rs q1.rd gw.1 w4 (by rw [y2.1 11 _ 5 (by decide)]; exact h5) (fun k hk => by rw [y2.1 43 _ k (by omega)]; exact hcs k hk), zob_0 n2, zlet_d]
  · rw [decide_eq_false hw, tb_f, if_pos rfl, if_neg hw, zob_0 q1.rs.N2, zlet_d]
theorem mP1_c {x y m c2 : Nat} {mk : Int} (h : c2 ≠ 12 ∧ c2 ≠ 109 ∧ c2 ≠ 60 ∧ c2 ≠ 97 ∧ c2 ≠ 98 ∧ c2 ≠ 99) : mP1 A x y m mk c c2 = A c2 := by
  obtain ⟨h1, h2, h3, h4, h5, h6⟩ := h
  have e : mWA (mP0 A x mk) y m c2 = A c2 := by rw [mWA_c h3 h4 h5 h6, mP0_c ⟨h1, h2⟩]
  unfold mP1
  split
  · exact e
  · split
    · rw [au_ne h1, e]
    · exact mP0_c ⟨h1, h2⟩
theorem mP1_97 {x y m : Nat} {mk : Int} (h : A 97 y = (m : Int)) : (∀ y2, y2 ≠ y → mP1 A x y m mk c 97 y2 = A 97 y2) ∧ (c = 98 → mP1 A x y m mk c 97 y = 0) := by
  have e0 : mP0 A x mk 97 = A 97 := mP0_c (by decide)
  refine ⟨fun y2 hy => ?_, fun hc => ?_⟩
  · unfold mP1
    split
    · rw [mWA_97, if_neg hy, e0]
    · split
      · rw [au_ne (by decide), mWA_97, if_neg hy, e0]
      · rw [e0]
  · unfold mP1
    rw [if_pos (Or.inr (Or.inr hc)), mWA_97, if_pos rfl, e0, h]
    omega
/-- what is ahead of the lanes leaves of who waits, and of buffers -/
def CP (A A1 : zA) (c : Int) (y : Nat) : Prop := (A1 63 = A 63 ∧ A1 70 = A 70 ∧ A1 73 = A 73 ∧ A1 89 = A 89 ∧ A1 90 = A 90 ∧ A1 93 = A 93 ∧ A1 94 = A 94 ∧ A1 95 = A 95) ∧ (∀ y2, y2 ≠ y → A1 97 y2 = A 97 y2) ∧ (c = 98 → A1 97 y = 0)
theorem mP1_109 {x y m q : Nat} {mk : Int} (hq : q < 32) : mP1 A x y m mk c 109 q = A 91 (8 * x + q) := by
  have e : mWA (mP0 A x mk) y m 109 q = A 91 (8 * x + q) := by rw [mWA_c (by decide) (by decide) (by decide) (by decide), mP0_109 hq]
  unfold mP1
  split
  · exact e
  · split
    · rw [au_ne (by decide), e]
    · exact mP0_109 hq
theorem mP1_12 {x y m : Nat} {mk : Int} : mP1 A x y m mk c 12 63 = mk ∧ mP1 A x y m mk c 12 64 = 0 ∧ mP1 A x y m mk c 12 66 = 45 ∧ (c = 102 → mP1 A x y m mk c 12 65 = (m : Int)) ∧ (c ≠ 102 → mP1 A x y m mk c 12 65 = 0) := by
  obtain ⟨e1, e2, e3, e4⟩ := mP0_12 (A := A) (x := x) (mk := mk)
  have e : mWA (mP0 A x mk) y m 12 = mP0 A x mk 12 := mWA_c (by decide) (by decide) (by decide) (by decide) _ _
  unfold mP1
  by_cases h1 : c = 97 ∨ c = 120 ∨ c = 98
  · rw [if_pos h1, e]
    exact ⟨e1, e2, e4, fun z => by omega, fun _ => e3⟩
  · rw [if_neg h1]
    by_cases h2 : c = 102
    · rw [if_pos h2]
      refine ⟨?_, ?_, ?_, fun _ => au_same, fun z => absurd h2 z⟩
      · rw [au_j, if_neg (by decide), e, e1]
      · rw [au_j, if_neg (by decide), e, e2]
      · rw [au_j, if_neg (by decide), e, e4]
    · rw [if_neg h2]
      exact ⟨e1, e2, e4, fun z => absurd z h2, fun _ => e3⟩
/-- the relation behind the writes ahead of an instruction -/
theorem rr_p1 {x w : Nat} {mk : Int} (q : RR (fg u b j (mP0 A x mk)) h K L bc tc gc n B N M) (hu : u < 2) (hi : (i : Int) < A 93 u) (e94 : A 94 (4 * u + i) = (b : Int)) (e95 : A 95 (4 * u + i) = (j : Int)) (h97 : A 97 (4 * u + i) = (w : Int)) : RR (fg u b j (mP1 A x (4 * u + i) w mk c)) (if (c = 97 ∨ c = 120 ∨ c = 98 ∨ c = 102) then zset (hWA h (gc (4 * b + j))) 2 0 10 (w : Int) else zset h 2 0 10 0) K L bc tc gc n B N M := by
  have q1 := rr_wa q hu (by rw [fg_c (by decide), mP0_c (by decide)]; exact hi) (by rw [fg_c (by decide), mP0_c (by decide)]; exact e94) (by rw [fg_c (by decide), mP0_c (by decide)]; exact e95) (by rw [fg_c (by decide), mP0_c (by decide)]; exact h97)
  rw [fg_wa] at q1
  have q2 := rr_zs q1 (c := 2) (p := 0) (j := 10) (v := (w : Int)) rfl
  unfold mP1
  by_cases h1 : c = 97 ∨ c = 120 ∨ c = 98
  · rw [if_pos h1, if_pos (by omega)]
    exact q2
  · rw [if_neg h1]
    by_cases h2 : c = 102
    · rw [if_pos h2, if_pos (by omega)]
      have q3 := rr_au q2 (c := 12) (j := 65) (v := (w : Int)) rfl
      rw [fg_12 (by decide) (by decide) (by decide)] at q3
      exact q3
    · rw [if_neg h2, if_neg (by omega)]
      exact rr_zs q rfl
theorem co_pre (q : RR (lb u b j A) h K L bc tc gc n B N M) (cl : CL A L) (bn : n ≤ 9999899) (hu : u < 2) (hi : (i : Int) < A 93 u) (e94 : A 94 (4 * u + i) = (b : Int)) (e95 : A 95 (4 * u + i) = (j : Int)) (hpz : zlm (mpl A b j) 4 = (p : Int)) : ∃ (h1 : zH) (A1 : zA) (k r a : Nat) (b2 d c : Int), (∀ kr : Int → zH → Option ρ, Co_carryOut 0 (u : Int) (gc (4 * b + j) : Int) h kr = Co_carryOut_63 kr 0 (u : Int) (gc (4 * b + j) : Int) (p : Int) (k : Int) (r : Int) 0 h1) ∧ (∀ kr : Int → zH → Option ρ, M_carryOut (u : Int) (i : Int) (mh g A) kr = M_carryOut_178 kr (u : Int) ((4 * u + i : Nat) : Int) (b : Int) ((b / 6 : Nat) : Int) (p : Int) ((40 * k + p : Nat) : Int) c (mh g A1)) ∧ LI A1 h1 K L bc tc gc (n + 1) B N M u i b j k p r a b2 d c (mmf A b j) 0 ∧ CP A A1 c (4 * u + i) ∧ ∃ m2, m2 < 4 ∧ mmf A b j m2 = true := by
  obtain ⟨b', j', s94, s95, hb, hin, -, hj, -, gg⟩ := q.slot hu (by rw [lb_c (by decide)]; exact hi)
  rw [lb_c (by decide)] at s94 s95 hin hj
  have eb : b' = b := Int.ofNat.inj (s94.symm.trans e94)
  have ej : j' = j := Int.ofNat.inj (s95.symm.trans e95)
  subst eb
  subst ej
  have hinL : lb u b' j' A 87 b' = 1 := by rw [lb_c (by decide)]; exact hin
  have hjL : ((4 * j' : Nat) : Int) < lb u b' j' A 73 (b' / 6) := by rw [lb_c (by decide)]; exact hj
  obtain ⟨k, hk, e70, hbL, ⟨f1, f2⟩, ⟨k1, k2, k3, k4, k5, k6⟩, ⟨n7, n9, k4', hb12⟩, ⟨-, e95', -, -, -⟩⟩ := q.blk hb hinL
  rw [lb_c (by decide)] at e70 f1 f2 k1 k2
  rw [lb_c (by decide)] at k3 k4 k5 k6
  obtain ⟨hG, hgpl, -, hMP⟩ := q.grp hb hinL hjL
  have empl : mpl (lb u b' j' A) b' j' = mpl A b' j' := mpl_fr (lb_c (by decide)) (lb_c (by decide)) (lb_c (by decide))
  have hMPA : MP A b' j' := fun m2 hm hlt h114 => by
    have := hMP m2 hm (by rw [lb_c (by decide)]; exact hlt) (by rw [lb_c (by decide)]; exact h114)
    rw [lb_c (by decide)] at this
    exact this
  have ezl : zlm (gpl h (gc (4 * b' + j'))) 4 = (p : Int) := by
    rw [zlm_congr (q := mpl A b' j') 4 (fun k hk => by rw [hgpl k hk, empl])]
    exact hpz
  obtain ⟨m2, hm2, e2⟩ : ∃ m2, m2 < 4 ∧ mpl A b' j' m2 = (p : Int) := by
    rcases zlm_or (p := mpl A b' j') 4 with z | ⟨m2, y1, y2⟩
    · rw [hpz] at z
      omega
    · exact ⟨m2, y1, y2.symm.trans hpz⟩
  obtain ⟨-, hlt2, h114, h90⟩ := mpl_t e2
  have hF2 : mmf A b' j' m2 = true := by
    unfold mmf
    rw [hpz, e2]
    exact decide_eq_true ⟨by omega, rfl⟩
  have hp63 : (p : Int) < A 63 k := by
    obtain ⟨-, -, d3, -⟩ := q.td b' hb hinL (4 * j' + m2) (by rw [lb_c (by decide)]; exact hlt2)
    have := (d3 (by rw [lb_c (by decide), h114]; decide)).2.2
    rw [lb_c (by decide), lb_c (by decide), lb_c (by decide), e70, Int.toNat_natCast, h90] at this
    exact this
  obtain ⟨-, -, -, -, -, -, -, -, -, -, -, -, hins⟩ := q.rk.2.2.2.2.1 k hk
  obtain ⟨r, r1, r2, r3, r4, r5, r6, r7⟩ := hins p (by rw [lb_c (by decide)]; exact hp63)
  rw [lb_c (by decide)] at r3 r4 r5 r6
  rw [lb_c (by decide), lb_c (by decide), lb_c (by decide), lb_c (by decide), lb_c (by decide)] at r7
  obtain ⟨u1, u2, u3, u4, u5⟩ := q.ug u i hu (by rw [lb_c (by decide)]; exact hi) b' j' (by rw [lb_c (by decide)]; exact e94) (by rw [lb_c (by decide)]; exact e95)
  rw [lb_c (by decide)] at u2 u3 u4 u5
  obtain ⟨w, hw⟩ : ∃ w : Nat, A 97 (4 * u + i) = (w : Int) := ⟨(A 97 (4 * u + i)).toNat, by omega⟩
  have w4 : w ≤ 4 := by omega
  rw [hw] at u2 u5
  rw [lb_c (by decide), lb_c (by decide)] at u5
  have ha : zbits (A 65 (40 * k + p)) ≠ 0 → A 66 (40 * k + p) = ((A 66 (40 * k + p)).toNat : Int) := fun hz => by
    obtain ⟨z1, z2, -⟩ := r7
    have := z2 (by rcases zbits_cases (A 65 (40 * k + p)) with z | z | z | z | z | z <;> omega)
    omega
  have hok : zinsOK (A 61 k) (A 65 (40 * k + p)) ((A 66 (40 * k + p)).toNat : Int) (A 67 (40 * k + p)) (A 68 (40 * k + p)) := by
    obtain ⟨z1, z2, z3, z4, z5, z6⟩ := r7
    exact ⟨z1, fun hz => by rw [← ha (by omega)]; exact z2 hz, z3, z4, z5, z6⟩
  have hi4 : i < 4 := by
    have := (q.un hu).2.1
    rw [lb_c (by decide)] at this
    omega
  have ggA : MG A (4 * u + i) b' j' := by
    obtain ⟨y1, y2, y3, y4, y5, y6, y7⟩ := gg
    rw [lb_c (by decide)] at y4 y5 y6 y7
    exact ⟨y1, y2, y3, y4, y5, y6, y7⟩
  have b55 := q.bd.1 55 (by decide)
  rw [lb_c (by decide)] at b55
  have e40 : zhD h 4 0 0 = A 12 55 := by
    have := q.rm.2.2.2.2.1
    rw [lb_c (by decide)] at this
    exact this
  have q1 := rr_f0 q (v := A 12 55 + 1) (by omega) (by omega)
  have q2 := rr_zs q1 (c := 2) (p := 0) (j := 8) (v := zbs (mmf A b' j') 4) rfl
  have T : ∀ c, c ≠ 12 ∧ c ≠ 100 ∧ c ≠ 101 → au (lb u b' j' A) 12 55 (A 12 55 + 1) c = A c := fun c hc => by rw [au_ne hc.1, lb_c hc.2]
  have hFp : ∀ m2 : Nat, m2 < 4 → mmf A b' j' m2 = true → ((4 * j' + m2 : Nat) : Int) < au (lb u b' j' A) 12 55 (A 12 55 + 1) 73 (b' / 6) := fun m2 _ hF => by rw [T 73 (by decide)]; exact (mpl_t (mmf_t hpz hF)).2.1
  obtain ⟨h', lq, hla⟩ := x_la (ρ := ρ) (c := A 65 (40 * k + p)) (c1 := if A 65 (40 * k + p) = 119 ∨ A 65 (40 * k + p) = 87 then ((A 66 (40 * k + p)).toNat : Int) else A 67 (40 * k + p)) (c2 := A 67 (40 * k + p)) (r := r) (k := k) (F := mmf A b' j') (w := w) q2 hb (by rw [T 87 (by decide)]; exact hin) (by rw [T 73 (by decide)]; exact hj) (by rw [T 70 (by decide)]; exact e70) r2 (by rw [zD_ne (by decide), zD_ne (by decide)]; exact r3) (by
    rw [zD_ne (by decide), zD_ne (by decide)]
    by_cases h9 : A 65 (40 * k + p) = 119 ∨ A 65 (40 * k + p) = 87
    · rw [if_pos h9, if_pos h9, r4, ← ha (by rcases h9 with z | z <;> rw [z] <;> decide)]
    · rw [if_neg h9, if_neg h9, r5]) (by rw [zD_ne (by decide), zD_ne (by decide)]; exact r5) zD_eq hFp w4 (by rw [zD_ne (by decide), zD_ne (by decide)]; exact u2) (fun k hk => by rw [zD_ne (by decide), zD_ne (by decide), (u5 k (Int.ofNat_lt.mpr hk)).1]; exact (u5 k (Int.ofNat_lt.mpr hk)).2.2)
  have q3 := rr_p0 (x := 16 * b' + 4 * j') (mk := zbs (mmf A b' j') 4) q (by omega) (h' := h') (fun c p j hc => by rw [lq.1 c p j (fun z => hc (by rcases z with z | z | z; exact Or.inl z; exact Or.inr (Or.inl z); exact Or.inr (Or.inr ⟨z.1, Or.inr (Or.inl z.2)⟩))), zD_set, if_neg (fun z => hc (Or.inr (Or.inr ⟨z.1, Or.inl z.2.2⟩)))]) lq.2.1
  have q4 := rr_p1 (c := A 65 (40 * k + p)) q3 hu hi e94 e95 hw
  refine ⟨if (A 65 (40 * k + p) = 97 ∨ A 65 (40 * k + p) = 120 ∨ A 65 (40 * k + p) = 98 ∨ A 65 (40 * k + p) = 102) then zset (hWA h' (gc (4 * b' + j'))) 2 0 10 (w : Int) else zset h' 2 0 10 0, mP1 A (16 * b' + 4 * j') (4 * u + i) w (zbs (mmf A b' j') 4) (A 65 (40 * k + p)), k, r, (A 66 (40 * k + p)).toNat, A 67 (40 * k + p), A 68 (40 * k + p), A 65 (40 * k + p), fun kr => ?_, fun kr => m_pre ggA hu hi4 hMPA hpz e70 k4' (by omega) rfl w4 hw (fun k hk => (u5 k (Int.ofNat_lt.mpr hk)).2.2), ?_, ⟨⟨mP1_c (by decide), mP1_c (by decide), mP1_c (by decide), mP1_c (by decide), mP1_c (by decide), mP1_c (by decide), mP1_c (by decide), mP1_c (by decide)⟩, (mP1_97 hw).1, (mP1_97 hw).2⟩, m2, hm2, hF2⟩
  · obtain ⟨bh1, bh2, -⟩ := q.bh.1 b' hb hinL
    obtain ⟨-, -, g3, -⟩ := q.gh.1 b' hb hinL j' hjL
    have w55 : wrl (A 12 55 + 1) = A 12 55 + 1 := wrl_id (by omega) (by omega)
    have hG1 : GW (zset h 4 0 0 (A 12 55 + 1)) (gc (4 * b' + j')) := hG
    have hin1 : au (lb u b' j' A) 12 55 (A 12 55 + 1) 87 b' = 1 := by rw [T 87 (by decide)]; exact hin
    have hj1 : ((4 * j' : Nat) : Int) < au (lb u b' j' A) 12 55 (A 12 55 + 1) 73 (b' / 6) := by rw [T 73 (by decide)]; exact hj
    have emk : zbs (gmf (zset h 4 0 0 (A 12 55 + 1)) (gc (4 * b' + j'))) 4 = zbs (mmf A b' j') 4 := by
      obtain ⟨-, hg1, -⟩ := q1.grp hb hin1 hj1
      have em1 : mpl (au (lb u b' j' A) 12 55 (A 12 55 + 1)) b' j' = mpl A b' j' := mpl_fr (T 73 (by decide)) (T 89 (by decide)) (T 90 (by decide))
      refine zbs_congr 4 (fun l hl => ?_)
      unfold gmf mmf
      rw [zlm_congr (q := mpl A b' j') 4 (fun k hk => by rw [hg1 k hk, em1]), hg1 l hl, em1]
    unfold Co_carryOut
    rw [zob_n hG.1, x_leastPlace q.rd hG, ezl, zob_n hG.1, g3, zob_n bh1, bh2, zob_n n9, e95', zob_n n7, x_instrAt q.rs q.rd q.rk hk (by rw [lb_c (by decide)]; exact hp63) r1, if_neg (Int.not_lt.mpr (Int.natCast_nonneg _)), zob_0 q.rs.N2, q.rs.D2_0_3, zob_0 q.rs.N4, zob_0 q.rs.N4, e40, w55, zlet_d, zob_n hG1.1, x_lanesUnderMask q1.rd hG1, emk, zob_0 q1.rs.N2, zlet_d, zob_0 q2.rs.N2, hla]
    split <;> rfl
  · have C : ∀ c2, c2 ≠ 12 ∧ c2 ≠ 109 ∧ c2 ≠ 60 ∧ c2 ≠ 97 ∧ c2 ≠ 98 ∧ c2 ≠ 99 → mP1 A (16 * b' + 4 * j') (4 * u + i) w (zbs (mmf A b' j') 4) (A 65 (40 * k + p)) c2 = A c2 := fun c2 hc => mP1_c hc
    have C109 : ∀ q9, q9 < 32 → mP1 A (16 * b' + 4 * j') (4 * u + i) w (zbs (mmf A b' j') 4) (A 65 (40 * k + p)) 109 q9 = A 91 (8 * (16 * b' + 4 * j') + q9) := fun q9 hq => mP1_109 hq
    obtain ⟨c63, c64, c66, c65, c65'⟩ := mP1_12 (A := A) (x := 16 * b' + 4 * j') (y := 4 * u + i) (m := w) (mk := zbs (mmf A b' j') 4) (c := A 65 (40 * k + p))
    have HD : ∀ c2 p2 j2, c2 ≠ 22 → c2 ≠ 11 → ¬ (c2 = 2 ∧ j2 = 10) → zhD (if (A 65 (40 * k + p) = 97 ∨ A 65 (40 * k + p) = 120 ∨ A 65 (40 * k + p) = 98 ∨ A 65 (40 * k + p) = 102) then zset (hWA h' (gc (4 * b' + j'))) 2 0 10 (w : Int) else zset h' 2 0 10 0) c2 p2 j2 = zhD h' c2 p2 j2 := fun c2 p2 j2 y1 y2 y3 => by
      split
      · rw [zD_set, if_neg (fun z => y3 ⟨z.1, z.2.2⟩), hWA_o y1 (fun z => y2 z.1)]
      · rw [zD_set, if_neg (fun z => y3 ⟨z.1, z.2.2⟩)]
    have H10 : zhD (if (A 65 (40 * k + p) = 97 ∨ A 65 (40 * k + p) = 120 ∨ A 65 (40 * k + p) = 98 ∨ A 65 (40 * k + p) = 102) then zset (hWA h' (gc (4 * b' + j'))) 2 0 10 (w : Int) else zset h' 2 0 10 0) 2 0 10 = if (A 65 (40 * k + p) = 97 ∨ A 65 (40 * k + p) = 120 ∨ A 65 (40 * k + p) = 98 ∨ A 65 (40 * k + p) = 102) then (w : Int) else 0 := by
      split
      · exact zD_eq
      · exact zD_eq
    have HN : zhN (if (A 65 (40 * k + p) = 97 ∨ A 65 (40 * k + p) = 120 ∨ A 65 (40 * k + p) = 98 ∨ A 65 (40 * k + p) = 102) then zset (hWA h' (gc (4 * b' + j'))) 2 0 10 (w : Int) else zset h' 2 0 10 0) = zhN h := by
      have : zhN h' = zhN h := lq.2.1.1
      split
      · exact this
      · exact this
    have H8 : ∀ j2, zhD h' 8 r j2 = zhD h 8 r j2 := fun j2 => by rw [lq.1 8 r j2 (by omega), zD_ne (by decide), zD_ne (by decide)]
    have zl : ∀ (v : Int) (l : Nat), l < 4 → zlat (mP1 A (16 * b' + 4 * j') (4 * u + i) w (zbs (mmf A b' j') 4) (A 65 (40 * k + p))) k v l = zrg (au (lb u b' j' A) 12 55 (A 12 55 + 1)) k (16 * b' + (4 * j' + l)) v := fun v l hl => by
      unfold zlat zrg
      rw [C 61 (by decide), T 61 (by decide), T 91 (by decide)]
      cases hz : zwi v 0 (A 61 k - 1) with
      | false => rfl
      | true =>
        have := zwi_t hz
        rw [if_pos rfl, if_pos rfl, C109 _ (by omega)]
        exact congrArg (A 91) (by omega)
    have l2 := lq.2.2.1
    have l3 := lq.2.2.2
    have iv := q.iv
    refine ⟨q4, hu, by rw [C 93 (by decide)]; exact hi, by rw [C 94 (by decide)]; exact e94, by rw [C 95 (by decide)]; exact e95, by rw [C 87 (by decide)]; exact hin, hb, by rw [C 70 (by decide)]; exact e70, by rw [C 73 (by decide)]; exact hj, ⟨by rw [HN]; exact r2, by rw [HD 8 r 0 (by decide) (by decide) (by decide), H8]; exact r3, fun hz => by rw [HD 8 r 1 (by decide) (by decide) (by decide), H8, r4]; exact ha hz, by rw [HD 8 r 2 (by decide) (by decide) (by decide), H8]; exact r5, by rw [HD 8 r 3 (by decide) (by decide) (by decide), H8]; exact r6⟩, ⟨by rw [C 65 (by decide)], fun hz => by rw [C 66 (by decide)]; exact ha hz, by rw [C 67 (by decide)], by rw [C 68 (by decide)]⟩, by rw [C 61 (by decide)]; exact hok, ⟨by rw [C 61 (by decide)]; exact k1, by rw [C 61 (by decide)]; exact k2, by rw [C 62 (by decide)]; exact k3, by rw [C 62 (by decide)]; exact k4, by rw [C 63 (by decide)]; exact hp63, by rw [C 63 (by decide)]; exact k6, hk⟩, ⟨by rw [HD 2 0 8 (by decide) (by decide) (by decide), lq.1 2 0 8 (by decide)]; exact zD_eq, c63⟩, fun l _ hF => by rw [C 73 (by decide)]; exact (mpl_t (mmf_t hpz hF)).2.1, fun l _ hl hF => ?_, fun l hl hlt => ?_, ?_, by omega, fun q9 hq => by rw [C109 q9 hq]; have := (iv (8 * (16 * b' + 4 * j') + q9)).2.2.1; rw [lb_c (by decide)] at this; exact this, fun hc => ?_, fun hc => ⟨?_, ?_, fun hz => ?_, c65'⟩, ⟨by rw [c64]; decide, by rw [c64]; decide, c66⟩, cl.mv ⟨Nat.le_refl _, fun l y1 y2 => absurd (Nat.lt_of_le_of_lt y1 y2) (Nat.lt_irrefl _)⟩ (fun c2 hc l _ => by rw [C c2 (by omega)]), fun l hl _ => absurd hl (Nat.not_lt_zero _)⟩
    · obtain ⟨-, z1, z2, z3⟩ := mpl_t (mmf_t hpz hF)
      rw [C 90 (by decide), C 89 (by decide), C 91 (by decide)]
      refine ⟨z3, z2, fun q9 hq => ?_⟩
      rw [C 61 (by decide)] at hq
      rw [C109 _ (by omega)]
      exact congrArg (A 91) (by omega)
    · rw [C 73 (by decide)] at hlt
      rw [HD 24 0 l (by decide) (by decide) (by omega), HD 25 0 l (by decide) (by decide) (by omega), (l2 l hl).1, (l2 l hl).2, zl _ l hl, zl _ l hl]
      exact ⟨if_pos (by rw [T 73 (by decide)]; exact hlt), if_pos (by rw [T 73 (by decide)]; exact hlt)⟩
    · rw [HD 2 0 9 (by decide) (by decide) (by decide), l3]
      refine zbs_congr 4 (fun l hl => ?_)
      cases hF : mmf A b' j' l with
      | false => rfl
      | true => rw [if_pos (hFp l hl hF), zl _ l hl]
    · rw [H10, if_neg (by omega), c65' (by omega)]
      exact ⟨rfl, Int.le_refl _, Int.le_refl _⟩
    · by_cases h2 : A 65 (40 * k + p) = 102
      · rw [c65 h2]
        exact Int.natCast_nonneg _
      · rw [c65' h2]
        decide
    · by_cases h2 : A 65 (40 * k + p) = 102
      · rw [c65 h2]
        omega
      · rw [c65' h2]
        decide
    · rw [H10, if_pos (by omega), c65 hz]
end
