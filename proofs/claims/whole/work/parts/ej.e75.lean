/-! A UNIT ACTS -/
section
variable {ρ : Type} {h h' g : zH} {A A' B : zA} {kr : Int → zH → Option ρ} {K L n n' : Nat} {bc tc gc : Nat → Nat} {N M : Int} {s : Nat → Int} {u m : Nat}
theorem x_writeFirst0' {G : Nat} {a1 : Int} (hG : G < zhN h 11) (h0 : zhD h 11 G 5 = 0) : Gr_writeFirst (G : Int) a1 h kr = kr 0 h := by
  unfold Gr_writeFirst
  rw [zob_n hG, if_pos h0]
theorem cg_place (q : RR A h K L bc tc gc n B N M) {i : Nat} (hu : u < 2) (hi : (i : Int) < A 93 u) (hc : cg A u i = true) : ∃ b j p : Nat, A 94 (4 * u + i) = (b : Int) ∧ A 95 (4 * u + i) = (j : Int) ∧ zlm (mpl A b j) 4 = (p : Int) ∧ zhD h 26 u i = (gc (4 * b + j) : Int) := by
  obtain ⟨b, j, e94, e95, hb, hin, h88, hj, e26, mg⟩ := q.slot hu hi
  obtain ⟨gw, g1, -, mp⟩ := q.grp hb hin hj
  unfold cg at hc
  rw [e94, e95, Int.toNat_natCast, Int.toNat_natCast] at hc
  have h1 := (of_decide_eq_true hc).1
  rcases zlm_or (p := mpl A b j) 4 with z | ⟨k, k4, z⟩
  · exact absurd z h1
  · have h2 : 0 ≤ mpl A b j k := by
      have h3 : mpl A b j k ≠ -1 := by rw [← z]; exact h1
      unfold mpl at h3 ⊢
      by_cases c1 : ((4 * j + k : Nat) : Int) < A 73 (b / 6) ∧ k < 4
      · rw [if_pos c1] at h3 ⊢
        by_cases c2 : A 89 (16 * b + (4 * j + k)) = 114
        · rw [if_pos c2]
          exact (mp k k4 c1.1 c2).1
        · rw [if_neg c2] at h3
          exact absurd rfl h3
      · rw [if_neg c1] at h3
        exact absurd rfl h3
    exact ⟨b, j, (mpl A b j k).toNat, e94, e95, by rw [z]; omega, e26⟩
theorem choose_both (q : RR A h K L bc tc gc n B N M) (hu : u < 2) (g : zH) :
    ((∀ kr : Int → zH → Option ρ, Un_choose (u : Int) (zhD h 2 0 5) (zhD h 2 0 4) h kr = kr (-1) h) ∧ (∀ kr : Int → zH → Option ρ, M_choose (u : Int) (mh g A) kr = kr (-1) (mh g A))) ∨
    (∃ i b j p : Nat, (i : Int) < A 93 u ∧ A 94 (4 * u + i) = (b : Int) ∧ A 95 (4 * u + i) = (j : Int) ∧ zlm (mpl A b j) 4 = (p : Int) ∧ (∀ kr : Int → zH → Option ρ, Un_choose (u : Int) (zhD h 2 0 5) (zhD h 2 0 4) h kr = kr (gc (4 * b + j) : Int) (zset h 3 u 3 (gc (4 * b + j) : Int))) ∧ (∀ kr : Int → zH → Option ρ, M_choose (u : Int) (mh g A) kr = kr (i : Int) (mh g A))) := by
  obtain ⟨u0, u4, -⟩ := q.un hu
  obtain ⟨m, h93⟩ : ∃ m : Nat, A 93 u = (m : Int) := ⟨(A 93 u).toNat, by omega⟩
  rw [h93] at u4
  obtain ⟨st, s4, y1, y2, y3⟩ := start_both (ρ := ρ) q hu h93 g
  have eo : zhD h 2 0 5 = A 12 2 := q.rm.2.2.1
  have o := q.uo hu
  rw [h93, Int.toNat_natCast] at o
  obtain ⟨o1, o2, o3, o4, o5, o6, -⟩ := o
  have fm : m < zN := by show m < 5000; omega
  rw [eo]
  by_cases h121 : A 12 2 = 121
  · have st0 : st = 0 := y3 (by rw [h121]; decide)
    subst st0
    have X : ∀ kr : Int → zH → Option ρ, _ := fun kr => x_ch_loop (kr := kr) q hu h93 (od := A 12 2) (st := ((0 : Nat) : Int)) (ix := fun k => m - 1 - k) (fun k hk => by omega) (fun k hk r => by
      have hkm : (k : Int) < (m : Int) := by omega
      have w : wr (wr ((m : Int) - 1) - (k : Int)) = ((m - 1 - k : Nat) : Int) := by
        rw [wr_id (x := (m : Int) - 1) (by omega) (by omega), wr_id (by omega) (by omega)]
        omega
      unfold Un_choose_20b
      rw [zob_n o1, o5, if_pos hkm, if_pos h121, zob_n o1, o5, w]) zN 0 m (Nat.zero_add m) fm
    have Y : ∀ kr : Int → zH → Option ρ, _ := fun kr => m_chy_loop (kr := kr) (g := g) q hu h93 h121 zN 0 m (Nat.zero_add m) fm
    rw [zfi_la m 0 (Nat.zero_add m)] at X
    rcases zla_r (f := cg A u) m with z | ⟨i, i1, i2, i3⟩
    · left
      refine ⟨fun kr => ?_, fun kr => ?_⟩
      · rw [y1, X, if_pos z]
      · rw [y2]
        exact (Y kr).trans (by rw [z])
    · right
      obtain ⟨b, j, p, e1, e2, e3, e4⟩ := cg_place q hu (by rw [h93]; omega) i3
      refine ⟨i, b, j, p, by rw [h93]; omega, e1, e2, e3, fun kr => ?_, fun kr => ?_⟩
      · rw [y1, X, i2, if_neg (by omega), Int.toNat_natCast, e4]
      · rw [y2]
        exact (Y kr).trans (by rw [i2])
  · have X : ∀ kr : Int → zH → Option ρ, _ := fun kr => x_ch_loop (kr := kr) q hu h93 (od := A 12 2) (st := (st : Int)) (ix := fun k => (st + k) % m) (fun k hk => Nat.mod_lt _ (by omega)) (fun k hk r => by
      have hkm : (k : Int) < (m : Int) := by omega
      have hm0 : ¬ (m : Int) = 0 := by omega
      have s9 : st + k < 1000 := by omega
      unfold Un_choose_20b
      rw [zob_n o1, o5, if_pos hkm, if_neg h121, zob_n o1, o5, if_neg hm0, wr_md s9]) zN 0 m (Nat.zero_add m) fm
    have Y : ∀ kr : Int → zH → Option ρ, _ := fun kr => m_ch_loop (kr := kr) (g := g) q hu h93 h121 s4 zN 0 m (Nat.zero_add m) fm
    rcases zfi_r (f := cg A u) (ix := fun k => (st + k) % m) m 0 with z | ⟨k, k1, k2, i2, i3⟩
    · left
      refine ⟨fun kr => ?_, fun kr => ?_⟩
      · rw [y1, X, if_pos z]
      · rw [y2, Y, z]
    · right
      have hx : (st + k) % m < m := Nat.mod_lt _ (by omega)
      obtain ⟨b, j, p, e1, e2, e3, e4⟩ := cg_place q hu (i := (st + k) % m) (by rw [h93]; omega) i3
      refine ⟨(st + k) % m, b, j, p, by rw [h93]; omega, e1, e2, e3, fun kr => ?_, fun kr => ?_⟩
      · rw [y1, X, i2, if_neg (by omega), Int.toNat_natCast, e4]
      · rw [y2, Y, i2]
theorem unit_both (q : RR A h K L bc tc gc n B N M) (cl : CW A L) (bn : n ≤ 9999800) (hu : u < 2) (g : zH) :
    ∃ (h' : zH) (A' : zA) (L' : Nat), (∀ kk : zH → Option ρ, Un_choose (u : Int) (zhD h 2 0 5) (zhD h 2 0 4) h (fun v9 h10 => if v9 < 0 then kk h10 else zob h10 2 0 fun p11 => zob h10 23 (zhD h10 2 p11 2) fun p12 => zix (zhL h10 23 p12) (u : Int) fun j13 => zob h10 2 0 fun _ => Co_carryOut 0 (zhD h10 23 p12 j13) v9 h10 fun v14 h15 => if v14 = 0 then kk h15 else zob h15 11 v9 fun p16 => zob h15 2 0 fun _ => Co_settle 0 (zhD h15 11 p16 0) h15 fun _ h18 => kk h18) = kk h') ∧ (∀ kk : zH → Option ρ, M_choose (u : Int) (mh g A) (fun v1 h2 => if v1 = -1 then kk h2 else M_carryOut (u : Int) v1 h2 fun _ h4 => M_finish h4 fun _ h6 => kk h6) = kk (mh g A')) ∧ RR A' h' K L' bc tc gc (n + 18) B N M ∧ CW A' L' ∧ L ≤ L' := by
  rcases choose_both (ρ := ρ) q hu g with ⟨y1, y2⟩ | ⟨i, b, j, p, hi, e94, e95, hp, y1, y2⟩
  · exact ⟨h, A, L, fun kk => by rw [y1, if_pos (by decide)], fun kk => by rw [y2, if_pos rfl], q.le (by omega), cl, Nat.le_refl _⟩
  · have q2 := rr_lb q hu hi e94 e95
    obtain ⟨h', A', L', z1, z2, z3, z4, z5⟩ := carry_both (ρ := ρ) q2 cl bn hu hi e94 e95 hp g
    refine ⟨h', A', L', fun kk => ?_, fun kk => ?_, z3, z4, z5⟩
    · have ng : ¬ ((gc (4 * b + j) : Nat) : Int) < 0 := by omega
      have d23 : zhD (zset h 3 u 3 (gc (4 * b + j) : Int)) 23 0 u = (u : Int) := by
        rcases (show u = 0 ∨ u = 1 by omega) with rfl | rfl
        · exact q2.rs.D23_0_0
        · exact q2.rs.D23_0_1
      rw [y1, if_neg ng, zob_0 q2.rs.N2, q2.rs.D2_0_2, zob_0 q2.rs.N23, q2.rs.L23_0, zix_n hu, zob_0 q2.rs.N2, d23]
      exact z1 kk
    · rw [y2, if_neg (by omega)]
      exact z2 kk
/-- buffers write their first -/
theorem wf_loop (hu : u < 2) (g : zH) : ∀ (f k n2 : Nat) (h : zH) (A : zA), k + n2 = m → n2 < f → RR A h K L bc tc gc n B N M → A 93 u = (m : Int) → ∃ (h' : zH) (A' : zA), (∀ (kr : Int → zH → Option ρ) (r2 : Int → Int → zH → Option ρ), zit (fun _ _ _ _ => none) (Co_writeFirstOfBuffers_9b kr r2) f 0 (u : Int) (k : Int) h = r2 0 ((u + 1 : Nat) : Int) h') ∧ (∀ (kr : Int → zH → Option ρ) (r2 : Int → Int → zH → Option ρ) (x : Int), zit (fun _ _ _ _ => none) (M_comeOne_230b kr r2) f x (u : Int) (k : Int) (mh g A) = r2 x ((u + 1 : Nat) : Int) (mh g A')) ∧ RR A' h' K L bc tc gc n B N M ∧ (∀ c, c ≠ 60 → c ≠ 97 → c ≠ 98 → c ≠ 99 → A' c = A c) ∧ (∀ y, A 97 y = 0 → A' 97 y = 0)
  | 0, _, _, _, _, _, hf, _, _ => absurd hf (Nat.not_lt_zero _)
  | f + 1, k, 0, h, A, hk, _, q, h93 => by
    have o := q.uo hu
    rw [h93, Int.toNat_natCast] at o
    obtain ⟨o1, o2, o3, o4, o5, o6, -⟩ := o
    have d23 : zhD h 23 0 u = (u : Int) := by
      rcases (show u = 0 ∨ u = 1 by omega) with rfl | rfl
      · exact q.rs.D23_0_0
      · exact q.rs.D23_0_1
    have : k = m := by omega
    subst this
    have u9 : u < 100000 := by omega
    refine ⟨h, A, fun kr r2 => ?_, fun kr r2 x => ?_, q, fun _ _ _ _ _ => rfl, fun _ hy => hy⟩
    · rw [zit_s]
      unfold Co_writeFirstOfBuffers_9b
      rw [zob_0 q.rs.N2, q.rs.D2_0_2, zob_0 q.rs.N23, q.rs.L23_0, zix_n hu, d23, zob_n o1, o5, if_neg (Int.lt_irrefl _), wr_s u9]
    · rw [zit_s]
      unfold M_comeOne_230b
      rw [zix_n hu, mD93, h93, if_neg (Int.lt_irrefl _), wr_s u9]
  | f + 1, k, n2 + 1, h, A, hk, hf, q, h93 => by
    have o := q.uo hu
    rw [h93, Int.toNat_natCast] at o
    obtain ⟨o1, o2, o3, o4, o5, o6, -⟩ := o
    have d23 : zhD h 23 0 u = (u : Int) := by
      rcases (show u = 0 ∨ u = 1 by omega) with rfl | rfl
      · exact q.rs.D23_0_0
      · exact q.rs.D23_0_1
    have hkm : (k : Int) < (m : Int) := by omega
    have k4 : k < 4 := by omega
    have k9 : k < 100000 := by omega
    have y8 : 4 * u + k < 8 := by omega
    have hik : (k : Int) < A 93 u := by rw [h93]; exact hkm
    obtain ⟨b, j, e94, e95, hb, hin, h88, hj, e26, mg⟩ := q.slot hu hik
    obtain ⟨gw, -⟩ := q.grp hb hin hj
    obtain ⟨d1, d5, d6, d7, d8⟩ := q.ug u k hu hik b j e94 e95
    by_cases h0 : 0 < A 97 (4 * u + k)
    · have q2 := rr_wf q hu hik e94 e95 h0
      obtain ⟨h', A', z1, z2, z3, z4, z5⟩ := wf_loop hu g f (k + 1) n2 _ _ (by omega) (by omega) q2 (by rw [mWF_c (by decide) (by decide) (by decide) (by decide)]; exact h93)
      obtain ⟨p1, -, p3, p4⟩ := d8 0 h0
      refine ⟨h', A', fun kr r2 => ?_, fun kr r2 x => ?_, z3, fun c c1 c2 c3 c4 => (z4 c c1 c2 c3 c4).trans (mWF_c c1 c2 c3 c4), fun y hy => z5 y (by
        rw [mWF_97]
        split
        · rename_i e9
          rw [e9] at hy
          omega
        · exact hy)⟩
      · rw [zit_s, ← z1 kr r2]
        generalize zit (fun _ _ _ _ => none) (Co_writeFirstOfBuffers_9b kr r2) f = r9
        unfold Co_writeFirstOfBuffers_9b
        rw [zob_0 q.rs.N2, q.rs.D2_0_2, zob_0 q.rs.N23, q.rs.L23_0, zix_n hu, d23, zob_n o1, o5, if_pos hkm, zob_0 q.rs.N2, q.rs.D2_0_2, zob_0 q.rs.N23, q.rs.L23_0, zix_n hu, d23, zob_n o1, o2, zob_n o3, o4, zix_n k4, zob_0 q.rs.N2, e26, zob_n gw.1, q.rs.D2_0_1, x_writeFirst q.rs q.rd gw.1 (by rw [d5]; exact h0) (by rw [d5]; exact d7) (by rw [p1]; exact ⟨p3, p4⟩), wr_s k9]
      · rw [zit_s, ← z2 kr r2 x]
        generalize zit (fun _ _ _ _ => none) (M_comeOne_230b kr r2) f = r9
        unfold M_comeOne_230b M_comeOne_262
        rw [zix_n hu, mD93, h93, if_pos hkm, wr_ut y8, zix_n y8, mD97, if_pos h0, m_writeFirst y8 h0 d7 ⟨p3, p4⟩, wr_s k9]
    · obtain ⟨h', A', z1, z2, z3⟩ := wf_loop hu g f (k + 1) n2 h A (by omega) (by omega) q h93
      refine ⟨h', A', fun kr r2 => ?_, fun kr r2 x => ?_, z3⟩
      · rw [zit_s, ← z1 kr r2]
        generalize zit (fun _ _ _ _ => none) (Co_writeFirstOfBuffers_9b kr r2) f = r9
        unfold Co_writeFirstOfBuffers_9b
        rw [zob_0 q.rs.N2, q.rs.D2_0_2, zob_0 q.rs.N23, q.rs.L23_0, zix_n hu, d23, zob_n o1, o5, if_pos hkm, zob_0 q.rs.N2, q.rs.D2_0_2, zob_0 q.rs.N23, q.rs.L23_0, zix_n hu, d23, zob_n o1, o2, zob_n o3, o4, zix_n k4, zob_0 q.rs.N2, e26, zob_n gw.1, x_writeFirst0' gw.1 (by rw [d5]; omega), wr_s k9]
      · rw [zit_s, ← z2 kr r2 x]
        generalize zit (fun _ _ _ _ => none) (M_comeOne_230b kr r2) f = r9
        unfold M_comeOne_230b M_comeOne_262
        rw [zix_n hu, mD93, h93, if_pos hkm, wr_ut y8, zix_n y8, mD97, if_neg h0, wr_s k9]
end
