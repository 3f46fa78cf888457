/-! THE END OF A CYCLE -/
section
variable {ρ : Type} {h h' g : zH} {A A' B : zA} {kr : Int → zH → Option ρ} {K L n n' : Nat} {bc tc gc : Nat → Nat} {N M : Int} {s : Nat → Int} {u m : Nat}
theorem rr_cyc (q : RR A h K L bc tc gc n B N M) : RR (au A 12 1 (A 12 1 + 1)) (zset h 2 0 4 (A 12 1 + 1)) K L bc tc gc (n + 1) B N M := by
  have fa : ∀ f : Nat → Nat → Bool, f 12 1 = false → ∀ c j, f c j = true → au A 12 1 (A 12 1 + 1) c j = A c j := fun f hk => fr_au hk
  have fd : ∀ f : Nat → Nat → Bool, f 2 4 = false → ∀ c p j, f c j = true → zhD (zset h 2 0 4 (A 12 1 + 1)) c p j = zhD h c p j := fun f hk => fr_zs hk
  have e : ∀ c, c ≠ 12 → au A 12 1 (A 12 1 + 1) c = A c := fun c hc => au_ne hc
  obtain ⟨m1, m2, m3, m4, m5, m6, m7, m8, m9, m10, m11, m12⟩ := q.rm
  have bd := q.bd
  have n12 : ∀ j, j ≠ 1 → au A 12 1 (A 12 1 + 1) 12 j = A 12 j := fun j hj => by rw [au_j, if_neg hj]
  refine ⟨q.rs.fr (fd rsf rfl) rfl rfl, q.rd.fr (fd rdf rfl) rfl rfl, q.rk.fr (fa RKa rfl) (fd RKd rfl) rfl, q.rl.fr (fa RLa rfl) (fd RLd rfl) rfl, ?_, q.rc.fr (fa RCa rfl), q.bi.fr (fa BIa rfl), q.bh.fr (fa BHa rfl) (fd BHd rfl) rfl rfl, q.th.fr (fa THa rfl) (fd THd rfl) rfl rfl, q.td.fr (fa TDa rfl) (fd TDd rfl) rfl rfl, q.gh.fr (fa GHa rfl) (fd GHd rfl) rfl rfl, q.sh.fr (fa SHa rfl) (fd SHd rfl) rfl rfl, q.us.fr (fa USa rfl) (fd USd rfl) rfl rfl, ?_, q.ul.fr (fa ULa rfl) (fd ULd rfl) rfl rfl, q.su.fr (fa SUa rfl), q.ta.fr (fa TAa rfl), q.tb.fr (fa TBa rfl) (fd TBd rfl) rfl rfl, q.tl.fr (fa TLa rfl) (fd TLd rfl) rfl rfl, ?_, q.rh.fr (fd RHd rfl) rfl rfl, q.iv.fr (fa IVa rfl), q.rn.fr (fa RNa rfl) rfl rfl⟩
  · refine ⟨fun j hj => ?_, ?_, ?_, ?_, ?_, ?_, ?_, ?_, ?_, ?_, ?_, ?_⟩
    · rw [zD_ne (by decide), e 60 (by decide)]
      exact m1 j hj
    · rw [zD_eq, au_same]
    · rw [zD_nj (by decide), n12 2 (by decide)]
      exact m3
    · rw [n12 2 (by decide)]
      exact m4
    · rw [zD_ne (by decide), n12 55 (by decide)]
      exact m5
    · rw [zD_ne (by decide), n12 54 (by decide)]
      exact m6
    · rw [zD_ne (by decide), n12 57 (by decide)]
      exact m7
    · rw [zD_ne (by decide), n12 56 (by decide)]
      exact m8
    · rw [zD_ne (by decide), n12 58 (by decide)]
      exact m9
    · rw [zD_ne (by decide), n12 59 (by decide)]
      exact m10
    · rw [zD_ne (by decide), n12 60 (by decide)]
      exact m11
    · rw [zD_ne (by decide), n12 61 (by decide)]
      exact m12
  · intro u i hu hi b j x94 x95
    rw [e 93 (by decide)] at hi
    rw [e 94 (by decide)] at x94
    rw [e 95 (by decide)] at x95
    obtain ⟨d1, d2⟩ := q.ug u i hu hi b j x94 x95
    rw [zD_ne (show 11 ≠ 2 by decide), zD_ne (show 43 ≠ 2 by decide), zD_ne (show 44 ≠ 2 by decide), e 96 (by decide), e 97 (by decide), e 98 (by decide), e 99 (by decide), au_same]
    refine ⟨?_, d2⟩
    rcases d1 with z | ⟨z1, z2⟩
    · exact Or.inl z
    · exact Or.inr ⟨by omega, by omega⟩
  · refine ⟨fun j hj => ?_, fun b hb => ?_⟩
    · have y1 := bd.1 1 (by decide)
      have y2 := bd.1 j hj
      rw [au_j]
      split
      · omega
      · omega
    · rw [e 86 (by decide)]
      have := bd.2 b hb
      omega
theorem wf_both (q : RR A h K L bc tc gc n B N M) (hu : u < 2) (g : zH) : ∃ (h' : zH) (A' : zA), (∀ (kr : Int → zH → Option ρ) (r2 : Int → Int → zH → Option ρ), Co_writeFirstOfBuffers_2b kr r2 0 (u : Int) h = r2 0 ((u + 1 : Nat) : Int) h') ∧ (∀ (kr : Int → zH → Option ρ) (r2 : Int → Int → zH → Option ρ) (x : Int), M_comeOne_230 kr r2 x (u : Int) 0 (mh g A) = r2 x ((u + 1 : Nat) : Int) (mh g A')) ∧ RR A' h' K L bc tc gc n B N M ∧ (∀ c, c ≠ 60 → c ≠ 97 → c ≠ 98 → c ≠ 99 → A' c = A c) ∧ (∀ y, A 97 y = 0 → A' 97 y = 0) := by
  obtain ⟨u0, u4, -⟩ := q.un hu
  obtain ⟨m, h93⟩ : ∃ m : Nat, A 93 u = (m : Int) := ⟨(A 93 u).toNat, by omega⟩
  rw [h93] at u4
  have fm : m < zN := by show m < 5000; omega
  obtain ⟨h', A', z1, z2, z3, z4, z5⟩ := wf_loop (ρ := ρ) hu g zN 0 m h A (Nat.zero_add m) fm q h93
  have lt : (u : Int) < 2 := by omega
  refine ⟨h', A', fun kr r2 => ?_, fun kr r2 x => z2 kr r2 x, z3, z4, z5⟩
  unfold Co_writeFirstOfBuffers_2b
  rw [if_pos lt]
  exact z1 kr r2
/-- buffers write, the cycle passes -/
theorem cyc_end (q : RR A h K L bc tc gc n B N M) (cl : CW A L) (bn : n ≤ 9999900) (g : zH) : ∃ (h' : zH) (A' : zA), (∀ (kr : Int → zH → Option ρ) (r17 : Int → Int → zH → Option ρ), Co_letCycleCome_17b kr r17 0 2 h = kr 0 h') ∧ (∀ (kr : Int → zH → Option ρ) (x : Int), M_comeOne_213 kr x 0 (mh g A) = kr (wr (A' 12 55 - x)) (mh g A')) ∧ RR A' h' K L bc tc gc (n + 1) B N M ∧ CW A' L ∧ A' 12 55 = A 12 55 ∧ zhD h' 4 0 0 = A' 12 55 := by
  have ecy : zhD h 2 0 4 = A 12 1 := q.rm.2.1
  have un2 : ∀ (kr : Int → zH → Option ρ) (x : Int) (hh : zH), M_comeOne_213 kr x 0 hh = M_comeOne_213b kr (M_comeOne_213b kr (M_comeOne_213b kr (zit (fun _ _ _ => none) (M_comeOne_213b kr) 4997))) x ((0 : Nat) : Int) hh := fun kr x hh => rfl
  have un1 : ∀ (kr : Int → zH → Option ρ) (hh : zH), Co_writeFirstOfBuffers 0 hh kr = Co_writeFirstOfBuffers_2b kr (Co_writeFirstOfBuffers_2b kr (Co_writeFirstOfBuffers_2b kr (zit (fun _ _ _ => none) (Co_writeFirstOfBuffers_2b kr) 4997))) 0 ((0 : Nat) : Int) hh := fun kr hh => rfl
  have b1 := q.bd.1 1 (by decide)
  by_cases h3 : Int.tmod (A 12 1) 3 = 2
  · obtain ⟨h1, A1, y1, y2, q1, V1, Z1⟩ := wf_both (ρ := ρ) (u := 0) q (by decide) g
    obtain ⟨h2, A2, z1, z2, q2, V2, Z2⟩ := wf_both (ρ := ρ) (u := 1) q1 (by decide) g
    have V : ∀ c, c ≠ 60 → c ≠ 97 → c ≠ 98 → c ≠ 99 → A2 c = A c := fun c c1 c2 c3 c4 => (V2 c c1 c2 c3 c4).trans (V1 c c1 c2 c3 c4)
    have q3 := rr_cyc q2
    have e12 : A2 12 = A 12 := V 12 (by decide) (by decide) (by decide) (by decide)
    rw [e12] at q3
    have e55 : au A2 12 1 (A 12 1 + 1) 12 55 = A 12 55 := by rw [au_j, if_neg (by decide), e12]
    have w1 : wr (A 12 1 + 1) = A 12 1 + 1 := wr_id (by omega) (by omega)
    have e24 : zhD h2 2 0 4 = A 12 1 := by rw [← e12]; exact q2.rm.2.1
    refine ⟨_, _, fun kr r17 => ?_, fun kr x => ?_, q3, ⟨cl.1.mv ⟨Nat.le_refl _, fun l y1 y2 => absurd (Nat.lt_of_le_of_lt y1 y2) (Nat.lt_irrefl _)⟩ (fun c2 hc l _ => by rw [au_ne (by clear w1; omega), V c2 (by clear w1; omega) (by clear w1; omega) (by clear w1; omega) (by clear w1; omega)]), cl.2.lo (by rw [au_ne (by decide), V 63 (by decide) (by decide) (by decide) (by decide)]) (by rw [au_ne (by decide), V 70 (by decide) (by decide) (by decide) (by decide)]) (by rw [au_ne (by decide), V 73 (by decide) (by decide) (by decide) (by decide)]) (by rw [au_ne (by decide), V 89 (by decide) (by decide) (by decide) (by decide)]) (by rw [au_ne (by decide), V 90 (by decide) (by decide) (by decide) (by decide)]) (by rw [au_ne (by decide), V 93 (by decide) (by decide) (by decide) (by decide)]) (by rw [au_ne (by decide), V 94 (by decide) (by decide) (by decide) (by decide)]) (by rw [au_ne (by decide), V 95 (by decide) (by decide) (by decide) (by decide)]) (fun y hy => by rw [au_ne (by decide)]; exact Z2 y (Z1 y hy))⟩, e55, q3.rm.2.2.2.2.1⟩
    · unfold Co_letCycleCome_17b Co_letCycleCome_86
      rw [if_neg (by decide), zob_0 q.rs.N2, ecy, if_pos h3, zob_0 q.rs.N2, un1, y1, z1]
      have fin : ∀ (kr : Int → zH → Option ρ) (r : Int → Int → zH → Option ρ), Co_writeFirstOfBuffers_2b kr r 0 ((1 + 1 : Nat) : Int) h2 = kr 0 h2 := fun kr r => by
        unfold Co_writeFirstOfBuffers_2b
        rw [if_neg (by decide)]
      rw [fin, zob_0 q2.rs.N2, zob_0 q2.rs.N2, e24, w1, zlet_d]
    · have s0 : ∀ r : Int → Int → zH → Option ρ, M_comeOne_213b kr r x ((0 : Nat) : Int) (mh g A) = r x ((0 + 1 : Nat) : Int) (mh g A1) := fun r => by
        unfold M_comeOne_213b
        rw [if_pos (by decide), mD12, if_pos h3]
        exact y2 kr r x
      have s1 : ∀ r : Int → Int → zH → Option ρ, M_comeOne_213b kr r x ((0 + 1 : Nat) : Int) (mh g A1) = r x ((1 + 1 : Nat) : Int) (mh g A2) := fun r => by
        unfold M_comeOne_213b
        rw [if_pos (by decide), mD12, V1 12 (by decide) (by decide) (by decide) (by decide), if_pos h3]
        exact z2 kr r x
      rw [un2, s0, s1]
      unfold M_comeOne_213b M_comeOne_274
      rw [if_neg (by decide), mD12, e12, w1, mS12, zlet_d, mD12]
  · have q3 := rr_cyc q
    have e55 : au A 12 1 (A 12 1 + 1) 12 55 = A 12 55 := by rw [au_j, if_neg (by decide)]
    have w1 : wr (A 12 1 + 1) = A 12 1 + 1 := wr_id (by omega) (by omega)
    refine ⟨_, _, fun kr r17 => ?_, fun kr x => ?_, q3, ⟨cl.1.mv ⟨Nat.le_refl _, fun l y1 y2 => absurd (Nat.lt_of_le_of_lt y1 y2) (Nat.lt_irrefl _)⟩ (fun c2 hc l _ => by rw [au_ne (by clear w1; omega)]), cl.2.fr (au_ne (by decide)) (au_ne (by decide)) (au_ne (by decide)) (au_ne (by decide)) (au_ne (by decide)) (au_ne (by decide)) (au_ne (by decide)) (au_ne (by decide)) (au_ne (by decide))⟩, e55, q3.rm.2.2.2.2.1⟩
    · unfold Co_letCycleCome_17b Co_letCycleCome_86
      rw [if_neg (by decide), zob_0 q.rs.N2, ecy, if_neg h3, zob_0 q.rs.N2, zob_0 q.rs.N2, ecy, w1, zlet_d]
    · rw [un2]
      unfold M_comeOne_213b M_comeOne_274
      rw [if_pos (by decide), mD12, if_neg h3, w1, mS12, zlet_d, mD12]
/-- both units act, the cycle passes -/
theorem units_end (q : RR A h K L bc tc gc n B N M) (cl : CW A L) (bn : n ≤ 9999700) (g : zH) : ∃ (h' : zH) (A' : zA) (L' : Nat), (∀ kr : Int → zH → Option ρ, Co_letCycleCome_17 kr 0 0 h = kr 0 h') ∧ (∀ (kr : Int → zH → Option ρ) (x : Int), M_comeOne_179 kr x 0 (mh g A) = kr (wr (A' 12 55 - x)) (mh g A')) ∧ RR A' h' K L' bc tc gc (n + 37) B N M ∧ CW A' L' ∧ L ≤ L' ∧ zhD h' 4 0 0 = A' 12 55 := by
  have un1 : ∀ (kr : Int → zH → Option ρ) (hh : zH), Co_letCycleCome_17 kr 0 0 hh = Co_letCycleCome_17b kr (Co_letCycleCome_17b kr (Co_letCycleCome_17b kr (zit (fun _ _ _ => none) (Co_letCycleCome_17b kr) 4997))) 0 ((0 : Nat) : Int) hh := fun kr hh => rfl
  have un2 : ∀ (kr : Int → zH → Option ρ) (x : Int) (hh : zH), M_comeOne_179 kr x 0 hh = M_comeOne_179b kr (M_comeOne_179b kr (M_comeOne_179b kr (zit (fun _ _ _ => none) (M_comeOne_179b kr) 4997))) x ((0 : Nat) : Int) hh := fun kr x hh => rfl
  have X : ∀ {A : zA} {h : zH} {L n u : Nat}, RR A h K L bc tc gc n B N M → CW A L → n ≤ 9999800 → u < 2 → ∃ (h' : zH) (A' : zA) (L' : Nat), (∀ (kr : Int → zH → Option ρ) (r : Int → Int → zH → Option ρ), Co_letCycleCome_17b kr r 0 (u : Int) h = r 0 ((u + 1 : Nat) : Int) h') ∧ (∀ (kr : Int → zH → Option ρ) (r : Int → Int → zH → Option ρ) (x : Int), M_comeOne_179b kr r x (u : Int) (mh g A) = r x ((u + 1 : Nat) : Int) (mh g A')) ∧ RR A' h' K L' bc tc gc (n + 18) B N M ∧ CW A' L' ∧ L ≤ L' := fun {A h L n u} q cl bn hu => by
    obtain ⟨h', A', L', y1, y2, y3, y4, y5⟩ := unit_both (ρ := ρ) q cl bn hu g
    have lt : (u : Int) < 2 := by omega
    have u9 : u < 100000 := by omega
    have d23 : zhD h 23 0 u = (u : Int) := by
      rcases (show u = 0 ∨ u = 1 by omega) with rfl | rfl
      · exact q.rs.D23_0_0
      · exact q.rs.D23_0_1
    have n3 : u < zhN h 3 := by rw [q.rs.N3]; exact hu
    refine ⟨h', A', L', fun kr r => ?_, fun kr r x => ?_, y3, y4, y5⟩
    · unfold Co_letCycleCome_17b Co_letCycleCome_66
      rw [if_pos lt, zob_0 q.rs.N2, q.rs.D2_0_2, zob_0 q.rs.N23, q.rs.L23_0, zix_n hu, zob_0 q.rs.N2, zob_0 q.rs.N2, d23, zob_n n3, wr_s u9]
      exact y1 (fun hh => r 0 ((u + 1 : Nat) : Int) hh)
    · unfold M_comeOne_179b M_comeOne_205
      rw [if_pos lt, wr_s u9]
      exact y2 (fun hh => r x ((u + 1 : Nat) : Int) hh)
  obtain ⟨h1, A1, L1, y1, y2, q1, cl1, l1⟩ := X q cl (by omega) (show 0 < 2 by decide)
  obtain ⟨h2, A2, L2, z1, z2, q2, cl2, l2⟩ := X q1 cl1 (by omega) (show 1 < 2 by decide)
  obtain ⟨h3, A3, w1, w2, q3, cl3, e55, e4⟩ := cyc_end (ρ := ρ) q2 cl2 (by omega) g
  refine ⟨h3, A3, L2, fun kr => ?_, fun kr x => ?_, q3, cl3, Nat.le_trans l1 l2, e4⟩
  · rw [un1, y1, z1]
    exact w1 kr _
  · rw [un2, y2, z2]
    have fin : ∀ r : Int → Int → zH → Option ρ, M_comeOne_179b kr r x ((1 + 1 : Nat) : Int) (mh g A2) = M_comeOne_213 kr x 0 (mh g A2) := fun r => by
      unfold M_comeOne_179b
      rw [if_neg (by decide)]
    rw [fin, w2]
end
