/-! LAUNCH AND COPY -/
section
variable {ρ : Type} {h : zH} {A B : zA} {K L n len a : Nat} {bc tc gc : Nat → Nat} {N M : Int} {S : Nat → Int}
variable {kt : Nat → zH → Option ρ} {kr : Int → zH → Option ρ} {r28 : Int → Int → Int → Int → Int → Int → zH → Option ρ}
theorem CL.new {A1 : zA} (x : CL A L) (h69 : A1 69 L = 113) (h72 : A1 70 L ≠ -1 → A1 79 L ≠ A1 72 L) (h76 : A1 76 L = -1) (hr : ∀ c, 69 ≤ c → c ≤ 79 → ∀ l, l < L → A1 c l = A c l) : CL A1 (L + 1) := by
  refine ⟨fun l hl z => ?_, fun l hl z => ?_, fun l hl z1 z2 => ?_, fun l hl z => ?_⟩
  · obtain ⟨z1, z2, z3, z4⟩ := z
    by_cases h : l < L
    · rw [hr 69 (by decide) (by decide) l h] at z1
      rw [hr 70 (by decide) (by decide) l h] at z2
      rw [hr 79 (by decide) (by decide) l h, hr 72 (by decide) (by decide) l h] at z3
      exact x.1 l h ⟨z1, z2, z3, fun k hk e => by rw [← hr 69 (by decide) (by decide) k hk]; exact z4 k (by omega) (by rw [hr 76 (by decide) (by decide) k hk]; exact e)⟩
    · have e : l = L := by omega
      rw [e, h69] at z1
      exact absurd z1 (by decide)
  · by_cases h : l < L
    · rw [hr 76 (by decide) (by decide) l h] at z ⊢
      obtain ⟨y1, y2⟩ := x.2.1 l h z
      rw [hr 70 (by decide) (by decide) _ (Nat.lt_trans y2 h)]
      exact ⟨y1, y2⟩
    · have e : l = L := by omega
      rw [e] at z
      exact absurd h76 z
  · by_cases h : l < L
    · rw [hr 69 (by decide) (by decide) l h] at z1
      rw [hr 70 (by decide) (by decide) l h] at z2
      rw [hr 79 (by decide) (by decide) l h, hr 72 (by decide) (by decide) l h]
      exact x.2.2.1 l h z1 z2
    · have e : l = L := by omega
      rw [e] at z2 ⊢
      exact h72 z2
  · by_cases h : l < L
    · rw [hr 76 (by decide) (by decide) l h] at z
      rw [hr 71 (by decide) (by decide) l h]
      exact x.2.2.2 l h z
    · have e : l = L := by omega
      rw [e] at z
      exact absurd h76 z
theorem rr_launch (q : RR A h K L bc tc gc n B N M) (hL : L < 12) {qu bl th aft : Int} {k : Nat} (hk : k < K) (hq : zwi qu 0 1 = true) (ha : (decide (aft = -1) || zwi aft 0 (A 12 13 - 1)) = true) (hb : zwi bl 1 6 = true) (ht : zwi th 1 16 = true) (hz : zbf (A 61 k) (A 62 k) th ≠ 0) : RR (mLaunch (a0 A) qu k bl th aft L) (hU h qu (zahead A qu L) aft k bl th) K (L + 1) bc tc gc n B N M := by
  obtain ⟨a1, a2, a3, a4⟩ := q.rl.at
  obtain ⟨-, ⟨b1, b2, -⟩, -⟩ := q.rd
  obtain ⟨tl1, tl2, tl3, tl4, tl5, -⟩ := q.rl.2.2.2.2.2 L (Nat.le_refl _) hL
  have rk1 := (RK.launch a3 q.rk hk (qu := qu) (bl := bl) (th := th) (aft := aft) (c := zahead A qu L))
  have rl1 := (RL.launch q.rs q.rk q.rl hL hk hq ha hb ht hz)
  rw [q.a0] at rk1 rl1 ⊢
  refine rr_nl q hL ⟨fun c j h1 h2 h3 => ?_, fun j h1 h2 => ?_, ?_, ?_⟩ ⟨fun c p j h9 h34 h35 h21 h1 h7 => ?_, fun c p j hc hp => ?_, fun j => ⟨?_, ?_⟩, ?_, fun c h9 h34 h35 => ?_, fun c h34 h35 h9 => ?_, rfl, rfl⟩ q.rs.launch q.rd.launch rk1 rl1 ?_
  · have m : ∀ x, 69 ≤ x → x ≤ 85 → ¬ (c = x ∧ j = L) := fun x hx hx2 z => by omega
    rw [mLaunch_k, if_neg (fun z => h2 z.1), if_neg (m 73 (by decide) (by decide)), if_neg (m 72 (by decide) (by decide)), mAdd_k, if_neg (fun z => h1 z.1), if_neg (m 75 (by decide) (by decide)), if_neg (m 76 (by decide) (by decide)), if_neg (m 74 (by decide) (by decide)), if_neg (m 70 (by decide) (by decide)), if_neg (m 71 (by decide) (by decide)), if_neg (m 69 (by decide) (by decide))]
  · simp [mLaunch_k, mAdd_k, h2]
  · simp [mLaunch_k, mAdd_k, tl4]
  · simp [mLaunch_k, mAdd_k, tl5]
  · unfold hU
    rw [zD_ne h9, zD_ne h9, zD_ne h7, zD_ne h9, hE_D h9 h34 h35 h21 h1]
  · unfold hU
    rcases hc with rfl | rfl | rfl
    · rw [a3, zD_np hp, zD_np hp, zD_ne (by decide), zD_np hp, hE_9p a3 hp]
    · rw [zD_ne (by decide), zD_ne (by decide), zD_ne (by decide), zD_ne (by decide)]
      unfold hE
      rw [zD_ne (by decide), zD_ne (by decide), hL0_D34p (by omega)]
    · rw [zD_ne (by decide), zD_ne (by decide), zD_ne (by decide), zD_ne (by decide)]
      unfold hE
      rw [zD_ne (by decide), zD_ne (by decide), hL0_D35p (by omega)]
  · unfold hU
    rw [zD_ne (by decide), zD_ne (by decide), zD_ne (by decide), zD_ne (by decide)]
    unfold hE
    rw [zD_ne (by decide), zD_ne (by decide), show L = zhN h 34 by omega, hL0_D34n]
  · unfold hU
    rw [zD_ne (by decide), zD_ne (by decide), zD_ne (by decide), zD_ne (by decide)]
    unfold hE
    rw [zD_ne (by decide), zD_ne (by decide), show L = zhN h 35 by omega, hL0_D35n]
  · unfold hU
    rw [a3, zD_nj (by decide), zD_nj (by decide), zD_ne (by decide), zD_nj (by decide), hE_9L a3]
    obtain ⟨-, -, -, -, -, -, -, -, -, f9⟩ := hL0_9 (h := h) (a := (zhN h 9 : Int)) (b := qu) (c := (zahead A qu L)) (d := aft) (e := -1)
    exact f9 18 (by decide) (by decide) (by decide) (by decide) (by decide)
  · unfold hU
    rw [zN_set, zN_set, zN_set, zN_set]
    exact hE_N h9 h34 h35
  · unfold hU
    rw [zL_set, zL_set, zL_set, zL_set]
    unfold hE
    rw [zL_set, zL_set]
    exact hL0_L h34 h35 h9
  · refine ⟨fun p hp h70 h69 => ?_, fun j hj => by have z := q.rc.2 j hj; have n13 : j ≠ 13 := (fun e => by rw [e] at hj; cases hj); simp [mLaunch_k, mAdd_k, z, n13]⟩
    by_cases hpL : p = L
    · subst hpL
      simp [mLaunch_k, mAdd_k] at h70
    · have m : ∀ x, 69 ≤ x → x ≤ 85 → mLaunch A qu k bl th aft L x p = A x p := fun x hx hx2 => by
        have : x ≠ 12 := by omega
        have : x ≠ 64 := by omega
        simp [mLaunch_k, mAdd_k, hpL, *]
      rw [m 70 (by decide) (by decide)] at h70
      rw [m 69 (by decide) (by decide)] at h69
      rw [m 82 (by decide) (by decide), m 83 (by decide) (by decide)]
      exact q.rc.1 p (by omega) h70 h69
theorem cl_launch (cl : CL A L) (q : RR A h K L bc tc gc n B N M) (hL : L < 12) {qu bl th aft : Int} {k : Nat} (hb : zwi bl 1 6 = true) : CL (mLaunch (a0 A) qu k bl th aft L) (L + 1) := by
  obtain ⟨tl1, tl2, tl3, tl4, tl5, -⟩ := q.rl.2.2.2.2.2 L (Nat.le_refl _) hL
  rw [q.a0]
  refine cl.new (by simp [mLaunch_k, mAdd_k]) ?_ (by simp [mLaunch_k, mAdd_k]) (fun c h1 h2 l hl => ?_)
  · have w := zwi_t hb
    simp [mLaunch_k, mAdd_k, tl5]
    omega
  · have n1 : c ≠ 12 := by omega
    have n2 : c ≠ 64 := by omega
    have n3 : l ≠ L := by omega
    simp [mLaunch_k, mAdd_k, n1, n2, n3]
theorem wl_nl {A1 : zA} (x : WL A) (q : RR A h K L bc tc gc n B N M) (h63 : A1 63 = A 63) (h89 : A1 89 = A 89) (h90 : A1 90 = A 90) (h93 : A1 93 = A 93) (h94 : A1 94 = A 94) (h95 : A1 95 = A 95) (h97 : A1 97 = A 97) (hl : ∀ l, l < L → A1 70 l = A 70 l ∧ A1 73 l = A 73 l) : WL A1 := by
  unfold WL
  rw [h63, h89, h90, h93, h94, h95, h97]
  intro u i b j k hu hi e94 e95 hk hlt hw hp
  obtain ⟨b9, j9, e1, e2, -, -, e5, -⟩ := (q.us u hu).2.1 i hi
  have eb : b9 = b := Int.ofNat.inj (e1.symm.trans e94)
  rw [eb] at e2 e5
  obtain ⟨y1, y2⟩ := hl (b / 6) (q.bi.2.1 b e2 e5).1
  rw [y2] at hlt ⊢
  rw [y1] at hp
  exact x u i b j k hu hi e94 e95 hk hlt hw hp
theorem cw_launch (cl : CW A L) (q : RR A h K L bc tc gc n B N M) (hL : L < 12) {qu bl th aft : Int} {k : Nat} (hb : zwi bl 1 6 = true) : CW (mLaunch (a0 A) qu k bl th aft L) (L + 1) := ⟨cl_launch cl.1 q hL hb, wl_nl cl.2 q (by rw [q.a0]; funext j9; simp [mLaunch_k, mAdd_k]) (by rw [q.a0]; funext j9; simp [mLaunch_k, mAdd_k]) (by rw [q.a0]; funext j9; simp [mLaunch_k, mAdd_k]) (by rw [q.a0]; funext j9; simp [mLaunch_k, mAdd_k]) (by rw [q.a0]; funext j9; simp [mLaunch_k, mAdd_k]) (by rw [q.a0]; funext j9; simp [mLaunch_k, mAdd_k]) (by rw [q.a0]; funext j9; simp [mLaunch_k, mAdd_k]) (fun l hl => by
  have n3 : l ≠ L := Nat.ne_of_lt hl
  rw [q.a0]
  exact ⟨by simp [mLaunch_k, mAdd_k, n3], by simp [mLaunch_k, mAdd_k, n3]⟩)⟩
theorem rr_copy (q : RR A h K L bc tc gc n B N M) (hL : L < 12) {qu fr to w aft : Int} (hq : zwi qu 0 1 = true) (ha : (decide (aft = -1) || zwi aft 0 (A 12 13 - 1)) = true) (hn : zwi w 1 64 = true) (hf : zwi fr 0 (64 - w) = true) (ht : zwi to 0 (64 - w) = true) : RR (mCopy (a0 A) qu fr to w aft L) (hC h qu (zahead A qu L) aft fr to w) K (L + 1) bc tc gc n B N M := by
  obtain ⟨a1, a2, a3, a4⟩ := q.rl.at
  obtain ⟨-, ⟨b1, b2, -⟩, -⟩ := q.rd
  obtain ⟨tl1, tl2, tl3, tl4, tl5, -⟩ := q.rl.2.2.2.2.2 L (Nat.le_refl _) hL
  have rk1 := (RK.copy a3 q.rk (qu := qu) (fr := fr) (to := to) (n := w) (aft := aft) (c := zahead A qu L))
  have rl1 := (RL.copy q.rs q.rk q.rl hL hq ha hn hf ht)
  rw [q.a0] at rk1 rl1 ⊢
  refine rr_nl q hL ⟨fun c j h1 h2 h3 => ?_, fun j h1 h2 => ?_, ?_, ?_⟩ ⟨fun c p j h9 h34 h35 h21 h1 h7 => ?_, fun c p j hc hp => ?_, fun j => ⟨?_, ?_⟩, ?_, fun c h9 h34 h35 => ?_, fun c h34 h35 h9 => ?_, rfl, rfl⟩ q.rs.copy q.rd.copy rk1 rl1 ?_
  · have m : ∀ x, 69 ≤ x → x ≤ 85 → ¬ (c = x ∧ j = L) := fun x hx hx2 z => by omega
    rw [mCopy_k, if_neg (m 82 (by decide) (by decide)), if_neg (m 81 (by decide) (by decide)), if_neg (m 80 (by decide) (by decide)), mAdd_k, if_neg (fun z => h1 z.1), if_neg (m 75 (by decide) (by decide)), if_neg (m 76 (by decide) (by decide)), if_neg (m 74 (by decide) (by decide)), if_neg (m 70 (by decide) (by decide)), if_neg (m 71 (by decide) (by decide)), if_neg (m 69 (by decide) (by decide))]
  · simp [mCopy_k, mAdd_k, h2]
  · simp [mCopy_k, mAdd_k, tl4]
  · simp [mCopy_k, mAdd_k, tl5]
  · unfold hC
    rw [zD_ne h9, zD_ne h9, zD_ne h9, hE_D h9 h34 h35 h21 h1]
  · unfold hC
    rcases hc with rfl | rfl | rfl
    · rw [a3, zD_np hp, zD_np hp, zD_np hp, hE_9p a3 hp]
    · rw [zD_ne (by decide), zD_ne (by decide), zD_ne (by decide)]
      unfold hE
      rw [zD_ne (by decide), zD_ne (by decide), hL0_D34p (by omega)]
    · rw [zD_ne (by decide), zD_ne (by decide), zD_ne (by decide)]
      unfold hE
      rw [zD_ne (by decide), zD_ne (by decide), hL0_D35p (by omega)]
  · unfold hC
    rw [zD_ne (by decide), zD_ne (by decide), zD_ne (by decide)]
    unfold hE
    rw [zD_ne (by decide), zD_ne (by decide), show L = zhN h 34 by omega, hL0_D34n]
  · unfold hC
    rw [zD_ne (by decide), zD_ne (by decide), zD_ne (by decide)]
    unfold hE
    rw [zD_ne (by decide), zD_ne (by decide), show L = zhN h 35 by omega, hL0_D35n]
  · unfold hC
    rw [a3, zD_nj (by decide), zD_nj (by decide), zD_nj (by decide), hE_9L a3]
    obtain ⟨-, -, -, -, -, -, -, -, -, f9⟩ := hL0_9 (h := h) (a := (zhN h 9 : Int)) (b := qu) (c := (zahead A qu L)) (d := aft) (e := -1)
    exact f9 18 (by decide) (by decide) (by decide) (by decide) (by decide)
  · unfold hC
    rw [zN_set, zN_set, zN_set]
    exact hE_N h9 h34 h35
  · unfold hC
    rw [zL_set, zL_set, zL_set]
    unfold hE
    rw [zL_set, zL_set]
    exact hL0_L h34 h35 h9
  · refine ⟨fun p hp h70 h69 => ?_, fun j hj => by have z := q.rc.2 j hj; have n13 : j ≠ 13 := (fun e => by rw [e] at hj; cases hj); simp [mCopy_k, mAdd_k, z, n13]⟩
    by_cases hpL : p = L
    · subst hpL
      have w1 := zwi_t hn
      obtain ⟨t1, t2, t3, t4, t5, t6⟩ := q.rl.2.2.2.2.2 p (Nat.le_refl _) hL
      simp [mCopy_k, mAdd_k]
      obtain ⟨-, -, -, t83⟩ := t6
      rw [t83]
      omega
    · have m : ∀ x, 69 ≤ x → x ≤ 85 → mCopy A qu fr to w aft L x p = A x p := fun x hx hx2 => by
        have : x ≠ 12 := by omega
        have : x ≠ 64 := by omega
        simp [mCopy_k, mAdd_k, hpL, *]
      rw [m 70 (by decide) (by decide)] at h70
      rw [m 69 (by decide) (by decide)] at h69
      rw [m 82 (by decide) (by decide), m 83 (by decide) (by decide)]
      exact q.rc.1 p (by omega) h70 h69
theorem cl_copy (cl : CL A L) (q : RR A h K L bc tc gc n B N M) (hL : L < 12) {qu fr to w aft : Int} : CL (mCopy (a0 A) qu fr to w aft L) (L + 1) := by
  obtain ⟨tl1, tl2, tl3, tl4, tl5, -⟩ := q.rl.2.2.2.2.2 L (Nat.le_refl _) hL
  rw [q.a0]
  refine cl.new (by simp [mCopy_k, mAdd_k]) ?_ (by simp [mCopy_k, mAdd_k]) (fun c h1 h2 l hl => ?_)
  · simp [mCopy_k, mAdd_k]
  · have n1 : c ≠ 12 := by omega
    have n2 : c ≠ 64 := by omega
    have n3 : l ≠ L := by omega
    simp [mCopy_k, mAdd_k, n1, n2, n3]
theorem cw_copy (cl : CW A L) (q : RR A h K L bc tc gc n B N M) (hL : L < 12) {qu fr to w aft : Int} : CW (mCopy (a0 A) qu fr to w aft L) (L + 1) := ⟨cl_copy cl.1 q hL, wl_nl cl.2 q (by rw [q.a0]; funext j9; simp [mCopy_k, mAdd_k]) (by rw [q.a0]; funext j9; simp [mCopy_k, mAdd_k]) (by rw [q.a0]; funext j9; simp [mCopy_k, mAdd_k]) (by rw [q.a0]; funext j9; simp [mCopy_k, mAdd_k]) (by rw [q.a0]; funext j9; simp [mCopy_k, mAdd_k]) (by rw [q.a0]; funext j9; simp [mCopy_k, mAdd_k]) (by rw [q.a0]; funext j9; simp [mCopy_k, mAdd_k]) (fun l hl => by
  have n3 : l ≠ L := Nat.ne_of_lt hl
  rw [q.a0]
  exact ⟨by simp [mCopy_k, mAdd_k, n3], by simp [mCopy_k, mAdd_k, n3]⟩)⟩
theorem op_launch (q : RR A h K L bc tc gc n B N M) (cl : CW A L) {qu k bl th aft : Int} : OP (ρ := ρ) A h B n N M (fun kt kr => X_launch 0 qu k bl th aft h kt kr) (fun g kr => M_launch qu k bl th aft g kr) (fun (e : Nat) (m : Int) => (e = 3 ∧ m = 1) ∨ (e = 1 ∧ m = 2) ∨ (e = 4 ∧ m = 3) ∨ (e = 2 ∧ m = 4)) kt := by
  have xl := fun kr : Int → zH → Option ρ => x_launch (kt := kt) (kr := kr) q.rs q.rk q.rl (qu := qu) (k := k) (bl := bl) (th := th) (aft := aft)
  have ml := fun (g : zH) (kr : Int → zH → Option ρ) => m_launch (h := g) (kr := kr) q.rk q.rl (qu := qu) (k := k) (bl := bl) (th := th) (aft := aft)
  obtain ⟨a1, a2, a3, a4⟩ := q.rl.at
  obtain ⟨r1, r2, r3, r4, r5⟩ := q.rk.at
  by_cases h1 : (zwi qu 0 1 && (decide (aft = -1) || zwi aft 0 (A 12 13 - 1)) && zwi k 0 (A 12 4 - 1)) = true
  · by_cases h2 : (zwi bl 1 6 && zwi th 1 16) = true
    · by_cases h3 : zbf (A 61 k.toNat) (A 62 k.toNat) th = 0
      · exact OP.no q cl (Or.inr (Or.inr (Or.inl ⟨rfl, rfl⟩))) (fun kr => (xl kr).trans (by rw [if_pos h1, if_pos h2, if_pos h3])) (fun g K2 L2 bc2 tc2 gc2 n2 B2 N2 M2 q2 kr => (ml g kr).trans (by rw [if_pos h1, if_pos h2, if_pos h3]))
      · by_cases h4 : A 12 13 = 12
        · exact OP.no q cl (Or.inr (Or.inr (Or.inr (⟨rfl, rfl⟩)))) (fun kr => (xl kr).trans (by rw [if_pos h1, if_pos h2, if_neg h3, if_pos h4])) (fun g K2 L2 bc2 tc2 gc2 n2 B2 N2 M2 q2 kr => (ml g kr).trans (by rw [if_pos h1, if_pos h2, if_neg h3, if_pos h4]))
        · obtain ⟨h5, h6⟩ := zand_t h1
          obtain ⟨h7, h8⟩ := zand_t h5
          obtain ⟨h9, h10⟩ := zand_t h2
          obtain ⟨y1, y2⟩ := zwi_t h6
          obtain ⟨k, rfl⟩ : ∃ k9 : Nat, k = (k9 : Int) := ⟨k.toNat, by omega⟩
          have hL : L < 12 := by omega
          have he : (if zwi aft 0 (A 12 13 - 1) = true then aft else -1) = aft := by
            by_cases hz : zwi aft 0 (A 12 13 - 1) = true
            · rw [if_pos hz]
            · rw [if_neg hz]
              rw [Bool.or_eq_true] at h8
              exact (of_decide_eq_true (h8.resolve_right hz)).symm
          rw [Int.toNat_natCast] at h3
          exact Or.inl ⟨_, _, K, L + 1, bc, tc, gc, (L : Int), fun kr => (xl kr).trans (by rw [Int.toNat_natCast, if_pos h1, if_pos h2, if_neg h3, if_neg h4, he]), fun g _ _ kr => (ml g kr).trans (by rw [Int.toNat_natCast, if_pos h1, if_pos h2, if_neg h3, if_neg h4]), (rr_launch q hL (by omega) h7 h8 h9 h10 h3).mono (by omega) (by omega) (by omega), cw_launch cl q hL h9⟩
    · exact OP.no q cl (Or.inr (Or.inl ⟨rfl, rfl⟩)) (fun kr => (xl kr).trans (by rw [if_pos h1, if_neg h2])) (fun g K2 L2 bc2 tc2 gc2 n2 B2 N2 M2 q2 kr => (ml g kr).trans (by rw [if_pos h1, if_neg h2]))
  · exact OP.no q cl (Or.inl ⟨rfl, rfl⟩) (fun kr => (xl kr).trans (by rw [if_neg h1])) (fun g K2 L2 bc2 tc2 gc2 n2 B2 N2 M2 q2 kr => (ml g kr).trans (by rw [if_neg h1]))
theorem op_copy (q : RR A h K L bc tc gc n B N M) (cl : CW A L) {qu fr to w aft : Int} : OP (ρ := ρ) A h B n N M (fun kt kr => X_copy 0 qu fr to w aft h kt kr) (fun g kr => M_copy qu fr to w aft g kr) (fun (e : Nat) (m : Int) => (e = 3 ∧ m = 1) ∨ (e = 1 ∧ m = 2) ∨ (e = 2 ∧ m = 3)) kt := by
  have xl := fun kr : Int → zH → Option ρ => x_copy (kt := kt) (kr := kr) q.rs q.rl (qu := qu) (fr := fr) (to := to) (n := w) (aft := aft)
  have ml := fun (g : zH) (kr : Int → zH → Option ρ) => m_copy (h := g) (kr := kr) q.rk q.rl (qu := qu) (fr := fr) (to := to) (n := w) (aft := aft)
  obtain ⟨a1, a2, a3, a4⟩ := q.rl.at
  by_cases h1 : (zwi qu 0 1 && (decide (aft = -1) || zwi aft 0 (A 12 13 - 1))) = true
  · by_cases h2 : (zwi w 1 64 && (zwi fr 0 (64 - w) && zwi to 0 (64 - w))) = true
    · by_cases h4 : A 12 13 = 12
      · exact OP.no q cl (Or.inr (Or.inr (⟨rfl, rfl⟩))) (fun kr => (xl kr).trans (by rw [if_pos h1, if_pos h2, if_pos h4])) (fun g K2 L2 bc2 tc2 gc2 n2 B2 N2 M2 q2 kr => (ml g kr).trans (by rw [if_pos h1, if_pos h2, if_pos h4]))
      · obtain ⟨h7, h8⟩ := zand_t h1
        obtain ⟨h9, h10⟩ := zand_t h2
        obtain ⟨h11, h12⟩ := zand_t h10
        have hL : L < 12 := by omega
        have he : (if zwi aft 0 (A 12 13 - 1) = true then aft else -1) = aft := by
          by_cases hz : zwi aft 0 (A 12 13 - 1) = true
          · rw [if_pos hz]
          · rw [if_neg hz]
            rw [Bool.or_eq_true] at h8
            exact (of_decide_eq_true (h8.resolve_right hz)).symm
        exact Or.inl ⟨_, _, K, L + 1, bc, tc, gc, (L : Int), fun kr => (xl kr).trans (by rw [if_pos h1, if_pos h2, if_neg h4, he]), fun g _ _ kr => (ml g kr).trans (by rw [if_pos h1, if_pos h2, if_neg h4]), (rr_copy q hL h7 h8 h9 h11 h12).mono (by omega) (by omega) (by omega), cw_copy cl q hL⟩
    · exact OP.no q cl (Or.inr (Or.inl ⟨rfl, rfl⟩)) (fun kr => (xl kr).trans (by rw [if_pos h1, if_neg h2])) (fun g K2 L2 bc2 tc2 gc2 n2 B2 N2 M2 q2 kr => (ml g kr).trans (by rw [if_pos h1, if_neg h2]))
  · exact OP.no q cl (Or.inl ⟨rfl, rfl⟩) (fun kr => (xl kr).trans (by rw [if_neg h1])) (fun g K2 L2 bc2 tc2 gc2 n2 B2 N2 M2 q2 kr => (ml g kr).trans (by rw [if_neg h1]))
theorem law_launch (v : LV S len h K L n N M) (ha : a + 5 < len) (hl : len ≤ 3072) (hSi : ∀ j, zir (S j)) : ∃ (h1 : zH) (K1 L1 : Nat), Lw_law_574 kr r28 ((0 : Nat) : Int) ((0 : Nat) : Int) ((0 : Nat) : Int) ((0 : Nat) : Int) ((0 : Nat) : Int) (a : Int) h = r28 ((0 : Nat) : Int) ((0 : Nat) : Int) ((0 : Nat) : Int) ((0 : Nat) : Int) ((0 : Nat) : Int) (wr ((a : Int) + 6)) h1 ∧ LV S len h1 K1 L1 (n + 18500) (N + 1000) (M + 13000) := by
  obtain ⟨A0, B0, bc0, tc0, gc0, m0, q, cl, hB, hS, hlen⟩ := id v
  obtain ⟨KF, hKF⟩ : ∃ KF : Int → zH → Option ρ, KF = (fun v11 h12 => zob h12 50 ((0 : Nat) : Int) fun p13 =>
    zix (zhL h12 50 p13) (wr ((a : Int) + 1)) fun j14 =>
    zob h12 50 ((0 : Nat) : Int) fun p15 =>
    zix (zhL h12 50 p15) (wr ((a : Int) + 2)) fun j16 =>
    zob h12 50 ((0 : Nat) : Int) fun p17 =>
    zix (zhL h12 50 p17) (wr ((a : Int) + 3)) fun j18 =>
    zob h12 50 ((0 : Nat) : Int) fun p19 =>
    zix (zhL h12 50 p19) (wr ((a : Int) + 4)) fun j20 =>
    zob h12 50 ((0 : Nat) : Int) fun p21 =>
    zix (zhL h12 50 p21) (wr ((a : Int) + 5)) fun j22 =>
    zob h12 12 ((0 : Nat) : Int) fun _ =>
    zmch h12 ((0 : Nat) : Int) (M_launch (zhD h12 50 p13 j14) (zhD h12 50 p15 j16) (zhD h12 50 p17 j18) (zhD h12 50 p19 j20) (zhD h12 50 p21 j22) h12  fun v23 h24 =>
    zob h24 12 ((0 : Nat) : Int) fun _ =>
    zmch h24 ((0 : Nat) : Int) (M_thrown h24  fun v25 h26 =>
    if v25 = v11 then (if v11 = 0 then (zob h26 51 ((0 : Nat) : Int) fun p27 =>
    zix (zhL h26 51 p27) 0 fun j28 =>
    if (zlcmp (zhD h26 51 p27 j28) v23) = 0 then Lw_law_675 kr r28 ((0 : Nat) : Int) ((0 : Nat) : Int) ((0 : Nat) : Int) ((0 : Nat) : Int) ((0 : Nat) : Int) (a : Int) h26
    else kr 0 h26)
    else Lw_law_675 kr r28 ((0 : Nat) : Int) ((0 : Nat) : Int) ((0 : Nat) : Int) ((0 : Nat) : Int) ((0 : Nat) : Int) (a : Int) h26)
    else kr 0 h26))) := ⟨_, rfl⟩
  have core := law_core (cod := fun (e : Nat) (m : Int) => (e = 3 ∧ m = 1) ∨ (e = 1 ∧ m = 2) ∨ (e = 4 ∧ m = 3) ∨ (e = 2 ∧ m = 4)) (X := fun kt kr => X_launch 0 (S (a + 1)) (S (a + 2)) (S (a + 3)) (S (a + 4)) (S (a + 5)) h kt kr) (Mo := fun g kr => M_launch (S (a + 1)) (S (a + 2)) (S (a + 3)) (S (a + 4)) (S (a + 5)) g kr) (kt := (fun n h6 => if n = 3 then KF 1 h6 else if n = 1 then KF 2 h6 else if n = 4 then KF 3 h6 else if n = 2 then KF 4 h6 else none)) (K1 := KF) (R := fun hh => Lw_law_675 kr r28 ((0 : Nat) : Int) ((0 : Nat) : Int) ((0 : Nat) : Int) ((0 : Nat) : Int) ((0 : Nat) : Int) (a : Int) hh) (bad := fun hh => kr 0 hh) v (fun A B bc tc gc q cl => op_launch q cl) (fun g A m kr h0 => by
    show M_launch (S (a + 1)) (S (a + 2)) (S (a + 3)) (S (a + 4)) (S (a + 5)) (mh g (au A 12 0 m)) kr = M_launch (S (a + 1)) (S (a + 2)) (S (a + 3)) (S (a + 4)) (S (a + 5)) (mh g A) kr
    unfold M_launch
    rw [mh_thr0 h0]) (fun e m hc => by
    rcases hc with ⟨rfl, rfl⟩ | ⟨rfl, rfl⟩ | ⟨rfl, rfl⟩ | ⟨rfl, rfl⟩
    · exact ⟨by decide, fun hh => rfl⟩
    · exact ⟨by decide, fun hh => rfl⟩
    · exact ⟨by decide, fun hh => rfl⟩
    · exact ⟨by decide, fun hh => rfl⟩) (fun v0 hX B1 qX sX lX => by
    rw [hKF]
    show (zob hX 50 ((0 : Nat) : Int) fun p13 =>
    zix (zhL hX 50 p13) (wr ((a : Int) + 1)) fun j14 =>
    zob hX 50 ((0 : Nat) : Int) fun p15 =>
    zix (zhL hX 50 p15) (wr ((a : Int) + 2)) fun j16 =>
    zob hX 50 ((0 : Nat) : Int) fun p17 =>
    zix (zhL hX 50 p17) (wr ((a : Int) + 3)) fun j18 =>
    zob hX 50 ((0 : Nat) : Int) fun p19 =>
    zix (zhL hX 50 p19) (wr ((a : Int) + 4)) fun j20 =>
    zob hX 50 ((0 : Nat) : Int) fun p21 =>
    zix (zhL hX 50 p21) (wr ((a : Int) + 5)) fun j22 =>
    zob hX 12 ((0 : Nat) : Int) fun _ =>
    zmch hX ((0 : Nat) : Int) (M_launch (zhD hX 50 p13 j14) (zhD hX 50 p15 j16) (zhD hX 50 p17 j18) (zhD hX 50 p19 j20) (zhD hX 50 p21 j22) hX  fun v23 h24 =>
    zob h24 12 ((0 : Nat) : Int) fun _ =>
    zmch h24 ((0 : Nat) : Int) (M_thrown h24  fun v25 h26 =>
    if v25 = v0 then (if v0 = 0 then (zob h26 51 ((0 : Nat) : Int) fun p27 =>
    zix (zhL h26 51 p27) 0 fun j28 =>
    if (zlcmp (zhD h26 51 p27 j28) v23) = 0 then Lw_law_675 kr r28 ((0 : Nat) : Int) ((0 : Nat) : Int) ((0 : Nat) : Int) ((0 : Nat) : Int) ((0 : Nat) : Int) (a : Int) h26
    else kr 0 h26)
    else Lw_law_675 kr r28 ((0 : Nat) : Int) ((0 : Nat) : Int) ((0 : Nat) : Int) ((0 : Nat) : Int) ((0 : Nat) : Int) (a : Int) h26)
    else kr 0 h26))) = _
    refine Eq.trans (z50 qX lX (i := 1) (by omega) hl) ?_
    refine Eq.trans (z50 qX lX (i := 2) (by omega) hl) ?_
    refine Eq.trans (z50 qX lX (i := 3) (by omega) hl) ?_
    refine Eq.trans (z50 qX lX (i := 4) (by omega) hl) ?_
    refine Eq.trans (z50 qX lX (i := 5) (by omega) hl) ?_
    refine Eq.trans (z12 qX) ?_
    rw [qX.1 50 (a + 1) rfl, sX, qX.1 50 (a + 2) rfl, sX, qX.1 50 (a + 3) rfl, sX, qX.1 50 (a + 4) rfl, sX, qX.1 50 (a + 5) rfl, sX])
  obtain ⟨h1, K1, L1, e, v1⟩ := core
  refine ⟨h1, K1, L1, ?_, v1⟩
  rw [hKF] at e
  unfold Lw_law_574
  refine Eq.trans (z50 q.rh hlen (i := 1) (by omega) hl) ?_
  refine Eq.trans (z50 q.rh hlen (i := 2) (by omega) hl) ?_
  refine Eq.trans (z50 q.rh hlen (i := 3) (by omega) hl) ?_
  refine Eq.trans (z50 q.rh hlen (i := 4) (by omega) hl) ?_
  refine Eq.trans (z50 q.rh hlen (i := 5) (by omega) hl) ?_
  unfold Lw_launch
  refine Eq.trans (zob_n (show 0 < zhN h 0 by rw [q.rs.N0]; decide)) ?_
  rw [q.rh.1 50 (a + 1) rfl, hS, q.rh.1 50 (a + 2) rfl, hS, q.rh.1 50 (a + 3) rfl, hS, q.rh.1 50 (a + 4) rfl, hS, q.rh.1 50 (a + 5) rfl, hS]
  exact e
theorem law_copy (v : LV S len h K L n N M) (ha : a + 5 < len) (hl : len ≤ 3072) (hSi : ∀ j, zir (S j)) : ∃ (h1 : zH) (K1 L1 : Nat), Lw_law_678 kr r28 ((0 : Nat) : Int) ((0 : Nat) : Int) ((0 : Nat) : Int) ((0 : Nat) : Int) ((0 : Nat) : Int) (a : Int) h = r28 ((0 : Nat) : Int) ((0 : Nat) : Int) ((0 : Nat) : Int) ((0 : Nat) : Int) ((0 : Nat) : Int) (wr ((a : Int) + 6)) h1 ∧ LV S len h1 K1 L1 (n + 18500) (N + 1000) (M + 13000) := by
  obtain ⟨A0, B0, bc0, tc0, gc0, m0, q, cl, hB, hS, hlen⟩ := id v
  obtain ⟨KF, hKF⟩ : ∃ KF : Int → zH → Option ρ, KF = (fun v11 h12 => zob h12 50 ((0 : Nat) : Int) fun p13 =>
    zix (zhL h12 50 p13) (wr ((a : Int) + 1)) fun j14 =>
    zob h12 50 ((0 : Nat) : Int) fun p15 =>
    zix (zhL h12 50 p15) (wr ((a : Int) + 2)) fun j16 =>
    zob h12 50 ((0 : Nat) : Int) fun p17 =>
    zix (zhL h12 50 p17) (wr ((a : Int) + 3)) fun j18 =>
    zob h12 50 ((0 : Nat) : Int) fun p19 =>
    zix (zhL h12 50 p19) (wr ((a : Int) + 4)) fun j20 =>
    zob h12 50 ((0 : Nat) : Int) fun p21 =>
    zix (zhL h12 50 p21) (wr ((a : Int) + 5)) fun j22 =>
    zob h12 12 ((0 : Nat) : Int) fun _ =>
    zmch h12 ((0 : Nat) : Int) (M_copy (zhD h12 50 p13 j14) (zhD h12 50 p15 j16) (zhD h12 50 p17 j18) (zhD h12 50 p19 j20) (zhD h12 50 p21 j22) h12  fun v23 h24 =>
    zob h24 12 ((0 : Nat) : Int) fun _ =>
    zmch h24 ((0 : Nat) : Int) (M_thrown h24  fun v25 h26 =>
    if v25 = v11 then (if v11 = 0 then (zob h26 51 ((0 : Nat) : Int) fun p27 =>
    zix (zhL h26 51 p27) 0 fun j28 =>
    if (zlcmp (zhD h26 51 p27 j28) v23) = 0 then Lw_law_779 kr r28 ((0 : Nat) : Int) ((0 : Nat) : Int) ((0 : Nat) : Int) ((0 : Nat) : Int) ((0 : Nat) : Int) (a : Int) h26
    else kr 0 h26)
    else Lw_law_779 kr r28 ((0 : Nat) : Int) ((0 : Nat) : Int) ((0 : Nat) : Int) ((0 : Nat) : Int) ((0 : Nat) : Int) (a : Int) h26)
    else kr 0 h26))) := ⟨_, rfl⟩
  have core := law_core (cod := fun (e : Nat) (m : Int) => (e = 3 ∧ m = 1) ∨ (e = 1 ∧ m = 2) ∨ (e = 2 ∧ m = 3)) (X := fun kt kr => X_copy 0 (S (a + 1)) (S (a + 2)) (S (a + 3)) (S (a + 4)) (S (a + 5)) h kt kr) (Mo := fun g kr => M_copy (S (a + 1)) (S (a + 2)) (S (a + 3)) (S (a + 4)) (S (a + 5)) g kr) (kt := (fun n h6 => if n = 3 then KF 1 h6 else if n = 1 then KF 2 h6 else if n = 2 then KF 3 h6 else none)) (K1 := KF) (R := fun hh => Lw_law_779 kr r28 ((0 : Nat) : Int) ((0 : Nat) : Int) ((0 : Nat) : Int) ((0 : Nat) : Int) ((0 : Nat) : Int) (a : Int) hh) (bad := fun hh => kr 0 hh) v (fun A B bc tc gc q cl => op_copy q cl) (fun g A m kr h0 => by
    show M_copy (S (a + 1)) (S (a + 2)) (S (a + 3)) (S (a + 4)) (S (a + 5)) (mh g (au A 12 0 m)) kr = M_copy (S (a + 1)) (S (a + 2)) (S (a + 3)) (S (a + 4)) (S (a + 5)) (mh g A) kr
    unfold M_copy
    rw [mh_thr0 h0]) (fun e m hc => by
    rcases hc with ⟨rfl, rfl⟩ | ⟨rfl, rfl⟩ | ⟨rfl, rfl⟩
    · exact ⟨by decide, fun hh => rfl⟩
    · exact ⟨by decide, fun hh => rfl⟩
    · exact ⟨by decide, fun hh => rfl⟩) (fun v0 hX B1 qX sX lX => by
    rw [hKF]
    show (zob hX 50 ((0 : Nat) : Int) fun p13 =>
    zix (zhL hX 50 p13) (wr ((a : Int) + 1)) fun j14 =>
    zob hX 50 ((0 : Nat) : Int) fun p15 =>
    zix (zhL hX 50 p15) (wr ((a : Int) + 2)) fun j16 =>
    zob hX 50 ((0 : Nat) : Int) fun p17 =>
    zix (zhL hX 50 p17) (wr ((a : Int) + 3)) fun j18 =>
    zob hX 50 ((0 : Nat) : Int) fun p19 =>
    zix (zhL hX 50 p19) (wr ((a : Int) + 4)) fun j20 =>
    zob hX 50 ((0 : Nat) : Int) fun p21 =>
    zix (zhL hX 50 p21) (wr ((a : Int) + 5)) fun j22 =>
    zob hX 12 ((0 : Nat) : Int) fun _ =>
    zmch hX ((0 : Nat) : Int) (M_copy (zhD hX 50 p13 j14) (zhD hX 50 p15 j16) (zhD hX 50 p17 j18) (zhD hX 50 p19 j20) (zhD hX 50 p21 j22) hX  fun v23 h24 =>
    zob h24 12 ((0 : Nat) : Int) fun _ =>
    zmch h24 ((0 : Nat) : Int) (M_thrown h24  fun v25 h26 =>
    if v25 = v0 then (if v0 = 0 then (zob h26 51 ((0 : Nat) : Int) fun p27 =>
    zix (zhL h26 51 p27) 0 fun j28 =>
    if (zlcmp (zhD h26 51 p27 j28) v23) = 0 then Lw_law_779 kr r28 ((0 : Nat) : Int) ((0 : Nat) : Int) ((0 : Nat) : Int) ((0 : Nat) : Int) ((0 : Nat) : Int) (a : Int) h26
    else kr 0 h26)
    else Lw_law_779 kr r28 ((0 : Nat) : Int) ((0 : Nat) : Int) ((0 : Nat) : Int) ((0 : Nat) : Int) ((0 : Nat) : Int) (a : Int) h26)
    else kr 0 h26))) = _
    refine Eq.trans (z50 qX lX (i := 1) (by omega) hl) ?_
    refine Eq.trans (z50 qX lX (i := 2) (by omega) hl) ?_
    refine Eq.trans (z50 qX lX (i := 3) (by omega) hl) ?_
    refine Eq.trans (z50 qX lX (i := 4) (by omega) hl) ?_
    refine Eq.trans (z50 qX lX (i := 5) (by omega) hl) ?_
    refine Eq.trans (z12 qX) ?_
    rw [qX.1 50 (a + 1) rfl, sX, qX.1 50 (a + 2) rfl, sX, qX.1 50 (a + 3) rfl, sX, qX.1 50 (a + 4) rfl, sX, qX.1 50 (a + 5) rfl, sX])
  obtain ⟨h1, K1, L1, e, v1⟩ := core
  refine ⟨h1, K1, L1, ?_, v1⟩
  rw [hKF] at e
  unfold Lw_law_678
  refine Eq.trans (z50 q.rh hlen (i := 1) (by omega) hl) ?_
  refine Eq.trans (z50 q.rh hlen (i := 2) (by omega) hl) ?_
  refine Eq.trans (z50 q.rh hlen (i := 3) (by omega) hl) ?_
  refine Eq.trans (z50 q.rh hlen (i := 4) (by omega) hl) ?_
  refine Eq.trans (z50 q.rh hlen (i := 5) (by omega) hl) ?_
  unfold Lw_copy
  refine Eq.trans (zob_n (show 0 < zhN h 0 by rw [q.rs.N0]; decide)) ?_
  rw [q.rh.1 50 (a + 1) rfl, hS, q.rh.1 50 (a + 2) rfl, hS, q.rh.1 50 (a + 3) rfl, hS, q.rh.1 50 (a + 4) rfl, hS, q.rh.1 50 (a + 5) rfl, hS]
  exact e
end
