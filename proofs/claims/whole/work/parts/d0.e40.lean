/-! CHILDREN -/
def zchok (A : zA) (K L l : Nat) (k th : Int) : Bool := zwi k 0 ((K : Int) - 1) && zwi th 1 16 && decide (L < 12) && decide (A 77 l < 2) && decide (zbf (A 61 k.toNat) (A 62 k.toNat) th ≠ 0)
def hCh (h : zH) (l k th : Int) : zH := zset (zset (zset (zset (hE h (-1) (-1) (-1) l) 9 (zhN h 9) 5 k) 7 k.toNat 4 1) 9 (zhN h 9) 6 1) 9 (zhN h 9) 7 th
def mCh (A : zA) (l L : Nat) (k th : Int) : zA := au (au (au (au (au (mAdd A (-1) k (-1) L) 72 L 1) 73 L th) 76 L (l : Int)) 77 L (A 77 l + 1)) 64 k.toNat 1
theorem zbf_0 {r s t : Int} (h1 : 1 ≤ t) (h2 : t ≤ 16) (h3 : 1 ≤ r) (h4 : r ≤ 8) (h5 : 0 ≤ s) : 0 ≤ zbf r s t := by
  have hm := zmulb h1 h2 h3 h4
  have hg := zgroups h1 h2
  have d1 := ztd_b (a := 4) (b := Int.tdiv (t + 3) 4) (by omega) (by omega)
  have d2 := ztd_b (a := 64) (b := t * r) (by omega) (by omega)
  have d3 := ztd_b (a := 32) (b := s) (by omega) (by omega)
  unfold zbf
  simp only
  split <;> split <;> (try split) <;> omega
section
variable {ρ : Type} {h : zH} {A B : zA} {kr : Int → zH → Option ρ} {kt : Nat → zH → Option ρ} {K L n : Nat} {bc tc gc : Nat → Nat} {N M : Int}
theorem x_dep_loop (r : RL A h K L) : ∀ (n d rem : Nat) (a : Int), rem < n → d + rem ≤ 4 → -1 ≤ a → a < (L : Int) → (if a = -1 then 0 else A 77 a.toNat + 1) = (rem : Int) → zit (fun _ _ _ => none) (La_depth_7b kr) n (d : Int) a h = kr ((d + rem : Nat) : Int) h
  | 0, d, rem, a, hn, _, _, _, _ => absurd hn (Nat.not_lt_zero _)
  | n + 1, d, rem, a, hn, h4, ha, haL, hv => by
    rw [zit_s]
    obtain ⟨a1, a2, a3, a4⟩ := r.at
    by_cases hz : a = -1
    · rw [if_pos hz] at hv
      have : rem = 0 := by omega
      subst this
      generalize zit (fun _ _ _ => none) (La_depth_7b kr) n = r2
      unfold La_depth_7b La_depth_28
      rw [if_pos (by omega)]
      rfl
    · rw [if_neg hz] at hv
      obtain ⟨m, rfl⟩ : ∃ m : Nat, a = (m : Int) := ⟨a.toNat, by omega⟩
      rw [Int.toNat_natCast] at hv
      have hm : m < L := by omega
      obtain ⟨-, -, -, -, -, ⟨f1, f2, f3⟩, -, -, -, -, -, -, -, ⟨g1, g2, g3, g4⟩⟩ := r.l hm
      have hrem : rem ≠ 0 := by omega
      obtain ⟨rem2, rfl⟩ : ∃ r2, rem = r2 + 1 := ⟨rem - 1, by omega⟩
      have ih := x_dep_loop r n (d + 1) rem2 (A 76 m) (by omega) (by omega) f2 (by omega) (by
        by_cases hp : A 76 m = -1
        · rw [if_pos hp]
          have := g3 hp
          omega
        · rw [if_neg hp]
          have := g4 hp
          omega)
      have e1 : wr ((d : Int) + 1) = ((d + 1 : Nat) : Int) := by rw [wr_id (by omega) (by omega)]; omega
      generalize zit (fun _ _ _ => none) (La_depth_7b kr) n = r2 at ih ⊢
      unfold La_depth_7b
      rw [if_neg (by clear e1; omega), if_pos (by clear e1; omega), zob_n (show m < zhN h 9 by clear e1; omega), e1, f1]
      rw [ih]
      exact congrArg (fun z : Nat => kr (z : Int) h) (by clear e1; omega)
theorem x_depth (r : RL A h K L) {l : Nat} (hl : l < L) : La_depth (l : Int) h kr = kr (A 77 l) h := by
  obtain ⟨a1, a2, a3, a4⟩ := r.at
  obtain ⟨-, -, -, -, -, ⟨f1, f2, f3⟩, -, -, -, -, -, -, -, ⟨g1, g2, g3, g4⟩⟩ := r.l hl
  unfold La_depth
  rw [zob_n (show l < zhN h 9 by omega), f1]
  have hl2 := x_dep_loop (kr := kr) r zN 0 (A 77 l).toNat (A 76 l) (by show _ < 5000; omega) (by omega) f2 (by omega) (by
    by_cases hp : A 76 l = -1
    · rw [if_pos hp]
      have := g3 hp
      omega
    · rw [if_neg hp]
      have := g4 hp
      omega)
  refine Eq.trans hl2 ?_
  exact congrArg (fun z => kr z h) (by omega)
theorem x_launchChild (q : RS h) (rk : RK A h K) (r : RL A h K L) {l : Nat} {k th : Int} (hl : l < L) : Le_launchChild 0 (l : Int) k th h kr = if zchok A K L l k th = true then kr 1 (hCh h (l : Int) k th) else kr 0 h := by
  obtain ⟨a1, a2, a3, a4⟩ := r.at
  obtain ⟨r1, r2, r3, r4, r5⟩ := rk.at
  unfold Le_launchChild Le_launchChild_38 zchok
  rw [zob_0 q.N1, x_kernelOf q r1 r2 r3]
  cases hk : zwi k 0 ((K : Int) - 1) with
  | false => simp
  | true =>
    obtain ⟨h1, h2⟩ := zwi_t hk
    obtain ⟨n, rfl⟩ : ∃ n : Nat, k = (n : Int) := ⟨k.toNat, by omega⟩
    have hn : n < K := by omega
    have hn7 : n < zhN h 7 := by omega
    obtain ⟨-, c1, c2, c3, c4, -, -, -, c5, c6, -⟩ := rk.2.2.2.2.1 n hn
    rw [if_pos rfl, if_neg (by omega), zob_n hn7, x_blocksInUnit hn7 c5 c6 c1 c2 c3 c4, Bool.true_and, Int.toNat_natCast]
    cases ht : zwi th 1 16 with
    | false => simp
    | true =>
      rw [if_pos rfl, Bool.true_and]
      by_cases hz : zbf (A 61 n) (A 62 n) th = 0
      · simp [hz]
      · rw [if_neg hz, zob_0 q.N1, a4, decide_eq_true hz, Bool.and_true]
        by_cases hL : L < 12
        · rw [if_pos (by omega), decide_eq_true hL, Bool.true_and, zob_n (show l < zhN h 9 by omega), x_depth r hl]
          by_cases hd : A 77 l < 2
          · have n1 : zhN (znew h 9 0 (znf zPP 9) (fun k => zdef (zft zPP 9 k))) 1 = 1 := (zN_newne (by decide)).trans q.N1
            rw [if_pos hd, decide_eq_true hd, if_pos rfl, zlet_d, zob_0 n1, zob_new1, zD_newne (by decide), a4, ← a3, x_laInit]
            have e1 : zhN (hL0 h (zhN h 9 : Int) (-1) (-1) (-1) (l : Int)) 1 = 1 := q.N1
            rw [zob_0 e1, x_enter q r hL]
            have n9 : zhN h 9 < zhN (hE h (-1) (-1) (-1) (l : Int)) 9 := by rw [hE_N9]; exact Nat.lt_succ_self _
            have n7 : n < zhN (hE h (-1) (-1) (-1) (l : Int)) 7 := hn7
            unfold La_useKernel hCh
            generalize hE h (-1) (-1) (-1) (l : Int) = g9 at n9 n7 ⊢
            simp only [zob_n n9, zob_set, zlet_d, zD_eq, zob_n n7, Int.toNat_natCast]
          · rw [if_neg hd, decide_eq_false hd]
            rfl
        · rw [if_neg (by omega), decide_eq_false hL]
          rfl
theorem m_launchChild (rk : RK A h K) (r : RL A h K L) {g : zH} {l : Nat} {k th : Int} (hl : l < L) (h61 : 0 ≤ A 12 61 ∧ A 12 61 ≤ 1000000000) : M_launchChild (l : Int) k th (mh g A) kr = if zchok A K L l k th = true then kr 1 (mh g (mCh A l L k th)) else kr 0 (mh g (au A 12 61 (A 12 61 + 1))) := by
  obtain ⟨a1, a2, a3, a4⟩ := r.at
  obtain ⟨r1, r2, r3, r4, r5⟩ := rk.at
  obtain ⟨-, -, -, -, -, -, -, -, -, -, -, -, -, ⟨g1, g2, g3, g4⟩⟩ := r.l hl
  have no : M_launchChild_62 kr (l : Int) k th (mh g A) = kr 0 (mh g (au A 12 61 (A 12 61 + 1))) := by
    unfold M_launchChild_62 M_launchChild_63
    rw [if_pos rfl, mD12, wr_id (by omega) (by omega), mS12, zlet_d]
  have no2 : M_launchChild_41 kr (l : Int) k th (mh g A) = kr 0 (mh g (au A 12 61 (A 12 61 + 1))) := by
    unfold M_launchChild_41 M_launchChild_42
    rw [if_pos rfl, no]
  unfold M_launchChild zchok
  rw [m_noKernel (by omega), r5]
  cases hk : zwi k 0 ((K : Int) - 1) with
  | false => simp [tb_t, no2]
  | true =>
    obtain ⟨h1, h2⟩ := zwi_t hk
    obtain ⟨n, rfl⟩ : ∃ n : Nat, k = (n : Int) := ⟨k.toNat, by omega⟩
    have hn : n < K := by omega
    obtain ⟨-, c1, c2, c3, c4, -⟩ := rk.2.2.2.2.1 n hn
    rw [Bool.not_true, tb_f, if_pos rfl, m_in, Bool.true_and, Int.toNat_natCast]
    cases ht : zwi th 1 16 with
    | false => simp [tb_f, no2]
    | true =>
      obtain ⟨h3, h4⟩ := zwi_t ht
      rw [tb_t, if_neg (by decide), Bool.true_and, mD12, a1]
      by_cases hL : L < 12
      · rw [if_pos (by omega), decide_eq_true hL, Bool.true_and, zix_n (show l < 12 by omega), mD77]
        by_cases hd : A 77 l < 2
        · rw [if_pos hd, decide_eq_true hd, Bool.true_and]
          unfold M_launchChild_42
          rw [if_neg (by decide), m_fit (by omega) h3 h4 c1 c2 c3 c4]
          have hb := zbf_0 (s := A 62 n) h3 h4 c1 c2 c3
          by_cases hz : zbf (A 61 n) (A 62 n) th = 0
          · rw [if_neg (by omega), no]
            simp [hz]
          · rw [if_pos (by omega), decide_eq_true hz, if_pos rfl]
            unfold M_launchChild_63 mCh
            rw [if_neg (by decide), m_add hL a1]
            have x77 : ∀ z1 z2 z3, au (au (au (mAdd A (-1) (n : Int) (-1) L) 72 L z1) 73 L z2) 76 L z3 77 l = A 77 l := fun z1 z2 z3 => by
              rw [au_ne (by decide), au_ne (by decide), au_ne (by decide), mAdd_l (by decide) (by omega)]
            have w1 : wr (A 77 l + 1) = A 77 l + 1 := wr_id (by omega) (by omega)
            simp only [zix_n hL, zix_n (show l < 12 by clear w1; omega), mS72, mS73, mS76, mS77, mS64, zlet_d, mD77, x77, w1, zix_n (show n < 4 by clear w1; omega), Int.toNat_natCast]
        · rw [if_neg hd, decide_eq_false hd, no2]
          simp
      · rw [if_neg (by omega), decide_eq_false hL, no2]
        simp
/-! kept -/
theorem mCh_k {k th : Int} {l c j : Nat} : mCh A l L k th c j = if c = 64 ∧ j = k.toNat then 1 else if c = 77 ∧ j = L then A 77 l + 1 else if c = 76 ∧ j = L then (l : Int) else if c = 73 ∧ j = L then th else if c = 72 ∧ j = L then 1 else mAdd A (-1) k (-1) L c j := rfl
theorem rl_ch (q : RS h) (rk : RK A h K) (r : RL A h K L) (hL : L < 12) {l n : Nat} {th : Int} (hn : n < K) (hl : l < L) (ht : zwi th 1 16 = true) (hd : A 77 l < 2) (hz : zbf (A 61 n) (A 62 n) th ≠ 0) : RL (mCh A l L n th) (hCh h l n th) K (L + 1) := by
  obtain ⟨a1, a2, a3, a4⟩ := r.at
  have tl := r.2.2.2.2.2 L (Nat.le_refl _) hL
  have hth := zwi_t ht
  obtain ⟨-, -, -, -, -, -, -, -, -, -, -, -, -, ⟨p1, p2, p3, p4⟩⟩ := r.l hl
  obtain ⟨f0, f1, f2, f3, f4, f5, -, -, -, f9⟩ := hL0_9 (h := h) (a := (zhN h 9 : Int)) (b := -1) (c := -1) (d := -1) (e := (l : Int))
  rw [a3] at f0 f1 f2 f3 f4 f5 f9
  have g9 : ∀ j, zhD (hCh h l n th) 9 L j = if j = 7 then th else if j = 6 then 1 else if j = 5 then (n : Int) else zhD (hL0 h (L : Int) (-1) (-1) (-1) (l : Int)) 9 L j := fun j => by
    unfold hCh
    rw [a3]
    simp only [zD_set, hE_9L a3, true_and]
    rw [a3]
    simp
  have g9p : ∀ p, p ≠ L → zhD (hCh h l n th) 9 p = zhD h 9 p := fun p hp => by
    unfold hCh
    rw [a3, zD_np hp, zD_np hp, zD_ne (by decide), zD_np hp, hE_9p a3 hp]
  have g21 : ∀ p, zhD (hCh h l n th) 21 0 p = if p = L then (L : Int) else zhD h 21 0 p := fun p => by
    unfold hCh
    rw [zD_ne (by decide), zD_ne (by decide), zD_ne (by decide), zD_ne (by decide), hE_21, a3]
  have g1 : zhD (hCh h l n th) 1 0 3 = (L : Int) + 1 := by
    unfold hCh
    rw [zD_ne (by decide), zD_ne (by decide), zD_ne (by decide), zD_ne (by decide), hE_1.1, a3]
  have gN : zhN (hCh h l n th) 9 = L + 1 := by
    unfold hCh
    rw [zN_set, zN_set, zN_set, zN_set, hE_N9, a3]
  generalize hCh h l n th = h' at g9 g9p g21 g1 gN ⊢
  have hah : zahead A (-1) L = -1 := by
    have e : zahd A (-1) L = -1 := if_pos rfl
    unfold zahead
    rw [e, if_neg (fun z => z.1 rfl)]
  refine RL.new q r hL (by simp [mCh_k, mAdd_k]) gN g1 (fun p hp => by rw [g21, if_neg (by omega)]) (fun p hp => g9p p (by omega)) (fun c p h1 h2 hp => ?_) (fun k hk => ?_) ?_
  · have : c ≠ 12 := by omega
    have : c ≠ 64 := by omega
    simp [mCh_k, mAdd_k, hp, *]
  · refine ⟨by simp [mCh_k, mAdd_k], by simp [mCh_k, mAdd_k], fun z => ?_⟩
    simp [mCh_k, mAdd_k, z]
  · have hlL : l ≠ L := by omega
    unfold RLn
    rw [g21, if_pos rfl]
    simp only [g9]
    simp [mCh_k, mAdd_k, hah, f0, f1, f2, f3, f4, f5, a3, f9, tl, zst, hlL]
    have hnK : (n : Int) < (K : Int) := by omega
    omega
theorem rk_ch (a3 : zhN h 9 = L) (rk : RK A h K) {l n : Nat} {th : Int} (hn : n < K) : RK (mCh A l L n th) (hCh h l n th) K := by
  have e : ∀ c, 61 ≤ c → c ≤ 68 → mCh A l L n th c = au A 64 n 1 c := fun c h1 h2 => by
    funext j
    have h3 : ∀ x, (x < 61 ∨ 68 < x) → c ≠ x := fun x hx => by omega
    rw [mCh_k, mAdd_k, Int.toNat_natCast]
    show _ = if c = 64 ∧ j = n then 1 else A c j
    by_cases hz : c = 64 ∧ j = n
    · rw [if_pos hz, if_pos hz]
    · rw [if_neg hz, if_neg hz, if_neg (fun z => h3 77 (by decide) z.1), if_neg (fun z => h3 76 (by decide) z.1), if_neg (fun z => h3 73 (by decide) z.1), if_neg (fun z => h3 72 (by decide) z.1), if_neg (fun z => h3 12 (by decide) z.1), if_neg (fun z => h3 75 (by decide) z.1), if_neg (fun z => h3 76 (by decide) z.1), if_neg (fun z => h3 74 (by decide) z.1), if_neg (fun z => h3 70 (by decide) z.1), if_neg (fun z => h3 71 (by decide) z.1), if_neg (fun z => h3 69 (by decide) z.1)]
  have D : ∀ x, x ≠ 9 → x ≠ 34 → x ≠ 35 → x ≠ 21 → x ≠ 1 → zhD (hCh h l n th) x = zhD (zset h 7 n 4 1) x := fun x h9 h34 h35 h21 h1 => by
    unfold hCh
    rw [zD_ne h9, zD_ne h9, Int.toNat_natCast]
    funext p j
    rw [zD_set, zD_ne h9, hE_D h9 h34 h35 h21 h1, zD_set]
  refine (rk.was hn).frame ⟨?_, e 61 (by decide) (by decide), e 62 (by decide) (by decide), e 63 (by decide) (by decide), e 64 (by decide) (by decide), e 65 (by decide) (by decide), e 66 (by decide) (by decide), e 67 (by decide) (by decide), e 68 (by decide) (by decide)⟩ ?_ ?_ ?_ (D 7 (by decide) (by decide) (by decide) (by decide) (by decide)) (fun r _ => congrFun (D 8 (by decide) (by decide) (by decide) (by decide) (by decide)) r) (D 20 (by decide) (by decide) (by decide) (by decide) (by decide)) (D 33 (by decide) (by decide) (by decide) (by decide) (by decide))
  · rw [au_ne (by decide)]
    simp [mCh_k, mAdd_k]
  · unfold hCh
    rw [zN_set, zN_set, zN_set, zN_set, hE_N (by decide) (by decide) (by decide), zN_set]
  · unfold hCh
    rw [zN_set, zN_set, zN_set, zN_set, zN_set, hE_N (by decide) (by decide) (by decide)]
    exact Nat.le_refl _
  · unfold hCh
    rw [zD_ne (by decide), zD_ne (by decide), zD_ne (by decide), zD_ne (by decide), hE_1.2 2 (by decide), zD_ne (by decide)]
theorem rr_ch (q : RR A h K L bc tc gc n B N M) {l k : Nat} {th : Int} (hl : l < L) (ok : zchok A K L l k th = true) : RR (mCh A l L k th) (hCh h l k th) K (L + 1) bc tc gc n B N M := by
  obtain ⟨ok, hz⟩ := zand_t ok
  obtain ⟨ok, hd⟩ := zand_t ok
  obtain ⟨ok, hL⟩ := zand_t ok
  obtain ⟨hk, ht⟩ := zand_t ok
  have hz := of_decide_eq_true hz
  have hd := of_decide_eq_true hd
  have hL := of_decide_eq_true hL
  have hk2 := zwi_t hk
  rw [Int.toNat_natCast] at hz
  have hkK : k < K := by omega
  obtain ⟨a1, a2, a3, a4⟩ := q.rl.at
  obtain ⟨-, ⟨b1, b2, -⟩, -⟩ := q.rd
  obtain ⟨tl1, tl2, tl3, tl4, tl5, -⟩ := q.rl.2.2.2.2.2 L (Nat.le_refl _) hL
  refine rr_nl q hL ⟨fun c j h1 h2 h3 => ?_, fun j h1 h2 => ?_, ?_, ?_⟩ ⟨fun c p j h9 h34 h35 h21 h1 h7 => ?_, fun c p j hc hp => ?_, fun j => ⟨?_, ?_⟩, ?_, fun c h9 h34 h35 => ?_, fun c h34 h35 h9 => ?_, rfl, rfl⟩ (((((q.rs.newE).set rfl).set rfl).set rfl).set rfl) (((((q.rd.newE).set rfl).set rfl).set rfl).set rfl) (rk_ch a3 q.rk hkK) (rl_ch q.rs q.rk q.rl hL hkK hl ht hd hz) ?_
  · have m : ∀ x, 69 ≤ x → x ≤ 85 → ¬ (c = x ∧ j = L) := fun x hx hx2 z => by omega
    rw [mCh_k, mAdd_k, if_neg (fun z => h2 z.1), if_neg (m 77 (by decide) (by decide)), if_neg (m 76 (by decide) (by decide)), if_neg (m 73 (by decide) (by decide)), if_neg (m 72 (by decide) (by decide)), if_neg (fun z => h1 z.1), if_neg (m 75 (by decide) (by decide)), if_neg (m 76 (by decide) (by decide)), if_neg (m 74 (by decide) (by decide)), if_neg (m 70 (by decide) (by decide)), if_neg (m 71 (by decide) (by decide)), if_neg (m 69 (by decide) (by decide))]
  · simp [mCh_k, mAdd_k, h2]
  · simp [mCh_k, mAdd_k, tl4]
  · simp [mCh_k, mAdd_k, tl5]
  · unfold hCh
    rw [zD_ne h9, zD_ne h9, zD_ne h7, zD_ne h9, hE_D h9 h34 h35 h21 h1]
  · unfold hCh
    rcases hc with rfl | rfl | rfl
    · rw [a3, zD_np hp, zD_np hp, zD_ne (by decide), zD_np hp, hE_9p a3 hp]
    · rw [zD_ne (by decide), zD_ne (by decide), zD_ne (by decide), zD_ne (by decide)]
      unfold hE
      rw [zD_ne (by decide), zD_ne (by decide), hL0_D34p (by omega)]
    · rw [zD_ne (by decide), zD_ne (by decide), zD_ne (by decide), zD_ne (by decide)]
      unfold hE
      rw [zD_ne (by decide), zD_ne (by decide), hL0_D35p (by omega)]
  · unfold hCh
    rw [zD_ne (by decide), zD_ne (by decide), zD_ne (by decide), zD_ne (by decide)]
    unfold hE
    rw [zD_ne (by decide), zD_ne (by decide), show L = zhN h 34 by omega, hL0_D34n]
  · unfold hCh
    rw [zD_ne (by decide), zD_ne (by decide), zD_ne (by decide), zD_ne (by decide)]
    unfold hE
    rw [zD_ne (by decide), zD_ne (by decide), show L = zhN h 35 by omega, hL0_D35n]
  · unfold hCh
    rw [a3, zD_nj (by decide), zD_nj (by decide), zD_ne (by decide), zD_nj (by decide), hE_9L a3]
    obtain ⟨-, -, -, -, -, -, -, -, -, f9⟩ := hL0_9 (h := h) (a := (zhN h 9 : Int)) (b := -1) (c := -1) (d := -1) (e := (l : Int))
    exact f9 18 (by decide) (by decide) (by decide) (by decide) (by decide)
  · exact hE_N (b := -1) (c := -1) (d := -1) (e := (l : Int)) h9 h34 h35
  · exact hL0_L (a := (zhN h 9 : Int)) (b := -1) (c := -1) (d := -1) (e := (l : Int)) h34 h35 h9
  · refine ⟨fun p hp h70 h69 => ?_, fun j hj => by have z := q.rc.2 j hj; have n13 : j ≠ 13 := (fun e => by rw [e] at hj; cases hj); simp [mCh_k, mAdd_k, z, n13]⟩
    by_cases hpL : p = L
    · subst hpL
      simp [mCh_k, mAdd_k] at h70
    · have m : ∀ x, 69 ≤ x → x ≤ 85 → mCh A l L k th x p = A x p := fun x hx hx2 => by
        have : x ≠ 12 := by omega
        have : x ≠ 64 := by omega
        simp [mCh_k, mAdd_k, hpL, *]
      rw [m 70 (by decide) (by decide)] at h70
      rw [m 69 (by decide) (by decide)] at h69
      rw [m 82 (by decide) (by decide), m 83 (by decide) (by decide)]
      exact q.rc.1 p (by omega) h70 h69
end
