/-! THE SERIAL RUN: a block, all blocks -/
section
variable {ρ : Type} {h h0 g : zH} {A A0 B : zA} {kr : Int → zH → Option ρ} {K L n k T t p r rn : Nat} {M bn v c a b d w fl : Int}
theorem x_fl29_loop {p len : Nat} (hp : p < zhN h 29) (hl : zhL h 29 p = len) (l9 : len ≤ 1000) : ∀ f i : Nat, i ≤ len → len - i < f → zit (fun _ _ _ _ _ => none) (Ar_fill_29_5b kr) f (p : Int) 0 (i : Int) (len : Int) (hrw h 29 p (zf0 (zhD h 29 p) i)) = kr 0 (hrw h 29 p (zf0 (zhD h 29 p) len))
  | 0, _, _, hf => absurd hf (Nat.not_lt_zero _)
  | f + 1, i, hi, hf => by
    rw [zit_s]
    have hp' : p < zhN (hrw h 29 p (zf0 (zhD h 29 p) i)) 29 := hp
    have hl' : zhL (hrw h 29 p (zf0 (zhD h 29 p) i)) 29 p = len := hl
    by_cases h4 : i < len
    · have ih := x_fl29_loop hp hl l9 f (i + 1) h4 (by omega)
      have hlt : (i : Int) < (len : Int) := by omega
      have i9 : i < 100000 := by omega
      generalize zit (fun _ _ _ _ _ => none) (Ar_fill_29_5b kr) f = r2 at ih ⊢
      unfold Ar_fill_29_5b
      rw [if_pos hlt, zob_n hp', hl', zix_n h4, hrw_set, zlet_d, zf0_s, wr_s i9]
      exact ih
    · have : i = len := by omega
      subst this
      unfold Ar_fill_29_5b
      rw [if_neg (Int.lt_irrefl _)]
theorem x_fl29 {p len : Nat} (hp : p < zhN h 29) (hl : zhL h 29 p = len) (l9 : len ≤ 1000) : Ar_fill_29 (p : Int) 0 h kr = kr 0 (hrw h 29 p (zf0 (zhD h 29 p) len)) := by
  have := x_fl29_loop (kr := kr) hp hl l9 zN 0 (Nat.zero_le _) (by show len - 0 < 5000; omega)
  rw [zf0_0, hrw_id] at this
  unfold Ar_fill_29
  rw [zob_n hp, hl]
  exact this
theorem x_fl31_loop {p len : Nat} (hp : p < zhN h 31) (hl : zhL h 31 p = len) (l9 : len ≤ 1000) : ∀ f i : Nat, i ≤ len → len - i < f → zit (fun _ _ _ _ _ => none) (Ar_fill_31_5b kr) f (p : Int) 0 (i : Int) (len : Int) (hrw h 31 p (zf0 (zhD h 31 p) i)) = kr 0 (hrw h 31 p (zf0 (zhD h 31 p) len))
  | 0, _, _, hf => absurd hf (Nat.not_lt_zero _)
  | f + 1, i, hi, hf => by
    rw [zit_s]
    have hp' : p < zhN (hrw h 31 p (zf0 (zhD h 31 p) i)) 31 := hp
    have hl' : zhL (hrw h 31 p (zf0 (zhD h 31 p) i)) 31 p = len := hl
    by_cases h4 : i < len
    · have ih := x_fl31_loop hp hl l9 f (i + 1) h4 (by omega)
      have hlt : (i : Int) < (len : Int) := by omega
      have i9 : i < 100000 := by omega
      generalize zit (fun _ _ _ _ _ => none) (Ar_fill_31_5b kr) f = r2 at ih ⊢
      unfold Ar_fill_31_5b
      rw [if_pos hlt, zob_n hp', hl', zix_n h4, hrw_set, zlet_d, zf0_s, wr_s i9]
      exact ih
    · have : i = len := by omega
      subst this
      unfold Ar_fill_31_5b
      rw [if_neg (Int.lt_irrefl _)]
theorem x_fl31 {p len : Nat} (hp : p < zhN h 31) (hl : zhL h 31 p = len) (l9 : len ≤ 1000) : Ar_fill_31 (p : Int) 0 h kr = kr 0 (hrw h 31 p (zf0 (zhD h 31 p) len)) := by
  have := x_fl31_loop (kr := kr) hp hl l9 zN 0 (Nat.zero_le _) (by show len - 0 < 5000; omega)
  rw [zf0_0, hrw_id] at this
  unfold Ar_fill_31
  rw [zob_n hp, hl]
  exact this
/-- what a block begins with -/
def BG (A : zA) (h : zH) (bn st : Int) (t : Nat) : Prop := (∀ j, j < 64 → zhD h 28 0 j = A 110 j) ∧ (∀ c, c < 16 → zhD h 29 0 c = 0 ∧ zhD h 31 0 c = 0) ∧ ∀ i, i < t → zhD h 6 i 2 = bn ∧ zhD h 6 i 3 = 0 ∧ zhD h 6 i 4 = st ∧ ∀ r, r < 8 → zhD h 32 i r = 0
theorem SF.tb (x : SF A0 A h0 h) (ht : t < 16) {len : Int} : SF A0 A h0 (hTb h t 8 bn len) := by
  have N := hTb_N (h := h) (T := t) (R := 8) (a := bn) (len := len)
  obtain ⟨x1, x2, x3, x4, x5, x6⟩ := x
  refine ⟨x1, N.1.trans x2, N.2.1.trans x3, N.2.2.1.trans x4, N.2.2.2.trans x5, fun c p j hc => ?_⟩
  have n6 : ∀ y : Nat, 2 ≤ y → ¬ (c = 6 ∧ p = t ∧ j = y) := fun y hy z => by
    rw [z.1, z.2.1, z.2.2, srp_6 ht hy] at hc
    cases hc
  have n32 : ¬ (c = 32 ∧ p = t ∧ j < 8) := fun z => by
    rw [z.1, z.2.1, srp_32 ht] at hc
    cases hc
  rw [hTb_D, if_neg (n6 4 (by decide)), if_neg (n6 3 (by decide)), if_neg (n6 2 (by decide)), if_neg n32]
  exact x6 c p j hc
theorem bg_loop (q : RS h0) (qd : RD h0) (t16 : T ≤ 16) (hk : k < zhN h0 7) (d54 : zhD h0 5 0 4 = (k : Int)) (d55 : zhD h0 5 0 5 = (T : Int)) {len : Int} (d73 : zhD h0 7 k 3 = len) : ∀ (f t : Nat) (h : zH), t ≤ T → T - t < f → SF A0 A h0 h → BG A h bn (if 0 < len then 114 else 101) t → ∃ h' : zH, (∀ kr : Int → zH → Option ρ, zit (fun _ _ _ _ => none) (Re_runBlock_18b kr) f 0 bn (t : Int) h = Re_runBlock_51 kr 0 0 h') ∧ SF A0 A h0 h' ∧ BG A h' bn (if 0 < len then 114 else 101) T
  | 0, _, _, _, hf, _, _ => absurd hf (Nat.not_lt_zero _)
  | f + 1, t, h, ht, hf, x, y => by
    have rs := x.rs q
    have rd := x.rd qd
    have e54 : zhD h 5 0 4 = (k : Int) := by rw [x.2.2.2.2.2 5 0 4 rfl]; exact d54
    have e55 : zhD h 5 0 5 = (T : Int) := by rw [x.2.2.2.2.2 5 0 5 rfl]; exact d55
    have e73 : zhD h 7 k 3 = len := by rw [x.2.2.2.2.2 7 k 3 rfl]; exact d73
    have k7 : k < zhN h 7 := by rw [x.2.1]; exact hk
    by_cases hT : t < T
    · have l16 : t < 16 := by omega
      have lt : (t : Int) < (T : Int) := by omega
      have t9 : t < 100000 := by omega
      obtain ⟨s1, s2, s3⟩ := sq_th rd hT t16
      have n32 : t < zhN h 32 := by rw [rd.2.2.1.1]; exact s1
      obtain ⟨y1, y2, y3⟩ := y
      have D := fun c p j => hTb_D (h := h) (T := t) (R := 8) (a := bn) (len := len) (c := c) (p := p) (j := j)
      obtain ⟨h', z1, z2, z3⟩ := bg_loop q qd t16 hk d54 d55 d73 f (t + 1) (hTb h t 8 bn len) hT (by omega) (x.tb l16) ⟨fun j hj => by
        rw [D, if_neg (fun z => absurd z.1 (by decide)), if_neg (fun z => absurd z.1 (by decide)), if_neg (fun z => absurd z.1 (by decide)), if_neg (fun z => absurd z.1 (by decide))]
        exact y1 j hj, fun c hc => by
        rw [D, if_neg (fun z => absurd z.1 (by decide)), if_neg (fun z => absurd z.1 (by decide)), if_neg (fun z => absurd z.1 (by decide)), if_neg (fun z => absurd z.1 (by decide)), D, if_neg (fun z => absurd z.1 (by decide)), if_neg (fun z => absurd z.1 (by decide)), if_neg (fun z => absurd z.1 (by decide)), if_neg (fun z => absurd z.1 (by decide))]
        exact y2 c hc, fun i hi => by
        by_cases hit : i = t
        · subst hit
          refine ⟨?_, ?_, ?_, fun r hr => ?_⟩
          · rw [D]; simp
          · rw [D]; simp
          · rw [D]; simp
          · rw [D]; simp [hr]
        · obtain ⟨w1, w2, w3, w4⟩ := y3 i (by omega)
          have o6 : ∀ j, zhD (hTb h t 8 bn len) 6 i j = zhD h 6 i j := fun j => by rw [D, if_neg (fun z => hit z.2.1), if_neg (fun z => hit z.2.1), if_neg (fun z => hit z.2.1), if_neg (fun z => absurd z.1 (by decide))]
          refine ⟨by rw [o6]; exact w1, by rw [o6]; exact w2, by rw [o6]; exact w3, fun r hr => ?_⟩
          rw [D, if_neg (fun z => absurd z.1 (by decide)), if_neg (fun z => absurd z.1 (by decide)), if_neg (fun z => absurd z.1 (by decide)), if_neg (fun z => hit z.2.1)]
          exact w4 r hr⟩
      refine ⟨h', fun kr => ?_, z2, z3⟩
      rw [zit_s, ← z1 kr]
      generalize zit (fun _ _ _ _ => none) (Re_runBlock_18b kr) f = r2
      unfold Re_runBlock_18b
      rw [zob_0 rs.N5, e55, if_pos lt, zob_0 rs.N5, rs.D5_0_2, zob_0 rs.N30, rs.L30_0, zix_n l16, rs.T t l16, zob_0 rs.N5, e54, zob_n k7, zob_n s1, e73, x_begin s1 (rd.2.2.1.2.2.1 t s1) n32 s2 (by decide), wr_s t9]
    · have : t = T := by omega
      subst this
      refine ⟨h, fun kr => ?_, x, y⟩
      rw [zit_s]
      unfold Re_runBlock_18b
      rw [zob_0 rs.N5, e55, if_neg (Int.lt_irrefl _)]
/-- the model begins a block -/
theorem m_b46 {kr : Int → zH → Option ρ} {r3 : Int → Int → Int → Int → Int → zH → Option ρ} {x3 : Int} (ht : t < 16) : ∀ (f i : Nat) (A : zA), i ≤ 8 → 8 - i < f → ∃ A' : zA, zit (fun _ _ _ _ _ _ _ => none) (M_runBlock_46b kr r3) f (k : Int) bn x3 fl (t : Int) (i : Int) (mh g A) = r3 (k : Int) bn x3 fl ((t + 1 : Nat) : Int) (mh g A') ∧ (∀ j, A' 112 j = if 8 * t + i ≤ j ∧ j < 8 * t + 8 then 0 else A 112 j) ∧ (∀ c, c ≠ 112 → A' c = A c) := by
  intro f
  induction f with
  | zero => exact fun i A _ hf => absurd hf (Nat.not_lt_zero _)
  | succ f ih =>
    intro i A hi hf
    by_cases h4 : i < 8
    · obtain ⟨A', z1, z2, z3⟩ := ih (i + 1) (au A 112 (8 * t + i) 0) h4 (by omega)
      have hlt : (i : Int) < 8 := by omega
      have i9 : i < 100000 := by omega
      have b9 : 8 * t + i < 100000 := by omega
      have b1 : 8 * t + i < 128 := by omega
      have t9 : t < 1000 := by omega
      refine ⟨A', ?_, fun j => ?_, fun c hc => by rw [z3 c hc, au_ne hc]⟩
      · rw [zit_s, ← z1]
        generalize zit (fun _ _ _ _ _ _ _ => none) (M_runBlock_46b kr r3) f = r2
        unfold M_runBlock_46b
        rw [if_pos hlt, wr_8 t9, wr_nn b9, zix_n b1, mS112, zlet_d, wr_s i9]
      · rw [z2, au_j]
        by_cases hj : 8 * t + (i + 1) ≤ j ∧ j < 8 * t + 8
        · rw [if_pos hj, if_pos ⟨by omega, hj.2⟩]
        · rw [if_neg hj]
          by_cases hj2 : j = 8 * t + i
          · rw [if_pos hj2, if_pos ⟨by omega, by omega⟩]
          · rw [if_neg hj2, if_neg (fun z => hj ⟨by omega, z.2⟩)]
    · have : i = 8 := by omega
      subst this
      have t9 : t < 100000 := by omega
      refine ⟨A, ?_, fun j => by rw [if_neg (fun z => by omega)], fun c _ => rfl⟩
      rw [zit_s]
      unfold M_runBlock_46b
      rw [if_neg (by decide), wr_s t9]
theorem m_b3 {x3 : Int} : ∀ (f t : Nat) (A : zA), t ≤ 16 → 16 - t < f → ∃ A' : zA, (∀ kr : Int → zH → Option ρ, zit (fun _ _ _ _ _ _ => none) (M_runBlock_3b kr) f (k : Int) bn x3 fl (t : Int) (mh g A) = M_runBlock_83 kr (k : Int) bn x3 fl 112 (mh g A')) ∧ (∀ c, c < 111 ∨ 115 < c → A' c = A c) ∧ (∀ i, t ≤ i → i < 16 → A' 113 i = 0 ∧ A' 114 i = 114 ∧ A' 115 i = 0 ∧ A' 111 i = 0 ∧ ∀ r, r < 8 → A' 112 (8 * i + r) = 0) ∧ (∀ i, i < t → A' 113 i = A 113 i ∧ A' 114 i = A 114 i ∧ A' 115 i = A 115 i ∧ A' 111 i = A 111 i ∧ ∀ r, r < 8 → A' 112 (8 * i + r) = A 112 (8 * i + r)) := by
  intro f
  induction f with
  | zero => exact fun i A _ hf => absurd hf (Nat.not_lt_zero _)
  | succ f ih =>
    intro t A ht hf
    by_cases h4 : t < 16
    · have hlt : (t : Int) < 16 := by omega
      have key : ∀ kr : Int → zH → Option ρ, ∃ A1 : zA, M_runBlock_3b kr (zit (fun _ _ _ _ _ _ => none) (M_runBlock_3b kr) f) (k : Int) bn x3 fl (t : Int) (mh g A) = zit (fun _ _ _ _ _ _ => none) (M_runBlock_3b kr) f (k : Int) bn x3 fl ((t + 1 : Nat) : Int) (mh g A1) ∧ (∀ j, A1 112 j = if 8 * t + 0 ≤ j ∧ j < 8 * t + 8 then 0 else (au (au (au (au A 113 t 0) 114 t 114) 115 t 0) 111 t 0) 112 j) ∧ (∀ c, c ≠ 112 → A1 c = (au (au (au (au A 113 t 0) 114 t 114) 115 t 0) 111 t 0) c) := fun kr => by
        generalize zit (fun _ _ _ _ _ _ => none) (M_runBlock_3b kr) f = r2
        obtain ⟨A1, z1, z2, z3⟩ := m_b46 (g := g) (k := k) (bn := bn) (fl := fl) (x3 := x3) (kr := kr) (r3 := r2) h4 zN 0 (au (au (au (au A 113 t 0) 114 t 114) 115 t 0) 111 t 0) (Nat.zero_le _) (by decide)
        refine ⟨A1, ?_, z2, z3⟩
        unfold M_runBlock_3b
        rw [if_pos hlt, zix_n h4, mS113, zlet_d, zix_n h4, mS114, zlet_d, zix_n h4, mS115, zlet_d, zix_n h4, mS111, zlet_d]
        exact z1
      obtain ⟨A1, -, y2, y3⟩ := key (fun _ _ => none)
      obtain ⟨A', w1, w2, w3, w4⟩ := ih (t + 1) A1 h4 (by omega)
      have r1 : ∀ i, A1 113 i = if i = t then 0 else A 113 i := fun i => by rw [y3 113 (by decide), au_ne (by decide), au_ne (by decide), au_ne (by decide), au_j]
      have r2 : ∀ i, A1 114 i = if i = t then 114 else A 114 i := fun i => by rw [y3 114 (by decide), au_ne (by decide), au_ne (by decide), au_j, au_ne (by decide)]
      have r3 : ∀ i, A1 115 i = if i = t then 0 else A 115 i := fun i => by rw [y3 115 (by decide), au_ne (by decide), au_j, au_ne (by decide), au_ne (by decide)]
      have r4 : ∀ i, A1 111 i = if i = t then 0 else A 111 i := fun i => by rw [y3 111 (by decide), au_j, au_ne (by decide), au_ne (by decide), au_ne (by decide)]
      have r5 : ∀ j, A1 112 j = if 8 * t + 0 ≤ j ∧ j < 8 * t + 8 then 0 else A 112 j := fun j => by rw [y2, au_ne (by decide), au_ne (by decide), au_ne (by decide), au_ne (by decide)]
      refine ⟨A', fun kr => ?_, fun c hc => ?_, fun i h1 h2 => ?_, fun i h1 => ?_⟩
      · obtain ⟨A3, v1, v2, v3⟩ := key kr
        have : A3 = A1 := zA_ext (fun c => by
          by_cases hc : c = 112
          · subst hc
            exact funext fun j => by rw [v2, y2]
          · rw [v3 c hc, y3 c hc])
        subst this
        rw [zit_s, v1, w1]
      · rw [w2 c hc, y3 c (by omega), au_ne (by omega), au_ne (by omega), au_ne (by omega), au_ne (by omega)]
      · by_cases hit : i = t
        · obtain ⟨m1, m2, m3, m4, m5⟩ := w4 i (by omega)
          rw [m1, m2, m3, m4, r1, r2, r3, r4, if_pos hit, if_pos hit, if_pos hit, if_pos hit]
          exact ⟨rfl, rfl, rfl, rfl, fun r hr => by rw [m5 r hr, r5, if_pos ⟨by omega, by omega⟩]⟩
        · exact w3 i (by omega) h2
      · obtain ⟨m1, m2, m3, m4, m5⟩ := w4 i (by omega)
        rw [m1, m2, m3, m4, r1, r2, r3, r4, if_neg (by omega), if_neg (by omega), if_neg (by omega), if_neg (by omega)]
        exact ⟨rfl, rfl, rfl, rfl, fun r hr => by rw [m5 r hr, r5, if_neg (by omega)]⟩
    · have : t = 16 := by omega
      subst this
      refine ⟨A, fun kr => ?_, fun c _ => rfl, fun i h1 h2 => absurd h1 (by omega), fun i _ => ⟨rfl, rfl, rfl, rfl, fun _ _ => rfl⟩⟩
      rw [zit_s]
      unfold M_runBlock_3b
      rw [if_neg (by decide)]
/-- a block, both sides -/
theorem block_both (q : RS h0) (qd : RD h0) (rk : RK A0 h0 K) (hk : k < K) (nl : NL A0 k) (t1 : 1 ≤ T) (t16 : T ≤ 16) (f4 : zhD h0 5 0 4 = (k : Int)) (f5 : zhD h0 5 0 5 = (T : Int)) (f6 : zhD h0 5 0 6 = fl) (x : SF A0 A h0 h) (mr : ∀ j, j < 64 → zhD h 28 0 j = A 110 j) (bn : Int) (g : zH) : ∃ (h' : zH) (A' : zA) (ok : Bool), (∀ kr : Int → zH → Option ρ, Re_runBlock 0 bn h kr = kr (tb ok) h') ∧ (∀ kr : Int → zH → Option ρ, M_runBlock (k : Int) bn (T : Int) fl (mh g A) kr = kr (tb ok) (mh g A')) ∧ SF A0 A' h0 h' ∧ (ok = true → ∀ j, j < 64 → zhD h' 28 0 j = A' 110 j) := by
  have rs := x.rs q
  have rd := x.rd qd
  have k7 : k < zhN h0 7 := by rw [rk.2.2.1]; exact hk
  have d73 : zhD h0 7 k 3 = A0 63 k := (rk.2.2.2.2.1 k hk).2.2.2.2.2.2.2.2.2.2.1
  have n29 : 0 < zhN h 29 := by rw [rs.N29]; decide
  have n31 : 0 < zhN (hrw h 29 0 (zf0 (zhD h 29 0) 16)) 31 := by
    show 0 < zhN h 31
    rw [rs.N31]
    decide
  have l31 : zhL (hrw h 29 0 (zf0 (zhD h 29 0) 16)) 31 0 = 16 := rs.L31_0
  have x1 : SF A0 A h0 (hrw (hrw h 29 0 (zf0 (zhD h 29 0) 16)) 31 0 (zf0 (zhD (hrw h 29 0 (zf0 (zhD h 29 0) 16)) 31 0) 16)) := (x.row (fun _ => rfl)).row (fun _ => rfl)
  obtain ⟨h1, z1, z2, z3⟩ := bg_loop (ρ := ρ) (A0 := A0) (A := A) (bn := bn) (k := k) (T := T) q qd t16 k7 f4 f5 d73 zN 0 _ (Nat.zero_le _) (by show T - 0 < 5000; omega) x1 ⟨fun j hj => by
    rw [hrw_D, if_neg (fun z => absurd z.1 (by decide)), hrw_D, if_neg (fun z => absurd z.1 (by decide))]
    exact mr j hj, fun c hc => by
    rw [hrw_D, if_neg (fun z => absurd z.1 (by decide)), hrw_D, if_pos ⟨rfl, rfl⟩, hrw_D, if_pos ⟨rfl, rfl⟩]
    unfold zf0
    rw [if_pos hc, if_pos hc]
    exact ⟨rfl, rfl⟩, fun i hi => absurd hi (Nat.not_lt_zero _)⟩
  obtain ⟨A1, w1, w2, w3, w4⟩ := m_b3 (ρ := ρ) (g := g) (k := k) (bn := bn) (fl := fl) (x3 := (T : Int)) zN 0 A (Nat.zero_le _) (by decide)
  obtain ⟨y1, y2, y3⟩ := z3
  have xA : SF A0 A1 h0 h1 := ⟨fun c hc => by rw [w2 c (by omega)]; exact z2.1 c hc, z2.2⟩
  have e63 : A1 63 = A0 63 := by rw [w2 63 (by decide), x.1 63 (by decide)]
  have lg : ∀ t, t < T → lgs A1 k t = if 0 < A0 63 k then 114 else 101 := fun t ht => by
    obtain ⟨m1, m2, -⟩ := w3 t (Nat.zero_le _) (by omega)
    unfold lgs
    rw [m1, m2, e63]
    by_cases hz : 0 < A0 63 k
    · rw [if_pos hz, if_neg (fun z => z.2 hz)]
    · rw [if_neg hz, if_pos ⟨rfl, hz⟩]
  have sq : SQ (ard A1 114 (fun _ => if 0 < A0 63 k then 114 else 101)) h1 k T bn := by
    refine ⟨⟨by rw [z2.2.2.2.2.2 5 0 4 rfl]; exact f4, by rw [z2.2.2.2.2.2 5 0 5 rfl]; exact f5⟩, fun j hj => ?_, fun c hc => ?_, fun t ht => ?_⟩
    · rw [ard_ne (by decide), w2 110 (by decide)]
      exact y1 j hj
    · rw [ard_ne (by decide), (w3 c (Nat.zero_le _) hc).2.2.2.1]
      exact (y2 c hc).1
    · obtain ⟨m1, m2, m3, m4, m5⟩ := w3 t (Nat.zero_le _) (by omega)
      obtain ⟨u1, u2, u3, u4⟩ := y3 t ht
      rw [ard_same, ard_ne (show 113 ≠ 114 by decide), ard_ne (show 63 ≠ 114 by decide), ard_ne (show 115 ≠ 114 by decide), ard_ne (show 112 ≠ 114 by decide), m1, m3, e63]
      refine ⟨u1, ⟨u3, ?_⟩, fun hz => ⟨u2, Int.le_refl _, ?_⟩, ⟨(y2 t (by omega)).2, Int.le_refl _, by decide⟩, fun r hr => by rw [m5 r hr]; exact u4 r hr⟩
      · by_cases hz : 0 < A0 63 k
        · rw [if_pos hz]; exact Or.inl rfl
        · rw [if_neg hz]; exact Or.inr (Or.inr rfl)
      · by_cases hz2 : 0 < A0 63 k
        · exact hz2
        · rw [if_neg hz2] at hz
          exact absurd rfl hz
  obtain ⟨h2, A2, ok, v1, v2, v3, v4⟩ := rb_loop (ρ := ρ) (fl := fl) q qd rk hk nl t1 t16 f6 g zN zN 0 h1 A1 _ (by decide) (by decide) (by decide) xA sq (fun t ht => by
    obtain ⟨m1, m2, m3, -⟩ := w3 t (Nat.zero_le _) (by omega)
    rw [lg t ht, m2, m3]
    exact ⟨rfl, Or.inl rfl, fun _ => Int.le_refl _⟩)
  refine ⟨h2, A2, ok, fun kr => ?_, fun kr => ?_, v3, v4⟩
  · have f29 := x_fl29 (h := h) (p := 0) (len := 16) (kr := fun _ h3 => zob h3 5 0 fun p4 => Ar_fill_31 (zhD h3 5 p4 3) 0 h3 fun _ h6 => Re_runBlock_18 kr 0 bn 0 h6) n29 rs.L29_0 (by decide)
    have f31 := x_fl31 (h := hrw h 29 0 (zf0 (zhD h 29 0) 16)) (p := 0) (len := 16) (kr := fun _ h6 => Re_runBlock_18 kr 0 bn 0 h6) n31 l31 (by decide)
    have N5 : zhN (hrw h 29 0 (zf0 (zhD h 29 0) 16)) 5 = 1 := rs.N5
    have D5 : zhD (hrw h 29 0 (zf0 (zhD h 29 0) 16)) 5 0 3 = 0 := by
      rw [hrw_D, if_neg (fun z => absurd z.1 (by decide))]
      exact rs.D5_0_3
    unfold Re_runBlock
    rw [zob_0 rs.N5, rs.D5_0_1]
    refine Eq.trans f29 ?_
    rw [zob_0 N5, D5]
    refine Eq.trans f31 ?_
    refine Eq.trans (z1 kr) ?_
    exact v1 kr
  · refine Eq.trans (w1 kr) ?_
    exact v2 kr
/-- all blocks -/
theorem blocks_loop (q : RS h0) (qd : RD h0) (rk : RK A0 h0 K) (hk : k < K) (nl : NL A0 k) (t1 : 1 ≤ T) (t16 : T ≤ 16) (f4 : zhD h0 5 0 4 = (k : Int)) (f5 : zhD h0 5 0 5 = (T : Int)) (f6 : zhD h0 5 0 6 = fl) {nb : Nat} (n6 : nb ≤ 6) {ce : Int} (g : zH) : ∀ (f1 f2 i : Nat) (h : zH) (A : zA), i ≤ nb → nb - i < f1 → nb - i + 1 < f2 → SF A0 A h0 h → (∀ j, j < 64 → zhD h 28 0 j = A 110 j) → ∃ (h' : zH) (A' : zA) (ok : Bool), (∀ kr : Int → zH → Option ρ, zit (fun _ _ _ _ => none) (Re_runBlocks_2b kr) f1 0 (nb : Int) (i : Int) h = kr (tb ok) h') ∧ (∀ kr : Int → zH → Option ρ, zit (fun _ _ _ _ _ _ _ _ => none) (M_serial_196b kr) f2 (k : Int) (nb : Int) (T : Int) fl ce 1 (i : Int) (mh g A) = M_serial_239 kr ce (tb ok) (mh g A')) ∧ SF A0 A' h0 h' ∧ (ok = true → ∀ j, j < 64 → zhD h' 28 0 j = A' 110 j)
  | 0, _, _, _, _, _, hf, _, _, _ => absurd hf (Nat.not_lt_zero _)
  | _ + 1, 0, _, _, _, _, _, hf, _, _ => absurd hf (Nat.not_lt_zero _)
  | _ + 1, 1, _, _, _, _, _, hf, _, _ => absurd hf (by omega)
  | f1 + 1, f2 + 2, i, h, A, hi, hf1, hf2, x, mr => by
    have rs := x.rs q
    have e6 : zhD h 5 0 6 = fl := by rw [x.2.2.2.2.2 5 0 6 rfl]; exact f6
    have n1 : ¬ (1 : Int) = 0 := by decide
    by_cases hb : i < nb
    · have lt : (i : Int) < (nb : Int) := by omega
      have i9 : i < 100000 := by omega
      have idx : ∀ {α : Type} (F : Int → α), (if fl = 0 then F (i : Int) else F (wr (wr ((nb : Int) - 1) - (i : Int)))) = F (if fl = 0 then (i : Int) else wr (wr ((nb : Int) - 1) - (i : Int))) := fun F => by
        by_cases hz : fl = 0
        · rw [if_pos hz, if_pos hz]
        · rw [if_neg hz, if_neg hz]
      obtain ⟨h1, A1, ok1, y1, y2, y3, y4⟩ := block_both (ρ := ρ) q qd rk hk nl t1 t16 f4 f5 f6 x mr (if fl = 0 then (i : Int) else wr (wr ((nb : Int) - 1) - (i : Int))) g
      have C1 : ∀ (kr : Int → zH → Option ρ) (r2 : Int → Int → Int → zH → Option ρ), Re_runBlocks_2b kr r2 0 (nb : Int) (i : Int) h = if ok1 = true then r2 0 (nb : Int) ((i + 1 : Nat) : Int) h1 else kr 0 h1 := fun kr r2 => by
        unfold Re_runBlocks_2b Re_runBlocks_24
        rw [if_pos lt, zob_0 rs.N5, e6]
        refine Eq.trans (idx (fun v => zob h 5 0 fun _ => Re_runBlock 0 v h fun v1 h2 => if v1 = 0 then kr 0 h2 else r2 0 (nb : Int) (wr ((i : Int) + 1)) h2)) ?_
        rw [zob_0 rs.N5, y1, wr_s i9]
        cases ok1 with
        | false => rw [tb_f, if_pos rfl, if_neg Bool.false_ne_true]
        | true => rw [tb_t, if_neg n1, if_pos rfl]
      have M1 : ∀ (kr : Int → zH → Option ρ) (r196 : Int → Int → Int → Int → Int → Int → Int → zH → Option ρ), M_serial_196b kr r196 (k : Int) (nb : Int) (T : Int) fl ce 1 (i : Int) (mh g A) = r196 (k : Int) (nb : Int) (T : Int) fl ce (tb ok1) ((i + 1 : Nat) : Int) (mh g A1) := fun kr r196 => by
        unfold M_serial_196b M_serial_225
        rw [if_pos lt, if_neg n1]
        refine Eq.trans (idx (fun v => M_runBlock (k : Int) v (T : Int) fl (mh g A) fun v1 h2 => r196 (k : Int) (nb : Int) (T : Int) fl ce v1 (wr ((i : Int) + 1)) h2)) ?_
        rw [y2, wr_s i9]
      cases ok1 with
      | false =>
        refine ⟨h1, A1, false, fun kr => ?_, fun kr => ?_, y3, fun z => by cases z⟩
        · rw [zit_s, C1, if_neg Bool.false_ne_true]
          rfl
        · rw [zit_s, M1, zit_s, tb_f]
          unfold M_serial_196b
          by_cases hl : ((i + 1 : Nat) : Int) < (nb : Int)
          · rw [if_pos hl, if_pos rfl]
          · rw [if_neg hl]
      | true =>
        obtain ⟨h2, A2, ok, v1, v2, v3, v4⟩ := blocks_loop q qd rk hk nl t1 t16 f4 f5 f6 n6 g f1 (f2 + 1) (i + 1) h1 A1 hb (by omega) (by omega) y3 (y4 rfl)
        refine ⟨h2, A2, ok, fun kr => ?_, fun kr => ?_, v3, v4⟩
        · rw [zit_s, C1, if_pos rfl, v1]
        · rw [zit_s, M1, tb_t, v2]
    · have : i = nb := by omega
      subst this
      refine ⟨h, A, true, fun kr => ?_, fun kr => ?_, x, fun _ => mr⟩
      · rw [zit_s]
        unfold Re_runBlocks_2b
        rw [if_neg (Int.lt_irrefl _)]
        rfl
      · rw [zit_s]
        unfold M_serial_196b
        rw [if_neg (Int.lt_irrefl _)]
        rfl
end
