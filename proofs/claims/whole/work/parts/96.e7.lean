/-! KERNELS AND THEIR CODE -/
theorem zbits_cases (c : Int) : zbits c = 7 ∨ zbits c = 6 ∨ zbits c = 4 ∨ zbits c = 5 ∨ zbits c = 0 ∨ zbits c = -1 := by
  unfold zbits
  split
  · exact Or.inl rfl
  · split
    · exact Or.inr (Or.inl rfl)
    · split
      · exact Or.inr (Or.inr (Or.inl rfl))
      · split
        · exact Or.inr (Or.inr (Or.inr (Or.inl rfl)))
        · split
          · exact Or.inr (Or.inr (Or.inr (Or.inr (Or.inl rfl))))
          · exact Or.inr (Or.inr (Or.inr (Or.inr (Or.inr rfl))))
def hI (h : zH) (c a b d : Int) : zH := zset (zset (zset (zset (znew h 8 0 (znf zPP 8) (fun k => zdef (zft zPP 8 k))) 8 (zhN h 8) 0 c) 8 (zhN h 8) 1 a) 8 (zhN h 8) 2 b) 8 (zhN h 8) 3 d
def hK (h : zH) (r s : Int) : zH := zset (zset (zset (zset (zset (znew (znew h 7 0 (znf zPP 7) (fun k => zdef (zft zPP 7 k))) 33 40 40 (fun _ => -1)) 7 (zhN h 7) 2 (zhN h 33 : Int)) 7 (zhN h 7) 0 r) 7 (zhN h 7) 1 s) 20 0 (zhN h 7) (zhN h 7 : Int)) 1 0 2 ((zhN h 7 : Int) + 1)
section
variable {ρ : Type} {h : zH} {A : zA} {kr : Int → zH → Option ρ} {kt : Nat → zH → Option ρ} {K : Nat}
set_option maxRecDepth 100000 in
theorem m_named {c : Int} : M_named c h kr = kr (zbits c) h := by
  unfold M_named M_named_150 M_named_155 M_named_48 M_named_81 M_named_114
  by_cases n43 : c = 43
  · subst n43
    rfl
  by_cases n45 : c = 45
  · subst n45
    rfl
  by_cases n42 : c = 42
  · subst n42
    rfl
  by_cases n60 : c = 60
  · subst n60
    rfl
  by_cases n61 : c = 61
  · subst n61
    rfl
  by_cases n97 : c = 97
  · subst n97
    rfl
  by_cases n120 : c = 120
  · subst n120
    rfl
  by_cases n115 : c = 115
  · subst n115
    rfl
  by_cases n114 : c = 114
  · subst n114
    rfl
  by_cases n119 : c = 119
  · subst n119
    rfl
  by_cases n82 : c = 82
  · subst n82
    rfl
  by_cases n87 : c = 87
  · subst n87
    rfl
  by_cases n118 : c = 118
  · subst n118
    rfl
  by_cases n107 : c = 107
  · subst n107
    rfl
  by_cases n116 : c = 116
  · subst n116
    rfl
  by_cases n110 : c = 110
  · subst n110
    rfl
  by_cases n108 : c = 108
  · subst n108
    rfl
  by_cases n122 : c = 122
  · subst n122
    rfl
  by_cases n99 : c = 99
  · subst n99
    rfl
  by_cases n106 : c = 106
  · subst n106
    rfl
  by_cases n98 : c = 98
  · subst n98
    rfl
  by_cases n102 : c = 102
  · subst n102
    rfl
  by_cases n101 : c = 101
  · subst n101
    rfl
  unfold zbits
  simp [n43, n45, n42, n60, n61, n97, n120, n115, n114, n119, n82, n87, n118, n107, n116, n110, n108, n122, n99, n106, n98, n102, n101]
theorem m_code {k c a b d : Int} (hK : A 12 4 = (K : Int)) (hK4 : K ≤ 4) (hk : ∀ k : Nat, k < K → 1 ≤ A 61 k ∧ A 61 k ≤ 8 ∧ 0 ≤ A 63 k ∧ A 63 k ≤ 40) (hc : 0 ≤ c ∧ c < 65536) : M_code k c a b d (mh h A) kr =
    if zwi k 0 (A 12 4 - 1) = true then
      if zallow (A 61 k.toNat) c a b d = true then
        if A 63 k.toNat < 40 ∧ A 64 k.toNat = 0 then kr (A 63 k.toNat) (mh h (au (au (au (au (au (a0 A) 65 (40 * k.toNat + (A 63 k.toNat).toNat) c) 66 (40 * k.toNat + (A 63 k.toNat).toNat) a) 67 (40 * k.toNat + (A 63 k.toNat).toNat) b) 68 (40 * k.toNat + (A 63 k.toNat).toNat) d) 63 k.toNat (A 63 k.toNat + 1)))
        else kr 0 (mh h (au A 12 0 3))
      else kr 0 (mh h (au A 12 0 2))
    else kr 0 (mh h (au A 12 0 1)) := by
  unfold M_code
  simp only [mS12, zlet_d]
  show M_noKernel k (mh h (a0 A)) _ = _
  rw [m_noKernel (by rw [a0_j (by decide)]; omega), a0_j (by decide)]
  cases hz : zwi k 0 (A 12 4 - 1) with
  | false => simp [tb_t, m_fails1, a0_0, a0_thr]
  | true =>
    obtain ⟨h1, h2⟩ := zwi_t hz
    obtain ⟨n, rfl⟩ : ∃ n : Nat, k = (n : Int) := ⟨k.toNat, by omega⟩
    obtain ⟨c1, c2, c3, c4⟩ := hk n (by omega)
    have hn : n < 4 := by omega
    have e61 : a0 A 61 = A 61 := a0_c (by decide)
    have e63 : a0 A 63 = A 63 := a0_c (by decide)
    have e64 : a0 A 64 = A 64 := a0_c (by decide)
    have w1 : wr (A 61 n - 1) = A 61 n - 1 := wr_id (by omega) (by omega)
    have w2 : wr (40 * (n : Int)) = 40 * (n : Int) := wr_id (by omega) (by omega)
    have w3 : wr (40 * (n : Int) + A 63 n) = 40 * (n : Int) + A 63 n := wr_id (by omega) (by omega)
    have w4 : wr (A 63 n + 1) = A 63 n + 1 := wr_id (by omega) (by omega)
    have w5 : wr (A 63 n) = A 63 n := wr_id (by omega) (by omega)
    -- the end
    have fin : ∀ t0 : Int, (t0 = 0 → A 63 n < 40 ∧ A 64 n = 0) → (t0 ≠ 0 → t0 = 1 ∧ ¬ (A 63 n < 40 ∧ A 64 n = 0)) → M_code_197 kr (n : Int) c a b d t0 (mh h (a0 A)) = if A 63 n < 40 ∧ A 64 n = 0 then kr (A 63 n) (mh h (au (au (au (au (au (a0 A) 65 (40 * n + (A 63 n).toNat) c) 66 (40 * n + (A 63 n).toNat) a) 67 (40 * n + (A 63 n).toNat) b) 68 (40 * n + (A 63 n).toNat) d) 63 n (A 63 n + 1))) else kr 0 (mh h (au A 12 0 3)) := fun t0 ht0 ht1 => by
      unfold M_code_197 M_code_204
      by_cases hq : t0 = 0
      · have hq2 := ht0 hq
        have z1 : ∀ kk : Nat → Option ρ, zix 160 (40 * (n : Int) + A 63 n) kk = kk (40 * n + (A 63 n).toNat) := fun kk => by
          rw [zix_i (by omega) (by omega)]
          exact congrArg kk (by omega)
        subst hq
        rw [if_pos hq2]
        simp [m_fails0, a0_0, zix_n hn, mD63, e63, w2, w3, z1, znar_c hc, zlet_d, mS65, mS66, mS67, mS68, mS63, au_ne, au_same, w4, w5]
      · obtain ⟨rfl, hq2⟩ := ht1 hq
        rw [if_neg hq2]
        simp [m_fails1, a0_0, a0_thr]
    have fin2 : ∀ t0 : Int, (t0 = 0 ∨ t0 = 1) → M_code_164 kr (n : Int) c a b d t0 (mh h (a0 A)) = if t0 = 0 then (if A 63 n < 40 ∧ A 64 n = 0 then kr (A 63 n) (mh h (au (au (au (au (au (a0 A) 65 (40 * n + (A 63 n).toNat) c) 66 (40 * n + (A 63 n).toNat) a) 67 (40 * n + (A 63 n).toNat) b) 68 (40 * n + (A 63 n).toNat) d) 63 n (A 63 n + 1))) else kr 0 (mh h (au A 12 0 3))) else kr 0 (mh h (au A 12 0 2)) := fun t0 ht0 => by
      unfold M_code_164 M_code_192 M_code_204
      rcases ht0 with rfl | rfl
      · by_cases h40 : A 63 n = 40
        · simp only [m_fails0 a0_0 (show (2 : Int) ≠ 0 by decide), if_true, zix_n hn, mD63, e63, if_pos h40]
          exact fin 1 (fun z => absurd z (by decide)) (fun _ => ⟨rfl, by omega⟩)
        · by_cases h64 : A 64 n = 0
          · simp only [m_fails0 a0_0 (show (2 : Int) ≠ 0 by decide), if_true, zix_n hn, mD63, mD64, e63, e64, if_neg h40, if_pos h64]
            exact fin 0 (fun _ => ⟨by omega, h64⟩) (fun z => absurd rfl z)
          · simp only [m_fails0 a0_0 (show (2 : Int) ≠ 0 by decide), if_true, zix_n hn, mD63, mD64, e63, e64, if_neg h40, if_neg h64]
            exact fin 1 (fun z => absurd z (by decide)) (fun _ => ⟨rfl, fun z => h64 z.2⟩)
      · simp [m_fails1, a0_0, a0_thr]
    have f0 := fin2 0 (Or.inl rfl)
    have f1 := fin2 1 (Or.inr rfl)
    rw [if_pos rfl] at f0
    rw [if_neg (by decide)] at f1
    obtain ⟨o4, o5, o6, o7, o8, -⟩ := zone_all c
    have l7 : zand 7 4 = 4 ∧ zand 7 2 = 2 ∧ zand 7 1 = 1 := by decide
    have l6 : zand 6 4 = 4 ∧ zand 6 2 = 2 ∧ zand 6 1 = 0 := by decide
    have l5 : zand 5 4 = 4 ∧ zand 5 2 = 0 ∧ zand 5 1 = 1 := by decide
    have l4 : zand 4 4 = 4 ∧ zand 4 2 = 0 ∧ zand 4 1 = 0 := by decide
    have l0 : zand 0 4 = 0 ∧ zand 0 2 = 0 ∧ zand 0 1 = 0 := by decide
    have e122 : c = 122 → zbits c = 4 := fun z => by rw [z]; rfl
    have e106 : c = 106 → zbits c = 0 := fun z => by rw [z]; rfl
    have e99 : c = 99 → zbits c = 5 := fun z => by rw [z]; rfl
    simp only [tb_f, Bool.not_true, m_fails0 a0_0 (show (1 : Int) ≠ 0 by decide), if_true, m_named, zix_n hn, mD61, e61, w1, Int.toNat_natCast]
    generalize hR : (if A 63 n < 40 ∧ A 64 n = 0 then kr (A 63 n) (mh h (au (au (au (au (au (a0 A) 65 (40 * n + (A 63 n).toNat) c) 66 (40 * n + (A 63 n).toNat) a) 67 (40 * n + (A 63 n).toNat) b) 68 (40 * n + (A 63 n).toNat) d) 63 n (A 63 n + 1))) else kr 0 (mh h (au A 12 0 3))) = RR at f0 ⊢
    generalize hR1 : kr 0 (mh h (au A 12 0 2)) = R1 at f1 ⊢
    simp only [M_code_95, M_code_59, M_code_77, M_code_99, M_code_100, M_code_114, M_code_125, M_code_141, M_code_145, M_code_146, M_code_159, m_in]
    unfold zallow
    generalize zwi a 0 (A 61 n - 1) = y5
    generalize zwi b 0 (A 61 n - 1) = y6
    generalize zwi d 0 (A 61 n - 1) = y7
    generalize zwi b 0 39 = y8
    generalize zwi b 0 3 = y9
    rw [o4, o5, o6, o7, o8]
    rcases zbits_cases c with hb | hb | hb | hb | hb | hb
    · have n1 : c ≠ 122 := fun z => by have := e122 z; omega
      have n2 : c ≠ 106 := fun z => by have := e106 z; omega
      have n3 : c ≠ 99 := fun z => by have := e99 z; omega
      cases y5 <;> cases y6 <;> cases y7 <;> simp [hb, l7, n1, n2, n3, tb, f0, f1]
    · have n1 : c ≠ 122 := fun z => by have := e122 z; omega
      have n2 : c ≠ 106 := fun z => by have := e106 z; omega
      have n3 : c ≠ 99 := fun z => by have := e99 z; omega
      cases y5 <;> cases y6 <;> simp [hb, l6, n1, n2, n3, tb, f0, f1]
    · have n2 : c ≠ 106 := fun z => by have := e106 z; omega
      have n3 : c ≠ 99 := fun z => by have := e99 z; omega
      by_cases n1 : c = 122
      · subst n1
        cases y5 <;> cases y8 <;> simp [hb, l4, tb, f0, f1]
      · cases y5 <;> cases y8 <;> simp [hb, l4, n1, n2, n3, tb, f0, f1]
    · have n1 : c ≠ 122 := fun z => by have := e122 z; omega
      have n2 : c ≠ 106 := fun z => by have := e106 z; omega
      by_cases n3 : c = 99
      · subst n3
        cases y5 <;> cases y7 <;> cases y9 <;> simp [hb, l5, tb, f0, f1]
      · cases y5 <;> cases y7 <;> cases y9 <;> simp [hb, l5, n1, n2, n3, tb, f0, f1]
    · have n1 : c ≠ 122 := fun z => by have := e122 z; omega
      have n3 : c ≠ 99 := fun z => by have := e99 z; omega
      by_cases n2 : c = 106
      · subst n2
        cases y8 <;> simp [hb, l0, tb, f0, f1]
      · cases y8 <;> simp [hb, l0, n1, n2, n3, tb, f0, f1]
    · have n1 : c ≠ 122 := fun z => by have := e122 z; omega
      have n2 : c ≠ 106 := fun z => by have := e106 z; omega
      have n3 : c ≠ 99 := fun z => by have := e99 z; omega
      simp [hb, n1, n2, n3, tb, f0, f1]
/-! the class -/
theorem x_inInit {r : Nat} {c a b d : Int} (hr : r < zhN h 8) (hc : 0 ≤ c ∧ c < 65536) : In_init (r : Int) c a b d h kr = kr 0 (zset (zset (zset (zset h 8 r 0 c) 8 r 1 a) 8 r 2 b) 8 r 3 d) := by
  unfold In_init
  simp [zob_n hr, znar_c hc, zlet_d, zob_n (show r < zhN (zset h 8 r 0 c) 8 from hr), zob_n (show r < zhN (zset (zset h 8 r 0 c) 8 r 1 a) 8 from hr), zob_n (show r < zhN (zset (zset (zset h 8 r 0 c) 8 r 1 a) 8 r 2 b) 8 from hr)]
theorem hI_N {c a b d : Int} {c' : Nat} : zhN (hI h c a b d) c' = if c' = 8 then zhN h 8 + 1 else zhN h c' := rfl
theorem hI_N8 {c a b d : Int} : zhN (hI h c a b d) 8 = zhN h 8 + 1 := rfl
theorem hI_Nn {c a b d : Int} {c' : Nat} (hc : c' ≠ 8) : zhN (hI h c a b d) c' = zhN h c' := if_neg hc
theorem hI_D {c a b d : Int} {c' : Nat} (hc : c' ≠ 8) : zhD (hI h c a b d) c' = zhD h c' := by
  unfold hI
  rw [zD_ne hc, zD_ne hc, zD_ne hc, zD_ne hc, zD_newne hc]
theorem hI_Dp {c a b d : Int} {p : Nat} (hp : p ≠ zhN h 8) : zhD (hI h c a b d) 8 p = zhD h 8 p := by
  unfold hI
  rw [zD_np hp, zD_np hp, zD_np hp, zD_np hp, zD_newp hp]
theorem hI_L {c a b d : Int} {c' : Nat} (hc : c' ≠ 8) : zhL (hI h c a b d) c' = zhL h c' := by
  unfold hI
  rw [zL_set, zL_set, zL_set, zL_set, zL_newne hc]
theorem hI_8 {c a b d : Int} : zhD (hI h c a b d) 8 (zhN h 8) 0 = c ∧ zhD (hI h c a b d) 8 (zhN h 8) 1 = a ∧ zhD (hI h c a b d) 8 (zhN h 8) 2 = b ∧ zhD (hI h c a b d) 8 (zhN h 8) 3 = d := by
  unfold hI
  refine ⟨?_, ?_, ?_, ?_⟩ <;> simp [zD_set]
theorem RS.hI (q : RS h) {c a b d : Int} : RS (hI h c a b d) := ((((q.new rfl).set rfl).set rfl).set rfl).set rfl
theorem RD.new8 (q : RD h) {len n : Nat} {f : Nat → Int} : RD (znew h 8 len n f) := by
  obtain ⟨⟨a1, a2⟩, ⟨b1, b2, b3⟩, ⟨c1, c2, c3, c4⟩, ⟨d1, d2, d3, d4, d5, d6, d7⟩, ⟨e1, e2, e3, e4⟩⟩ := q
  have hD : ∀ c, c ≠ 8 → zhD (znew h 8 len n f) c = zhD h c := fun c hc => zD_newne hc
  have hL : ∀ c, c ≠ 8 → zhL (znew h 8 len n f) c = zhL h c := fun c hc => zL_newne hc
  unfold RD
  rw [hD 7 (by decide), hD 9 (by decide), hD 6 (by decide), hD 10 (by decide), hD 11 (by decide), hL 33 (by decide), hL 34 (by decide), hL 35 (by decide), hL 32 (by decide), hL 38 (by decide), hL 39 (by decide), hL 40 (by decide), hL 41 (by decide), hL 42 (by decide), hL 43 (by decide), hL 44 (by decide)]
  exact ⟨⟨a1, a2⟩, ⟨b1, b2, b3⟩, ⟨c1, c2, c3, c4⟩, ⟨d1, d2, d3, d4, d5, d6, d7⟩, ⟨e1, e2, e3, e4⟩⟩
theorem RD.hI (q : RD h) {c a b d : Int} : RD (hI h c a b d) := (((q.new8.set rfl).set rfl).set rfl).set rfl
theorem x_append {k r : Nat} {len : Int} (hk : k < zhN h 7) (hr : r < zhN h 8) (h1 : zhD h 7 k 3 = len) (h2 : 0 ≤ len ∧ len < 40) (h3 : zhD h 7 k 2 = (k : Int)) (h4 : k < zhN h 33) (h5 : zhL h 33 k = 40) : Ke_append (k : Int) (r : Int) h kr = kr len (zset (zset h 33 k len.toNat (r : Int)) 7 k 3 (len + 1)) := by
  unfold Ke_append Ke_append_32
  have z1 : ∀ kk : Nat → Option ρ, zix 40 len kk = kk len.toNat := fun kk => zix_i (by omega) (by omega)
  have z2 : ∀ x : Option ρ, zorn h 8 (r : Int) x = x := fun x => if_pos (Or.inr ⟨Int.natCast_nonneg r, Int.ofNat_lt.mpr hr⟩)
  have z3 : (len : Int) < 40 := h2.2
  have w1 : wr (len + 1) = len + 1 := wr_id (by omega) (by omega)
  have w2 : wr len = len := wr_id (by omega) (by omega)
  have k1 : k < zhN (zset h 33 k len.toNat (r : Int)) 7 := hk
  have k2 : k < zhN (zset (zset h 33 k len.toNat (r : Int)) 7 k 3 (len + 1)) 7 := hk
  simp [zob_n hk, h3, zob_n h4, h1, h5, z3, z1, z2, zlet_d, zob_n k1, zob_n k2, zD_ne, w1, w2, zD_eq]
theorem x_code (q : RS h) (qd : RD h) (hR : RK A h K) {k c a b d : Int} (hc : 0 ≤ c ∧ c < 65536) : X_code 0 k c a b d h kt kr =
    if zwi k 0 (A 12 4 - 1) = true then
      if zallow (A 61 k.toNat) c a b d = true then
        if A 63 k.toNat < 40 ∧ A 64 k.toNat = 0 then kr (A 63 k.toNat) (zset (zset (hI h c a b d) 33 k.toNat (A 63 k.toNat).toNat (zhN h 8 : Int)) 7 k.toNat 3 (A 63 k.toNat + 1))
        else kt 2 (zthrown (hI h c a b d))
      else kt 1 (zthrown (hI h c a b d))
    else kt 3 (zthrown h) := by
  obtain ⟨r1, r2, r3, r4, r5⟩ := hR.at
  unfold X_code X_code_58
  simp only [zob_0 q.N0]
  rw [x_kernelAt q r1 r2 r3, r5]
  cases hz : zwi k 0 ((K : Int) - 1) with
  | false => simp
  | true =>
    obtain ⟨h1, h2⟩ := zwi_t hz
    obtain ⟨n, rfl⟩ : ∃ n : Nat, k = (n : Int) := ⟨k.toNat, by omega⟩
    have hn : n < K := by omega
    obtain ⟨-, c1, c2, c3, c4, c5, c6, c7, d1, d2, d3, d4, -⟩ := hR.2.2.2.2.1 n hn
    have hn7 : n < zhN h 7 := by omega
    have e1 : (zhN h 8 : Nat) < zhN (znew h 8 0 (znf zPP 8) (fun k => zdef (zft zPP 8 k))) 8 := by rw [zN_new1]; exact Nat.lt_succ_self _
    have e2 : zhN h 8 < zhN (hI h c a b d) 8 := by rw [hI_N8]; exact Nat.lt_succ_self _
    have e3 : n < zhN (hI h c a b d) 7 := hn7
    have f7 : zhD (hI h c a b d) 7 = zhD h 7 := hI_D (by decide)
    obtain ⟨g0, g1, g2, g3⟩ := hI_8 (h := h) (c := c) (a := a) (b := b) (d := d)
    have hal := fun kr9 => x_isAllowed (ρ := ρ) (kr := kr9) (h := hI h c a b d) e2 e3 (by rw [f7, d1]; exact c1) (by rw [f7, d1]; exact c2)
    rw [f7, d1, g0, g1, g2, g3] at hal
    have hin : ∀ kr9 : Int → zH → Option ρ, In_init (zhN h 8 : Int) c a b d (znew h 8 0 (znf zPP 8) (fun k => zdef (zft zPP 8 k))) kr9 = kr9 0 (hI h c a b d) := fun kr9 => x_inInit e1 hc
    simp only [if_true, zlet_d, zob_n e1, hin]
    rw [zob_n e2, hal]
    simp only [Int.toNat_natCast]
    cases zallow (A 61 n) c a b d with
    | false => simp [tb_f, zlet_d]
    | true =>
      simp only [tb_t, zob_n e3, f7, d3, d4]
      by_cases h40 : A 63 n < 40
      · by_cases h64 : A 64 n = 0
        · have hap := fun kr9 => x_append (ρ := ρ) (kr := kr9) (h := hI h c a b d) (k := n) (r := zhN h 8) (len := A 63 n) e3 e2 (by rw [f7]; exact d3) ⟨c5, h40⟩ (by rw [f7]; exact (qd.1.2 n hn7).1) (by rw [hI_Nn (by decide), qd.1.1]; exact hn7) (by rw [hI_L (by decide)]; exact (qd.1.2 n hn7).2)
          simp [h40, h64, hap]
        · simp [h40, h64, zlet_d]
      · simp [h40, zlet_d]
end
