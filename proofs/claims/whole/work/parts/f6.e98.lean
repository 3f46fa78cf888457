/-! THE MODEL IS MADE -/
def mrow (c j : Nat) : Int := if (c = 100 ∧ j < 2) ∨ (c = 101 ∧ j < 2) ∨ (c = 102 ∧ j < 4) then -1 else 0
def zmS : Nat → Nat
  | 0 => 0
  | n + 1 => zmS n + zml (60 + n)
def fptr (i : Nat) : Nat := zget 0 zmfs i
/-- the model with n rows -/
def MI (h0 h : zH) (n : Nat) : Prop := zhN h 12 = 1 ∧ (∀ c, 60 ≤ c → c < 60 + n → zhN h c = 1 ∧ zhL h c 0 = zml c ∧ ∀ j, zhD h c 0 j = mrow c j) ∧ (∀ c, (c < 60 ∨ 60 + n ≤ c) → c ≠ 12 → zhN h c = zhN h0 c ∧ zhL h c = zhL h0 c ∧ zhD h c = zhD h0 c) ∧ ((∀ j, j < 74 → zmfs.contains j = false → zhD h 12 0 j = if j = 2 then 111 else 0) ∧ ∀ i, i < n → zhD h 12 0 (fptr i) = 0) ∧ zhC h = zhC h0 + 1 + n ∧ zhS h = zhS h0 + znf zPP 12 + zmS n
section
variable {ρ : Type} {h h0 h' : zH} {n : Nat}
theorem fptr_in : ∀ i, i < 56 → zmfs.contains (fptr i) = true := by decide +kernel
theorem MI.add (x : MI h0 h n) (n56 : n < 56) (hz : zhN h0 (60 + n) = 0) (hN : ∀ c, zhN h' c = if c = 60 + n then zhN h (60 + n) + 1 else zhN h c) (hL : ∀ c p, zhL h' c p = if c = 60 + n ∧ p = zhN h (60 + n) then zml (60 + n) else zhL h c p) (hD1 : ∀ j, zhD h' (60 + n) 0 j = mrow (60 + n) j) (hD : ∀ c, c ≠ 60 + n → c ≠ 12 → zhD h' c = zhD h c) (h12 : ∀ j, zhD h' 12 0 j = if j = fptr n then 0 else zhD h 12 0 j) (hC : zhC h' = zhC h + 1) (hS : zhS h' = zhS h + zml (60 + n)) : MI h0 h' (n + 1) := by
  obtain ⟨x1, x2, x3, x4, x5, x6⟩ := x
  have hc0 : zhN h (60 + n) = 0 := by rw [(x3 (60 + n) (Or.inr (Nat.le_refl _)) (by omega)).1]; exact hz
  refine ⟨?_, fun c h1 h2 => ?_, fun c h1 h2 => ?_, ⟨fun j j1 j2 => ?_, fun i hi => ?_⟩, by rw [hC, x5]; omega, ?_⟩
  · rw [hN, if_neg (by omega)]
    exact x1
  · by_cases hc : c = 60 + n
    · subst hc
      rw [hN, if_pos rfl, hL, if_pos ⟨rfl, hc0.symm⟩, hc0]
      exact ⟨rfl, rfl, hD1⟩
    · obtain ⟨y1, y2, y3⟩ := x2 c h1 (by omega)
      rw [hN, if_neg hc, hL, if_neg (fun z => hc z.1), hD c hc (by omega)]
      exact ⟨y1, y2, y3⟩
  · have hc : c ≠ 60 + n := by omega
    obtain ⟨y1, y2, y3⟩ := x3 c (by omega) h2
    refine ⟨by rw [hN, if_neg hc]; exact y1, ?_, by rw [hD c hc h2]; exact y3⟩
    rw [← y2]
    funext p
    rw [hL, if_neg (fun z => hc z.1)]
  · rw [h12, if_neg (fun z => by rw [z, fptr_in n n56] at j2; cases j2)]
    exact x4.1 j j1 j2
  · rw [h12]
    by_cases e : fptr i = fptr n
    · rw [if_pos e]
    · rw [if_neg e]
      exact x4.2 i (by
        have : i ≠ n := fun z => e (by rw [z])
        omega)
  · rw [hS, x6]
    show _ = zhS h0 + znf zPP 12 + (zmS n + zml (60 + n))
    omega
theorem ex_row (x : MI h0 h n) (n56 : n < 56) (hz : zhN h0 (60 + n) = 0) {c len F : Nat} {v : Int} (hc : c = 60 + n) (hl : zml c = len) (hv : v = (len : Int)) (l9 : len < 100000) (hF : fptr n = F) (hm : ∀ j, mrow c j = 0) : ∃ h' : zH, MI h0 h' (n + 1) ∧ ∀ k : zH → Option ρ, (zix 100000 v fun n1 => zlet (znew h c n1 n1 (fun _ => 0)) fun h2 => zob h2 12 ((0 : Nat) : Int) fun p3 => zlet (zset h2 12 p3 F ((zhN h c : Nat) : Int)) fun h4 => k h4) = k h' := by
  subst hc
  subst hv
  have x' := x
  obtain ⟨x1, x2, x3, x4, x5, x6⟩ := x'
  have hc0 : zhN h (60 + n) = 0 := by rw [(x3 (60 + n) (Or.inr (Nat.le_refl _)) (by omega)).1]; exact hz
  have c12 : (60 + n) ≠ 12 := by omega
  have n12 : 0 < zhN (znew h (60 + n) len len (fun _ => 0)) 12 := by rw [zN_newne (fun z => c12 z.symm), x1]; decide
  refine ⟨zset (znew h (60 + n) len len (fun _ => 0)) 12 0 F ((zhN h (60 + n) : Nat) : Int), x.add n56 hz (fun c => by rw [zN_set, zN_new]) (fun c p => by rw [zL_set, zL_new, hl]) (fun j => ?_) (fun c h1 h2 => ?_) (fun j => ?_) rfl (by rw [zS_set, zS_new, hl]), fun k => ?_⟩
  · rw [zD_ne c12, zD_new, if_pos ⟨rfl, hc0.symm⟩, hm]
  · rw [zD_ne h2, zD_newne h1]
  · rw [zD_set]
    rw [hF]
    by_cases hj : j = F
    · rw [if_pos ⟨rfl, rfl, hj⟩, hc0, if_pos hj]
      rfl
    · rw [if_neg (fun z => hj z.2.2), if_neg hj, zD_newne (fun z => c12 z.symm)]
  · rw [zix_n l9, zlet_d, zob_n n12, zlet_d]
theorem ex_row2 (x : MI h0 h n) (n56 : n < 56) (hz : zhN h0 (60 + n) = 0) {c F : Nat} {v : Int} (hc : c = 60 + n) (hl : zml c = 2) (hv : v = ((2 : Nat) : Int)) (hF : fptr n = F) (hm : ∀ j, mrow c j = if j = 0 ∨ j = 1 then -1 else 0) : ∃ h' : zH, MI h0 h' (n + 1) ∧ ∀ k : zH → Option ρ, (zix 100000 v fun n1 => zlet (znew h c n1 n1 (fun _ => 0)) fun h2 => zob h2 c ((zhN h c : Nat) : Int) fun p27 => zix (zhL h2 c p27) 0 fun j28 => zlet (zset h2 c p27 j28 (-1)) fun h29 => zob h29 c ((zhN h c : Nat) : Int) fun p30 => zix (zhL h29 c p30) 1 fun j31 => zlet (zset h29 c p30 j31 (-1)) fun h32 => zob h32 12 ((0 : Nat) : Int) fun p3 => zlet (zset h32 12 p3 F ((zhN h c : Nat) : Int)) fun h4 => k h4) = k h' := by
  subst hc
  subst hv
  have x' := x
  obtain ⟨x1, x2, x3, x4, x5, x6⟩ := x'
  have hc0 : zhN h (60 + n) = 0 := by rw [(x3 (60 + n) (Or.inr (Nat.le_refl _)) (by omega)).1]; exact hz
  have c12 : (60 + n) ≠ 12 := by omega
  have n12 : 0 < zhN (zset (zset (znew h (60 + n) 2 2 (fun _ => 0)) (60 + n) 0 0 (-1)) (60 + n) 0 1 (-1)) 12 := by rw [zN_set, zN_set, zN_newne (fun z => c12 z.symm), x1]; decide
  have nc : zhN h (60 + n) < zhN (znew h (60 + n) 2 2 (fun _ => 0)) (60 + n) := by rw [zN_new1]; exact Nat.lt_succ_self _
  have lc : zhL (znew h (60 + n) 2 2 (fun _ => 0)) (60 + n) (zhN h (60 + n)) = 2 := zL_new1
  have z0 : ∀ kk : Nat → Option ρ, zix 2 0 kk = kk 0 := fun kk => zix_n (i := 0) (by decide)
  have z1 : ∀ kk : Nat → Option ρ, zix 2 1 kk = kk 1 := fun kk => zix_n (i := 1) (by decide)
  have nc2 : zhN h (60 + n) < zhN (zset (znew h (60 + n) 2 2 (fun _ => 0)) (60 + n) (zhN h (60 + n)) 0 (-1)) (60 + n) := nc
  have lc2 : zhL (zset (znew h (60 + n) 2 2 (fun _ => 0)) (60 + n) (zhN h (60 + n)) 0 (-1)) (60 + n) (zhN h (60 + n)) = 2 := lc
  refine ⟨zset (zset (zset (znew h (60 + n) 2 2 (fun _ => 0)) (60 + n) 0 0 (-1)) (60 + n) 0 1 (-1)) 12 0 F ((zhN h (60 + n) : Nat) : Int), x.add n56 hz (fun c => by rw [zN_set, zN_set, zN_set, zN_new]) (fun c p => by rw [zL_set, zL_set, zL_set, zL_new, hl]) (fun j => ?_) (fun c h1 h2 => ?_) (fun j => ?_) rfl (by rw [zS_set, zS_set, zS_set, zS_new, hl]), fun k => ?_⟩
  · rw [zD_ne c12, zD_set, zD_set, zD_new, hm]
    by_cases h1 : j = 1
    · rw [if_pos ⟨rfl, rfl, h1⟩, if_pos (Or.inr h1)]
    · rw [if_neg (fun z => h1 z.2.2)]
      by_cases h2 : j = 0
      · rw [if_pos ⟨rfl, rfl, h2⟩, if_pos (Or.inl h2)]
      · rw [if_neg (fun z => h2 z.2.2), if_pos ⟨rfl, hc0.symm⟩, if_neg (fun z => z.elim h2 h1)]
  · rw [zD_ne h2, zD_ne h1, zD_ne h1, zD_newne h1]
  · rw [zD_set]
    rw [hF]
    by_cases hj : j = F
    · rw [if_pos ⟨rfl, rfl, hj⟩, hc0, if_pos hj]
      rfl
    · rw [if_neg (fun z => hj z.2.2), if_neg hj, zD_ne (fun z => c12 z.symm), zD_ne (fun z => c12 z.symm), zD_newne (fun z => c12 z.symm)]
  · rw [zix_n (show 2 < 100000 by decide), zlet_d, zob_n nc, lc, z0, zlet_d, zob_n nc2, lc2, z1, zlet_d, hc0, zob_n n12, zlet_d]
theorem ex_row4 (x : MI h0 h n) (n56 : n < 56) (hz : zhN h0 (60 + n) = 0) {c F : Nat} {v : Int} (hc : c = 60 + n) (hl : zml c = 4) (hv : v = ((4 : Nat) : Int)) (hF : fptr n = F) (hm : ∀ j, mrow c j = if j = 0 ∨ j = 1 ∨ j = 2 ∨ j = 3 then -1 else 0) : ∃ h' : zH, MI h0 h' (n + 1) ∧ ∀ k : zH → Option ρ, (zix 100000 v fun n1 => zlet (znew h c n1 n1 (fun _ => 0)) fun h2 => zob h2 c ((zhN h c : Nat) : Int) fun p3 => zix (zhL h2 c p3) 0 fun j4 => zlet (zset h2 c p3 j4 (-1)) fun h5 => zob h5 c ((zhN h c : Nat) : Int) fun p6 => zix (zhL h5 c p6) 1 fun j7 => zlet (zset h5 c p6 j7 (-1)) fun h8 => zob h8 c ((zhN h c : Nat) : Int) fun p9 => zix (zhL h8 c p9) 2 fun j10 => zlet (zset h8 c p9 j10 (-1)) fun h11 => zob h11 c ((zhN h c : Nat) : Int) fun p12 => zix (zhL h11 c p12) 3 fun j13 => zlet (zset h11 c p12 j13 (-1)) fun h14 => zob h14 12 ((0 : Nat) : Int) fun p15 => zlet (zset h14 12 p15 F ((zhN h c : Nat) : Int)) fun h16 => k h16) = k h' := by
  subst hc
  subst hv
  have x' := x
  obtain ⟨x1, x2, x3, x4, x5, x6⟩ := x'
  have hc0 : zhN h (60 + n) = 0 := by rw [(x3 (60 + n) (Or.inr (Nat.le_refl _)) (by omega)).1]; exact hz
  have c12 : (60 + n) ≠ 12 := by omega
  obtain ⟨q, hq⟩ : ∃ q, q = zhN h (60 + n) := ⟨_, rfl⟩
  obtain ⟨a1, ha1⟩ : ∃ a1, a1 = zset (znew h (60 + n) 4 4 (fun _ => 0)) (60 + n) q 0 (-1) := ⟨_, rfl⟩
  obtain ⟨a2, ha2⟩ : ∃ a2, a2 = zset a1 (60 + n) q 1 (-1) := ⟨_, rfl⟩
  obtain ⟨a3, ha3⟩ : ∃ a3, a3 = zset a2 (60 + n) q 2 (-1) := ⟨_, rfl⟩
  obtain ⟨a4, ha4⟩ : ∃ a4, a4 = zset a3 (60 + n) q 3 (-1) := ⟨_, rfl⟩
  have nc : q < zhN (znew h (60 + n) 4 4 (fun _ => 0)) (60 + n) := by rw [zN_new1, hq]; exact Nat.lt_succ_self _
  have lc : zhL (znew h (60 + n) 4 4 (fun _ => 0)) (60 + n) q = 4 := by rw [hq]; exact zL_new1
  have N1 : zhN a1 = zhN (znew h (60 + n) 4 4 (fun _ => 0)) := by rw [ha1]; rfl
  have N2 : zhN a2 = zhN a1 := by rw [ha2]; rfl
  have N3 : zhN a3 = zhN a2 := by rw [ha3]; rfl
  have N4 : zhN a4 = zhN a3 := by rw [ha4]; rfl
  have L1 : zhL a1 = zhL (znew h (60 + n) 4 4 (fun _ => 0)) := by rw [ha1]; rfl
  have L2 : zhL a2 = zhL a1 := by rw [ha2]; rfl
  have L3 : zhL a3 = zhL a2 := by rw [ha3]; rfl
  have L4 : zhL a4 = zhL a3 := by rw [ha4]; rfl
  have n12 : 0 < zhN a4 12 := by rw [N4, N3, N2, N1, zN_newne (fun z => c12 z.symm), x1]; decide
  have z0 : ∀ kk : Nat → Option ρ, zix 4 0 kk = kk 0 := fun kk => zix_n (i := 0) (by decide)
  have z1 : ∀ kk : Nat → Option ρ, zix 4 1 kk = kk 1 := fun kk => zix_n (i := 1) (by decide)
  have z2 : ∀ kk : Nat → Option ρ, zix 4 2 kk = kk 2 := fun kk => zix_n (i := 2) (by decide)
  have z3 : ∀ kk : Nat → Option ρ, zix 4 3 kk = kk 3 := fun kk => zix_n (i := 3) (by decide)
  refine ⟨zset a4 12 0 F ((zhN h (60 + n) : Nat) : Int), x.add n56 hz (fun c => by rw [zN_set, N4, N3, N2, N1, zN_new]) (fun c p => by rw [zL_set, L4, L3, L2, L1, zL_new, hl]) (fun j => ?_) (fun c h1 h2 => ?_) (fun j => ?_) (by rw [zC_set, ha4, ha3, ha2, ha1]; rfl) (by rw [zS_set, ha4, ha3, ha2, ha1, hl]; rfl), fun k => ?_⟩
  · have q0 : q = 0 := by rw [hq]; exact hc0
    rw [zD_ne c12, ha4, zD_set, ha3, zD_set, ha2, zD_set, ha1, zD_set, zD_new, hm, q0]
    by_cases h1 : j = 3
    · rw [if_pos ⟨rfl, rfl, h1⟩, if_pos (by omega)]
    · rw [if_neg (fun z => h1 z.2.2)]
      by_cases h2 : j = 2
      · rw [if_pos ⟨rfl, rfl, h2⟩, if_pos (by omega)]
      · rw [if_neg (fun z => h2 z.2.2)]
        by_cases h3 : j = 1
        · rw [if_pos ⟨rfl, rfl, h3⟩, if_pos (by omega)]
        · rw [if_neg (fun z => h3 z.2.2)]
          by_cases h4 : j = 0
          · rw [if_pos ⟨rfl, rfl, h4⟩, if_pos (by omega)]
          · rw [if_neg (fun z => h4 z.2.2), if_pos ⟨rfl, hc0.symm⟩, if_neg (by omega)]
  · rw [zD_ne h2, ha4, zD_ne h1, ha3, zD_ne h1, ha2, zD_ne h1, ha1, zD_ne h1, zD_newne h1]
  · rw [zD_set]
    rw [hF]
    by_cases hj : j = F
    · rw [if_pos ⟨rfl, rfl, hj⟩, hc0, if_pos hj]
      rfl
    · rw [if_neg (fun z => hj z.2.2), if_neg hj, ha4, zD_ne (fun z => c12 z.symm), ha3, zD_ne (fun z => c12 z.symm), ha2, zD_ne (fun z => c12 z.symm), ha1, zD_ne (fun z => c12 z.symm), zD_newne (fun z => c12 z.symm)]
  · rw [zix_n (show 4 < 100000 by decide), zlet_d, ← hq, zob_n nc, lc, z0, zlet_d, ← ha1, zob_n (show q < zhN a1 (60 + n) by rw [N1]; exact nc), L1, lc, z1, zlet_d, ← ha2, zob_n (show q < zhN a2 (60 + n) by rw [N2, N1]; exact nc), L2, L1, lc, z2, zlet_d, ← ha3, zob_n (show q < zhN a3 (60 + n) by rw [N3, N2, N1]; exact nc), L3, L2, L1, lc, z3, zlet_d, ← ha4, zob_n n12, zlet_d]
theorem mrow_0 {c : Nat} (hc : c ≠ 100 ∧ c ≠ 101 ∧ c ≠ 102) (j : Nat) : mrow c j = 0 := if_neg (fun z => by omega)
theorem mrow_2 {c : Nat} (hc : c = 100 ∨ c = 101) (j : Nat) : mrow c j = if j = 0 ∨ j = 1 then -1 else 0 := by
  unfold mrow
  by_cases h : j = 0 ∨ j = 1
  · rw [if_pos h, if_pos (by omega)]
  · rw [if_neg h, if_neg (by omega)]
theorem mrow_4 (j : Nat) : mrow 102 j = if j = 0 ∨ j = 1 ∨ j = 2 ∨ j = 3 then -1 else 0 := by
  unfold mrow
  by_cases h : j = 0 ∨ j = 1 ∨ j = 2 ∨ j = 3
  · rw [if_pos h, if_pos (by omega)]
  · rw [if_neg h, if_neg (by omega)]
theorem fdef_0 : ∀ j, j < 74 → zmfs.contains j = false → zdef (zft zPP 12 j) = 0 := by decide +kernel
theorem MI.start (hz : zhN h0 12 = 0) : MI h0 (zset (znew h0 12 0 (znf zPP 12) (fun k => zdef (zft zPP 12 k))) 12 0 2 111) 0 := by
  refine ⟨by rw [zN_set, zN_new1, hz], fun c h1 h2 => absurd h1 (by omega), fun c h1 h2 => ⟨by rw [zN_set, zN_newne h2], by rw [zL_set, zL_newne h2], by rw [zD_ne h2, zD_newne h2]⟩, ⟨fun j j1 j2 => ?_, fun i hi => absurd hi (Nat.not_lt_zero _)⟩, rfl, rfl⟩
  rw [zD_set]
  by_cases hj : j = 2
  · rw [if_pos ⟨rfl, rfl, hj⟩, if_pos hj]
  · rw [if_neg (fun z => hj z.2.2), if_neg hj, zD_new, if_pos ⟨rfl, hz.symm⟩]
    exact fdef_0 j j1 j2
theorem mi_446 (hz : ∀ c, 60 ≤ c → zhN h0 c = 0) {h50 : zH} (x50 : MI h0 h50 50) : ∃ hf : zH, MI h0 hf 56 ∧ ∀ kr : Int → zH → Option ρ, M_init_446 kr ((0 : Nat) : Int) h50 = kr 0 hf := by
  obtain ⟨h51, x51, e51⟩ := ex_row (ρ := ρ) x50 (by decide) (hz 110 (by decide)) (c := 110) (len := 64) (F := 68) (v := 64) rfl rfl rfl (by decide) rfl (fun j => mrow_0 (by decide) j)
  obtain ⟨h52, x52, e52⟩ := ex_row (ρ := ρ) x51 (by decide) (hz 111 (by decide)) (c := 111) (len := 16) (F := 69) (v := 16) rfl rfl rfl (by decide) rfl (fun j => mrow_0 (by decide) j)
  obtain ⟨h53, x53, e53⟩ := ex_row (ρ := ρ) x52 (by decide) (hz 112 (by decide)) (c := 112) (len := 128) (F := 70) (v := 128) rfl rfl rfl (by decide) rfl (fun j => mrow_0 (by decide) j)
  obtain ⟨h54, x54, e54⟩ := ex_row (ρ := ρ) x53 (by decide) (hz 113 (by decide)) (c := 113) (len := 16) (F := 71) (v := 16) rfl rfl rfl (by decide) rfl (fun j => mrow_0 (by decide) j)
  obtain ⟨h55, x55, e55⟩ := ex_row (ρ := ρ) x54 (by decide) (hz 114 (by decide)) (c := 114) (len := 16) (F := 72) (v := 16) rfl rfl rfl (by decide) rfl (fun j => mrow_0 (by decide) j)
  obtain ⟨h56, x56, e56⟩ := ex_row (ρ := ρ) x55 (by decide) (hz 115 (by decide)) (c := 115) (len := 16) (F := 73) (v := 16) rfl rfl rfl (by decide) rfl (fun j => mrow_0 (by decide) j)
  refine ⟨h56, x56, fun kr => ?_⟩
  unfold M_init_446
  refine Eq.trans (e51 _) ?_
  refine Eq.trans (e52 _) ?_
  refine Eq.trans (e53 _) ?_
  refine Eq.trans (e54 _) ?_
  refine Eq.trans (e55 _) ?_
  refine Eq.trans (e56 _) ?_
  rfl
theorem mi_363 (hz : ∀ c, 60 ≤ c → zhN h0 c = 0) {h42 : zH} (x42 : MI h0 h42 42) : ∃ hf : zH, MI h0 hf 56 ∧ ∀ kr : Int → zH → Option ρ, M_init_363 kr ((0 : Nat) : Int) h42 = kr 0 hf := by
  obtain ⟨h43, x43, e43⟩ := ex_row4 (ρ := ρ) x42 (by decide) (hz 102 (by decide)) (c := 102) (F := 47) (v := 4) rfl rfl rfl rfl (fun j => mrow_4 j)
  obtain ⟨h44, x44, e44⟩ := ex_row (ρ := ρ) x43 (by decide) (hz 103 (by decide)) (c := 103) (len := 73728) (F := 48) (v := 73728) rfl rfl rfl (by decide) rfl (fun j => mrow_0 (by decide) j)
  obtain ⟨h45, x45, e45⟩ := ex_row (ρ := ρ) x44 (by decide) (hz 104 (by decide)) (c := 104) (len := 73728) (F := 49) (v := 73728) rfl rfl rfl (by decide) rfl (fun j => mrow_0 (by decide) j)
  obtain ⟨h46, x46, e46⟩ := ex_row (ρ := ρ) x45 (by decide) (hz 105 (by decide)) (c := 105) (len := 768) (F := 50) (v := 768) rfl rfl rfl (by decide) rfl (fun j => mrow_0 (by decide) j)
  obtain ⟨h47, x47, e47⟩ := ex_row (ρ := ρ) x46 (by decide) (hz 106 (by decide)) (c := 106) (len := 18432) (F := 51) (v := 18432) rfl rfl rfl (by decide) rfl (fun j => mrow_0 (by decide) j)
  obtain ⟨h48, x48, e48⟩ := ex_row (ρ := ρ) x47 (by decide) (hz 107 (by decide)) (c := 107) (len := 18432) (F := 52) (v := 18432) rfl rfl rfl (by decide) rfl (fun j => mrow_0 (by decide) j)
  obtain ⟨h49, x49, e49⟩ := ex_row (ρ := ρ) x48 (by decide) (hz 108 (by decide)) (c := 108) (len := 1152) (F := 53) (v := 1152) rfl rfl rfl (by decide) rfl (fun j => mrow_0 (by decide) j)
  obtain ⟨h50, x50, e50⟩ := ex_row (ρ := ρ) x49 (by decide) (hz 109 (by decide)) (c := 109) (len := 32) (F := 62) (v := 32) rfl rfl rfl (by decide) rfl (fun j => mrow_0 (by decide) j)
  obtain ⟨hf, xf, ef⟩ := mi_446 (ρ := ρ) hz x50
  refine ⟨hf, xf, fun kr => ?_⟩
  unfold M_init_363
  refine Eq.trans (e43 _) ?_
  refine Eq.trans (e44 _) ?_
  refine Eq.trans (e45 _) ?_
  refine Eq.trans (e46 _) ?_
  refine Eq.trans (e47 _) ?_
  refine Eq.trans (e48 _) ?_
  refine Eq.trans (e49 _) ?_
  refine Eq.trans (e50 _) ?_
  exact ef kr
theorem mi_285 (hz : ∀ c, 60 ≤ c → zhN h0 c = 0) {h34 : zH} (x34 : MI h0 h34 34) : ∃ hf : zH, MI h0 hf 56 ∧ ∀ kr : Int → zH → Option ρ, M_init_285 kr ((0 : Nat) : Int) h34 = kr 0 hf := by
  obtain ⟨h35, x35, e35⟩ := ex_row (ρ := ρ) x34 (by decide) (hz 94 (by decide)) (c := 94) (len := 8) (F := 39) (v := 8) rfl rfl rfl (by decide) rfl (fun j => mrow_0 (by decide) j)
  obtain ⟨h36, x36, e36⟩ := ex_row (ρ := ρ) x35 (by decide) (hz 95 (by decide)) (c := 95) (len := 8) (F := 40) (v := 8) rfl rfl rfl (by decide) rfl (fun j => mrow_0 (by decide) j)
  obtain ⟨h37, x37, e37⟩ := ex_row (ρ := ρ) x36 (by decide) (hz 96 (by decide)) (c := 96) (len := 8) (F := 41) (v := 8) rfl rfl rfl (by decide) rfl (fun j => mrow_0 (by decide) j)
  obtain ⟨h38, x38, e38⟩ := ex_row (ρ := ρ) x37 (by decide) (hz 97 (by decide)) (c := 97) (len := 8) (F := 42) (v := 8) rfl rfl rfl (by decide) rfl (fun j => mrow_0 (by decide) j)
  obtain ⟨h39, x39, e39⟩ := ex_row (ρ := ρ) x38 (by decide) (hz 98 (by decide)) (c := 98) (len := 32) (F := 43) (v := 32) rfl rfl rfl (by decide) rfl (fun j => mrow_0 (by decide) j)
  obtain ⟨h40, x40, e40⟩ := ex_row (ρ := ρ) x39 (by decide) (hz 99 (by decide)) (c := 99) (len := 32) (F := 44) (v := 32) rfl rfl rfl (by decide) rfl (fun j => mrow_0 (by decide) j)
  obtain ⟨h41, x41, e41⟩ := ex_row2 (ρ := ρ) x40 (by decide) (hz 100 (by decide)) (c := 100) (F := 45) (v := 2) rfl rfl rfl rfl (fun j => mrow_2 (by decide) j)
  obtain ⟨h42, x42, e42⟩ := ex_row2 (ρ := ρ) x41 (by decide) (hz 101 (by decide)) (c := 101) (F := 46) (v := 2) rfl rfl rfl rfl (fun j => mrow_2 (by decide) j)
  obtain ⟨hf, xf, ef⟩ := mi_363 (ρ := ρ) hz x42
  refine ⟨hf, xf, fun kr => ?_⟩
  unfold M_init_285
  refine Eq.trans (e35 _) ?_
  refine Eq.trans (e36 _) ?_
  refine Eq.trans (e37 _) ?_
  refine Eq.trans (e38 _) ?_
  refine Eq.trans (e39 _) ?_
  refine Eq.trans (e40 _) ?_
  refine Eq.trans (e41 _) ?_
  refine Eq.trans (e42 _) ?_
  exact ef kr
theorem mi_186 (hz : ∀ c, 60 ≤ c → zhN h0 c = 0) {h22 : zH} (x22 : MI h0 h22 22) : ∃ hf : zH, MI h0 hf 56 ∧ ∀ kr : Int → zH → Option ρ, M_init_186 kr ((0 : Nat) : Int) h22 = kr 0 hf := by
  obtain ⟨h23, x23, e23⟩ := ex_row (ρ := ρ) x22 (by decide) (hz 82 (by decide)) (c := 82) (len := 12) (F := 27) (v := 12) rfl rfl rfl (by decide) rfl (fun j => mrow_0 (by decide) j)
  obtain ⟨h24, x24, e24⟩ := ex_row (ρ := ρ) x23 (by decide) (hz 83 (by decide)) (c := 83) (len := 12) (F := 28) (v := 12) rfl rfl rfl (by decide) rfl (fun j => mrow_0 (by decide) j)
  obtain ⟨h25, x25, e25⟩ := ex_row (ρ := ρ) x24 (by decide) (hz 84 (by decide)) (c := 84) (len := 12) (F := 29) (v := 12) rfl rfl rfl (by decide) rfl (fun j => mrow_0 (by decide) j)
  obtain ⟨h26, x26, e26⟩ := ex_row (ρ := ρ) x25 (by decide) (hz 85 (by decide)) (c := 85) (len := 12) (F := 30) (v := 12) rfl rfl rfl (by decide) rfl (fun j => mrow_0 (by decide) j)
  obtain ⟨h27, x27, e27⟩ := ex_row (ρ := ρ) x26 (by decide) (hz 86 (by decide)) (c := 86) (len := 72) (F := 31) (v := 72) rfl rfl rfl (by decide) rfl (fun j => mrow_0 (by decide) j)
  obtain ⟨h28, x28, e28⟩ := ex_row (ρ := ρ) x27 (by decide) (hz 87 (by decide)) (c := 87) (len := 72) (F := 32) (v := 72) rfl rfl rfl (by decide) rfl (fun j => mrow_0 (by decide) j)
  obtain ⟨h29, x29, e29⟩ := ex_row (ρ := ρ) x28 (by decide) (hz 88 (by decide)) (c := 88) (len := 72) (F := 33) (v := 72) rfl rfl rfl (by decide) rfl (fun j => mrow_0 (by decide) j)
  obtain ⟨h30, x30, e30⟩ := ex_row (ρ := ρ) x29 (by decide) (hz 89 (by decide)) (c := 89) (len := 1152) (F := 34) (v := 1152) rfl rfl rfl (by decide) rfl (fun j => mrow_0 (by decide) j)
  obtain ⟨h31, x31, e31⟩ := ex_row (ρ := ρ) x30 (by decide) (hz 90 (by decide)) (c := 90) (len := 1152) (F := 35) (v := 1152) rfl rfl rfl (by decide) rfl (fun j => mrow_0 (by decide) j)
  obtain ⟨h32, x32, e32⟩ := ex_row (ρ := ρ) x31 (by decide) (hz 91 (by decide)) (c := 91) (len := 9216) (F := 36) (v := 9216) rfl rfl rfl (by decide) rfl (fun j => mrow_0 (by decide) j)
  obtain ⟨h33, x33, e33⟩ := ex_row (ρ := ρ) x32 (by decide) (hz 92 (by decide)) (c := 92) (len := 1152) (F := 37) (v := 1152) rfl rfl rfl (by decide) rfl (fun j => mrow_0 (by decide) j)
  obtain ⟨h34, x34, e34⟩ := ex_row (ρ := ρ) x33 (by decide) (hz 93 (by decide)) (c := 93) (len := 2) (F := 38) (v := 2) rfl rfl rfl (by decide) rfl (fun j => mrow_0 (by decide) j)
  obtain ⟨hf, xf, ef⟩ := mi_285 (ρ := ρ) hz x34
  refine ⟨hf, xf, fun kr => ?_⟩
  unfold M_init_186
  refine Eq.trans (e23 _) ?_
  refine Eq.trans (e24 _) ?_
  refine Eq.trans (e25 _) ?_
  refine Eq.trans (e26 _) ?_
  refine Eq.trans (e27 _) ?_
  refine Eq.trans (e28 _) ?_
  refine Eq.trans (e29 _) ?_
  refine Eq.trans (e30 _) ?_
  refine Eq.trans (e31 _) ?_
  refine Eq.trans (e32 _) ?_
  refine Eq.trans (e33 _) ?_
  refine Eq.trans (e34 _) ?_
  exact ef kr
theorem mi_90 (hz : ∀ c, 60 ≤ c → zhN h0 c = 0) {h10 : zH} (x10 : MI h0 h10 10) : ∃ hf : zH, MI h0 hf 56 ∧ ∀ kr : Int → zH → Option ρ, M_init_90 kr ((0 : Nat) : Int) h10 = kr 0 hf := by
  obtain ⟨h11, x11, e11⟩ := ex_row (ρ := ρ) x10 (by decide) (hz 70 (by decide)) (c := 70) (len := 12) (F := 15) (v := 12) rfl rfl rfl (by decide) rfl (fun j => mrow_0 (by decide) j)
  obtain ⟨h12, x12, e12⟩ := ex_row (ρ := ρ) x11 (by decide) (hz 71 (by decide)) (c := 71) (len := 12) (F := 16) (v := 12) rfl rfl rfl (by decide) rfl (fun j => mrow_0 (by decide) j)
  obtain ⟨h13, x13, e13⟩ := ex_row (ρ := ρ) x12 (by decide) (hz 72 (by decide)) (c := 72) (len := 12) (F := 17) (v := 12) rfl rfl rfl (by decide) rfl (fun j => mrow_0 (by decide) j)
  obtain ⟨h14, x14, e14⟩ := ex_row (ρ := ρ) x13 (by decide) (hz 73 (by decide)) (c := 73) (len := 12) (F := 18) (v := 12) rfl rfl rfl (by decide) rfl (fun j => mrow_0 (by decide) j)
  obtain ⟨h15, x15, e15⟩ := ex_row (ρ := ρ) x14 (by decide) (hz 74 (by decide)) (c := 74) (len := 12) (F := 19) (v := 12) rfl rfl rfl (by decide) rfl (fun j => mrow_0 (by decide) j)
  obtain ⟨h16, x16, e16⟩ := ex_row (ρ := ρ) x15 (by decide) (hz 75 (by decide)) (c := 75) (len := 12) (F := 20) (v := 12) rfl rfl rfl (by decide) rfl (fun j => mrow_0 (by decide) j)
  obtain ⟨h17, x17, e17⟩ := ex_row (ρ := ρ) x16 (by decide) (hz 76 (by decide)) (c := 76) (len := 12) (F := 21) (v := 12) rfl rfl rfl (by decide) rfl (fun j => mrow_0 (by decide) j)
  obtain ⟨h18, x18, e18⟩ := ex_row (ρ := ρ) x17 (by decide) (hz 77 (by decide)) (c := 77) (len := 12) (F := 22) (v := 12) rfl rfl rfl (by decide) rfl (fun j => mrow_0 (by decide) j)
  obtain ⟨h19, x19, e19⟩ := ex_row (ρ := ρ) x18 (by decide) (hz 78 (by decide)) (c := 78) (len := 12) (F := 23) (v := 12) rfl rfl rfl (by decide) rfl (fun j => mrow_0 (by decide) j)
  obtain ⟨h20, x20, e20⟩ := ex_row (ρ := ρ) x19 (by decide) (hz 79 (by decide)) (c := 79) (len := 12) (F := 24) (v := 12) rfl rfl rfl (by decide) rfl (fun j => mrow_0 (by decide) j)
  obtain ⟨h21, x21, e21⟩ := ex_row (ρ := ρ) x20 (by decide) (hz 80 (by decide)) (c := 80) (len := 12) (F := 25) (v := 12) rfl rfl rfl (by decide) rfl (fun j => mrow_0 (by decide) j)
  obtain ⟨h22, x22, e22⟩ := ex_row (ρ := ρ) x21 (by decide) (hz 81 (by decide)) (c := 81) (len := 12) (F := 26) (v := 12) rfl rfl rfl (by decide) rfl (fun j => mrow_0 (by decide) j)
  obtain ⟨hf, xf, ef⟩ := mi_186 (ρ := ρ) hz x22
  refine ⟨hf, xf, fun kr => ?_⟩
  unfold M_init_90
  refine Eq.trans (e11 _) ?_
  refine Eq.trans (e12 _) ?_
  refine Eq.trans (e13 _) ?_
  refine Eq.trans (e14 _) ?_
  refine Eq.trans (e15 _) ?_
  refine Eq.trans (e16 _) ?_
  refine Eq.trans (e17 _) ?_
  refine Eq.trans (e18 _) ?_
  refine Eq.trans (e19 _) ?_
  refine Eq.trans (e20 _) ?_
  refine Eq.trans (e21 _) ?_
  refine Eq.trans (e22 _) ?_
  exact ef kr
/-- the model is made -/
theorem m_init_run (hz : ∀ c, 60 ≤ c → zhN h0 c = 0) (hz12 : zhN h0 12 = 0) : ∃ hf : zH, MI h0 hf 56 ∧ ∀ kr : Int → zH → Option ρ, M_init ((zhN h0 12 : Nat) : Int) (znew h0 12 0 (znf zPP 12) (fun k => zdef (zft zPP 12 k))) kr = kr 0 hf := by
  have x0 := MI.start hz12
  obtain ⟨h1, x1, e1⟩ := ex_row (ρ := ρ) x0 (by decide) (hz 60 (by decide)) (c := 60) (len := 64) (F := 3) (v := 64) rfl rfl rfl (by decide) rfl (fun j => mrow_0 (by decide) j)
  obtain ⟨h2, x2, e2⟩ := ex_row (ρ := ρ) x1 (by decide) (hz 61 (by decide)) (c := 61) (len := 4) (F := 5) (v := 4) rfl rfl rfl (by decide) rfl (fun j => mrow_0 (by decide) j)
  obtain ⟨h3, x3, e3⟩ := ex_row (ρ := ρ) x2 (by decide) (hz 62 (by decide)) (c := 62) (len := 4) (F := 6) (v := 4) rfl rfl rfl (by decide) rfl (fun j => mrow_0 (by decide) j)
  obtain ⟨h4, x4, e4⟩ := ex_row (ρ := ρ) x3 (by decide) (hz 63 (by decide)) (c := 63) (len := 4) (F := 7) (v := 4) rfl rfl rfl (by decide) rfl (fun j => mrow_0 (by decide) j)
  obtain ⟨h5, x5, e5⟩ := ex_row (ρ := ρ) x4 (by decide) (hz 64 (by decide)) (c := 64) (len := 4) (F := 8) (v := 4) rfl rfl rfl (by decide) rfl (fun j => mrow_0 (by decide) j)
  obtain ⟨h6, x6, e6⟩ := ex_row (ρ := ρ) x5 (by decide) (hz 65 (by decide)) (c := 65) (len := 160) (F := 9) (v := 160) rfl rfl rfl (by decide) rfl (fun j => mrow_0 (by decide) j)
  obtain ⟨h7, x7, e7⟩ := ex_row (ρ := ρ) x6 (by decide) (hz 66 (by decide)) (c := 66) (len := 160) (F := 10) (v := 160) rfl rfl rfl (by decide) rfl (fun j => mrow_0 (by decide) j)
  obtain ⟨h8, x8, e8⟩ := ex_row (ρ := ρ) x7 (by decide) (hz 67 (by decide)) (c := 67) (len := 160) (F := 11) (v := 160) rfl rfl rfl (by decide) rfl (fun j => mrow_0 (by decide) j)
  obtain ⟨h9, x9, e9⟩ := ex_row (ρ := ρ) x8 (by decide) (hz 68 (by decide)) (c := 68) (len := 160) (F := 12) (v := 160) rfl rfl rfl (by decide) rfl (fun j => mrow_0 (by decide) j)
  obtain ⟨h10, x10, e10⟩ := ex_row (ρ := ρ) x9 (by decide) (hz 69 (by decide)) (c := 69) (len := 12) (F := 14) (v := 12) rfl rfl rfl (by decide) rfl (fun j => mrow_0 (by decide) j)
  obtain ⟨hf, xf, ef⟩ := mi_90 (ρ := ρ) hz x10
  refine ⟨hf, xf, fun kr => ?_⟩
  have n12 : 0 < zhN (znew h0 12 0 (znf zPP 12) (fun k => zdef (zft zPP 12 k))) 12 := by rw [zN_new1]; exact Nat.succ_pos _
  unfold M_init
  rw [hz12, zob_n n12, zob_n n12, zlet_d]
  refine Eq.trans (e1 _) ?_
  refine Eq.trans (e2 _) ?_
  refine Eq.trans (e3 _) ?_
  refine Eq.trans (e4 _) ?_
  refine Eq.trans (e5 _) ?_
  refine Eq.trans (e6 _) ?_
  refine Eq.trans (e7 _) ?_
  refine Eq.trans (e8 _) ?_
  refine Eq.trans (e9 _) ?_
  refine Eq.trans (e10 _) ?_
  exact ef kr
end
