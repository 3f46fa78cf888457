/-! THE START: the heap -/
def g16 (L : Nat) (xs : Nat → Int32) : zH := (fun c => if c = 6 ∨ c = 32 then 16 else y9c45 c, fun c p => if c = 32 ∧ p < 16 then 8 else y9l45 L c p, fun c p j => if c = 30 ∧ p = 0 ∧ j < 16 then (j : Int) else if c = 6 ∧ p < 16 then (if j ≤ 1 then (p : Int) else zdef (zft zPP 6 j)) else y9d45 xs c p j, 21 + 2 * 16, y9s45 + 13 * 16)
def hs1 (L : Nat) (xs : Nat → Int32) : zH := zset (g16 L xs) 0 0 2 ((0 : Nat) : Int)
def hs3 (hf : zH) : zH := znew (znew hf 51 1 1 (fun _ => 0)) 52 1 1 (fun _ => 0)
def sB (L : Nat) (h : zH) : zA := fun c j => if c = 53 then (L : Int) else zhD h c 0 j
theorem y9up_ne {f : Nat → Nat} {k c : Nat} (h : c ≠ k) : y9up f k c = f c := if_neg h
theorem y9c_hi {c : Nat} (h : 53 ≤ c) : y9c45 c = 0 := by
  have z : ∀ k, k < 53 → c ≠ k := fun k hk e => by omega
  have e45 : y9c45 c = y9c43 c := y9up_ne (f := y9c43) (z 31 (by decide))
  have e43 : y9c43 c = y9c41 c := y9up_ne (f := y9c41) (z 30 (by decide))
  have e41 : y9c41 c = y9c39 c := y9up_ne (f := y9c39) (z 29 (by decide))
  have e39 : y9c39 c = y9c37 c := y9up_ne (f := y9c37) (z 28 (by decide))
  have e37 : y9c37 c = y9c36 c := y9up_ne (f := y9c36) (z 5 (by decide))
  have e36 : y9c36 c = y9c32 c := y9up_ne (f := y9c32) (z 25 (by decide))
  have e32 : y9c32 c = y9c30 c := y9up_ne (f := y9c30) (z 24 (by decide))
  have e30 : y9c30 c = y9c27 c := y9up_ne (f := y9c27) (z 4 (by decide))
  have e27 : y9c27 c = y9c21 c := y9up_ne (f := y9c21) (z 27 (by decide))
  have e21 : y9c21 c = y9c19 c := y9up_ne (f := y9c19) (z 26 (by decide))
  have e19 : y9c19 c = y9c18 c := y9up_ne (f := y9c18) (z 3 (by decide))
  have e18 : y9c18 c = y9c13 c := y9up_ne (f := y9c13) (z 27 (by decide))
  have e13 : y9c13 c = y9c11 c := y9up_ne (f := y9c11) (z 26 (by decide))
  have e11 : y9c11 c = y9c10 c := y9up_ne (f := y9c10) (z 3 (by decide))
  have e10 : y9c10 c = y9c9 c := y9up_ne (f := y9c9) (z 23 (by decide))
  have e9 : y9c9 c = y9c7 c := y9up_ne (f := y9c7) (z 22 (by decide))
  have e7 : y9c7 c = y9c6 c := y9up_ne (f := y9c6) (z 2 (by decide))
  have e6 : y9c6 c = y9c3 c := y9up_ne (f := y9c3) (z 21 (by decide))
  have e3 : y9c3 c = y9c1 c := y9up_ne (f := y9c1) (z 20 (by decide))
  have e1 : y9c1 c = y9c0 c := y9up_ne (f := y9c0) (z 1 (by decide))
  have e0 : y9c0 c = 0 := (y9up_ne (f := fun c => if c = 50 then 1 else 0) (z 0 (by decide))).trans (if_neg (z 50 (by decide)))
  rw [e45, e43, e41, e39, e37, e36, e32, e30, e27, e21, e19, e18, e13, e11, e10, e9, e7, e6, e3, e1, e0]
theorem fptr_all : ∀ j, j < 74 → zmfs.contains j = true → zmfs.idxOf j < 56 ∧ fptr (zmfs.idxOf j) = j := by decide +kernel
theorem zmk5_c {c : Nat} (h : zmk5 c = true) : c = 12 ∨ (50 ≤ c ∧ c ≤ 52) ∨ (60 ≤ c ∧ c ≤ 115) := by
  unfold zmk5 at h
  simp only [Bool.or_eq_true, Bool.and_eq_true, Nat.beq_eq, Nat.ble_eq] at h
  omega
section
variable {L : Nat} {xs : Nat → Int32} {g hf : zH}
theorem RI.eq16 (x : RI L xs g 16) : g = g16 L xs := Prod.ext (funext x.1) (Prod.ext (funext fun c => funext (x.2.1 c)) (Prod.ext (funext fun c => funext fun p => funext (x.2.2.1 c p)) (Prod.ext x.2.2.2.1 x.2.2.2.2)))
theorem hs_51 (m : MI (hs1 L xs) hf 56) : zhN hf 51 = 0 := ((m.2.2.1 51 (Or.inl (by decide)) (by decide)).1).trans rfl
theorem hs_52 (m : MI (hs1 L xs) hf 56) : zhN (znew hf 51 1 1 (fun _ => 0)) 52 = 0 := (zN_newne (by decide)).trans (((m.2.2.1 52 (Or.inl (by decide)) (by decide)).1).trans rfl)
theorem hs_N {c : Nat} (h1 : c ≠ 51) (h2 : c ≠ 52) : zhN (hs3 hf) c = zhN hf c := (zN_newne h2).trans (zN_newne h1)
theorem hs_L {c : Nat} (h1 : c ≠ 51) (h2 : c ≠ 52) : zhL (hs3 hf) c = zhL hf c := (zL_newne h2).trans (zL_newne h1)
theorem hs_D {c : Nat} (h1 : c ≠ 51) (h2 : c ≠ 52) : zhD (hs3 hf) c = zhD hf c := (zD_newne h2).trans (zD_newne h1)
theorem hs_oN (m : MI (hs1 L xs) hf 56) {c : Nat} (h1 : c < 51) (h2 : c ≠ 12) : zhN (hs3 hf) c = zhN (hs1 L xs) c := (hs_N (by omega) (by omega)).trans (m.2.2.1 c (Or.inl (by omega)) h2).1
theorem hs_oL (m : MI (hs1 L xs) hf 56) {c : Nat} (h1 : c < 51) (h2 : c ≠ 12) : zhL (hs3 hf) c = zhL (hs1 L xs) c := (hs_L (by omega) (by omega)).trans (m.2.2.1 c (Or.inl (by omega)) h2).2.1
theorem hs_oD (m : MI (hs1 L xs) hf 56) {c : Nat} (h1 : c < 51) (h2 : c ≠ 12) : zhD (hs3 hf) c = zhD (hs1 L xs) c := (hs_D (by omega) (by omega)).trans (m.2.2.1 c (Or.inl (by omega)) h2).2.2
theorem hs_N1 (m : MI (hs1 L xs) hf 56) : zhN (hs3 hf) 51 = 1 := (zN_newne (c := 52) (c' := 51) (by decide)).trans (zN_new1.trans (congrArg Nat.succ (hs_51 m)))
theorem hs_N2 (m : MI (hs1 L xs) hf 56) : zhN (hs3 hf) 52 = 1 := zN_new1.trans (congrArg Nat.succ (hs_52 m))
theorem hs_L1 (m : MI (hs1 L xs) hf 56) : zhL (hs3 hf) 51 0 = 1 := (congrFun (zL_newne (c := 52) (c' := 51) (by decide)) 0).trans ((zL_new (c' := 51) (p' := 0)).trans (if_pos ⟨rfl, (hs_51 m).symm⟩))
theorem hs_L2 (m : MI (hs1 L xs) hf 56) : zhL (hs3 hf) 52 0 = 1 := (zL_new (c' := 52) (p' := 0)).trans (if_pos ⟨rfl, (hs_52 m).symm⟩)
theorem hs_st (m : MI (hs1 L xs) hf 56) : ST L xs (hs3 hf) := ⟨fun c h1 h2 => hs_oN m (by omega) h2, ⟨hs_N1 m, hs_N2 m, hs_L1 m, hs_L2 m⟩, fun c p h1 h2 => congrFun (hs_oL m (by omega) h2) p, fun c p j h1 h2 => congrFun (congrFun (hs_oD m (by omega) h2) p) j⟩
theorem hs_sa (m : MI (hs1 L xs) hf 56) : SA (ma (hs3 hf)) := by
  refine ⟨fun c j h1 h2 => (congrFun (congrFun (hs_D (by omega) (by omega)) 0) j).trans ((m.2.1 c h1 (by omega)).2.2 j), fun j hj => ?_⟩
  refine (congrFun (congrFun (hs_D (c := 12) (by decide) (by decide)) 0) j).trans ?_
  cases hz : zmfs.contains j with
  | false => exact m.2.2.2.1.1 j hj hz
  | true =>
    obtain ⟨i1, i2⟩ := fptr_all j hj hz
    have e := m.2.2.2.1.2 _ i1
    rw [i2] at e
    rw [e, if_neg (fun z => by rw [z] at hz; exact absurd hz (by decide))]
theorem hs_scr (m : MI (hs1 L xs) hf 56) (j : Nat) : zhD (hs3 hf) 50 0 j = (xs j).toInt := (congrFun (congrFun (hs_oD m (c := 50) (by decide) (by decide)) 0) j).trans rfl
theorem hs_rh (m : MI (hs1 L xs) hf 56) : RH (hs3 hf) (sB L (hs3 hf)) := by
  refine ⟨fun c j hc => (if_neg (fun e => by rw [e] at hc; exact absurd hc (by decide))).symm, fun c hc => ?_⟩
  rcases zmk5_c hc with rfl | ⟨c1, c2⟩ | ⟨c1, c2⟩
  · exact ⟨(hs_N (by decide) (by decide)).trans m.1, fun z => absurd rfl z⟩
  · rcases (show c = 50 ∨ c = 51 ∨ c = 52 by omega) with rfl | rfl | rfl
    · refine ⟨(hs_oN m (by decide) (by decide)).trans rfl, fun _ => ?_⟩
      have e : zhL (hs3 hf) 50 0 = L := (congrFun (hs_oL m (c := 50) (by decide) (by decide)) 0).trans rfl
      rw [e, if_pos rfl]
      rfl
    · refine ⟨hs_N1 m, fun _ => ?_⟩
      rw [hs_L1 m, if_neg (by decide), if_pos (Or.inl rfl)]
      rfl
    · refine ⟨hs_N2 m, fun _ => ?_⟩
      rw [hs_L2 m, if_neg (by decide), if_pos (Or.inr rfl)]
      rfl
  · obtain ⟨y1, y2, -⟩ := m.2.1 c c1 (by omega)
    refine ⟨(hs_N (by omega) (by omega)).trans y1, fun _ => ?_⟩
    rw [show zhL (hs3 hf) c 0 = zml c from (congrFun (hs_L (by omega) (by omega)) 0).trans y2, if_neg (by omega), if_neg (by omega)]
theorem hs_C (m : MI (hs1 L xs) hf 56) : zhC (hs3 hf) = 112 := by
  exact (congrArg (fun z => z + 1 + 1) m.2.2.2.2.1).trans rfl
theorem hs_S (m : MI (hs1 L xs) hf 56) : zhS (hs3 hf) ≤ 210000 := by
  show zhS hf + 1 + 1 ≤ 210000
  rw [m.2.2.2.2.2]
  show y9s45 + 13 * 16 + znf zPP 12 + zmS 56 + 1 + 1 ≤ 210000
  decide +kernel
theorem lv_start (m : MI (hs1 L xs) hf 56) : LV (fun j => (xs j).toInt) L (hs3 hf) 0 0 0 112 210000 := by
  have a := hs_sa m
  refine ⟨ma (hs3 hf), sB L (hs3 hf), fun _ => 0, fun _ => 0, fun _ => 0, 0, (hs_st m).rr a (hs_rh m) (by rw [hs_C m]; decide) (by have := hs_S m; omega), a.cw, fun c j hc => ?_, fun j => hs_scr m j, rfl⟩
  have z := au_id (A := ma (hs3 hf)) (c := 12) (j := 0)
  rw [a.f (j := 0) (by decide) (by decide)] at z
  rw [z]
  exact if_neg (fun e => by rw [e] at hc; exact absurd hc (by decide))
theorem zsum_6 {s : Nat → Int} {b : Nat} : ∀ n : Nat, (∀ k, k < n → s (b + k) ≤ 6) → zsum s b n ≤ 6 * (n : Int)
  | 0, _ => Int.le_refl _
  | n + 1, h => by
    have i := zsum_6 (s := s) (b := b) n (fun k hk => h k (by omega))
    have j := h n (by omega)
    show zsum s b n + s (b + n) ≤ 6 * ((n + 1 : Nat) : Int)
    omega
theorem rl_78 {A : zA} {h : zH} {K n : Nat} (r : RL A h K n) : zsum (A 78) 0 12 ≤ 72 ∧ n ≤ 12 := by
  refine ⟨Int.le_trans (zsum_6 12 (fun k hk => ?_)) (by decide), r.2.1⟩
  rw [Nat.zero_add]
  by_cases hl : k < n
  · obtain ⟨-, -, -, -, -, -, -, -, -, -, -, b12, b13, -⟩ := r.l hl
    by_cases e : A 70 k = -1
    · obtain ⟨-, -, -, -, -, -, -, -, -, e78, -⟩ := b13 e
      omega
    · obtain ⟨-, c2, -, -, -, -, -, -, c9, -⟩ := b12 e
      omega
  · obtain ⟨-, -, -, e78, -⟩ := r.2.2.2.2.2 k (by omega) hk
    omega
theorem x_init_16 {kr : Int → zH → Option zRes} : X_init ((0 : Nat) : Int) (hx0 L xs) kr = kr 0 (hs1 L xs) := x_init_run (fun g hg => by rw [hg.eq16]; rfl)
theorem law_all (hL : L ≤ 3072) : ∃ h1 : zH, Lw_law 0 (zh9 L xs) zin = some (.inl (1, h1)) ∧ zhC h1 ≤ 603072 ∧ zhS h1 ≤ 7207018 := by
  obtain ⟨hf, m, em⟩ := m_init_run (ρ := zRes) (h0 := hs1 L xs) (fun c hc => (if_neg (show ¬ (c = 6 ∨ c = 32) by omega)).trans (y9c_hi (by omega))) rfl
  obtain ⟨h1, K1, L1, el, v⟩ := law_loop (kr := zin) (S := fun j => (xs j).toInt) hL (fun j => fb_rngz (xs j)) 512 zN 0 (hs3 hf) 0 0 0 112 210000 (lv_start m) (by omega) (by omega) (by decide) (by omega)
  refine ⟨h1, ?_, ?_⟩
  · have zi : ∀ kk : Nat → Option zRes, zix 100000 1 kk = kk 1 := fun kk => zix_n (i := 1) (by decide)
    have n12 : zhN (hs1 L xs) 12 = 0 := rfl
    unfold Lw_law
    rw [zlet_d, show zhN (zh9 L xs) 0 = 0 from rfl, show znew (zh9 L xs) 0 0 (znf zPP 0) (fun k => zdef (zft zPP 0 k)) = hx0 L xs from rfl, zob_n (i := 0) (show 0 < zhN (hx0 L xs) 0 from Nat.zero_lt_one), x_init_16, zlet_d, zob_new1, em, zi, zlet_d, zi, zlet_d, n12, hs_51 m, hs_52 m]
    unfold Lw_law_28
    exact el
  · obtain ⟨A, B, bc, tc, gc, mm, q, -⟩ := v
    obtain ⟨s1, s2⟩ := rl_78 q.rl
    obtain ⟨r1, r2⟩ := q.rn
    exact ⟨by omega, by omega⟩
end
