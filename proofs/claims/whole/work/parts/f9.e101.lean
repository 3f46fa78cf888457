/-! A CALL OF THE LAW -/
/-- the state between two calls -/
def LV (S : Nat → Int) (len : Nat) (h : zH) (K L n : Nat) (N M : Int) : Prop := ∃ (A B : zA) (bc tc gc : Nat → Nat) (m : Int), RR A h K L bc tc gc n B N M ∧ CW A L ∧ (∀ c j, zmk c = true → B c j = au A 12 0 m c j) ∧ (∀ j, B 50 j = S j) ∧ B 53 0 = (len : Int)
/-- some heap stands to these rows -/
def RG (A : zA) (g : zH) : Prop := ∃ (K L : Nat) (bc tc gc : Nat → Nat) (n : Nat) (B : zA) (N M : Int), RR A g K L bc tc gc n B N M
/-- a call on both sides: it answers alike, or fails alike -/
def OP {ρ : Type} (A : zA) (h : zH) (B : zA) (n : Nat) (N M : Int) (X : (Nat → zH → Option ρ) → (Int → zH → Option ρ) → Option ρ) (Mo : zH → (Int → zH → Option ρ) → Option ρ) (cod : Nat → Int → Prop) (kt : Nat → zH → Option ρ) : Prop :=
  (∃ (h' : zH) (A' : zA) (K' L' : Nat) (bc tc gc : Nat → Nat) (v : Int), (∀ kr, X kt kr = kr v h') ∧ (∀ g, g = zset h' 51 0 0 v → (A' = A → RG A g) → ∀ kr, Mo (mh g A) kr = kr v (mh g A')) ∧ RR A' h' K' L' bc tc gc (n + 18500) B (N + 1000) (M + 13000) ∧ CW A' L') ∨
  (∃ (e : Nat) (m w : Int) (h' : zH) (A' : zA) (K' L' : Nat) (bc tc gc : Nat → Nat), cod e m ∧ (∀ kr, X kt kr = kt e h') ∧ (∀ g, g = h' → (A' = A → RG A g) → ∀ kr, Mo (mh g A) kr = kr w (mh g (au A' 12 0 m))) ∧ RR A' h' K' L' bc tc gc (n + 18500) B (N + 1000) (M + 13000) ∧ CW A' L')
section
variable {ρ : Type} {h : zH} {A B : zA} {K L n len a : Nat} {bc tc gc : Nat → Nat} {N M : Int} {S : Nat → Int} {cod : Nat → Int → Prop}
variable {X : (Nat → zH → Option ρ) → (Int → zH → Option ρ) → Option ρ} {Mo : zH → (Int → zH → Option ρ) → Option ρ} {kt : Nat → zH → Option ρ} {K1 : Int → zH → Option ρ} {R bad : zH → Option ρ}
theorem au_zz {A : zA} (h0 : A 12 0 = 0) (c j : Nat) : au A 12 0 0 c j = A c j := by
  unfold au
  by_cases hz : c = 12 ∧ j = 0
  · rw [if_pos hz, hz.1, hz.2, h0]
  · rw [if_neg hz]
theorem au12 {A : zA} {m : Int} {k : Nat} (hk : k ≠ 0) : au A 12 0 m 12 k = A 12 k := if_neg (fun z => hk z.2)
/-- behind the class's call -/
theorem lv_end {h' : zH} {A A' B : zA} {K' L' n' : Nat} {N' M' : Int} {m0 m1 v0 w : Int} (q : RR A' h' K' L' bc tc gc n' B N' M') (cl : CW A' L') (h0 : A 12 0 = 0) (hp : ∀ j, zpt j = true → A 12 j = 0) (hB : ∀ c j, zmk c = true → B c j = au A 12 0 m0 c j) (hS : ∀ j, B 50 j = S j) (hlen : B 53 0 = (len : Int))
    (hMo : ∀ kr, Mo h' kr = Mo (mh h' A) kr) (hM : ∀ g, g = h' → (A' = A → RG A g) → ∀ kr, Mo (mh g A) kr = kr w (mh g (au A' 12 0 m1)))
    (hv : v0 = m1) (hw : m1 = 0 → B 51 0 = w)
    (hK : K1 v0 h' = zmch h' ((0 : Nat) : Int) (Mo h' fun v11 h12 => zob h12 12 ((0 : Nat) : Int) fun _ => zmch h12 ((0 : Nat) : Int) (M_thrown h12 fun v13 h14 => if v13 = v0 then (if v0 = 0 then (zob h14 51 ((0 : Nat) : Int) fun p15 => zix (zhL h14 51 p15) 0 fun j16 => if (zlcmp (zhD h14 51 p15 j16) v11) = 0 then R h14 else bad h14) else R h14) else bad h14))) :
    ∃ h1, K1 v0 h' = R h1 ∧ LV S len h1 K' L' n' N' M' := by
  have q2 := q.mh (A' := au A' 12 0 m1)
  have hz : ∀ k ∈ zmfs, B 12 k = 0 := fun k hk => by
    obtain ⟨k1, k2⟩ := zmfs_pt hk
    rw [hB 12 k rfl, au12 k2]
    exact hp k k1
  have hz2 : ∀ k ∈ zmfs, zBB B (au A' 12 0 m1) 12 k = 0 := fun k hk => by
    obtain ⟨k1, k2⟩ := zmfs_pt hk
    show (if zmk 12 = true then au A' 12 0 m1 12 k else B 12 k) = 0
    refine (if_pos (show zmk 12 = true from rfl)).trans ?_
    rw [au12 k2]
    exact q.rc.2 k k1
  refine ⟨mh h' (au A' 12 0 m1), ?_, A', zBB B (au A' 12 0 m1), bc, tc, gc, m1, q2, cl, fun c j hc => if_pos hc, fun j => (if_neg (by decide)).trans (hS j), (if_neg (by decide)).trans hlen⟩
  rw [hK, zmch1 q.rh hz, hMo, hM h' rfl (fun z => z ▸ ⟨K', L', bc, tc, gc, n', B, N', M', q⟩), z12 q2.rh, zmch1 q2.rh hz2]
  unfold M_thrown
  rw [mh_D (show zmk 12 = true from rfl), au_same, hv]
  refine Eq.trans (if_pos rfl) ?_
  by_cases h1 : m1 = 0
  · refine Eq.trans (if_pos h1) ?_
    rw [z51 q2.rh (Or.inl rfl), mh_cl (show zmk 51 = false from rfl), q.rh.1 51 0 rfl, hw h1, zl_eq, if_pos rfl]
  · exact if_neg h1
/-- a call -/
theorem law_core (v : LV S len h K L n N M) (hP : ∀ A B bc tc gc, RR A h K L bc tc gc n B N M → CW A L → OP A h B n N M X Mo cod kt)
    (hMo : ∀ (g : zH) (A : zA) (m : Int) kr, A 12 0 = 0 → Mo (mh g (au A 12 0 m)) kr = Mo (mh g A) kr)
    (hkt : ∀ e m, cod e m → m ≠ 0 ∧ ∀ hh, kt e hh = K1 m hh)
    (hK : ∀ v0 hX B0, RH hX B0 → (∀ j, B0 50 j = S j) → B0 53 0 = (len : Int) → K1 v0 hX = zmch hX ((0 : Nat) : Int) (Mo hX fun v11 h12 => zob h12 12 ((0 : Nat) : Int) fun _ => zmch h12 ((0 : Nat) : Int) (M_thrown h12 fun v13 h14 => if v13 = v0 then (if v0 = 0 then (zob h14 51 ((0 : Nat) : Int) fun p15 => zix (zhL h14 51 p15) 0 fun j16 => if (zlcmp (zhD h14 51 p15 j16) v11) = 0 then R h14 else bad h14) else R h14) else bad h14))) :
    ∃ h1 K' L', (X kt fun v1 h2 => zob h2 51 ((0 : Nat) : Int) fun p3 => zix (zhL h2 51 p3) 0 fun j4 => zlet (zset h2 51 p3 j4 v1) fun h5 => K1 0 h5) = R h1 ∧ LV S len h1 K' L' (n + 18500) (N + 1000) (M + 13000) := by
  obtain ⟨A, B, bc, tc, gc, m0, q, cl, hB, hS, hlen⟩ := v
  have h0 := q.rc.2 0 rfl
  rcases hP A B bc tc gc q cl with ⟨h', A', K', L', bc', tc', gc', v, hx, hm, q', cl'⟩ | ⟨e, m, w, h', A', K', L', bc', tc', gc', hc, hx, hm, q', cl'⟩
  · have q2 := q'.out (c := 51) (v := v) (Or.inl rfl)
    have hB2 : ∀ c j, zmk c = true → au B 51 0 v c j = au A 12 0 m0 c j := fun c j hc => by
      rw [au_ne (show c ≠ 51 from fun z => by rw [z] at hc; cases hc)]
      exact hB c j hc
    have hS2 : ∀ j, au B 51 0 v 50 j = S j := fun j => by rw [au_ne (by decide)]; exact hS j
    have hl2 : au B 51 0 v 53 0 = (len : Int) := by rw [au_ne (by decide)]; exact hlen
    have own : mh (zset h' 51 0 0 v) (au A 12 0 m0) = zset h' 51 0 0 v := mh_own (fun c j hc => (q2.rh.1 c j (zmk5_of hc)).trans (hB2 c j hc))
    have h0' := q'.rc.2 0 rfl
    obtain ⟨h1, e1, v1⟩ := lv_end (R := R) (bad := bad) (Mo := Mo) (K1 := K1) (v0 := 0) (m1 := 0) (w := v) q2 cl' h0 q.rc.2 hB2 hS2 hl2 (fun kr => by
      conv => lhs; rw [← own]
      exact hMo _ A m0 kr h0) (fun g hg0 hg kr => by
      rw [hm g hg0 hg, show au A' 12 0 0 = A' from funext fun c => funext fun j => au_zz h0' c j]) rfl (fun _ => au_same) (hK 0 _ _ q2.rh hS2 hl2)
    refine ⟨h1, K', L', ?_, v1⟩
    rw [hx, z51 q'.rh (Or.inl rfl), zlet_d]
    exact e1
  · have own : mh h' (au A 12 0 m0) = h' := mh_own (fun c j hc => (q'.rh.1 c j (zmk5_of hc)).trans (hB c j hc))
    obtain ⟨k1, k2⟩ := hkt e m hc
    obtain ⟨h1, e1, v1⟩ := lv_end (R := R) (bad := bad) (Mo := Mo) (K1 := K1) (v0 := m) (m1 := m) (w := w) q' cl' h0 q.rc.2 hB hS hlen (fun kr => by
      conv => lhs; rw [← own]
      exact hMo _ A m0 kr h0) hm rfl (fun z => absurd z k1) (hK m _ _ q'.rh hS hlen)
    refine ⟨h1, K', L', ?_, v1⟩
    rw [hx, k2]
    exact e1
end
