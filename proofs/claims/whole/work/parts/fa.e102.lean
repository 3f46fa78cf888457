/-! THE LAW'S CALLS -/
section
variable {ρ : Type} {h : zH} {A B : zA} {K L n len a : Nat} {bc tc gc : Nat → Nat} {N M : Int} {S : Nat → Int} {cod : Nat → Int → Prop}
variable {kt : Nat → zH → Option ρ} {X : (Nat → zH → Option ρ) → (Int → zH → Option ρ) → Option ρ} {Mo : zH → (Int → zH → Option ρ) → Option ρ} {kr : Int → zH → Option ρ} {r28 : Int → Int → Int → Int → Int → Int → zH → Option ρ}
theorem OP.ok {v : Int} (q : RR A h K L bc tc gc n B N M) (cl : CW A L) (hx : ∀ kr, X kt kr = kr v h) (hm : ∀ g (K2 L2 : Nat) (bc2 tc2 gc2 : Nat → Nat) (n2 : Nat) (B2 : zA) (N2 M2 : Int), RR A g K2 L2 bc2 tc2 gc2 n2 B2 N2 M2 → ∀ kr, Mo (mh g A) kr = kr v (mh g A)) : OP A h B n N M X Mo cod kt := Or.inl ⟨h, A, K, L, bc, tc, gc, v, hx, fun g _ hg => by
  obtain ⟨K2, L2, bc2, tc2, gc2, n2, B2, N2, M2, q2⟩ := hg rfl
  exact hm g K2 L2 bc2 tc2 gc2 n2 B2 N2 M2 q2, q.mono (by omega) (by omega) (by omega), cl⟩
theorem OP.no {w m : Int} {e : Nat} (q : RR A h K L bc tc gc n B N M) (cl : CW A L) (hc : cod e m) (hx : ∀ kr, X kt kr = kt e (zthrown h)) (hm : ∀ g (K2 L2 : Nat) (bc2 tc2 gc2 : Nat → Nat) (n2 : Nat) (B2 : zA) (N2 M2 : Int), RR A g K2 L2 bc2 tc2 gc2 n2 B2 N2 M2 → ∀ kr, Mo (mh g A) kr = kr w (mh g (au A 12 0 m))) : OP A h B n N M X Mo cod kt := Or.inr ⟨e, m, w, zthrown h, A, K, L, bc, tc, gc, hc, hx, fun g _ hg => by
  obtain ⟨K2, L2, bc2, tc2, gc2, n2, B2, N2, M2, q2⟩ := hg rfl
  exact hm g K2 L2 bc2 tc2 gc2 n2 B2 N2 M2 q2, q.thr.mono (by omega) (by omega) (by omega), cl⟩
theorem mh_thr0 {g : zH} {m : Int} (h0 : A 12 0 = 0) : zset (mh g (au A 12 0 m)) 12 0 0 0 = zset (mh g A) 12 0 0 0 := by
  rw [mh_set rfl, mh_set rfl]
  refine congrArg (fun X9 : zA => mh g X9) (funext fun c => funext fun j => ?_)
  unfold au
  by_cases hz : c = 12 ∧ j = 0
  · rw [if_pos hz, if_pos hz]
  · rw [if_neg hz, if_neg hz, if_neg hz]
theorem op_fits (q : RR A h K L bc tc gc n B N M) (cl : CW A L) {k t : Int} : OP (ρ := ρ) A h B n N M (fun kt kr => X_fits 0 k t h kt kr) (fun g kr => M_fits k t g kr) (fun (e : Nat) (m : Int) => (e = 3 ∧ m = 1) ∨ (e = 1 ∧ m = 2)) kt := by
  by_cases h1 : zwi k 0 (A 12 4 - 1) = true
  · by_cases h2 : zwi t 1 16 = true
    · exact OP.ok q cl (fun kr => (x_fits q.rs q.rk).trans (by rw [if_pos h1, if_pos h2])) (fun g K2 L2 bc2 tc2 gc2 n2 B2 N2 M2 q2 kr => (m_fits (K := K) q.rk.1 q.rk.2.1 (fun k hk => ⟨(q.rk.2.2.2.2.1 k hk).2.1, (q.rk.2.2.2.2.1 k hk).2.2.1, (q.rk.2.2.2.2.1 k hk).2.2.2.1, (q.rk.2.2.2.2.1 k hk).2.2.2.2.1⟩)).trans (by rw [if_pos h1, if_pos h2, q.a0]))
    · exact OP.no q cl (Or.inr (⟨rfl, rfl⟩)) (fun kr => (x_fits q.rs q.rk).trans (by rw [if_pos h1, if_neg h2])) (fun g K2 L2 bc2 tc2 gc2 n2 B2 N2 M2 q2 kr => (m_fits (K := K) q.rk.1 q.rk.2.1 (fun k hk => ⟨(q.rk.2.2.2.2.1 k hk).2.1, (q.rk.2.2.2.2.1 k hk).2.2.1, (q.rk.2.2.2.2.1 k hk).2.2.2.1, (q.rk.2.2.2.2.1 k hk).2.2.2.2.1⟩)).trans (by rw [if_pos h1, if_neg h2]))
  · exact OP.no q cl (Or.inl ⟨rfl, rfl⟩) (fun kr => (x_fits q.rs q.rk).trans (by rw [if_neg h1])) (fun g K2 L2 bc2 tc2 gc2 n2 B2 N2 M2 q2 kr => (m_fits (K := K) q.rk.1 q.rk.2.1 (fun k hk => ⟨(q.rk.2.2.2.2.1 k hk).2.1, (q.rk.2.2.2.2.1 k hk).2.2.1, (q.rk.2.2.2.2.1 k hk).2.2.2.1, (q.rk.2.2.2.2.1 k hk).2.2.2.2.1⟩)).trans (by rw [if_neg h1]))
theorem op_peek (q : RR A h K L bc tc gc n B N M) (cl : CW A L) {p : Int} : OP (ρ := ρ) A h B n N M (fun kt kr => X_peek 0 p h kt kr) (fun g kr => M_peek p g kr) (fun (e : Nat) (m : Int) => (e = 3 ∧ m = 1)) kt := by
  by_cases h1 : zwi p 0 63 = true
  · have r60 := q.rm.1 p.toNat (by have := zwi_t h1; omega)
    exact OP.ok q cl (fun kr => (x_peek q.rs).trans (by rw [if_pos h1, r60])) (fun g K2 L2 bc2 tc2 gc2 n2 B2 N2 M2 q2 kr => m_peek.trans (by rw [if_pos h1, q.a0]))
  · exact OP.no q cl (⟨rfl, rfl⟩) (fun kr => (x_peek q.rs).trans (by rw [if_neg h1])) (fun g K2 L2 bc2 tc2 gc2 n2 B2 N2 M2 q2 kr => m_peek.trans (by rw [if_neg h1]))
theorem op_state (q : RR A h K L bc tc gc n B N M) (cl : CW A L) {l : Int} : OP (ρ := ρ) A h B n N M (fun kt kr => X_state 0 l h kt kr) (fun g kr => M_state l g kr) (fun (e : Nat) (m : Int) => (e = 3 ∧ m = 1)) kt := by
  by_cases h1 : zwi l 0 (A 12 13 - 1) = true
  · exact OP.ok q cl (fun kr => (x_state q.rs q.rl).trans (by rw [if_pos h1])) (fun g K2 L2 bc2 tc2 gc2 n2 B2 N2 M2 q2 kr => (m_state q.rl).trans (by rw [if_pos h1, q.a0]))
  · exact OP.no q cl (⟨rfl, rfl⟩) (fun kr => (x_state q.rs q.rl).trans (by rw [if_neg h1])) (fun g K2 L2 bc2 tc2 gc2 n2 B2 N2 M2 q2 kr => (m_state q.rl).trans (by rw [if_neg h1]))
theorem op_parent (q : RR A h K L bc tc gc n B N M) (cl : CW A L) {l : Int} : OP (ρ := ρ) A h B n N M (fun kt kr => X_parent 0 l h kt kr) (fun g kr => M_parent l g kr) (fun (e : Nat) (m : Int) => (e = 3 ∧ m = 1) ∨ (e = 5 ∧ m = 2)) kt := by
  by_cases h1 : zwi l 0 (A 12 13 - 1) = true
  · by_cases h2 : A 76 l.toNat = -1
    · exact OP.no q cl (Or.inr (⟨rfl, rfl⟩)) (fun kr => (x_parent q.rs q.rl).trans (by rw [if_pos h1, if_pos h2])) (fun g K2 L2 bc2 tc2 gc2 n2 B2 N2 M2 q2 kr => (m_parent q.rl).trans (by rw [if_pos h1, if_pos h2]))
    · exact OP.ok q cl (fun kr => (x_parent q.rs q.rl).trans (by rw [if_pos h1, if_neg h2])) (fun g K2 L2 bc2 tc2 gc2 n2 B2 N2 M2 q2 kr => (m_parent q.rl).trans (by rw [if_pos h1, if_neg h2, q.a0]))
  · exact OP.no q cl (Or.inl ⟨rfl, rfl⟩) (fun kr => (x_parent q.rs q.rl).trans (by rw [if_neg h1])) (fun g K2 L2 bc2 tc2 gc2 n2 B2 N2 M2 q2 kr => (m_parent q.rl).trans (by rw [if_neg h1]))
theorem op_given (q : RR A h K L bc tc gc n B N M) (cl : CW A L) {l : Int} : OP (ρ := ρ) A h B n N M (fun kt kr => X_given 0 l h kt kr) (fun g kr => M_given l g kr) (fun (e : Nat) (m : Int) => (e = 3 ∧ m = 1)) kt := by
  by_cases h1 : zwi l 0 (A 12 13 - 1) = true
  · exact OP.ok q cl (fun kr => (x_given q.rs q.rl).trans (by rw [if_pos h1])) (fun g K2 L2 bc2 tc2 gc2 n2 B2 N2 M2 q2 kr => (m_given q.rl).trans (by rw [if_pos h1, q.a0]))
  · exact OP.no q cl (⟨rfl, rfl⟩) (fun kr => (x_given q.rs q.rl).trans (by rw [if_neg h1])) (fun g K2 L2 bc2 tc2 gc2 n2 B2 N2 M2 q2 kr => (m_given q.rl).trans (by rw [if_neg h1]))
theorem op_groups (q : RR A h K L bc tc gc n B N M) (cl : CW A L) {u : Int} : OP (ρ := ρ) A h B n N M (fun kt kr => X_groups 0 u h kt kr) (fun g kr => M_groups u g kr) (fun (e : Nat) (m : Int) => (e = 3 ∧ m = 1)) kt := by
  by_cases h1 : zwi u 0 1 = true
  · exact OP.ok q cl (fun kr => (x_groups q).trans (by rw [if_pos h1])) (fun g K2 L2 bc2 tc2 gc2 n2 B2 N2 M2 q2 kr => (m_groups q2).trans (by rw [if_pos h1, q.a0]))
  · exact OP.no q cl (⟨rfl, rfl⟩) (fun kr => (x_groups q).trans (by rw [if_neg h1])) (fun g K2 L2 bc2 tc2 gc2 n2 B2 N2 M2 q2 kr => (m_groups q2).trans (by rw [if_neg h1]))
theorem op_threadAt (q : RR A h K L bc tc gc n B N M) (cl : CW A L) {u i : Int} : OP (ρ := ρ) A h B n N M (fun kt kr => X_threadAt 0 u i h kt kr) (fun g kr => M_threadAt u i g kr) (fun (e : Nat) (m : Int) => (e = 3 ∧ m = 1)) kt := by
  by_cases h1 : yin A u i = true
  · exact OP.ok q cl (fun kr => (x_threadAt q).trans (by rw [if_pos h1])) (fun g K2 L2 bc2 tc2 gc2 n2 B2 N2 M2 q2 kr => (m_threadAt q2).trans (by rw [if_pos h1, q.a0]))
  · exact OP.no q cl (⟨rfl, rfl⟩) (fun kr => (x_threadAt q).trans (by rw [if_neg h1])) (fun g K2 L2 bc2 tc2 gc2 n2 B2 N2 M2 q2 kr => (m_threadAt q2).trans (by rw [if_neg h1]))
theorem op_place (q : RR A h K L bc tc gc n B N M) (cl : CW A L) {u i : Int} : OP (ρ := ρ) A h B n N M (fun kt kr => X_place 0 u i h kt kr) (fun g kr => M_place u i g kr) (fun (e : Nat) (m : Int) => (e = 3 ∧ m = 1) ∨ (e = 5 ∧ m = 2)) kt := by
  by_cases h1 : yin A u i = true
  · by_cases h2 : zlm (mpl A (yb A u i) (yj A u i)) 4 = -1
    · exact OP.no q cl (Or.inr (⟨rfl, rfl⟩)) (fun kr => (x_place q).trans (by rw [if_pos h1, if_pos h2])) (fun g K2 L2 bc2 tc2 gc2 n2 B2 N2 M2 q2 kr => (m_place q2).trans (by rw [if_pos h1, if_pos h2]))
    · exact OP.ok q cl (fun kr => (x_place q).trans (by rw [if_pos h1, if_neg h2])) (fun g K2 L2 bc2 tc2 gc2 n2 B2 N2 M2 q2 kr => (m_place q2).trans (by rw [if_pos h1, if_neg h2, q.a0]))
  · exact OP.no q cl (Or.inl ⟨rfl, rfl⟩) (fun kr => (x_place q).trans (by rw [if_neg h1])) (fun g K2 L2 bc2 tc2 gc2 n2 B2 N2 M2 q2 kr => (m_place q2).trans (by rw [if_neg h1]))
theorem op_mask (q : RR A h K L bc tc gc n B N M) (cl : CW A L) {u i : Int} : OP (ρ := ρ) A h B n N M (fun kt kr => X_mask 0 u i h kt kr) (fun g kr => M_mask u i g kr) (fun (e : Nat) (m : Int) => (e = 3 ∧ m = 1)) kt := by
  by_cases h1 : yin A u i = true
  · exact OP.ok q cl (fun kr => (x_mask q).trans (by rw [if_pos h1])) (fun g K2 L2 bc2 tc2 gc2 n2 B2 N2 M2 q2 kr => (m_mask q2).trans (by rw [if_pos h1, q.a0]))
  · exact OP.no q cl (⟨rfl, rfl⟩) (fun kr => (x_mask q).trans (by rw [if_neg h1])) (fun g K2 L2 bc2 tc2 gc2 n2 B2 N2 M2 q2 kr => (m_mask q2).trans (by rw [if_neg h1]))
theorem op_places (q : RR A h K L bc tc gc n B N M) (cl : CW A L) {u i : Int} : OP (ρ := ρ) A h B n N M (fun kt kr => X_places 0 u i h kt kr) (fun g kr => M_places u i g kr) (fun (e : Nat) (m : Int) => (e = 3 ∧ m = 1)) kt := by
  by_cases h1 : yin A u i = true
  · exact OP.ok q cl (fun kr => (x_places q).trans (by rw [if_pos h1])) (fun g K2 L2 bc2 tc2 gc2 n2 B2 N2 M2 q2 kr => (m_places q2).trans (by rw [if_pos h1, q.a0]))
  · exact OP.no q cl (⟨rfl, rfl⟩) (fun kr => (x_places q).trans (by rw [if_neg h1])) (fun g K2 L2 bc2 tc2 gc2 n2 B2 N2 M2 q2 kr => (m_places q2).trans (by rw [if_neg h1]))
theorem op_reason (q : RR A h K L bc tc gc n B N M) (cl : CW A L) {u i : Int} : OP (ρ := ρ) A h B n N M (fun kt kr => X_reason 0 u i h kt kr) (fun g kr => M_reason u i g kr) (fun (e : Nat) (m : Int) => (e = 3 ∧ m = 1)) kt := by
  by_cases h1 : yin A u i = true
  · exact OP.ok q cl (fun kr => (x_reason q).trans (by rw [if_pos h1])) (fun g K2 L2 bc2 tc2 gc2 n2 B2 N2 M2 q2 kr => (m_reason q2).trans (by rw [if_pos h1, q.a0]))
  · exact OP.no q cl (⟨rfl, rfl⟩) (fun kr => (x_reason q).trans (by rw [if_neg h1])) (fun g K2 L2 bc2 tc2 gc2 n2 B2 N2 M2 q2 kr => (m_reason q2).trans (by rw [if_neg h1]))
theorem op_register (q : RR A h K L bc tc gc n B N M) (cl : CW A L) {u i l r : Int} : OP (ρ := ρ) A h B n N M (fun kt kr => X_register 0 u i l r h kt kr) (fun g kr => M_register u i l r g kr) (fun (e : Nat) (m : Int) => (e = 3 ∧ m = 1)) kt := by
  by_cases h1 : yin A u i = true
  · by_cases h2 : zwi l 0 3 = true ∧ ((4 * yj A u i + l.toNat : Nat) : Int) < A 73 (yb A u i / 6) ∧ zwi r 0 (A 61 (A 70 (yb A u i / 6)).toNat - 1) = true
    · exact OP.ok q cl (fun kr => (x_register q).trans (by rw [if_pos h1, if_pos h2])) (fun g K2 L2 bc2 tc2 gc2 n2 B2 N2 M2 q2 kr => (m_register q2).trans (by rw [if_pos h1, if_pos h2, q.a0]))
    · exact OP.no q cl (⟨rfl, rfl⟩) (fun kr => (x_register q).trans (by rw [if_pos h1, if_neg h2])) (fun g K2 L2 bc2 tc2 gc2 n2 B2 N2 M2 q2 kr => (m_register q2).trans (by rw [if_pos h1, if_neg h2]))
  · exact OP.no q cl (⟨rfl, rfl⟩) (fun kr => (x_register q).trans (by rw [if_neg h1])) (fun g K2 L2 bc2 tc2 gc2 n2 B2 N2 M2 q2 kr => (m_register q2).trans (by rw [if_neg h1]))
theorem op_shared (q : RR A h K L bc tc gc n B N M) (cl : CW A L) {u i c : Int} : OP (ρ := ρ) A h B n N M (fun kt kr => X_shared 0 u i c h kt kr) (fun g kr => M_shared u i c g kr) (fun (e : Nat) (m : Int) => (e = 3 ∧ m = 1)) kt := by
  by_cases h1 : yin A u i = true
  · by_cases h2 : zwi c 0 (A 62 (A 70 (yb A u i / 6)).toNat - 1) = true
    · exact OP.ok q cl (fun kr => (x_shared q).trans (by rw [if_pos h1, if_pos h2])) (fun g K2 L2 bc2 tc2 gc2 n2 B2 N2 M2 q2 kr => (m_shared q2).trans (by rw [if_pos h1, if_pos h2, q.a0]))
    · exact OP.no q cl (⟨rfl, rfl⟩) (fun kr => (x_shared q).trans (by rw [if_pos h1, if_neg h2])) (fun g K2 L2 bc2 tc2 gc2 n2 B2 N2 M2 q2 kr => (m_shared q2).trans (by rw [if_pos h1, if_neg h2]))
  · exact OP.no q cl (⟨rfl, rfl⟩) (fun kr => (x_shared q).trans (by rw [if_neg h1])) (fun g K2 L2 bc2 tc2 gc2 n2 B2 N2 M2 q2 kr => (m_shared q2).trans (by rw [if_neg h1]))
theorem op_buffered (q : RR A h K L bc tc gc n B N M) (cl : CW A L) {u i : Int} : OP (ρ := ρ) A h B n N M (fun kt kr => X_buffered 0 u i h kt kr) (fun g kr => M_buffered u i g kr) (fun (e : Nat) (m : Int) => (e = 3 ∧ m = 1)) kt := by
  by_cases h1 : yin A u i = true
  · exact OP.ok q cl (fun kr => (x_buffered q).trans (by rw [if_pos h1])) (fun g K2 L2 bc2 tc2 gc2 n2 B2 N2 M2 q2 kr => (m_buffered q2).trans (by rw [if_pos h1, q.a0]))
  · exact OP.no q cl (⟨rfl, rfl⟩) (fun kr => (x_buffered q).trans (by rw [if_neg h1])) (fun g K2 L2 bc2 tc2 gc2 n2 B2 N2 M2 q2 kr => (m_buffered q2).trans (by rw [if_neg h1]))
theorem op_fault (q : RR A h K L bc tc gc n B N M) (cl : CW A L) {l : Int} : OP (ρ := ρ) A h B n N M (fun kt kr => X_fault 0 l h kt kr) (fun g kr => M_fault l g kr) (fun (e : Nat) (m : Int) => (e = 3 ∧ m = 1) ∨ (e = 5 ∧ m = 2)) kt := by
  by_cases h1 : zwi l 0 (A 12 13 - 1) = true
  · by_cases h2 : A 69 l.toNat = 102
    · exact OP.ok q cl (fun kr => (x_fault q.rs q.rl).trans (by rw [if_pos h1, if_pos h2])) (fun g K2 L2 bc2 tc2 gc2 n2 B2 N2 M2 q2 kr => (m_fault q.rl).trans (by rw [if_pos h1, if_pos h2, q.a0]))
    · exact OP.no q cl (Or.inr (⟨rfl, rfl⟩)) (fun kr => (x_fault q.rs q.rl).trans (by rw [if_pos h1, if_neg h2])) (fun g K2 L2 bc2 tc2 gc2 n2 B2 N2 M2 q2 kr => (m_fault q.rl).trans (by rw [if_pos h1, if_neg h2]))
  · exact OP.no q cl (Or.inl ⟨rfl, rfl⟩) (fun kr => (x_fault q.rs q.rl).trans (by rw [if_neg h1])) (fun g K2 L2 bc2 tc2 gc2 n2 B2 N2 M2 q2 kr => (m_fault q.rl).trans (by rw [if_neg h1]))
theorem op_races (q : RR A h K L bc tc gc n B N M) (cl : CW A L) {l : Int} : OP (ρ := ρ) A h B n N M (fun kt kr => X_races 0 l h kt kr) (fun g kr => M_races l g kr) (fun (e : Nat) (m : Int) => (e = 3 ∧ m = 1)) kt := by
  by_cases h1 : zwi l 0 ((L : Int) - 1) = true
  · exact OP.ok q cl (fun kr => (x_races q).trans (by rw [if_pos h1])) (fun g K2 L2 bc2 tc2 gc2 n2 B2 N2 M2 q2 kr => (m_races q).trans (by rw [if_pos h1]))
  · exact OP.no q cl (⟨rfl, rfl⟩) (fun kr => (x_races q).trans (by rw [if_neg h1])) (fun g K2 L2 bc2 tc2 gc2 n2 B2 N2 M2 q2 kr => (m_races q).trans (by rw [if_neg h1]))
theorem op_faultAt (q : RR A h K L bc tc gc n B N M) (cl : CW A L) {l : Int} : OP (ρ := ρ) A h B n N M (fun kt kr => X_faultAt 0 l h kt kr) (fun g kr => M_faultAt l g kr) (fun (e : Nat) (m : Int) => (e = 3 ∧ m = 1) ∨ (e = 5 ∧ m = 2)) kt := by
  by_cases h1 : zwi l 0 (A 12 13 - 1) = true
  · by_cases h2 : A 69 l.toNat = 102
    · exact OP.ok q cl (fun kr => (x_faultAt q.rs q.rl).trans (by rw [if_pos h1, if_pos h2])) (fun g K2 L2 bc2 tc2 gc2 n2 B2 N2 M2 q2 kr => (m_faultAt q.rl).trans (by rw [if_pos h1, if_pos h2, q.a0]))
    · exact OP.no q cl (Or.inr (⟨rfl, rfl⟩)) (fun kr => (x_faultAt q.rs q.rl).trans (by rw [if_pos h1, if_neg h2])) (fun g K2 L2 bc2 tc2 gc2 n2 B2 N2 M2 q2 kr => (m_faultAt q.rl).trans (by rw [if_pos h1, if_neg h2]))
  · exact OP.no q cl (Or.inl ⟨rfl, rfl⟩) (fun kr => (x_faultAt q.rs q.rl).trans (by rw [if_neg h1])) (fun g K2 L2 bc2 tc2 gc2 n2 B2 N2 M2 q2 kr => (m_faultAt q.rl).trans (by rw [if_neg h1]))
theorem law_fits (v : LV S len h K L n N M) (ha : a + 5 < len) (hl : len ≤ 3072) (hSi : ∀ j, zir (S j)) : ∃ (h1 : zH) (K1 L1 : Nat), Lw_law_382 kr r28 ((0 : Nat) : Int) ((0 : Nat) : Int) ((0 : Nat) : Int) ((0 : Nat) : Int) ((0 : Nat) : Int) (a : Int) h = r28 ((0 : Nat) : Int) ((0 : Nat) : Int) ((0 : Nat) : Int) ((0 : Nat) : Int) ((0 : Nat) : Int) (wr ((a : Int) + 6)) h1 ∧ LV S len h1 K1 L1 (n + 18500) (N + 1000) (M + 13000) := by
  obtain ⟨A0, B0, bc0, tc0, gc0, m0, q, cl, hB, hS, hlen⟩ := id v
  obtain ⟨KF, hKF⟩ : ∃ KF : Int → zH → Option ρ, KF = (fun v5 h6 => zob h6 50 ((0 : Nat) : Int) fun p7 =>
    zix (zhL h6 50 p7) (wr ((a : Int) + 1)) fun j8 =>
    zob h6 50 ((0 : Nat) : Int) fun p9 =>
    zix (zhL h6 50 p9) (wr ((a : Int) + 2)) fun j10 =>
    zob h6 12 ((0 : Nat) : Int) fun _ =>
    zmch h6 ((0 : Nat) : Int) (M_fits (zhD h6 50 p7 j8) (zhD h6 50 p9 j10) h6  fun v11 h12 =>
    zob h12 12 ((0 : Nat) : Int) fun _ =>
    zmch h12 ((0 : Nat) : Int) (M_thrown h12  fun v13 h14 =>
    if v13 = v5 then (if v5 = 0 then (zob h14 51 ((0 : Nat) : Int) fun p15 =>
    zix (zhL h14 51 p15) 0 fun j16 =>
    if (zlcmp (zhD h14 51 p15 j16) v11) = 0 then Lw_law_447 kr r28 ((0 : Nat) : Int) ((0 : Nat) : Int) ((0 : Nat) : Int) ((0 : Nat) : Int) ((0 : Nat) : Int) (a : Int) h14
    else kr 0 h14)
    else Lw_law_447 kr r28 ((0 : Nat) : Int) ((0 : Nat) : Int) ((0 : Nat) : Int) ((0 : Nat) : Int) ((0 : Nat) : Int) (a : Int) h14)
    else kr 0 h14))) := ⟨_, rfl⟩
  have core := law_core (cod := fun (e : Nat) (m : Int) => (e = 3 ∧ m = 1) ∨ (e = 1 ∧ m = 2)) (X := fun kt kr => X_fits 0 (S (a + 1)) (S (a + 2)) h kt kr) (Mo := fun g kr => M_fits (S (a + 1)) (S (a + 2)) g kr) (kt := (fun n h6 => if n = 3 then KF 1 h6 else if n = 1 then KF 2 h6 else none)) (K1 := KF) (R := fun hh => Lw_law_447 kr r28 ((0 : Nat) : Int) ((0 : Nat) : Int) ((0 : Nat) : Int) ((0 : Nat) : Int) ((0 : Nat) : Int) (a : Int) hh) (bad := fun hh => kr 0 hh) v (fun A B bc tc gc q cl => op_fits q cl) (fun g A m kr h0 => by
    show M_fits (S (a + 1)) (S (a + 2)) (mh g (au A 12 0 m)) kr = M_fits (S (a + 1)) (S (a + 2)) (mh g A) kr
    unfold M_fits
    rw [mh_thr0 h0]) (fun e m hc => by
    rcases hc with ⟨rfl, rfl⟩ | ⟨rfl, rfl⟩
    · exact ⟨by decide, fun hh => rfl⟩
    · exact ⟨by decide, fun hh => rfl⟩) (fun v0 hX B1 qX sX lX => by
    rw [hKF]
    show (zob hX 50 ((0 : Nat) : Int) fun p7 =>
    zix (zhL hX 50 p7) (wr ((a : Int) + 1)) fun j8 =>
    zob hX 50 ((0 : Nat) : Int) fun p9 =>
    zix (zhL hX 50 p9) (wr ((a : Int) + 2)) fun j10 =>
    zob hX 12 ((0 : Nat) : Int) fun _ =>
    zmch hX ((0 : Nat) : Int) (M_fits (zhD hX 50 p7 j8) (zhD hX 50 p9 j10) hX  fun v11 h12 =>
    zob h12 12 ((0 : Nat) : Int) fun _ =>
    zmch h12 ((0 : Nat) : Int) (M_thrown h12  fun v13 h14 =>
    if v13 = v0 then (if v0 = 0 then (zob h14 51 ((0 : Nat) : Int) fun p15 =>
    zix (zhL h14 51 p15) 0 fun j16 =>
    if (zlcmp (zhD h14 51 p15 j16) v11) = 0 then Lw_law_447 kr r28 ((0 : Nat) : Int) ((0 : Nat) : Int) ((0 : Nat) : Int) ((0 : Nat) : Int) ((0 : Nat) : Int) (a : Int) h14
    else kr 0 h14)
    else Lw_law_447 kr r28 ((0 : Nat) : Int) ((0 : Nat) : Int) ((0 : Nat) : Int) ((0 : Nat) : Int) ((0 : Nat) : Int) (a : Int) h14)
    else kr 0 h14))) = _
    refine Eq.trans (z50 qX lX (i := 1) (by omega) hl) ?_
    refine Eq.trans (z50 qX lX (i := 2) (by omega) hl) ?_
    refine Eq.trans (z12 qX) ?_
    rw [qX.1 50 (a + 1) rfl, sX, qX.1 50 (a + 2) rfl, sX])
  obtain ⟨h1, K1, L1, e, v1⟩ := core
  refine ⟨h1, K1, L1, ?_, v1⟩
  rw [hKF] at e
  unfold Lw_law_382
  refine Eq.trans (z50 q.rh hlen (i := 1) (by omega) hl) ?_
  refine Eq.trans (z50 q.rh hlen (i := 2) (by omega) hl) ?_
  unfold Lw_fits
  refine Eq.trans (zob_n (show 0 < zhN h 0 by rw [q.rs.N0]; decide)) ?_
  rw [q.rh.1 50 (a + 1) rfl, hS, q.rh.1 50 (a + 2) rfl, hS]
  exact e
theorem law_peek (v : LV S len h K L n N M) (ha : a + 5 < len) (hl : len ≤ 3072) (hSi : ∀ j, zir (S j)) : ∃ (h1 : zH) (K1 L1 : Nat), Lw_law_518 kr r28 ((0 : Nat) : Int) ((0 : Nat) : Int) ((0 : Nat) : Int) ((0 : Nat) : Int) ((0 : Nat) : Int) (a : Int) h = r28 ((0 : Nat) : Int) ((0 : Nat) : Int) ((0 : Nat) : Int) ((0 : Nat) : Int) ((0 : Nat) : Int) (wr ((a : Int) + 6)) h1 ∧ LV S len h1 K1 L1 (n + 18500) (N + 1000) (M + 13000) := by
  obtain ⟨A0, B0, bc0, tc0, gc0, m0, q, cl, hB, hS, hlen⟩ := id v
  obtain ⟨KF, hKF⟩ : ∃ KF : Int → zH → Option ρ, KF = (fun v3 h4 => zob h4 50 ((0 : Nat) : Int) fun p5 =>
    zix (zhL h4 50 p5) (wr ((a : Int) + 1)) fun j6 =>
    zob h4 12 ((0 : Nat) : Int) fun _ =>
    zmch h4 ((0 : Nat) : Int) (M_peek (zhD h4 50 p5 j6) h4  fun v7 h8 =>
    zob h8 12 ((0 : Nat) : Int) fun _ =>
    zmch h8 ((0 : Nat) : Int) (M_thrown h8  fun v9 h10 =>
    if v9 = v3 then (if v3 = 0 then (zob h10 51 ((0 : Nat) : Int) fun p11 =>
    zix (zhL h10 51 p11) 0 fun j12 =>
    if (zlcmp (zhD h10 51 p11 j12) v7) = 0 then Lw_law_571 kr r28 ((0 : Nat) : Int) ((0 : Nat) : Int) ((0 : Nat) : Int) ((0 : Nat) : Int) ((0 : Nat) : Int) (a : Int) h10
    else kr 0 h10)
    else Lw_law_571 kr r28 ((0 : Nat) : Int) ((0 : Nat) : Int) ((0 : Nat) : Int) ((0 : Nat) : Int) ((0 : Nat) : Int) (a : Int) h10)
    else kr 0 h10))) := ⟨_, rfl⟩
  have core := law_core (cod := fun (e : Nat) (m : Int) => (e = 3 ∧ m = 1)) (X := fun kt kr => X_peek 0 (S (a + 1)) h kt kr) (Mo := fun g kr => M_peek (S (a + 1)) g kr) (kt := (fun n h6 => if n = 3 then KF 1 h6 else none)) (K1 := KF) (R := fun hh => Lw_law_571 kr r28 ((0 : Nat) : Int) ((0 : Nat) : Int) ((0 : Nat) : Int) ((0 : Nat) : Int) ((0 : Nat) : Int) (a : Int) hh) (bad := fun hh => kr 0 hh) v (fun A B bc tc gc q cl => op_peek q cl) (fun g A m kr h0 => by
    show M_peek (S (a + 1)) (mh g (au A 12 0 m)) kr = M_peek (S (a + 1)) (mh g A) kr
    unfold M_peek
    rw [mh_thr0 h0]) (fun e m hc => by
    rcases hc with ⟨rfl, rfl⟩
    · exact ⟨by decide, fun hh => rfl⟩) (fun v0 hX B1 qX sX lX => by
    rw [hKF]
    show (zob hX 50 ((0 : Nat) : Int) fun p5 =>
    zix (zhL hX 50 p5) (wr ((a : Int) + 1)) fun j6 =>
    zob hX 12 ((0 : Nat) : Int) fun _ =>
    zmch hX ((0 : Nat) : Int) (M_peek (zhD hX 50 p5 j6) hX  fun v7 h8 =>
    zob h8 12 ((0 : Nat) : Int) fun _ =>
    zmch h8 ((0 : Nat) : Int) (M_thrown h8  fun v9 h10 =>
    if v9 = v0 then (if v0 = 0 then (zob h10 51 ((0 : Nat) : Int) fun p11 =>
    zix (zhL h10 51 p11) 0 fun j12 =>
    if (zlcmp (zhD h10 51 p11 j12) v7) = 0 then Lw_law_571 kr r28 ((0 : Nat) : Int) ((0 : Nat) : Int) ((0 : Nat) : Int) ((0 : Nat) : Int) ((0 : Nat) : Int) (a : Int) h10
    else kr 0 h10)
    else Lw_law_571 kr r28 ((0 : Nat) : Int) ((0 : Nat) : Int) ((0 : Nat) : Int) ((0 : Nat) : Int) ((0 : Nat) : Int) (a : Int) h10)
    else kr 0 h10))) = _
    refine Eq.trans (z50 qX lX (i := 1) (by omega) hl) ?_
    refine Eq.trans (z12 qX) ?_
    rw [qX.1 50 (a + 1) rfl, sX])
  obtain ⟨h1, K1, L1, e, v1⟩ := core
  refine ⟨h1, K1, L1, ?_, v1⟩
  rw [hKF] at e
  unfold Lw_law_518
  refine Eq.trans (z50 q.rh hlen (i := 1) (by omega) hl) ?_
  unfold Lw_peek
  refine Eq.trans (zob_n (show 0 < zhN h 0 by rw [q.rs.N0]; decide)) ?_
  rw [q.rh.1 50 (a + 1) rfl, hS]
  exact e
theorem law_state (v : LV S len h K L n N M) (ha : a + 5 < len) (hl : len ≤ 3072) (hSi : ∀ j, zir (S j)) : ∃ (h1 : zH) (K1 L1 : Nat), Lw_law_795 kr r28 ((0 : Nat) : Int) ((0 : Nat) : Int) ((0 : Nat) : Int) ((0 : Nat) : Int) ((0 : Nat) : Int) (a : Int) h = r28 ((0 : Nat) : Int) ((0 : Nat) : Int) ((0 : Nat) : Int) ((0 : Nat) : Int) ((0 : Nat) : Int) (wr ((a : Int) + 6)) h1 ∧ LV S len h1 K1 L1 (n + 18500) (N + 1000) (M + 13000) := by
  obtain ⟨A0, B0, bc0, tc0, gc0, m0, q, cl, hB, hS, hlen⟩ := id v
  obtain ⟨KF, hKF⟩ : ∃ KF : Int → zH → Option ρ, KF = (fun v3 h4 => zob h4 50 ((0 : Nat) : Int) fun p5 =>
    zix (zhL h4 50 p5) (wr ((a : Int) + 1)) fun j6 =>
    zob h4 12 ((0 : Nat) : Int) fun _ =>
    zmch h4 ((0 : Nat) : Int) (M_state (zhD h4 50 p5 j6) h4  fun v7 h8 =>
    zob h8 12 ((0 : Nat) : Int) fun _ =>
    zmch h8 ((0 : Nat) : Int) (M_thrown h8  fun v9 h10 =>
    if v9 = v3 then (if v3 = 0 then (zob h10 51 ((0 : Nat) : Int) fun p11 =>
    zix (zhL h10 51 p11) 0 fun j12 =>
    if (zlcmp (zhD h10 51 p11 j12) v7) = 0 then Lw_law_848 kr r28 ((0 : Nat) : Int) ((0 : Nat) : Int) ((0 : Nat) : Int) ((0 : Nat) : Int) ((0 : Nat) : Int) (a : Int) h10
    else kr 0 h10)
    else Lw_law_848 kr r28 ((0 : Nat) : Int) ((0 : Nat) : Int) ((0 : Nat) : Int) ((0 : Nat) : Int) ((0 : Nat) : Int) (a : Int) h10)
    else kr 0 h10))) := ⟨_, rfl⟩
  have core := law_core (cod := fun (e : Nat) (m : Int) => (e = 3 ∧ m = 1)) (X := fun kt kr => X_state 0 (S (a + 1)) h kt kr) (Mo := fun g kr => M_state (S (a + 1)) g kr) (kt := (fun n h6 => if n = 3 then KF 1 h6 else none)) (K1 := KF) (R := fun hh => Lw_law_848 kr r28 ((0 : Nat) : Int) ((0 : Nat) : Int) ((0 : Nat) : Int) ((0 : Nat) : Int) ((0 : Nat) : Int) (a : Int) hh) (bad := fun hh => kr 0 hh) v (fun A B bc tc gc q cl => op_state q cl) (fun g A m kr h0 => by
    show M_state (S (a + 1)) (mh g (au A 12 0 m)) kr = M_state (S (a + 1)) (mh g A) kr
    unfold M_state
    rw [mh_thr0 h0]) (fun e m hc => by
    rcases hc with ⟨rfl, rfl⟩
    · exact ⟨by decide, fun hh => rfl⟩) (fun v0 hX B1 qX sX lX => by
    rw [hKF]
    show (zob hX 50 ((0 : Nat) : Int) fun p5 =>
    zix (zhL hX 50 p5) (wr ((a : Int) + 1)) fun j6 =>
    zob hX 12 ((0 : Nat) : Int) fun _ =>
    zmch hX ((0 : Nat) : Int) (M_state (zhD hX 50 p5 j6) hX  fun v7 h8 =>
    zob h8 12 ((0 : Nat) : Int) fun _ =>
    zmch h8 ((0 : Nat) : Int) (M_thrown h8  fun v9 h10 =>
    if v9 = v0 then (if v0 = 0 then (zob h10 51 ((0 : Nat) : Int) fun p11 =>
    zix (zhL h10 51 p11) 0 fun j12 =>
    if (zlcmp (zhD h10 51 p11 j12) v7) = 0 then Lw_law_848 kr r28 ((0 : Nat) : Int) ((0 : Nat) : Int) ((0 : Nat) : Int) ((0 : Nat) : Int) ((0 : Nat) : Int) (a : Int) h10
    else kr 0 h10)
    else Lw_law_848 kr r28 ((0 : Nat) : Int) ((0 : Nat) : Int) ((0 : Nat) : Int) ((0 : Nat) : Int) ((0 : Nat) : Int) (a : Int) h10)
    else kr 0 h10))) = _
    refine Eq.trans (z50 qX lX (i := 1) (by omega) hl) ?_
    refine Eq.trans (z12 qX) ?_
    rw [qX.1 50 (a + 1) rfl, sX])
  obtain ⟨h1, K1, L1, e, v1⟩ := core
  refine ⟨h1, K1, L1, ?_, v1⟩
  rw [hKF] at e
  unfold Lw_law_795
  refine Eq.trans (z50 q.rh hlen (i := 1) (by omega) hl) ?_
  unfold Lw_state
  refine Eq.trans (zob_n (show 0 < zhN h 0 by rw [q.rs.N0]; decide)) ?_
  rw [q.rh.1 50 (a + 1) rfl, hS]
  exact e
theorem law_parent (v : LV S len h K L n N M) (ha : a + 5 < len) (hl : len ≤ 3072) (hSi : ∀ j, zir (S j)) : ∃ (h1 : zH) (K1 L1 : Nat), Lw_law_851 kr r28 ((0 : Nat) : Int) ((0 : Nat) : Int) ((0 : Nat) : Int) ((0 : Nat) : Int) ((0 : Nat) : Int) (a : Int) h = r28 ((0 : Nat) : Int) ((0 : Nat) : Int) ((0 : Nat) : Int) ((0 : Nat) : Int) ((0 : Nat) : Int) (wr ((a : Int) + 6)) h1 ∧ LV S len h1 K1 L1 (n + 18500) (N + 1000) (M + 13000) := by
  obtain ⟨A0, B0, bc0, tc0, gc0, m0, q, cl, hB, hS, hlen⟩ := id v
  obtain ⟨KF, hKF⟩ : ∃ KF : Int → zH → Option ρ, KF = (fun v3 h4 => zob h4 50 ((0 : Nat) : Int) fun p5 =>
    zix (zhL h4 50 p5) (wr ((a : Int) + 1)) fun j6 =>
    zob h4 12 ((0 : Nat) : Int) fun _ =>
    zmch h4 ((0 : Nat) : Int) (M_parent (zhD h4 50 p5 j6) h4  fun v7 h8 =>
    zob h8 12 ((0 : Nat) : Int) fun _ =>
    zmch h8 ((0 : Nat) : Int) (M_thrown h8  fun v9 h10 =>
    if v9 = v3 then (if v3 = 0 then (zob h10 51 ((0 : Nat) : Int) fun p11 =>
    zix (zhL h10 51 p11) 0 fun j12 =>
    if (zlcmp (zhD h10 51 p11 j12) v7) = 0 then Lw_law_904 kr r28 ((0 : Nat) : Int) ((0 : Nat) : Int) ((0 : Nat) : Int) ((0 : Nat) : Int) ((0 : Nat) : Int) (a : Int) h10
    else kr 0 h10)
    else Lw_law_904 kr r28 ((0 : Nat) : Int) ((0 : Nat) : Int) ((0 : Nat) : Int) ((0 : Nat) : Int) ((0 : Nat) : Int) (a : Int) h10)
    else kr 0 h10))) := ⟨_, rfl⟩
  have core := law_core (cod := fun (e : Nat) (m : Int) => (e = 3 ∧ m = 1) ∨ (e = 5 ∧ m = 2)) (X := fun kt kr => X_parent 0 (S (a + 1)) h kt kr) (Mo := fun g kr => M_parent (S (a + 1)) g kr) (kt := (fun n h6 => if n = 3 then KF 1 h6 else if n = 5 then KF 2 h6 else none)) (K1 := KF) (R := fun hh => Lw_law_904 kr r28 ((0 : Nat) : Int) ((0 : Nat) : Int) ((0 : Nat) : Int) ((0 : Nat) : Int) ((0 : Nat) : Int) (a : Int) hh) (bad := fun hh => kr 0 hh) v (fun A B bc tc gc q cl => op_parent q cl) (fun g A m kr h0 => by
    show M_parent (S (a + 1)) (mh g (au A 12 0 m)) kr = M_parent (S (a + 1)) (mh g A) kr
    unfold M_parent
    rw [mh_thr0 h0]) (fun e m hc => by
    rcases hc with ⟨rfl, rfl⟩ | ⟨rfl, rfl⟩
    · exact ⟨by decide, fun hh => rfl⟩
    · exact ⟨by decide, fun hh => rfl⟩) (fun v0 hX B1 qX sX lX => by
    rw [hKF]
    show (zob hX 50 ((0 : Nat) : Int) fun p5 =>
    zix (zhL hX 50 p5) (wr ((a : Int) + 1)) fun j6 =>
    zob hX 12 ((0 : Nat) : Int) fun _ =>
    zmch hX ((0 : Nat) : Int) (M_parent (zhD hX 50 p5 j6) hX  fun v7 h8 =>
    zob h8 12 ((0 : Nat) : Int) fun _ =>
    zmch h8 ((0 : Nat) : Int) (M_thrown h8  fun v9 h10 =>
    if v9 = v0 then (if v0 = 0 then (zob h10 51 ((0 : Nat) : Int) fun p11 =>
    zix (zhL h10 51 p11) 0 fun j12 =>
    if (zlcmp (zhD h10 51 p11 j12) v7) = 0 then Lw_law_904 kr r28 ((0 : Nat) : Int) ((0 : Nat) : Int) ((0 : Nat) : Int) ((0 : Nat) : Int) ((0 : Nat) : Int) (a : Int) h10
    else kr 0 h10)
    else Lw_law_904 kr r28 ((0 : Nat) : Int) ((0 : Nat) : Int) ((0 : Nat) : Int) ((0 : Nat) : Int) ((0 : Nat) : Int) (a : Int) h10)
    else kr 0 h10))) = _
    refine Eq.trans (z50 qX lX (i := 1) (by omega) hl) ?_
    refine Eq.trans (z12 qX) ?_
    rw [qX.1 50 (a + 1) rfl, sX])
  obtain ⟨h1, K1, L1, e, v1⟩ := core
  refine ⟨h1, K1, L1, ?_, v1⟩
  rw [hKF] at e
  unfold Lw_law_851
  refine Eq.trans (z50 q.rh hlen (i := 1) (by omega) hl) ?_
  unfold Lw_parent
  refine Eq.trans (zob_n (show 0 < zhN h 0 by rw [q.rs.N0]; decide)) ?_
  rw [q.rh.1 50 (a + 1) rfl, hS]
  exact e
theorem law_given (v : LV S len h K L n N M) (ha : a + 5 < len) (hl : len ≤ 3072) (hSi : ∀ j, zir (S j)) : ∃ (h1 : zH) (K1 L1 : Nat), Lw_law_907 kr r28 ((0 : Nat) : Int) ((0 : Nat) : Int) ((0 : Nat) : Int) ((0 : Nat) : Int) ((0 : Nat) : Int) (a : Int) h = r28 ((0 : Nat) : Int) ((0 : Nat) : Int) ((0 : Nat) : Int) ((0 : Nat) : Int) ((0 : Nat) : Int) (wr ((a : Int) + 6)) h1 ∧ LV S len h1 K1 L1 (n + 18500) (N + 1000) (M + 13000) := by
  obtain ⟨A0, B0, bc0, tc0, gc0, m0, q, cl, hB, hS, hlen⟩ := id v
  obtain ⟨KF, hKF⟩ : ∃ KF : Int → zH → Option ρ, KF = (fun v3 h4 => zob h4 50 ((0 : Nat) : Int) fun p5 =>
    zix (zhL h4 50 p5) (wr ((a : Int) + 1)) fun j6 =>
    zob h4 12 ((0 : Nat) : Int) fun _ =>
    zmch h4 ((0 : Nat) : Int) (M_given (zhD h4 50 p5 j6) h4  fun v7 h8 =>
    zob h8 12 ((0 : Nat) : Int) fun _ =>
    zmch h8 ((0 : Nat) : Int) (M_thrown h8  fun v9 h10 =>
    if v9 = v3 then (if v3 = 0 then (zob h10 51 ((0 : Nat) : Int) fun p11 =>
    zix (zhL h10 51 p11) 0 fun j12 =>
    if (zlcmp (zhD h10 51 p11 j12) v7) = 0 then Lw_law_960 kr r28 ((0 : Nat) : Int) ((0 : Nat) : Int) ((0 : Nat) : Int) ((0 : Nat) : Int) ((0 : Nat) : Int) (a : Int) h10
    else kr 0 h10)
    else Lw_law_960 kr r28 ((0 : Nat) : Int) ((0 : Nat) : Int) ((0 : Nat) : Int) ((0 : Nat) : Int) ((0 : Nat) : Int) (a : Int) h10)
    else kr 0 h10))) := ⟨_, rfl⟩
  have core := law_core (cod := fun (e : Nat) (m : Int) => (e = 3 ∧ m = 1)) (X := fun kt kr => X_given 0 (S (a + 1)) h kt kr) (Mo := fun g kr => M_given (S (a + 1)) g kr) (kt := (fun n h6 => if n = 3 then KF 1 h6 else none)) (K1 := KF) (R := fun hh => Lw_law_960 kr r28 ((0 : Nat) : Int) ((0 : Nat) : Int) ((0 : Nat) : Int) ((0 : Nat) : Int) ((0 : Nat) : Int) (a : Int) hh) (bad := fun hh => kr 0 hh) v (fun A B bc tc gc q cl => op_given q cl) (fun g A m kr h0 => by
    show M_given (S (a + 1)) (mh g (au A 12 0 m)) kr = M_given (S (a + 1)) (mh g A) kr
    unfold M_given
    rw [mh_thr0 h0]) (fun e m hc => by
    rcases hc with ⟨rfl, rfl⟩
    · exact ⟨by decide, fun hh => rfl⟩) (fun v0 hX B1 qX sX lX => by
    rw [hKF]
    show (zob hX 50 ((0 : Nat) : Int) fun p5 =>
    zix (zhL hX 50 p5) (wr ((a : Int) + 1)) fun j6 =>
    zob hX 12 ((0 : Nat) : Int) fun _ =>
    zmch hX ((0 : Nat) : Int) (M_given (zhD hX 50 p5 j6) hX  fun v7 h8 =>
    zob h8 12 ((0 : Nat) : Int) fun _ =>
    zmch h8 ((0 : Nat) : Int) (M_thrown h8  fun v9 h10 =>
    if v9 = v0 then (if v0 = 0 then (zob h10 51 ((0 : Nat) : Int) fun p11 =>
    zix (zhL h10 51 p11) 0 fun j12 =>
    if (zlcmp (zhD h10 51 p11 j12) v7) = 0 then Lw_law_960 kr r28 ((0 : Nat) : Int) ((0 : Nat) : Int) ((0 : Nat) : Int) ((0 : Nat) : Int) ((0 : Nat) : Int) (a : Int) h10
    else kr 0 h10)
    else Lw_law_960 kr r28 ((0 : Nat) : Int) ((0 : Nat) : Int) ((0 : Nat) : Int) ((0 : Nat) : Int) ((0 : Nat) : Int) (a : Int) h10)
    else kr 0 h10))) = _
    refine Eq.trans (z50 qX lX (i := 1) (by omega) hl) ?_
    refine Eq.trans (z12 qX) ?_
    rw [qX.1 50 (a + 1) rfl, sX])
  obtain ⟨h1, K1, L1, e, v1⟩ := core
  refine ⟨h1, K1, L1, ?_, v1⟩
  rw [hKF] at e
  unfold Lw_law_907
  refine Eq.trans (z50 q.rh hlen (i := 1) (by omega) hl) ?_
  unfold Lw_given
  refine Eq.trans (zob_n (show 0 < zhN h 0 by rw [q.rs.N0]; decide)) ?_
  rw [q.rh.1 50 (a + 1) rfl, hS]
  exact e
theorem law_groups (v : LV S len h K L n N M) (ha : a + 5 < len) (hl : len ≤ 3072) (hSi : ∀ j, zir (S j)) : ∃ (h1 : zH) (K1 L1 : Nat), Lw_law_1146 kr r28 ((0 : Nat) : Int) ((0 : Nat) : Int) ((0 : Nat) : Int) ((0 : Nat) : Int) ((0 : Nat) : Int) (a : Int) h = r28 ((0 : Nat) : Int) ((0 : Nat) : Int) ((0 : Nat) : Int) ((0 : Nat) : Int) ((0 : Nat) : Int) (wr ((a : Int) + 6)) h1 ∧ LV S len h1 K1 L1 (n + 18500) (N + 1000) (M + 13000) := by
  obtain ⟨A0, B0, bc0, tc0, gc0, m0, q, cl, hB, hS, hlen⟩ := id v
  obtain ⟨KF, hKF⟩ : ∃ KF : Int → zH → Option ρ, KF = (fun v3 h4 => zob h4 50 ((0 : Nat) : Int) fun p5 =>
    zix (zhL h4 50 p5) (wr ((a : Int) + 1)) fun j6 =>
    zob h4 12 ((0 : Nat) : Int) fun _ =>
    zmch h4 ((0 : Nat) : Int) (M_groups (zhD h4 50 p5 j6) h4  fun v7 h8 =>
    zob h8 12 ((0 : Nat) : Int) fun _ =>
    zmch h8 ((0 : Nat) : Int) (M_thrown h8  fun v9 h10 =>
    if v9 = v3 then (if v3 = 0 then (zob h10 51 ((0 : Nat) : Int) fun p11 =>
    zix (zhL h10 51 p11) 0 fun j12 =>
    if (zlcmp (zhD h10 51 p11 j12) v7) = 0 then Lw_law_1199 kr r28 ((0 : Nat) : Int) ((0 : Nat) : Int) ((0 : Nat) : Int) ((0 : Nat) : Int) ((0 : Nat) : Int) (a : Int) h10
    else kr 0 h10)
    else Lw_law_1199 kr r28 ((0 : Nat) : Int) ((0 : Nat) : Int) ((0 : Nat) : Int) ((0 : Nat) : Int) ((0 : Nat) : Int) (a : Int) h10)
    else kr 0 h10))) := ⟨_, rfl⟩
  have core := law_core (cod := fun (e : Nat) (m : Int) => (e = 3 ∧ m = 1)) (X := fun kt kr => X_groups 0 (S (a + 1)) h kt kr) (Mo := fun g kr => M_groups (S (a + 1)) g kr) (kt := (fun n h6 => if n = 3 then KF 1 h6 else none)) (K1 := KF) (R := fun hh => Lw_law_1199 kr r28 ((0 : Nat) : Int) ((0 : Nat) : Int) ((0 : Nat) : Int) ((0 : Nat) : Int) ((0 : Nat) : Int) (a : Int) hh) (bad := fun hh => kr 0 hh) v (fun A B bc tc gc q cl => op_groups q cl) (fun g A m kr h0 => by
    show M_groups (S (a + 1)) (mh g (au A 12 0 m)) kr = M_groups (S (a + 1)) (mh g A) kr
    unfold M_groups
    rw [mh_thr0 h0]) (fun e m hc => by
    rcases hc with ⟨rfl, rfl⟩
    · exact ⟨by decide, fun hh => rfl⟩) (fun v0 hX B1 qX sX lX => by
    rw [hKF]
    show (zob hX 50 ((0 : Nat) : Int) fun p5 =>
    zix (zhL hX 50 p5) (wr ((a : Int) + 1)) fun j6 =>
    zob hX 12 ((0 : Nat) : Int) fun _ =>
    zmch hX ((0 : Nat) : Int) (M_groups (zhD hX 50 p5 j6) hX  fun v7 h8 =>
    zob h8 12 ((0 : Nat) : Int) fun _ =>
    zmch h8 ((0 : Nat) : Int) (M_thrown h8  fun v9 h10 =>
    if v9 = v0 then (if v0 = 0 then (zob h10 51 ((0 : Nat) : Int) fun p11 =>
    zix (zhL h10 51 p11) 0 fun j12 =>
    if (zlcmp (zhD h10 51 p11 j12) v7) = 0 then Lw_law_1199 kr r28 ((0 : Nat) : Int) ((0 : Nat) : Int) ((0 : Nat) : Int) ((0 : Nat) : Int) ((0 : Nat) : Int) (a : Int) h10
    else kr 0 h10)
    else Lw_law_1199 kr r28 ((0 : Nat) : Int) ((0 : Nat) : Int) ((0 : Nat) : Int) ((0 : Nat) : Int) ((0 : Nat) : Int) (a : Int) h10)
    else kr 0 h10))) = _
    refine Eq.trans (z50 qX lX (i := 1) (by omega) hl) ?_
    refine Eq.trans (z12 qX) ?_
    rw [qX.1 50 (a + 1) rfl, sX])
  obtain ⟨h1, K1, L1, e, v1⟩ := core
  refine ⟨h1, K1, L1, ?_, v1⟩
  rw [hKF] at e
  unfold Lw_law_1146
  refine Eq.trans (z50 q.rh hlen (i := 1) (by omega) hl) ?_
  unfold Lw_groups
  refine Eq.trans (zob_n (show 0 < zhN h 0 by rw [q.rs.N0]; decide)) ?_
  rw [q.rh.1 50 (a + 1) rfl, hS]
  exact e
theorem law_threadAt (v : LV S len h K L n N M) (ha : a + 5 < len) (hl : len ≤ 3072) (hSi : ∀ j, zir (S j)) : ∃ (h1 : zH) (K1 L1 : Nat), Lw_law_1202 kr r28 ((0 : Nat) : Int) ((0 : Nat) : Int) ((0 : Nat) : Int) ((0 : Nat) : Int) ((0 : Nat) : Int) (a : Int) h = r28 ((0 : Nat) : Int) ((0 : Nat) : Int) ((0 : Nat) : Int) ((0 : Nat) : Int) ((0 : Nat) : Int) (wr ((a : Int) + 6)) h1 ∧ LV S len h1 K1 L1 (n + 18500) (N + 1000) (M + 13000) := by
  obtain ⟨A0, B0, bc0, tc0, gc0, m0, q, cl, hB, hS, hlen⟩ := id v
  obtain ⟨KF, hKF⟩ : ∃ KF : Int → zH → Option ρ, KF = (fun v5 h6 => zob h6 50 ((0 : Nat) : Int) fun p7 =>
    zix (zhL h6 50 p7) (wr ((a : Int) + 1)) fun j8 =>
    zob h6 50 ((0 : Nat) : Int) fun p9 =>
    zix (zhL h6 50 p9) (wr ((a : Int) + 2)) fun j10 =>
    zob h6 12 ((0 : Nat) : Int) fun _ =>
    zmch h6 ((0 : Nat) : Int) (M_threadAt (zhD h6 50 p7 j8) (zhD h6 50 p9 j10) h6  fun v11 h12 =>
    zob h12 12 ((0 : Nat) : Int) fun _ =>
    zmch h12 ((0 : Nat) : Int) (M_thrown h12  fun v13 h14 =>
    if v13 = v5 then (if v5 = 0 then (zob h14 51 ((0 : Nat) : Int) fun p15 =>
    zix (zhL h14 51 p15) 0 fun j16 =>
    if (zlcmp (zhD h14 51 p15 j16) v11) = 0 then Lw_law_1267 kr r28 ((0 : Nat) : Int) ((0 : Nat) : Int) ((0 : Nat) : Int) ((0 : Nat) : Int) ((0 : Nat) : Int) (a : Int) h14
    else kr 0 h14)
    else Lw_law_1267 kr r28 ((0 : Nat) : Int) ((0 : Nat) : Int) ((0 : Nat) : Int) ((0 : Nat) : Int) ((0 : Nat) : Int) (a : Int) h14)
    else kr 0 h14))) := ⟨_, rfl⟩
  have core := law_core (cod := fun (e : Nat) (m : Int) => (e = 3 ∧ m = 1)) (X := fun kt kr => X_threadAt 0 (S (a + 1)) (S (a + 2)) h kt kr) (Mo := fun g kr => M_threadAt (S (a + 1)) (S (a + 2)) g kr) (kt := (fun n h6 => if n = 3 then KF 1 h6 else none)) (K1 := KF) (R := fun hh => Lw_law_1267 kr r28 ((0 : Nat) : Int) ((0 : Nat) : Int) ((0 : Nat) : Int) ((0 : Nat) : Int) ((0 : Nat) : Int) (a : Int) hh) (bad := fun hh => kr 0 hh) v (fun A B bc tc gc q cl => op_threadAt q cl) (fun g A m kr h0 => by
    show M_threadAt (S (a + 1)) (S (a + 2)) (mh g (au A 12 0 m)) kr = M_threadAt (S (a + 1)) (S (a + 2)) (mh g A) kr
    unfold M_threadAt
    rw [mh_thr0 h0]) (fun e m hc => by
    rcases hc with ⟨rfl, rfl⟩
    · exact ⟨by decide, fun hh => rfl⟩) (fun v0 hX B1 qX sX lX => by
    rw [hKF]
    show (zob hX 50 ((0 : Nat) : Int) fun p7 =>
    zix (zhL hX 50 p7) (wr ((a : Int) + 1)) fun j8 =>
    zob hX 50 ((0 : Nat) : Int) fun p9 =>
    zix (zhL hX 50 p9) (wr ((a : Int) + 2)) fun j10 =>
    zob hX 12 ((0 : Nat) : Int) fun _ =>
    zmch hX ((0 : Nat) : Int) (M_threadAt (zhD hX 50 p7 j8) (zhD hX 50 p9 j10) hX  fun v11 h12 =>
    zob h12 12 ((0 : Nat) : Int) fun _ =>
    zmch h12 ((0 : Nat) : Int) (M_thrown h12  fun v13 h14 =>
    if v13 = v0 then (if v0 = 0 then (zob h14 51 ((0 : Nat) : Int) fun p15 =>
    zix (zhL h14 51 p15) 0 fun j16 =>
    if (zlcmp (zhD h14 51 p15 j16) v11) = 0 then Lw_law_1267 kr r28 ((0 : Nat) : Int) ((0 : Nat) : Int) ((0 : Nat) : Int) ((0 : Nat) : Int) ((0 : Nat) : Int) (a : Int) h14
    else kr 0 h14)
    else Lw_law_1267 kr r28 ((0 : Nat) : Int) ((0 : Nat) : Int) ((0 : Nat) : Int) ((0 : Nat) : Int) ((0 : Nat) : Int) (a : Int) h14)
    else kr 0 h14))) = _
    refine Eq.trans (z50 qX lX (i := 1) (by omega) hl) ?_
    refine Eq.trans (z50 qX lX (i := 2) (by omega) hl) ?_
    refine Eq.trans (z12 qX) ?_
    rw [qX.1 50 (a + 1) rfl, sX, qX.1 50 (a + 2) rfl, sX])
  obtain ⟨h1, K1, L1, e, v1⟩ := core
  refine ⟨h1, K1, L1, ?_, v1⟩
  rw [hKF] at e
  unfold Lw_law_1202
  refine Eq.trans (z50 q.rh hlen (i := 1) (by omega) hl) ?_
  refine Eq.trans (z50 q.rh hlen (i := 2) (by omega) hl) ?_
  unfold Lw_threadAt
  refine Eq.trans (zob_n (show 0 < zhN h 0 by rw [q.rs.N0]; decide)) ?_
  rw [q.rh.1 50 (a + 1) rfl, hS, q.rh.1 50 (a + 2) rfl, hS]
  exact e
theorem law_place (v : LV S len h K L n N M) (ha : a + 5 < len) (hl : len ≤ 3072) (hSi : ∀ j, zir (S j)) : ∃ (h1 : zH) (K1 L1 : Nat), Lw_law_1270 kr r28 ((0 : Nat) : Int) ((0 : Nat) : Int) ((0 : Nat) : Int) ((0 : Nat) : Int) ((0 : Nat) : Int) (a : Int) h = r28 ((0 : Nat) : Int) ((0 : Nat) : Int) ((0 : Nat) : Int) ((0 : Nat) : Int) ((0 : Nat) : Int) (wr ((a : Int) + 6)) h1 ∧ LV S len h1 K1 L1 (n + 18500) (N + 1000) (M + 13000) := by
  obtain ⟨A0, B0, bc0, tc0, gc0, m0, q, cl, hB, hS, hlen⟩ := id v
  obtain ⟨KF, hKF⟩ : ∃ KF : Int → zH → Option ρ, KF = (fun v5 h6 => zob h6 50 ((0 : Nat) : Int) fun p7 =>
    zix (zhL h6 50 p7) (wr ((a : Int) + 1)) fun j8 =>
    zob h6 50 ((0 : Nat) : Int) fun p9 =>
    zix (zhL h6 50 p9) (wr ((a : Int) + 2)) fun j10 =>
    zob h6 12 ((0 : Nat) : Int) fun _ =>
    zmch h6 ((0 : Nat) : Int) (M_place (zhD h6 50 p7 j8) (zhD h6 50 p9 j10) h6  fun v11 h12 =>
    zob h12 12 ((0 : Nat) : Int) fun _ =>
    zmch h12 ((0 : Nat) : Int) (M_thrown h12  fun v13 h14 =>
    if v13 = v5 then (if v5 = 0 then (zob h14 51 ((0 : Nat) : Int) fun p15 =>
    zix (zhL h14 51 p15) 0 fun j16 =>
    if (zlcmp (zhD h14 51 p15 j16) v11) = 0 then Lw_law_1335 kr r28 ((0 : Nat) : Int) ((0 : Nat) : Int) ((0 : Nat) : Int) ((0 : Nat) : Int) ((0 : Nat) : Int) (a : Int) h14
    else kr 0 h14)
    else Lw_law_1335 kr r28 ((0 : Nat) : Int) ((0 : Nat) : Int) ((0 : Nat) : Int) ((0 : Nat) : Int) ((0 : Nat) : Int) (a : Int) h14)
    else kr 0 h14))) := ⟨_, rfl⟩
  have core := law_core (cod := fun (e : Nat) (m : Int) => (e = 3 ∧ m = 1) ∨ (e = 5 ∧ m = 2)) (X := fun kt kr => X_place 0 (S (a + 1)) (S (a + 2)) h kt kr) (Mo := fun g kr => M_place (S (a + 1)) (S (a + 2)) g kr) (kt := (fun n h6 => if n = 3 then KF 1 h6 else if n = 5 then KF 2 h6 else none)) (K1 := KF) (R := fun hh => Lw_law_1335 kr r28 ((0 : Nat) : Int) ((0 : Nat) : Int) ((0 : Nat) : Int) ((0 : Nat) : Int) ((0 : Nat) : Int) (a : Int) hh) (bad := fun hh => kr 0 hh) v (fun A B bc tc gc q cl => op_place q cl) (fun g A m kr h0 => by
    show M_place (S (a + 1)) (S (a + 2)) (mh g (au A 12 0 m)) kr = M_place (S (a + 1)) (S (a + 2)) (mh g A) kr
    unfold M_place
    rw [mh_thr0 h0]) (fun e m hc => by
    rcases hc with ⟨rfl, rfl⟩ | ⟨rfl, rfl⟩
    · exact ⟨by decide, fun hh => rfl⟩
    · exact ⟨by decide, fun hh => rfl⟩) (fun v0 hX B1 qX sX lX => by
    rw [hKF]
    show (zob hX 50 ((0 : Nat) : Int) fun p7 =>
    zix (zhL hX 50 p7) (wr ((a : Int) + 1)) fun j8 =>
    zob hX 50 ((0 : Nat) : Int) fun p9 =>
    zix (zhL hX 50 p9) (wr ((a : Int) + 2)) fun j10 =>
    zob hX 12 ((0 : Nat) : Int) fun _ =>
    zmch hX ((0 : Nat) : Int) (M_place (zhD hX 50 p7 j8) (zhD hX 50 p9 j10) hX  fun v11 h12 =>
    zob h12 12 ((0 : Nat) : Int) fun _ =>
    zmch h12 ((0 : Nat) : Int) (M_thrown h12  fun v13 h14 =>
    if v13 = v0 then (if v0 = 0 then (zob h14 51 ((0 : Nat) : Int) fun p15 =>
    zix (zhL h14 51 p15) 0 fun j16 =>
    if (zlcmp (zhD h14 51 p15 j16) v11) = 0 then Lw_law_1335 kr r28 ((0 : Nat) : Int) ((0 : Nat) : Int) ((0 : Nat) : Int) ((0 : Nat) : Int) ((0 : Nat) : Int) (a : Int) h14
    else kr 0 h14)
    else Lw_law_1335 kr r28 ((0 : Nat) : Int) ((0 : Nat) : Int) ((0 : Nat) : Int) ((0 : Nat) : Int) ((0 : Nat) : Int) (a : Int) h14)
    else kr 0 h14))) = _
    refine Eq.trans (z50 qX lX (i := 1) (by omega) hl) ?_
    refine Eq.trans (z50 qX lX (i := 2) (by omega) hl) ?_
    refine Eq.trans (z12 qX) ?_
    rw [qX.1 50 (a + 1) rfl, sX, qX.1 50 (a + 2) rfl, sX])
  obtain ⟨h1, K1, L1, e, v1⟩ := core
  refine ⟨h1, K1, L1, ?_, v1⟩
  rw [hKF] at e
  unfold Lw_law_1270
  refine Eq.trans (z50 q.rh hlen (i := 1) (by omega) hl) ?_
  refine Eq.trans (z50 q.rh hlen (i := 2) (by omega) hl) ?_
  unfold Lw_place
  refine Eq.trans (zob_n (show 0 < zhN h 0 by rw [q.rs.N0]; decide)) ?_
  rw [q.rh.1 50 (a + 1) rfl, hS, q.rh.1 50 (a + 2) rfl, hS]
  exact e
theorem law_mask (v : LV S len h K L n N M) (ha : a + 5 < len) (hl : len ≤ 3072) (hSi : ∀ j, zir (S j)) : ∃ (h1 : zH) (K1 L1 : Nat), Lw_law_1338 kr r28 ((0 : Nat) : Int) ((0 : Nat) : Int) ((0 : Nat) : Int) ((0 : Nat) : Int) ((0 : Nat) : Int) (a : Int) h = r28 ((0 : Nat) : Int) ((0 : Nat) : Int) ((0 : Nat) : Int) ((0 : Nat) : Int) ((0 : Nat) : Int) (wr ((a : Int) + 6)) h1 ∧ LV S len h1 K1 L1 (n + 18500) (N + 1000) (M + 13000) := by
  obtain ⟨A0, B0, bc0, tc0, gc0, m0, q, cl, hB, hS, hlen⟩ := id v
  obtain ⟨KF, hKF⟩ : ∃ KF : Int → zH → Option ρ, KF = (fun v5 h6 => zob h6 50 ((0 : Nat) : Int) fun p7 =>
    zix (zhL h6 50 p7) (wr ((a : Int) + 1)) fun j8 =>
    zob h6 50 ((0 : Nat) : Int) fun p9 =>
    zix (zhL h6 50 p9) (wr ((a : Int) + 2)) fun j10 =>
    zob h6 12 ((0 : Nat) : Int) fun _ =>
    zmch h6 ((0 : Nat) : Int) (M_mask (zhD h6 50 p7 j8) (zhD h6 50 p9 j10) h6  fun v11 h12 =>
    zob h12 12 ((0 : Nat) : Int) fun _ =>
    zmch h12 ((0 : Nat) : Int) (M_thrown h12  fun v13 h14 =>
    if v13 = v5 then (if v5 = 0 then (zob h14 51 ((0 : Nat) : Int) fun p15 =>
    zix (zhL h14 51 p15) 0 fun j16 =>
    if (zlcmp (zhD h14 51 p15 j16) v11) = 0 then Lw_law_1403 kr r28 ((0 : Nat) : Int) ((0 : Nat) : Int) ((0 : Nat) : Int) ((0 : Nat) : Int) ((0 : Nat) : Int) (a : Int) h14
    else kr 0 h14)
    else Lw_law_1403 kr r28 ((0 : Nat) : Int) ((0 : Nat) : Int) ((0 : Nat) : Int) ((0 : Nat) : Int) ((0 : Nat) : Int) (a : Int) h14)
    else kr 0 h14))) := ⟨_, rfl⟩
  have core := law_core (cod := fun (e : Nat) (m : Int) => (e = 3 ∧ m = 1)) (X := fun kt kr => X_mask 0 (S (a + 1)) (S (a + 2)) h kt kr) (Mo := fun g kr => M_mask (S (a + 1)) (S (a + 2)) g kr) (kt := (fun n h6 => if n = 3 then KF 1 h6 else none)) (K1 := KF) (R := fun hh => Lw_law_1403 kr r28 ((0 : Nat) : Int) ((0 : Nat) : Int) ((0 : Nat) : Int) ((0 : Nat) : Int) ((0 : Nat) : Int) (a : Int) hh) (bad := fun hh => kr 0 hh) v (fun A B bc tc gc q cl => op_mask q cl) (fun g A m kr h0 => by
    show M_mask (S (a + 1)) (S (a + 2)) (mh g (au A 12 0 m)) kr = M_mask (S (a + 1)) (S (a + 2)) (mh g A) kr
    unfold M_mask
    rw [mh_thr0 h0]) (fun e m hc => by
    rcases hc with ⟨rfl, rfl⟩
    · exact ⟨by decide, fun hh => rfl⟩) (fun v0 hX B1 qX sX lX => by
    rw [hKF]
    show (zob hX 50 ((0 : Nat) : Int) fun p7 =>
    zix (zhL hX 50 p7) (wr ((a : Int) + 1)) fun j8 =>
    zob hX 50 ((0 : Nat) : Int) fun p9 =>
    zix (zhL hX 50 p9) (wr ((a : Int) + 2)) fun j10 =>
    zob hX 12 ((0 : Nat) : Int) fun _ =>
    zmch hX ((0 : Nat) : Int) (M_mask (zhD hX 50 p7 j8) (zhD hX 50 p9 j10) hX  fun v11 h12 =>
    zob h12 12 ((0 : Nat) : Int) fun _ =>
    zmch h12 ((0 : Nat) : Int) (M_thrown h12  fun v13 h14 =>
    if v13 = v0 then (if v0 = 0 then (zob h14 51 ((0 : Nat) : Int) fun p15 =>
    zix (zhL h14 51 p15) 0 fun j16 =>
    if (zlcmp (zhD h14 51 p15 j16) v11) = 0 then Lw_law_1403 kr r28 ((0 : Nat) : Int) ((0 : Nat) : Int) ((0 : Nat) : Int) ((0 : Nat) : Int) ((0 : Nat) : Int) (a : Int) h14
    else kr 0 h14)
    else Lw_law_1403 kr r28 ((0 : Nat) : Int) ((0 : Nat) : Int) ((0 : Nat) : Int) ((0 : Nat) : Int) ((0 : Nat) : Int) (a : Int) h14)
    else kr 0 h14))) = _
    refine Eq.trans (z50 qX lX (i := 1) (by omega) hl) ?_
    refine Eq.trans (z50 qX lX (i := 2) (by omega) hl) ?_
    refine Eq.trans (z12 qX) ?_
    rw [qX.1 50 (a + 1) rfl, sX, qX.1 50 (a + 2) rfl, sX])
  obtain ⟨h1, K1, L1, e, v1⟩ := core
  refine ⟨h1, K1, L1, ?_, v1⟩
  rw [hKF] at e
  unfold Lw_law_1338
  refine Eq.trans (z50 q.rh hlen (i := 1) (by omega) hl) ?_
  refine Eq.trans (z50 q.rh hlen (i := 2) (by omega) hl) ?_
  unfold Lw_mask
  refine Eq.trans (zob_n (show 0 < zhN h 0 by rw [q.rs.N0]; decide)) ?_
  rw [q.rh.1 50 (a + 1) rfl, hS, q.rh.1 50 (a + 2) rfl, hS]
  exact e
theorem law_places (v : LV S len h K L n N M) (ha : a + 5 < len) (hl : len ≤ 3072) (hSi : ∀ j, zir (S j)) : ∃ (h1 : zH) (K1 L1 : Nat), Lw_law_1406 kr r28 ((0 : Nat) : Int) ((0 : Nat) : Int) ((0 : Nat) : Int) ((0 : Nat) : Int) ((0 : Nat) : Int) (a : Int) h = r28 ((0 : Nat) : Int) ((0 : Nat) : Int) ((0 : Nat) : Int) ((0 : Nat) : Int) ((0 : Nat) : Int) (wr ((a : Int) + 6)) h1 ∧ LV S len h1 K1 L1 (n + 18500) (N + 1000) (M + 13000) := by
  obtain ⟨A0, B0, bc0, tc0, gc0, m0, q, cl, hB, hS, hlen⟩ := id v
  obtain ⟨KF, hKF⟩ : ∃ KF : Int → zH → Option ρ, KF = (fun v5 h6 => zob h6 50 ((0 : Nat) : Int) fun p7 =>
    zix (zhL h6 50 p7) (wr ((a : Int) + 1)) fun j8 =>
    zob h6 50 ((0 : Nat) : Int) fun p9 =>
    zix (zhL h6 50 p9) (wr ((a : Int) + 2)) fun j10 =>
    zob h6 12 ((0 : Nat) : Int) fun _ =>
    zmch h6 ((0 : Nat) : Int) (M_places (zhD h6 50 p7 j8) (zhD h6 50 p9 j10) h6  fun v11 h12 =>
    zob h12 12 ((0 : Nat) : Int) fun _ =>
    zmch h12 ((0 : Nat) : Int) (M_thrown h12  fun v13 h14 =>
    if v13 = v5 then (if v5 = 0 then (zob h14 51 ((0 : Nat) : Int) fun p15 =>
    zix (zhL h14 51 p15) 0 fun j16 =>
    if (zlcmp (zhD h14 51 p15 j16) v11) = 0 then Lw_law_1471 kr r28 ((0 : Nat) : Int) ((0 : Nat) : Int) ((0 : Nat) : Int) ((0 : Nat) : Int) ((0 : Nat) : Int) (a : Int) h14
    else kr 0 h14)
    else Lw_law_1471 kr r28 ((0 : Nat) : Int) ((0 : Nat) : Int) ((0 : Nat) : Int) ((0 : Nat) : Int) ((0 : Nat) : Int) (a : Int) h14)
    else kr 0 h14))) := ⟨_, rfl⟩
  have core := law_core (cod := fun (e : Nat) (m : Int) => (e = 3 ∧ m = 1)) (X := fun kt kr => X_places 0 (S (a + 1)) (S (a + 2)) h kt kr) (Mo := fun g kr => M_places (S (a + 1)) (S (a + 2)) g kr) (kt := (fun n h6 => if n = 3 then KF 1 h6 else none)) (K1 := KF) (R := fun hh => Lw_law_1471 kr r28 ((0 : Nat) : Int) ((0 : Nat) : Int) ((0 : Nat) : Int) ((0 : Nat) : Int) ((0 : Nat) : Int) (a : Int) hh) (bad := fun hh => kr 0 hh) v (fun A B bc tc gc q cl => op_places q cl) (fun g A m kr h0 => by
    show M_places (S (a + 1)) (S (a + 2)) (mh g (au A 12 0 m)) kr = M_places (S (a + 1)) (S (a + 2)) (mh g A) kr
    unfold M_places
    rw [mh_thr0 h0]) (fun e m hc => by
    rcases hc with ⟨rfl, rfl⟩
    · exact ⟨by decide, fun hh => rfl⟩) (fun v0 hX B1 qX sX lX => by
    rw [hKF]
    show (zob hX 50 ((0 : Nat) : Int) fun p7 =>
    zix (zhL hX 50 p7) (wr ((a : Int) + 1)) fun j8 =>
    zob hX 50 ((0 : Nat) : Int) fun p9 =>
    zix (zhL hX 50 p9) (wr ((a : Int) + 2)) fun j10 =>
    zob hX 12 ((0 : Nat) : Int) fun _ =>
    zmch hX ((0 : Nat) : Int) (M_places (zhD hX 50 p7 j8) (zhD hX 50 p9 j10) hX  fun v11 h12 =>
    zob h12 12 ((0 : Nat) : Int) fun _ =>
    zmch h12 ((0 : Nat) : Int) (M_thrown h12  fun v13 h14 =>
    if v13 = v0 then (if v0 = 0 then (zob h14 51 ((0 : Nat) : Int) fun p15 =>
    zix (zhL h14 51 p15) 0 fun j16 =>
    if (zlcmp (zhD h14 51 p15 j16) v11) = 0 then Lw_law_1471 kr r28 ((0 : Nat) : Int) ((0 : Nat) : Int) ((0 : Nat) : Int) ((0 : Nat) : Int) ((0 : Nat) : Int) (a : Int) h14
    else kr 0 h14)
    else Lw_law_1471 kr r28 ((0 : Nat) : Int) ((0 : Nat) : Int) ((0 : Nat) : Int) ((0 : Nat) : Int) ((0 : Nat) : Int) (a : Int) h14)
    else kr 0 h14))) = _
    refine Eq.trans (z50 qX lX (i := 1) (by omega) hl) ?_
    refine Eq.trans (z50 qX lX (i := 2) (by omega) hl) ?_
    refine Eq.trans (z12 qX) ?_
    rw [qX.1 50 (a + 1) rfl, sX, qX.1 50 (a + 2) rfl, sX])
  obtain ⟨h1, K1, L1, e, v1⟩ := core
  refine ⟨h1, K1, L1, ?_, v1⟩
  rw [hKF] at e
  unfold Lw_law_1406
  refine Eq.trans (z50 q.rh hlen (i := 1) (by omega) hl) ?_
  refine Eq.trans (z50 q.rh hlen (i := 2) (by omega) hl) ?_
  unfold Lw_places
  refine Eq.trans (zob_n (show 0 < zhN h 0 by rw [q.rs.N0]; decide)) ?_
  rw [q.rh.1 50 (a + 1) rfl, hS, q.rh.1 50 (a + 2) rfl, hS]
  exact e
theorem law_reason (v : LV S len h K L n N M) (ha : a + 5 < len) (hl : len ≤ 3072) (hSi : ∀ j, zir (S j)) : ∃ (h1 : zH) (K1 L1 : Nat), Lw_law_1474 kr r28 ((0 : Nat) : Int) ((0 : Nat) : Int) ((0 : Nat) : Int) ((0 : Nat) : Int) ((0 : Nat) : Int) (a : Int) h = r28 ((0 : Nat) : Int) ((0 : Nat) : Int) ((0 : Nat) : Int) ((0 : Nat) : Int) ((0 : Nat) : Int) (wr ((a : Int) + 6)) h1 ∧ LV S len h1 K1 L1 (n + 18500) (N + 1000) (M + 13000) := by
  obtain ⟨A0, B0, bc0, tc0, gc0, m0, q, cl, hB, hS, hlen⟩ := id v
  obtain ⟨KF, hKF⟩ : ∃ KF : Int → zH → Option ρ, KF = (fun v5 h6 => zob h6 50 ((0 : Nat) : Int) fun p7 =>
    zix (zhL h6 50 p7) (wr ((a : Int) + 1)) fun j8 =>
    zob h6 50 ((0 : Nat) : Int) fun p9 =>
    zix (zhL h6 50 p9) (wr ((a : Int) + 2)) fun j10 =>
    zob h6 12 ((0 : Nat) : Int) fun _ =>
    zmch h6 ((0 : Nat) : Int) (M_reason (zhD h6 50 p7 j8) (zhD h6 50 p9 j10) h6  fun v11 h12 =>
    zob h12 12 ((0 : Nat) : Int) fun _ =>
    zmch h12 ((0 : Nat) : Int) (M_thrown h12  fun v13 h14 =>
    if v13 = v5 then (if v5 = 0 then (zob h14 51 ((0 : Nat) : Int) fun p15 =>
    zix (zhL h14 51 p15) 0 fun j16 =>
    if (zlcmp (zhD h14 51 p15 j16) v11) = 0 then Lw_law_1539 kr r28 ((0 : Nat) : Int) ((0 : Nat) : Int) ((0 : Nat) : Int) ((0 : Nat) : Int) ((0 : Nat) : Int) (a : Int) h14
    else kr 0 h14)
    else Lw_law_1539 kr r28 ((0 : Nat) : Int) ((0 : Nat) : Int) ((0 : Nat) : Int) ((0 : Nat) : Int) ((0 : Nat) : Int) (a : Int) h14)
    else kr 0 h14))) := ⟨_, rfl⟩
  have core := law_core (cod := fun (e : Nat) (m : Int) => (e = 3 ∧ m = 1)) (X := fun kt kr => X_reason 0 (S (a + 1)) (S (a + 2)) h kt kr) (Mo := fun g kr => M_reason (S (a + 1)) (S (a + 2)) g kr) (kt := (fun n h6 => if n = 3 then KF 1 h6 else none)) (K1 := KF) (R := fun hh => Lw_law_1539 kr r28 ((0 : Nat) : Int) ((0 : Nat) : Int) ((0 : Nat) : Int) ((0 : Nat) : Int) ((0 : Nat) : Int) (a : Int) hh) (bad := fun hh => kr 0 hh) v (fun A B bc tc gc q cl => op_reason q cl) (fun g A m kr h0 => by
    show M_reason (S (a + 1)) (S (a + 2)) (mh g (au A 12 0 m)) kr = M_reason (S (a + 1)) (S (a + 2)) (mh g A) kr
    unfold M_reason
    rw [mh_thr0 h0]) (fun e m hc => by
    rcases hc with ⟨rfl, rfl⟩
    · exact ⟨by decide, fun hh => rfl⟩) (fun v0 hX B1 qX sX lX => by
    rw [hKF]
    show (zob hX 50 ((0 : Nat) : Int) fun p7 =>
    zix (zhL hX 50 p7) (wr ((a : Int) + 1)) fun j8 =>
    zob hX 50 ((0 : Nat) : Int) fun p9 =>
    zix (zhL hX 50 p9) (wr ((a : Int) + 2)) fun j10 =>
    zob hX 12 ((0 : Nat) : Int) fun _ =>
    zmch hX ((0 : Nat) : Int) (M_reason (zhD hX 50 p7 j8) (zhD hX 50 p9 j10) hX  fun v11 h12 =>
    zob h12 12 ((0 : Nat) : Int) fun _ =>
    zmch h12 ((0 : Nat) : Int) (M_thrown h12  fun v13 h14 =>
    if v13 = v0 then (if v0 = 0 then (zob h14 51 ((0 : Nat) : Int) fun p15 =>
    zix (zhL h14 51 p15) 0 fun j16 =>
    if (zlcmp (zhD h14 51 p15 j16) v11) = 0 then Lw_law_1539 kr r28 ((0 : Nat) : Int) ((0 : Nat) : Int) ((0 : Nat) : Int) ((0 : Nat) : Int) ((0 : Nat) : Int) (a : Int) h14
    else kr 0 h14)
    else Lw_law_1539 kr r28 ((0 : Nat) : Int) ((0 : Nat) : Int) ((0 : Nat) : Int) ((0 : Nat) : Int) ((0 : Nat) : Int) (a : Int) h14)
    else kr 0 h14))) = _
    refine Eq.trans (z50 qX lX (i := 1) (by omega) hl) ?_
    refine Eq.trans (z50 qX lX (i := 2) (by omega) hl) ?_
    refine Eq.trans (z12 qX) ?_
    rw [qX.1 50 (a + 1) rfl, sX, qX.1 50 (a + 2) rfl, sX])
  obtain ⟨h1, K1, L1, e, v1⟩ := core
  refine ⟨h1, K1, L1, ?_, v1⟩
  rw [hKF] at e
  unfold Lw_law_1474
  refine Eq.trans (z50 q.rh hlen (i := 1) (by omega) hl) ?_
  refine Eq.trans (z50 q.rh hlen (i := 2) (by omega) hl) ?_
  unfold Lw_reason
  refine Eq.trans (zob_n (show 0 < zhN h 0 by rw [q.rs.N0]; decide)) ?_
  rw [q.rh.1 50 (a + 1) rfl, hS, q.rh.1 50 (a + 2) rfl, hS]
  exact e
theorem law_register (v : LV S len h K L n N M) (ha : a + 5 < len) (hl : len ≤ 3072) (hSi : ∀ j, zir (S j)) : ∃ (h1 : zH) (K1 L1 : Nat), Lw_law_1542 kr r28 ((0 : Nat) : Int) ((0 : Nat) : Int) ((0 : Nat) : Int) ((0 : Nat) : Int) ((0 : Nat) : Int) (a : Int) h = r28 ((0 : Nat) : Int) ((0 : Nat) : Int) ((0 : Nat) : Int) ((0 : Nat) : Int) ((0 : Nat) : Int) (wr ((a : Int) + 6)) h1 ∧ LV S len h1 K1 L1 (n + 18500) (N + 1000) (M + 13000) := by
  obtain ⟨A0, B0, bc0, tc0, gc0, m0, q, cl, hB, hS, hlen⟩ := id v
  obtain ⟨KF, hKF⟩ : ∃ KF : Int → zH → Option ρ, KF = (fun v9 h10 => zob h10 50 ((0 : Nat) : Int) fun p11 =>
    zix (zhL h10 50 p11) (wr ((a : Int) + 1)) fun j12 =>
    zob h10 50 ((0 : Nat) : Int) fun p13 =>
    zix (zhL h10 50 p13) (wr ((a : Int) + 2)) fun j14 =>
    zob h10 50 ((0 : Nat) : Int) fun p15 =>
    zix (zhL h10 50 p15) (wr ((a : Int) + 3)) fun j16 =>
    zob h10 50 ((0 : Nat) : Int) fun p17 =>
    zix (zhL h10 50 p17) (wr ((a : Int) + 4)) fun j18 =>
    zob h10 12 ((0 : Nat) : Int) fun _ =>
    zmch h10 ((0 : Nat) : Int) (M_register (zhD h10 50 p11 j12) (zhD h10 50 p13 j14) (zhD h10 50 p15 j16) (zhD h10 50 p17 j18) h10  fun v19 h20 =>
    zob h20 12 ((0 : Nat) : Int) fun _ =>
    zmch h20 ((0 : Nat) : Int) (M_thrown h20  fun v21 h22 =>
    if v21 = v9 then (if v9 = 0 then (zob h22 51 ((0 : Nat) : Int) fun p23 =>
    zix (zhL h22 51 p23) 0 fun j24 =>
    if (zlcmp (zhD h22 51 p23 j24) v19) = 0 then Lw_law_1631 kr r28 ((0 : Nat) : Int) ((0 : Nat) : Int) ((0 : Nat) : Int) ((0 : Nat) : Int) ((0 : Nat) : Int) (a : Int) h22
    else kr 0 h22)
    else Lw_law_1631 kr r28 ((0 : Nat) : Int) ((0 : Nat) : Int) ((0 : Nat) : Int) ((0 : Nat) : Int) ((0 : Nat) : Int) (a : Int) h22)
    else kr 0 h22))) := ⟨_, rfl⟩
  have core := law_core (cod := fun (e : Nat) (m : Int) => (e = 3 ∧ m = 1)) (X := fun kt kr => X_register 0 (S (a + 1)) (S (a + 2)) (S (a + 3)) (S (a + 4)) h kt kr) (Mo := fun g kr => M_register (S (a + 1)) (S (a + 2)) (S (a + 3)) (S (a + 4)) g kr) (kt := (fun n h6 => if n = 3 then KF 1 h6 else none)) (K1 := KF) (R := fun hh => Lw_law_1631 kr r28 ((0 : Nat) : Int) ((0 : Nat) : Int) ((0 : Nat) : Int) ((0 : Nat) : Int) ((0 : Nat) : Int) (a : Int) hh) (bad := fun hh => kr 0 hh) v (fun A B bc tc gc q cl => op_register q cl) (fun g A m kr h0 => by
    show M_register (S (a + 1)) (S (a + 2)) (S (a + 3)) (S (a + 4)) (mh g (au A 12 0 m)) kr = M_register (S (a + 1)) (S (a + 2)) (S (a + 3)) (S (a + 4)) (mh g A) kr
    unfold M_register
    rw [mh_thr0 h0]) (fun e m hc => by
    rcases hc with ⟨rfl, rfl⟩
    · exact ⟨by decide, fun hh => rfl⟩) (fun v0 hX B1 qX sX lX => by
    rw [hKF]
    show (zob hX 50 ((0 : Nat) : Int) fun p11 =>
    zix (zhL hX 50 p11) (wr ((a : Int) + 1)) fun j12 =>
    zob hX 50 ((0 : Nat) : Int) fun p13 =>
    zix (zhL hX 50 p13) (wr ((a : Int) + 2)) fun j14 =>
    zob hX 50 ((0 : Nat) : Int) fun p15 =>
    zix (zhL hX 50 p15) (wr ((a : Int) + 3)) fun j16 =>
    zob hX 50 ((0 : Nat) : Int) fun p17 =>
    zix (zhL hX 50 p17) (wr ((a : Int) + 4)) fun j18 =>
    zob hX 12 ((0 : Nat) : Int) fun _ =>
    zmch hX ((0 : Nat) : Int) (M_register (zhD hX 50 p11 j12) (zhD hX 50 p13 j14) (zhD hX 50 p15 j16) (zhD hX 50 p17 j18) hX  fun v19 h20 =>
    zob h20 12 ((0 : Nat) : Int) fun _ =>
    zmch h20 ((0 : Nat) : Int) (M_thrown h20  fun v21 h22 =>
    if v21 = v0 then (if v0 = 0 then (zob h22 51 ((0 : Nat) : Int) fun p23 =>
    zix (zhL h22 51 p23) 0 fun j24 =>
    if (zlcmp (zhD h22 51 p23 j24) v19) = 0 then Lw_law_1631 kr r28 ((0 : Nat) : Int) ((0 : Nat) : Int) ((0 : Nat) : Int) ((0 : Nat) : Int) ((0 : Nat) : Int) (a : Int) h22
    else kr 0 h22)
    else Lw_law_1631 kr r28 ((0 : Nat) : Int) ((0 : Nat) : Int) ((0 : Nat) : Int) ((0 : Nat) : Int) ((0 : Nat) : Int) (a : Int) h22)
    else kr 0 h22))) = _
    refine Eq.trans (z50 qX lX (i := 1) (by omega) hl) ?_
    refine Eq.trans (z50 qX lX (i := 2) (by omega) hl) ?_
    refine Eq.trans (z50 qX lX (i := 3) (by omega) hl) ?_
    refine Eq.trans (z50 qX lX (i := 4) (by omega) hl) ?_
    refine Eq.trans (z12 qX) ?_
    rw [qX.1 50 (a + 1) rfl, sX, qX.1 50 (a + 2) rfl, sX, qX.1 50 (a + 3) rfl, sX, qX.1 50 (a + 4) rfl, sX])
  obtain ⟨h1, K1, L1, e, v1⟩ := core
  refine ⟨h1, K1, L1, ?_, v1⟩
  rw [hKF] at e
  unfold Lw_law_1542
  refine Eq.trans (z50 q.rh hlen (i := 1) (by omega) hl) ?_
  refine Eq.trans (z50 q.rh hlen (i := 2) (by omega) hl) ?_
  refine Eq.trans (z50 q.rh hlen (i := 3) (by omega) hl) ?_
  refine Eq.trans (z50 q.rh hlen (i := 4) (by omega) hl) ?_
  unfold Lw_register
  refine Eq.trans (zob_n (show 0 < zhN h 0 by rw [q.rs.N0]; decide)) ?_
  rw [q.rh.1 50 (a + 1) rfl, hS, q.rh.1 50 (a + 2) rfl, hS, q.rh.1 50 (a + 3) rfl, hS, q.rh.1 50 (a + 4) rfl, hS]
  exact e
theorem law_shared (v : LV S len h K L n N M) (ha : a + 5 < len) (hl : len ≤ 3072) (hSi : ∀ j, zir (S j)) : ∃ (h1 : zH) (K1 L1 : Nat), Lw_law_1634 kr r28 ((0 : Nat) : Int) ((0 : Nat) : Int) ((0 : Nat) : Int) ((0 : Nat) : Int) ((0 : Nat) : Int) (a : Int) h = r28 ((0 : Nat) : Int) ((0 : Nat) : Int) ((0 : Nat) : Int) ((0 : Nat) : Int) ((0 : Nat) : Int) (wr ((a : Int) + 6)) h1 ∧ LV S len h1 K1 L1 (n + 18500) (N + 1000) (M + 13000) := by
  obtain ⟨A0, B0, bc0, tc0, gc0, m0, q, cl, hB, hS, hlen⟩ := id v
  obtain ⟨KF, hKF⟩ : ∃ KF : Int → zH → Option ρ, KF = (fun v7 h8 => zob h8 50 ((0 : Nat) : Int) fun p9 =>
    zix (zhL h8 50 p9) (wr ((a : Int) + 1)) fun j10 =>
    zob h8 50 ((0 : Nat) : Int) fun p11 =>
    zix (zhL h8 50 p11) (wr ((a : Int) + 2)) fun j12 =>
    zob h8 50 ((0 : Nat) : Int) fun p13 =>
    zix (zhL h8 50 p13) (wr ((a : Int) + 3)) fun j14 =>
    zob h8 12 ((0 : Nat) : Int) fun _ =>
    zmch h8 ((0 : Nat) : Int) (M_shared (zhD h8 50 p9 j10) (zhD h8 50 p11 j12) (zhD h8 50 p13 j14) h8  fun v15 h16 =>
    zob h16 12 ((0 : Nat) : Int) fun _ =>
    zmch h16 ((0 : Nat) : Int) (M_thrown h16  fun v17 h18 =>
    if v17 = v7 then (if v7 = 0 then (zob h18 51 ((0 : Nat) : Int) fun p19 =>
    zix (zhL h18 51 p19) 0 fun j20 =>
    if (zlcmp (zhD h18 51 p19 j20) v15) = 0 then Lw_law_1711 kr r28 ((0 : Nat) : Int) ((0 : Nat) : Int) ((0 : Nat) : Int) ((0 : Nat) : Int) ((0 : Nat) : Int) (a : Int) h18
    else kr 0 h18)
    else Lw_law_1711 kr r28 ((0 : Nat) : Int) ((0 : Nat) : Int) ((0 : Nat) : Int) ((0 : Nat) : Int) ((0 : Nat) : Int) (a : Int) h18)
    else kr 0 h18))) := ⟨_, rfl⟩
  have core := law_core (cod := fun (e : Nat) (m : Int) => (e = 3 ∧ m = 1)) (X := fun kt kr => X_shared 0 (S (a + 1)) (S (a + 2)) (S (a + 3)) h kt kr) (Mo := fun g kr => M_shared (S (a + 1)) (S (a + 2)) (S (a + 3)) g kr) (kt := (fun n h6 => if n = 3 then KF 1 h6 else none)) (K1 := KF) (R := fun hh => Lw_law_1711 kr r28 ((0 : Nat) : Int) ((0 : Nat) : Int) ((0 : Nat) : Int) ((0 : Nat) : Int) ((0 : Nat) : Int) (a : Int) hh) (bad := fun hh => kr 0 hh) v (fun A B bc tc gc q cl => op_shared q cl) (fun g A m kr h0 => by
    show M_shared (S (a + 1)) (S (a + 2)) (S (a + 3)) (mh g (au A 12 0 m)) kr = M_shared (S (a + 1)) (S (a + 2)) (S (a + 3)) (mh g A) kr
    unfold M_shared
    rw [mh_thr0 h0]) (fun e m hc => by
    rcases hc with ⟨rfl, rfl⟩
    · exact ⟨by decide, fun hh => rfl⟩) (fun v0 hX B1 qX sX lX => by
    rw [hKF]
    show (zob hX 50 ((0 : Nat) : Int) fun p9 =>
    zix (zhL hX 50 p9) (wr ((a : Int) + 1)) fun j10 =>
    zob hX 50 ((0 : Nat) : Int) fun p11 =>
    zix (zhL hX 50 p11) (wr ((a : Int) + 2)) fun j12 =>
    zob hX 50 ((0 : Nat) : Int) fun p13 =>
    zix (zhL hX 50 p13) (wr ((a : Int) + 3)) fun j14 =>
    zob hX 12 ((0 : Nat) : Int) fun _ =>
    zmch hX ((0 : Nat) : Int) (M_shared (zhD hX 50 p9 j10) (zhD hX 50 p11 j12) (zhD hX 50 p13 j14) hX  fun v15 h16 =>
    zob h16 12 ((0 : Nat) : Int) fun _ =>
    zmch h16 ((0 : Nat) : Int) (M_thrown h16  fun v17 h18 =>
    if v17 = v0 then (if v0 = 0 then (zob h18 51 ((0 : Nat) : Int) fun p19 =>
    zix (zhL h18 51 p19) 0 fun j20 =>
    if (zlcmp (zhD h18 51 p19 j20) v15) = 0 then Lw_law_1711 kr r28 ((0 : Nat) : Int) ((0 : Nat) : Int) ((0 : Nat) : Int) ((0 : Nat) : Int) ((0 : Nat) : Int) (a : Int) h18
    else kr 0 h18)
    else Lw_law_1711 kr r28 ((0 : Nat) : Int) ((0 : Nat) : Int) ((0 : Nat) : Int) ((0 : Nat) : Int) ((0 : Nat) : Int) (a : Int) h18)
    else kr 0 h18))) = _
    refine Eq.trans (z50 qX lX (i := 1) (by omega) hl) ?_
    refine Eq.trans (z50 qX lX (i := 2) (by omega) hl) ?_
    refine Eq.trans (z50 qX lX (i := 3) (by omega) hl) ?_
    refine Eq.trans (z12 qX) ?_
    rw [qX.1 50 (a + 1) rfl, sX, qX.1 50 (a + 2) rfl, sX, qX.1 50 (a + 3) rfl, sX])
  obtain ⟨h1, K1, L1, e, v1⟩ := core
  refine ⟨h1, K1, L1, ?_, v1⟩
  rw [hKF] at e
  unfold Lw_law_1634
  refine Eq.trans (z50 q.rh hlen (i := 1) (by omega) hl) ?_
  refine Eq.trans (z50 q.rh hlen (i := 2) (by omega) hl) ?_
  refine Eq.trans (z50 q.rh hlen (i := 3) (by omega) hl) ?_
  unfold Lw_shared
  refine Eq.trans (zob_n (show 0 < zhN h 0 by rw [q.rs.N0]; decide)) ?_
  rw [q.rh.1 50 (a + 1) rfl, hS, q.rh.1 50 (a + 2) rfl, hS, q.rh.1 50 (a + 3) rfl, hS]
  exact e
theorem law_buffered (v : LV S len h K L n N M) (ha : a + 5 < len) (hl : len ≤ 3072) (hSi : ∀ j, zir (S j)) : ∃ (h1 : zH) (K1 L1 : Nat), Lw_law_1714 kr r28 ((0 : Nat) : Int) ((0 : Nat) : Int) ((0 : Nat) : Int) ((0 : Nat) : Int) ((0 : Nat) : Int) (a : Int) h = r28 ((0 : Nat) : Int) ((0 : Nat) : Int) ((0 : Nat) : Int) ((0 : Nat) : Int) ((0 : Nat) : Int) (wr ((a : Int) + 6)) h1 ∧ LV S len h1 K1 L1 (n + 18500) (N + 1000) (M + 13000) := by
  obtain ⟨A0, B0, bc0, tc0, gc0, m0, q, cl, hB, hS, hlen⟩ := id v
  obtain ⟨KF, hKF⟩ : ∃ KF : Int → zH → Option ρ, KF = (fun v5 h6 => zob h6 50 ((0 : Nat) : Int) fun p7 =>
    zix (zhL h6 50 p7) (wr ((a : Int) + 1)) fun j8 =>
    zob h6 50 ((0 : Nat) : Int) fun p9 =>
    zix (zhL h6 50 p9) (wr ((a : Int) + 2)) fun j10 =>
    zob h6 12 ((0 : Nat) : Int) fun _ =>
    zmch h6 ((0 : Nat) : Int) (M_buffered (zhD h6 50 p7 j8) (zhD h6 50 p9 j10) h6  fun v11 h12 =>
    zob h12 12 ((0 : Nat) : Int) fun _ =>
    zmch h12 ((0 : Nat) : Int) (M_thrown h12  fun v13 h14 =>
    if v13 = v5 then (if v5 = 0 then (zob h14 51 ((0 : Nat) : Int) fun p15 =>
    zix (zhL h14 51 p15) 0 fun j16 =>
    if (zlcmp (zhD h14 51 p15 j16) v11) = 0 then Lw_law_1779 kr r28 ((0 : Nat) : Int) ((0 : Nat) : Int) ((0 : Nat) : Int) ((0 : Nat) : Int) ((0 : Nat) : Int) (a : Int) h14
    else kr 0 h14)
    else Lw_law_1779 kr r28 ((0 : Nat) : Int) ((0 : Nat) : Int) ((0 : Nat) : Int) ((0 : Nat) : Int) ((0 : Nat) : Int) (a : Int) h14)
    else kr 0 h14))) := ⟨_, rfl⟩
  have core := law_core (cod := fun (e : Nat) (m : Int) => (e = 3 ∧ m = 1)) (X := fun kt kr => X_buffered 0 (S (a + 1)) (S (a + 2)) h kt kr) (Mo := fun g kr => M_buffered (S (a + 1)) (S (a + 2)) g kr) (kt := (fun n h6 => if n = 3 then KF 1 h6 else none)) (K1 := KF) (R := fun hh => Lw_law_1779 kr r28 ((0 : Nat) : Int) ((0 : Nat) : Int) ((0 : Nat) : Int) ((0 : Nat) : Int) ((0 : Nat) : Int) (a : Int) hh) (bad := fun hh => kr 0 hh) v (fun A B bc tc gc q cl => op_buffered q cl) (fun g A m kr h0 => by
    show M_buffered (S (a + 1)) (S (a + 2)) (mh g (au A 12 0 m)) kr = M_buffered (S (a + 1)) (S (a + 2)) (mh g A) kr
    unfold M_buffered
    rw [mh_thr0 h0]) (fun e m hc => by
    rcases hc with ⟨rfl, rfl⟩
    · exact ⟨by decide, fun hh => rfl⟩) (fun v0 hX B1 qX sX lX => by
    rw [hKF]
    show (zob hX 50 ((0 : Nat) : Int) fun p7 =>
    zix (zhL hX 50 p7) (wr ((a : Int) + 1)) fun j8 =>
    zob hX 50 ((0 : Nat) : Int) fun p9 =>
    zix (zhL hX 50 p9) (wr ((a : Int) + 2)) fun j10 =>
    zob hX 12 ((0 : Nat) : Int) fun _ =>
    zmch hX ((0 : Nat) : Int) (M_buffered (zhD hX 50 p7 j8) (zhD hX 50 p9 j10) hX  fun v11 h12 =>
    zob h12 12 ((0 : Nat) : Int) fun _ =>
    zmch h12 ((0 : Nat) : Int) (M_thrown h12  fun v13 h14 =>
    if v13 = v0 then (if v0 = 0 then (zob h14 51 ((0 : Nat) : Int) fun p15 =>
    zix (zhL h14 51 p15) 0 fun j16 =>
    if (zlcmp (zhD h14 51 p15 j16) v11) = 0 then Lw_law_1779 kr r28 ((0 : Nat) : Int) ((0 : Nat) : Int) ((0 : Nat) : Int) ((0 : Nat) : Int) ((0 : Nat) : Int) (a : Int) h14
    else kr 0 h14)
    else Lw_law_1779 kr r28 ((0 : Nat) : Int) ((0 : Nat) : Int) ((0 : Nat) : Int) ((0 : Nat) : Int) ((0 : Nat) : Int) (a : Int) h14)
    else kr 0 h14))) = _
    refine Eq.trans (z50 qX lX (i := 1) (by omega) hl) ?_
    refine Eq.trans (z50 qX lX (i := 2) (by omega) hl) ?_
    refine Eq.trans (z12 qX) ?_
    rw [qX.1 50 (a + 1) rfl, sX, qX.1 50 (a + 2) rfl, sX])
  obtain ⟨h1, K1, L1, e, v1⟩ := core
  refine ⟨h1, K1, L1, ?_, v1⟩
  rw [hKF] at e
  unfold Lw_law_1714
  refine Eq.trans (z50 q.rh hlen (i := 1) (by omega) hl) ?_
  refine Eq.trans (z50 q.rh hlen (i := 2) (by omega) hl) ?_
  unfold Lw_buffered
  refine Eq.trans (zob_n (show 0 < zhN h 0 by rw [q.rs.N0]; decide)) ?_
  rw [q.rh.1 50 (a + 1) rfl, hS, q.rh.1 50 (a + 2) rfl, hS]
  exact e
theorem law_fault (v : LV S len h K L n N M) (ha : a + 5 < len) (hl : len ≤ 3072) (hSi : ∀ j, zir (S j)) : ∃ (h1 : zH) (K1 L1 : Nat), Lw_law_1782 kr r28 ((0 : Nat) : Int) ((0 : Nat) : Int) ((0 : Nat) : Int) ((0 : Nat) : Int) ((0 : Nat) : Int) (a : Int) h = r28 ((0 : Nat) : Int) ((0 : Nat) : Int) ((0 : Nat) : Int) ((0 : Nat) : Int) ((0 : Nat) : Int) (wr ((a : Int) + 6)) h1 ∧ LV S len h1 K1 L1 (n + 18500) (N + 1000) (M + 13000) := by
  obtain ⟨A0, B0, bc0, tc0, gc0, m0, q, cl, hB, hS, hlen⟩ := id v
  obtain ⟨KF, hKF⟩ : ∃ KF : Int → zH → Option ρ, KF = (fun v3 h4 => zob h4 50 ((0 : Nat) : Int) fun p5 =>
    zix (zhL h4 50 p5) (wr ((a : Int) + 1)) fun j6 =>
    zob h4 12 ((0 : Nat) : Int) fun _ =>
    zmch h4 ((0 : Nat) : Int) (M_fault (zhD h4 50 p5 j6) h4  fun v7 h8 =>
    zob h8 12 ((0 : Nat) : Int) fun _ =>
    zmch h8 ((0 : Nat) : Int) (M_thrown h8  fun v9 h10 =>
    if v9 = v3 then (if v3 = 0 then (zob h10 51 ((0 : Nat) : Int) fun p11 =>
    zix (zhL h10 51 p11) 0 fun j12 =>
    if (zlcmp (zhD h10 51 p11 j12) v7) = 0 then Lw_law_1835 kr r28 ((0 : Nat) : Int) ((0 : Nat) : Int) ((0 : Nat) : Int) ((0 : Nat) : Int) ((0 : Nat) : Int) (a : Int) h10
    else kr 0 h10)
    else Lw_law_1835 kr r28 ((0 : Nat) : Int) ((0 : Nat) : Int) ((0 : Nat) : Int) ((0 : Nat) : Int) ((0 : Nat) : Int) (a : Int) h10)
    else kr 0 h10))) := ⟨_, rfl⟩
  have core := law_core (cod := fun (e : Nat) (m : Int) => (e = 3 ∧ m = 1) ∨ (e = 5 ∧ m = 2)) (X := fun kt kr => X_fault 0 (S (a + 1)) h kt kr) (Mo := fun g kr => M_fault (S (a + 1)) g kr) (kt := (fun n h6 => if n = 3 then KF 1 h6 else if n = 5 then KF 2 h6 else none)) (K1 := KF) (R := fun hh => Lw_law_1835 kr r28 ((0 : Nat) : Int) ((0 : Nat) : Int) ((0 : Nat) : Int) ((0 : Nat) : Int) ((0 : Nat) : Int) (a : Int) hh) (bad := fun hh => kr 0 hh) v (fun A B bc tc gc q cl => op_fault q cl) (fun g A m kr h0 => by
    show M_fault (S (a + 1)) (mh g (au A 12 0 m)) kr = M_fault (S (a + 1)) (mh g A) kr
    unfold M_fault
    rw [mh_thr0 h0]) (fun e m hc => by
    rcases hc with ⟨rfl, rfl⟩ | ⟨rfl, rfl⟩
    · exact ⟨by decide, fun hh => rfl⟩
    · exact ⟨by decide, fun hh => rfl⟩) (fun v0 hX B1 qX sX lX => by
    rw [hKF]
    show (zob hX 50 ((0 : Nat) : Int) fun p5 =>
    zix (zhL hX 50 p5) (wr ((a : Int) + 1)) fun j6 =>
    zob hX 12 ((0 : Nat) : Int) fun _ =>
    zmch hX ((0 : Nat) : Int) (M_fault (zhD hX 50 p5 j6) hX  fun v7 h8 =>
    zob h8 12 ((0 : Nat) : Int) fun _ =>
    zmch h8 ((0 : Nat) : Int) (M_thrown h8  fun v9 h10 =>
    if v9 = v0 then (if v0 = 0 then (zob h10 51 ((0 : Nat) : Int) fun p11 =>
    zix (zhL h10 51 p11) 0 fun j12 =>
    if (zlcmp (zhD h10 51 p11 j12) v7) = 0 then Lw_law_1835 kr r28 ((0 : Nat) : Int) ((0 : Nat) : Int) ((0 : Nat) : Int) ((0 : Nat) : Int) ((0 : Nat) : Int) (a : Int) h10
    else kr 0 h10)
    else Lw_law_1835 kr r28 ((0 : Nat) : Int) ((0 : Nat) : Int) ((0 : Nat) : Int) ((0 : Nat) : Int) ((0 : Nat) : Int) (a : Int) h10)
    else kr 0 h10))) = _
    refine Eq.trans (z50 qX lX (i := 1) (by omega) hl) ?_
    refine Eq.trans (z12 qX) ?_
    rw [qX.1 50 (a + 1) rfl, sX])
  obtain ⟨h1, K1, L1, e, v1⟩ := core
  refine ⟨h1, K1, L1, ?_, v1⟩
  rw [hKF] at e
  unfold Lw_law_1782
  refine Eq.trans (z50 q.rh hlen (i := 1) (by omega) hl) ?_
  unfold Lw_fault
  refine Eq.trans (zob_n (show 0 < zhN h 0 by rw [q.rs.N0]; decide)) ?_
  rw [q.rh.1 50 (a + 1) rfl, hS]
  exact e
theorem law_races (v : LV S len h K L n N M) (ha : a + 5 < len) (hl : len ≤ 3072) (hSi : ∀ j, zir (S j)) : ∃ (h1 : zH) (K1 L1 : Nat), Lw_law_1969 kr r28 ((0 : Nat) : Int) ((0 : Nat) : Int) ((0 : Nat) : Int) ((0 : Nat) : Int) ((0 : Nat) : Int) (a : Int) h = r28 ((0 : Nat) : Int) ((0 : Nat) : Int) ((0 : Nat) : Int) ((0 : Nat) : Int) ((0 : Nat) : Int) (wr ((a : Int) + 6)) h1 ∧ LV S len h1 K1 L1 (n + 18500) (N + 1000) (M + 13000) := by
  obtain ⟨A0, B0, bc0, tc0, gc0, m0, q, cl, hB, hS, hlen⟩ := id v
  obtain ⟨KF, hKF⟩ : ∃ KF : Int → zH → Option ρ, KF = (fun v3 h4 => zob h4 50 ((0 : Nat) : Int) fun p5 =>
    zix (zhL h4 50 p5) (wr ((a : Int) + 1)) fun j6 =>
    zob h4 12 ((0 : Nat) : Int) fun _ =>
    zmch h4 ((0 : Nat) : Int) (M_races (zhD h4 50 p5 j6) h4  fun v7 h8 =>
    zob h8 12 ((0 : Nat) : Int) fun _ =>
    zmch h8 ((0 : Nat) : Int) (M_thrown h8  fun v9 h10 =>
    if v9 = v3 then (if v3 = 0 then (zob h10 51 ((0 : Nat) : Int) fun p11 =>
    zix (zhL h10 51 p11) 0 fun j12 =>
    if (zlcmp (zhD h10 51 p11 j12) v7) = 0 then Lw_law_2022 kr r28 ((0 : Nat) : Int) ((0 : Nat) : Int) ((0 : Nat) : Int) ((0 : Nat) : Int) ((0 : Nat) : Int) (a : Int) h10
    else kr 0 h10)
    else Lw_law_2022 kr r28 ((0 : Nat) : Int) ((0 : Nat) : Int) ((0 : Nat) : Int) ((0 : Nat) : Int) ((0 : Nat) : Int) (a : Int) h10)
    else kr 0 h10))) := ⟨_, rfl⟩
  have core := law_core (cod := fun (e : Nat) (m : Int) => (e = 3 ∧ m = 1)) (X := fun kt kr => X_races 0 (S (a + 1)) h kt kr) (Mo := fun g kr => M_races (S (a + 1)) g kr) (kt := (fun n h6 => if n = 3 then KF 1 h6 else none)) (K1 := KF) (R := fun hh => Lw_law_2022 kr r28 ((0 : Nat) : Int) ((0 : Nat) : Int) ((0 : Nat) : Int) ((0 : Nat) : Int) ((0 : Nat) : Int) (a : Int) hh) (bad := fun hh => kr 0 hh) v (fun A B bc tc gc q cl => op_races q cl) (fun g A m kr h0 => by
    show M_races (S (a + 1)) (mh g (au A 12 0 m)) kr = M_races (S (a + 1)) (mh g A) kr
    unfold M_races
    rw [mh_thr0 h0]) (fun e m hc => by
    rcases hc with ⟨rfl, rfl⟩
    · exact ⟨by decide, fun hh => rfl⟩) (fun v0 hX B1 qX sX lX => by
    rw [hKF]
    show (zob hX 50 ((0 : Nat) : Int) fun p5 =>
    zix (zhL hX 50 p5) (wr ((a : Int) + 1)) fun j6 =>
    zob hX 12 ((0 : Nat) : Int) fun _ =>
    zmch hX ((0 : Nat) : Int) (M_races (zhD hX 50 p5 j6) hX  fun v7 h8 =>
    zob h8 12 ((0 : Nat) : Int) fun _ =>
    zmch h8 ((0 : Nat) : Int) (M_thrown h8  fun v9 h10 =>
    if v9 = v0 then (if v0 = 0 then (zob h10 51 ((0 : Nat) : Int) fun p11 =>
    zix (zhL h10 51 p11) 0 fun j12 =>
    if (zlcmp (zhD h10 51 p11 j12) v7) = 0 then Lw_law_2022 kr r28 ((0 : Nat) : Int) ((0 : Nat) : Int) ((0 : Nat) : Int) ((0 : Nat) : Int) ((0 : Nat) : Int) (a : Int) h10
    else kr 0 h10)
    else Lw_law_2022 kr r28 ((0 : Nat) : Int) ((0 : Nat) : Int) ((0 : Nat) : Int) ((0 : Nat) : Int) ((0 : Nat) : Int) (a : Int) h10)
    else kr 0 h10))) = _
    refine Eq.trans (z50 qX lX (i := 1) (by omega) hl) ?_
    refine Eq.trans (z12 qX) ?_
    rw [qX.1 50 (a + 1) rfl, sX])
  obtain ⟨h1, K1, L1, e, v1⟩ := core
  refine ⟨h1, K1, L1, ?_, v1⟩
  rw [hKF] at e
  unfold Lw_law_1969
  refine Eq.trans (z50 q.rh hlen (i := 1) (by omega) hl) ?_
  unfold Lw_races
  refine Eq.trans (zob_n (show 0 < zhN h 0 by rw [q.rs.N0]; decide)) ?_
  rw [q.rh.1 50 (a + 1) rfl, hS]
  exact e
theorem law_faultAt (v : LV S len h K L n N M) (ha : a + 5 < len) (hl : len ≤ 3072) (hSi : ∀ j, zir (S j)) : ∃ (h1 : zH) (K1 L1 : Nat), Lw_law_1838 kr r28 ((0 : Nat) : Int) ((0 : Nat) : Int) ((0 : Nat) : Int) ((0 : Nat) : Int) ((0 : Nat) : Int) (a : Int) h = r28 ((0 : Nat) : Int) ((0 : Nat) : Int) ((0 : Nat) : Int) ((0 : Nat) : Int) ((0 : Nat) : Int) (wr ((a : Int) + 6)) h1 ∧ LV S len h1 K1 L1 (n + 18500) (N + 1000) (M + 13000) := by
  obtain ⟨A0, B0, bc0, tc0, gc0, m0, q, cl, hB, hS, hlen⟩ := id v
  obtain ⟨KF, hKF⟩ : ∃ KF : Int → zH → Option ρ, KF = (fun v3 h4 => zob h4 50 ((0 : Nat) : Int) fun p5 =>
    zix (zhL h4 50 p5) (wr ((a : Int) + 1)) fun j6 =>
    zob h4 12 ((0 : Nat) : Int) fun _ =>
    zmch h4 ((0 : Nat) : Int) (M_faultAt (zhD h4 50 p5 j6) h4  fun v7 h8 =>
    zob h8 12 ((0 : Nat) : Int) fun _ =>
    zmch h8 ((0 : Nat) : Int) (M_thrown h8  fun v9 h10 =>
    if v9 = v3 then (if v3 = 0 then (zob h10 51 ((0 : Nat) : Int) fun p11 =>
    zix (zhL h10 51 p11) 0 fun j12 =>
    if (zlcmp (zhD h10 51 p11 j12) v7) = 0 then Lw_law_1891 kr r28 ((0 : Nat) : Int) ((0 : Nat) : Int) ((0 : Nat) : Int) ((0 : Nat) : Int) ((0 : Nat) : Int) (a : Int) h10
    else kr 0 h10)
    else Lw_law_1891 kr r28 ((0 : Nat) : Int) ((0 : Nat) : Int) ((0 : Nat) : Int) ((0 : Nat) : Int) ((0 : Nat) : Int) (a : Int) h10)
    else kr 0 h10))) := ⟨_, rfl⟩
  have core := law_core (cod := fun (e : Nat) (m : Int) => (e = 3 ∧ m = 1) ∨ (e = 5 ∧ m = 2)) (X := fun kt kr => X_faultAt 0 (S (a + 1)) h kt kr) (Mo := fun g kr => M_faultAt (S (a + 1)) g kr) (kt := (fun n h6 => if n = 3 then KF 1 h6 else if n = 5 then KF 2 h6 else none)) (K1 := KF) (R := fun hh => Lw_law_1891 kr r28 ((0 : Nat) : Int) ((0 : Nat) : Int) ((0 : Nat) : Int) ((0 : Nat) : Int) ((0 : Nat) : Int) (a : Int) hh) (bad := fun hh => kr 0 hh) v (fun A B bc tc gc q cl => op_faultAt q cl) (fun g A m kr h0 => by
    show M_faultAt (S (a + 1)) (mh g (au A 12 0 m)) kr = M_faultAt (S (a + 1)) (mh g A) kr
    unfold M_faultAt
    rw [mh_thr0 h0]) (fun e m hc => by
    rcases hc with ⟨rfl, rfl⟩ | ⟨rfl, rfl⟩
    · exact ⟨by decide, fun hh => rfl⟩
    · exact ⟨by decide, fun hh => rfl⟩) (fun v0 hX B1 qX sX lX => by
    rw [hKF]
    show (zob hX 50 ((0 : Nat) : Int) fun p5 =>
    zix (zhL hX 50 p5) (wr ((a : Int) + 1)) fun j6 =>
    zob hX 12 ((0 : Nat) : Int) fun _ =>
    zmch hX ((0 : Nat) : Int) (M_faultAt (zhD hX 50 p5 j6) hX  fun v7 h8 =>
    zob h8 12 ((0 : Nat) : Int) fun _ =>
    zmch h8 ((0 : Nat) : Int) (M_thrown h8  fun v9 h10 =>
    if v9 = v0 then (if v0 = 0 then (zob h10 51 ((0 : Nat) : Int) fun p11 =>
    zix (zhL h10 51 p11) 0 fun j12 =>
    if (zlcmp (zhD h10 51 p11 j12) v7) = 0 then Lw_law_1891 kr r28 ((0 : Nat) : Int) ((0 : Nat) : Int) ((0 : Nat) : Int) ((0 : Nat) : Int) ((0 : Nat) : Int) (a : Int) h10
    else kr 0 h10)
    else Lw_law_1891 kr r28 ((0 : Nat) : Int) ((0 : Nat) : Int) ((0 : Nat) : Int) ((0 : Nat) : Int) ((0 : Nat) : Int) (a : Int) h10)
    else kr 0 h10))) = _
    refine Eq.trans (z50 qX lX (i := 1) (by omega) hl) ?_
    refine Eq.trans (z12 qX) ?_
    rw [qX.1 50 (a + 1) rfl, sX])
  obtain ⟨h1, K1, L1, e, v1⟩ := core
  refine ⟨h1, K1, L1, ?_, v1⟩
  rw [hKF] at e
  unfold Lw_law_1838
  refine Eq.trans (z50 q.rh hlen (i := 1) (by omega) hl) ?_
  unfold Lw_faultAt
  refine Eq.trans (zob_n (show 0 < zhN h 0 by rw [q.rs.N0]; decide)) ?_
  rw [q.rh.1 50 (a + 1) rfl, hS]
  exact e
end
