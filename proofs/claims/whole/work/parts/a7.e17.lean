/-! LAUNCHES, KEPT -/
section
variable {h h' : zH} {A A' : zA} {K K' L : Nat}
theorem zahead_rng (A : zA) (q : Int) (n : Nat) : -1 ≤ zahead A q n ∧ zahead A q n < (n : Int) := by
  have := zahd_rng A q n
  unfold zahead
  split <;> omega
theorem RK.was (hR : RK A h K) {n : Nat} (hn : n < K) : RK (au A 64 n 1) (zset h 7 n 4 1) K := by
  obtain ⟨a1, a2, a3, a4, a5, a6⟩ := hR
  have bn : ∀ c, c ≠ 64 → au A 64 n 1 c = A c := fun c hc => au_ne hc
  unfold RK
  rw [bn 12 (by decide), bn 61 (by decide), bn 62 (by decide), bn 63 (by decide), bn 65 (by decide), bn 66 (by decide), bn 67 (by decide), bn 68 (by decide), zN_set, zD_ne (show 1 ≠ 7 by decide), zD_ne (show 20 ≠ 7 by decide), zD_ne (show 33 ≠ 7 by decide), zD_ne (show 8 ≠ 7 by decide)]
  refine ⟨a1, a2, a3, a4, fun k hk => ?_, fun k hk hk4 => ?_⟩
  · obtain ⟨c0, c1, c2, c3, c4, c5, c6, c7, d1, d2, d3, d4, d5⟩ := a5 k hk
    have dn : ∀ j, j ≠ 4 → zhD (zset h 7 n 4 1) 7 k j = zhD h 7 k j := fun j hj => if_neg (fun z => hj z.2.2)
    have d : zhD (zset h 7 n 4 1) 7 k 4 = if k = n then 1 else zhD h 7 k 4 := by rw [zD_set]; simp
    have e : au A 64 n 1 64 k = if k = n then 1 else A 64 k := au_j
    rw [dn 0 (by decide), dn 1 (by decide), dn 3 (by decide), d, e]
    by_cases hkn : k = n
    · rw [if_pos hkn, if_pos hkn]
      exact ⟨c0, c1, c2, c3, c4, c5, c6, Or.inr rfl, d1, d2, d3, rfl, d5⟩
    · rw [if_neg hkn, if_neg hkn]
      exact ⟨c0, c1, c2, c3, c4, c5, c6, c7, d1, d2, d3, d4, d5⟩
  · rw [au_j, if_neg (by omega)]
    exact a6 k hk hk4
/-- what one launch reads -/
theorem RLn.frame {l : Nat} (r : RLn A h K l) (hK : K ≤ K') (h21 : zhD h' 21 0 l = zhD h 21 0 l) (h9 : zhD h' 9 l = zhD h 9 l) (hA : ∀ c, 69 ≤ c → c ≤ 85 → A' c l = A c l) (hd : ∀ p, p < l → A' 77 p = A 77 p) (h61 : ∀ k, k < K → A' 61 k = A 61 k ∧ A' 62 k = A 62 k ∧ (A 64 k = 1 → A' 64 k = 1)) : RLn A' h' K' l := by
  obtain ⟨b1, b2, b3, b4, b5, b6, b7, b8, b9, b10, b11, b12, b13, b14⟩ := r
  unfold RLn
  rw [h21, h9, hA 69 (by decide) (by decide), hA 70 (by decide) (by decide), hA 71 (by decide) (by decide), hA 72 (by decide) (by decide), hA 73 (by decide) (by decide), hA 74 (by decide) (by decide), hA 75 (by decide) (by decide), hA 76 (by decide) (by decide), hA 77 (by decide) (by decide), hA 78 (by decide) (by decide), hA 79 (by decide) (by decide), hA 80 (by decide) (by decide), hA 81 (by decide) (by decide), hA 82 (by decide) (by decide), hA 83 (by decide) (by decide), hA 84 (by decide) (by decide), hA 85 (by decide) (by decide)]
  refine ⟨b1, b2, b3, b4, b5, b6, ⟨b7.1, b7.2.1, by omega⟩, b8, b9, b10, b11, fun hk => ?_, b13, b14.1, b14.2.1, b14.2.2.1, fun hp => ?_⟩
  · obtain ⟨c1, c2, c3, c4, c5, c6, c7⟩ := b12 hk
    obtain ⟨e1, e2, e3⟩ := h61 (A 70 l).toNat (by omega)
    rw [e1, e2]
    exact ⟨c1, c2, c3, c4, e3 c5, c6, c7⟩
  · rw [hd _ (by have := b6.2; omega)]
    exact b14.2.2.2 hp
/-- one launch more -/
theorem RL.new (q : RS h) (r : RL A h K L) (hL : L < 12) {A' : zA} {h' : zH} (h13 : A' 12 13 = (L : Int) + 1) (hN : zhN h' 9 = L + 1) (h1 : zhD h' 1 0 3 = (L : Int) + 1) (h21 : ∀ l, l < L → zhD h' 21 0 l = zhD h 21 0 l) (h9 : ∀ l, l < L → zhD h' 9 l = zhD h 9 l)
    (hA : ∀ c l, 69 ≤ c → c ≤ 85 → l ≠ L → A' c l = A c l) (h61 : ∀ k, k < K → A' 61 k = A 61 k ∧ A' 62 k = A 62 k ∧ (A 64 k = 1 → A' 64 k = 1)) (hnew : RLn A' h' K L) : RL A' h' K (L + 1) := by
  obtain ⟨a1, a2, a3, a4, a5, a6⟩ := r
  refine ⟨h13, by omega, hN, h1, fun l hl => ?_, fun l hl hl2 => ?_⟩
  · by_cases hlL : l = L
    · subst hlL
      exact hnew
    · have hl3 : l < L := by omega
      exact (a5 l hl3).frame (Nat.le_refl _) (h21 l hl3) (h9 l hl3) (fun c h1 h2 => hA c l h1 h2 hlL) (fun p hp => hA 77 p (by decide) (by decide) (by omega)) h61
  · have hlL : l ≠ L := by omega
    rw [hA 72 l (by decide) (by decide) hlL, hA 73 l (by decide) (by decide) hlL, hA 77 l (by decide) (by decide) hlL, hA 78 l (by decide) (by decide) hlL, hA 79 l (by decide) (by decide) hlL, hA 80 l (by decide) (by decide) hlL, hA 81 l (by decide) (by decide) hlL, hA 82 l (by decide) (by decide) hlL, hA 83 l (by decide) (by decide) hlL]
    exact a6 l (by omega) hl2
/-! the model's rows behind a launch -/
theorem mAdd_c {q k aft : Int} {c : Nat} (h69 : c ≠ 69) (h71 : c ≠ 71) (h70 : c ≠ 70) (h74 : c ≠ 74) (h76 : c ≠ 76) (h75 : c ≠ 75) (h12 : c ≠ 12) : mAdd A q k aft L c = A c := by
  unfold mAdd
  rw [au_ne h12, au_ne h75, au_ne h76, au_ne h74, au_ne h70, au_ne h71, au_ne h69]
theorem mAdd_l {q k aft : Int} {c l : Nat} (h12 : c ≠ 12) (hl : l ≠ L) : mAdd A q k aft L c l = A c l := by
  unfold mAdd
  rw [au_ne h12]
  have key : ∀ (B : zA) (c0 : Nat) (v : Int), au B c0 L v c l = B c l := fun B c0 v => if_neg (fun z => hl z.2)
  rw [key, key, key, key, key, key]
theorem mAdd_12 {q k aft : Int} {j : Nat} : mAdd A q k aft L 12 j = if j = 13 then (L : Int) + 1 else A 12 j := by
  unfold mAdd
  rw [au_j, au_ne (by decide), au_ne (by decide), au_ne (by decide), au_ne (by decide), au_ne (by decide), au_ne (by decide)]
theorem mAdd_L {q k aft : Int} : mAdd A q k aft L 69 L = 113 ∧ mAdd A q k aft L 71 L = q ∧ mAdd A q k aft L 70 L = k ∧ mAdd A q k aft L 74 L = aft ∧ mAdd A q k aft L 76 L = -1 ∧ mAdd A q k aft L 75 L = zahead A q L := by
  unfold mAdd
  refine ⟨?_, ?_, ?_, ?_, ?_, ?_⟩ <;> simp [au_ne, au_same]
theorem hE_D {b c d e : Int} {x : Nat} (h9 : x ≠ 9) (h34 : x ≠ 34) (h35 : x ≠ 35) (h21 : x ≠ 21) (h1 : x ≠ 1) : zhD (hE h b c d e) x = zhD h x := by
  unfold hE
  rw [zD_ne h1, zD_ne h21, hL0_D h9 h34 h35]
theorem hE_9 {b c d e : Int} : zhD (hE h b c d e) 9 = zhD (hL0 h (zhN h 9 : Int) b c d e) 9 := by
  unfold hE
  rw [zD_ne (by decide), zD_ne (by decide)]
theorem hE_21 {b c d e : Int} {l : Nat} : zhD (hE h b c d e) 21 0 l = if l = zhN h 9 then (zhN h 9 : Int) else zhD h 21 0 l := by
  unfold hE
  rw [zD_ne (by decide), zD_set, hL0_D (by decide) (by decide) (by decide)]
  simp
theorem hE_1 {b c d e : Int} : zhD (hE h b c d e) 1 0 3 = (zhN h 9 : Int) + 1 ∧ ∀ j, j ≠ 3 → zhD (hE h b c d e) 1 0 j = zhD h 1 0 j := by
  unfold hE
  refine ⟨zD_eq, fun j hj => ?_⟩
  rw [zD_nj hj, zD_ne (by decide), hL0_D (by decide) (by decide) (by decide)]
theorem hE_N {b c d e : Int} {x : Nat} (h1 : x ≠ 9) (h2 : x ≠ 34) (h3 : x ≠ 35) : zhN (hE h b c d e) x = zhN h x := hL0_Nn (a := (zhN h 9 : Int)) (b := b) (c := c) (d := d) (e := e) h1 h2 h3
theorem RS.newE (q : RS h) {b c d e : Int} : RS (hE h b c d e) := by
  unfold hE
  exact ((q.newL).set rfl).set rfl
end
