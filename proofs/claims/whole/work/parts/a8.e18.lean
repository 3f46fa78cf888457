/-! LAUNCH AND COPY, KEPT -/
section
variable {ρ : Type} {h g : zH} {A : zA} {kr : Int → zH → Option ρ} {kt : Nat → zH → Option ρ} {K L : Nat}
theorem zahead_a0 {qu : Int} : zahead (a0 A) qu L = zahead A qu L := by
  have e1 : zahd (a0 A) qu L = zahd A qu L := by
    unfold zahd
    rw [zlast_eq (B := A) L (fun k _ => by rw [a0_c (by decide)])]
  unfold zahead
  rw [e1, a0_c (show 69 ≠ 12 by decide)]
theorem zaft {aft m : Int} (h : (decide (aft = -1) || zwi aft 0 m) = true) : (if zwi aft 0 m = true then aft else -1) = aft := by
  rcases Bool.or_eq_true_iff.mp h with k | k
  · have k : aft = -1 := of_decide_eq_true k
    split
    · rfl
    · exact k.symm
  · rw [if_pos k]
theorem mAdd_k {q k aft : Int} {c j : Nat} : mAdd A q k aft L c j = if c = 12 ∧ j = 13 then (L : Int) + 1 else if c = 75 ∧ j = L then zahead A q L else if c = 76 ∧ j = L then -1 else if c = 74 ∧ j = L then aft else if c = 70 ∧ j = L then k else if c = 71 ∧ j = L then q else if c = 69 ∧ j = L then 113 else A c j := rfl
theorem mLaunch_k {q k bl th aft : Int} {c j : Nat} : mLaunch A q k bl th aft L c j = if c = 64 ∧ j = k.toNat then 1 else if c = 73 ∧ j = L then th else if c = 72 ∧ j = L then bl else mAdd A q k aft L c j := rfl
theorem mCopy_k {q fr to n aft : Int} {c j : Nat} : mCopy A q fr to n aft L c j = if c = 82 ∧ j = L then n else if c = 81 ∧ j = L then to else if c = 80 ∧ j = L then fr else mAdd A q (-1) aft L c j := rfl
theorem hE_9L (a3 : zhN h 9 = L) {b c d e : Int} {j : Nat} : zhD (hE h b c d e) 9 L j = zhD (hL0 h (zhN h 9 : Int) b c d e) 9 (zhN h 9) j := by
  rw [hE_9, a3]
theorem hE_9p (a3 : zhN h 9 = L) {b c d e : Int} {l : Nat} (hl : l ≠ L) : zhD (hE h b c d e) 9 l = zhD h 9 l := by
  rw [hE_9, hL0_D9p (by omega)]
theorem RL.launch (q : RS h) (rk : RK A h K) (r : RL A h K L) (hL : L < 12) {qu bl th aft : Int} {n : Nat} (hn : n < K) (hq : zwi qu 0 1 = true) (ha : (decide (aft = -1) || zwi aft 0 (A 12 13 - 1)) = true) (hb : zwi bl 1 6 = true) (ht : zwi th 1 16 = true) (hz : zbf (A 61 n) (A 62 n) th ≠ 0) :
    RL (mLaunch (a0 A) qu n bl th aft L) (hU h qu (zahead A qu L) aft n bl th) K (L + 1) := by
  obtain ⟨a1, a2, a3, a4⟩ := r.at
  have tl := r.2.2.2.2.2 L (Nat.le_refl _) hL
  have hqu := zwi_t hq
  have hbl := zwi_t hb
  have hth := zwi_t ht
  have haf : -1 ≤ aft ∧ aft < (L : Int) := by
    rcases Bool.or_eq_true_iff.mp ha with k | k
    · have k : aft = -1 := of_decide_eq_true k
      omega
    · have := zwi_t k
      omega
  have hzr := zahead_rng A qu L
  have hzA := zahead_a0 (A := A) (L := L) (qu := qu)
  have ec : ∀ c, c ≠ 12 → a0 A c = A c := fun c hc => a0_c hc
  obtain ⟨f0, f1, f2, f3, f4, f5, -, -, -, f9⟩ := hL0_9 (h := h) (a := (zhN h 9 : Int)) (b := qu) (c := zahead A qu L) (d := aft) (e := -1)
  rw [a3] at f0 f1 f2 f3 f4 f5 f9
  have g9 : ∀ j, zhD (hU h qu (zahead A qu L) aft n bl th) 9 L j = if j = 7 then th else if j = 6 then bl else if j = 5 then (n : Int) else zhD (hL0 h (L : Int) qu (zahead A qu L) aft (-1)) 9 L j := fun j => by
    unfold hU
    rw [a3]
    simp only [zD_set, hE_9L a3, true_and]
    rw [a3]
    simp
  have g9p : ∀ l, l ≠ L → zhD (hU h qu (zahead A qu L) aft n bl th) 9 l = zhD h 9 l := fun l hl => by
    unfold hU
    rw [a3, zD_np hl, zD_np hl, zD_ne (by decide), zD_np hl, hE_9p a3 hl]
  have g21 : ∀ l, zhD (hU h qu (zahead A qu L) aft n bl th) 21 0 l = if l = L then (L : Int) else zhD h 21 0 l := fun l => by
    unfold hU
    rw [zD_ne (by decide), zD_ne (by decide), zD_ne (by decide), zD_ne (by decide), hE_21, a3]
  have g1 : zhD (hU h qu (zahead A qu L) aft n bl th) 1 0 3 = (L : Int) + 1 := by
    unfold hU
    rw [zD_ne (by decide), zD_ne (by decide), zD_ne (by decide), zD_ne (by decide), hE_1.1, a3]
  have gN : zhN (hU h qu (zahead A qu L) aft n bl th) 9 = L + 1 := by
    unfold hU
    rw [zN_set, zN_set, zN_set, zN_set, hE_N9, a3]
  generalize hU h qu (zahead A qu L) aft n bl th = h' at g9 g9p g21 g1 gN ⊢
  refine RL.new q r hL (by simp [mLaunch_k, mAdd_k]) gN g1 (fun l hl => by rw [g21, if_neg (by omega)]) (fun l hl => g9p l (by omega)) (fun c l h1 h2 hl => ?_) (fun k hk => ?_) ?_
  · have : c ≠ 12 := by omega
    have : c ≠ 64 := by omega
    simp [mLaunch_k, mAdd_k, hl, ec, *]
  · refine ⟨by simp [mLaunch_k, mAdd_k, ec], by simp [mLaunch_k, mAdd_k, ec], fun z => ?_⟩
    simp [mLaunch_k, mAdd_k, ec, z]
  · unfold RLn
    rw [g21, if_pos rfl]
    simp only [g9]
    simp [mLaunch_k, mAdd_k, ec, hzA, f0, f1, f2, f3, f4, f5, a3, f9, tl, zst]
    have hnK : (n : Int) < (K : Int) := by omega
    omega
end
