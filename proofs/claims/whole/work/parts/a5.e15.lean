/-! ENTERED BY THE HOST -/
/-- the heap with one launch more -/
def hE (h : zH) (b c d e : Int) : zH := zset (zset (hL0 h (zhN h 9 : Int) b c d e) 21 0 (zhN h 9) (zhN h 9 : Int)) 1 0 3 ((zhN h 9 : Int) + 1)
section
variable {ρ : Type} {h : zH} {A : zA} {kr : Int → zH → Option ρ} {kt : Nat → zH → Option ρ} {K L : Nat}
theorem x_lastIn_loop (q : RS h) (r : RL A h K L) {qu : Int} : ∀ (n k : Nat), k ≤ L → k < n →
    zit (fun _ _ _ _ => none) (Le_lastIn_7b kr) n 0 qu ((k : Int) - 1) h = kr (zlast A qu k) h
  | 0, k, hk, hn => absurd hn (Nat.not_lt_zero _)
  | n + 1, k, hk, hn => by
    obtain ⟨a1, a2, a3, a4⟩ := r.at
    show Le_lastIn_7b kr (zit (fun _ _ _ _ => none) (Le_lastIn_7b kr) n) 0 qu ((k : Int) - 1) h = _
    unfold Le_lastIn_7b
    cases k with
    | zero =>
      rw [if_pos (by decide)]
      rfl
    | succ m =>
      have hm : m < L := by omega
      obtain ⟨e1, -, ⟨e2, -⟩, -⟩ := r.l hm
      have z1 : ∀ kk : Nat → Option ρ, zix 12 (m : Int) kk = kk m := fun kk => zix_n (by omega)
      rw [show ((m + 1 : Nat) : Int) - 1 = (m : Int) by omega, if_neg (by omega)]
      by_cases hq : A 71 m = qu
      · have hz : zlast A qu (m + 1) = (m : Int) := by unfold zlast; rw [if_pos hq]
        rw [hz]
        simp [zob_0 q.N1, q.D1_0_1, zob_0 q.N21, q.L21_0, z1, e1, zob_n (show m < zhN h 9 by omega), e2, hq]
      · have hz : zlast A qu (m + 1) = zlast A qu m := by show (if A 71 m = qu then _ else _) = _; rw [if_neg hq]
        have ih := x_lastIn_loop q r (qu := qu) n m (by omega) (by omega)
        have w1 : wr ((m : Int) + -1) = (m : Int) - 1 := by rw [wr_id (by omega) (by omega)]; omega
        rw [hz, ← ih, ← w1]
        simp [zob_0 q.N1, q.D1_0_1, zob_0 q.N21, q.L21_0, z1, e1, zob_n (show m < zhN h 9 by omega), e2, hq]
        rfl
theorem x_lastIn (q : RS h) (r : RL A h K L) {qu : Int} : Le_lastIn 0 qu h kr = kr (zlast A qu L) h := by
  obtain ⟨a1, a2, a3, a4⟩ := r.at
  unfold Le_lastIn
  rw [zob_0 q.N1, a4, wr_id (by omega) (by omega)]
  exact x_lastIn_loop q r zN L (Nat.le_refl _) (by show L < 5000; omega)
theorem hL0_RL (q : RS h) (r : RL A h K L) (hL : L < 12) {a b c d e : Int} : zhD (hL0 h a b c d e) 1 0 3 = (L : Int) := by
  rw [hL0_D (by decide) (by decide) (by decide)]
  exact r.at.2.2.2
theorem x_enter (q : RS h) (r : RL A h K L) (hL : L < 12) {b c d e : Int} : Le_enter 0 (zhN h 9 : Int) (hL0 h (zhN h 9 : Int) b c d e) kr = kr (zhN h 9 : Int) (hE h b c d e) := by
  obtain ⟨a1, a2, a3, a4⟩ := r.at
  have q0 := q.newL (a := (zhN h 9 : Int)) (b := b) (c := c) (d := d) (e := e)
  have e3 := hL0_RL q r hL (a := (zhN h 9 : Int)) (b := b) (c := c) (d := d) (e := e)
  have n9 : zhN h 9 < zhN (hL0 h (zhN h 9 : Int) b c d e) 9 := by rw [hL0_N9]; exact Nat.lt_succ_self _
  unfold Le_enter Le_enter_32 hE
  have z1 : ∀ kk : Nat → Option ρ, zix 12 (L : Int) kk = kk L := fun kk => zix_n hL
  have w1 : wr ((L : Int) + 1) = (L : Int) + 1 := wr_id (by omega) (by omega)
  have l12 : (L : Int) < ((12 : Nat) : Int) := by omega
  rw [a3] at q0 e3 n9 ⊢
  generalize hL0 h (L : Int) b c d e = g at q0 e3 n9 ⊢
  simp only [zob_0 q0.N1, q0.D1_0_1, zob_0 q0.N21, q0.L21_0, e3, if_pos l12, z1, zorn_n n9, zlet_d, zob_set, zD_ne (show 1 ≠ 21 by decide), w1]
theorem x_enterHost (q : RS h) (r : RL A h K L) (hL : L < 12) {qu aft : Int} (hq : qu ≠ -1) : Le_enterHostLaunch 0 qu aft h kr = kr (L : Int) (hE h qu (zahead A qu L) (if zwi aft 0 (A 12 13 - 1) = true then aft else -1) (-1)) := by
  obtain ⟨a1, a2, a3, a4⟩ := r.at
  -- the end
  have fin : ∀ c : Int, Le_enterHostLaunch_44 kr 0 aft c qu (L : Int) (zhN h 9 : Int) (zhN h 9 : Int) 0 (znew h 9 0 (znf zPP 9) (fun k => zdef (zft zPP 9 k))) = kr (L : Int) (hE h qu c (if zwi aft 0 (A 12 13 - 1) = true then aft else -1) (-1)) := fun c => by
    unfold Le_enterHostLaunch_44
    have q1 : RS (znew h 9 0 (znf zPP 9) (fun k => zdef (zft zPP 9 k))) := q.new rfl
    have hlo : ∀ kr9 : Int → zH → Option ρ, Le_launchOf 0 aft (znew h 9 0 (znf zPP 9) (fun k => zdef (zft zPP 9 k))) kr9 = kr9 (if zwi aft 0 (A 12 13 - 1) = true then aft else -1) (znew h 9 0 (znf zPP 9) (fun k => zdef (zft zPP 9 k))) := fun kr9 => by
      unfold Le_launchOf Le_launchOf_24
      have w1 : wr ((L : Int) - 1) = (L : Int) - 1 := wr_id (by omega) (by omega)
      have d1 : zhD (znew h 9 0 (znf zPP 9) (fun k => zdef (zft zPP 9 k))) 1 = zhD h 1 := zD_newne (by decide)
      have d21 : zhD (znew h 9 0 (znf zPP 9) (fun k => zdef (zft zPP 9 k))) 21 = zhD h 21 := zD_newne (by decide)
      rw [a1]
      cases hz : zwi aft 0 ((L : Int) - 1) with
      | false => simp [zob_0 q1.N1, d1, a4, w1, x_isWithin, hz, tb_f]
      | true =>
        obtain ⟨h1, h2⟩ := zwi_t hz
        obtain ⟨n, rfl⟩ : ∃ n : Nat, aft = (n : Int) := ⟨aft.toNat, by omega⟩
        have e1 := (r.l (show n < L by omega)).1
        have z1 : ∀ kk : Nat → Option ρ, zix 12 (n : Int) kk = kk n := fun kk => zix_n (by omega)
        simp [zob_0 q1.N1, zob_0 q1.N21, d1, d21, a4, w1, x_isWithin, hz, tb_t, q.D1_0_1, q1.L21_0, z1, e1]
    rw [← a3]
    simp only [zob_0 q1.N1, hlo, zob_new1, x_laInit, zob_0 (q.newL).N1]
    exact x_enter q r hL
  unfold Le_enterHostLaunch Le_enterHostLaunch_17 Le_enterHostLaunch_22
  have q1 : RS (znew h 9 0 (znf zPP 9) (fun k => zdef (zft zPP 9 k))) := q.new rfl
  have d1 : zhD (znew h 9 0 (znf zPP 9) (fun k => zdef (zft zPP 9 k))) 1 = zhD h 1 := zD_newne (by decide)
  rw [zob_0 q.N1, x_lastIn q r]
  have hzl : zahd A qu L = zlast A qu L := by unfold zahd; rw [if_neg hq]
  have hr := zlast_rng A qu L
  have hza : zahead A qu L = if zlast A qu L ≠ -1 ∧ zover (A 69 (zlast A qu L).toNat) = true then -1 else zlast A qu L := by unfold zahead; rw [hzl]
  rw [hza]
  generalize zlast A qu L = la at hr ⊢
  by_cases ha : la = -1
  · subst ha
    rw [if_pos (by decide), if_neg (fun z => z.1 rfl)]
    simp only [zlet_d, zob_0 q1.N1, d1, a4]
    rw [if_neg (by decide)]
    exact fin (-1)
  · obtain ⟨m, rfl⟩ : ∃ m : Nat, la = (m : Int) := ⟨la.toNat, by omega⟩
    have hm : m < L := by omega
    obtain ⟨-, -, -, -, -, -, -, -, ⟨e1, -⟩, -⟩ := r.l hm
    rw [if_neg (by omega), zob_n (show m < zhN h 9 by omega), x_isOver (show m < zhN h 9 by omega), e1]
    cases hz : zover (A 69 m) with
    | true =>
      rw [tb_t, if_neg (by decide), if_pos ⟨ha, hz⟩]
      simp only [zlet_d, zob_0 q1.N1, d1, a4]
      rw [if_neg (by decide)]
      exact fin (-1)
    | false =>
      have hn : ¬ ((m : Int) ≠ -1 ∧ zover (A 69 ((m : Int)).toNat) = true) := fun z => by
        have := z.2
        rw [Int.toNat_natCast, hz] at this
        cases this
      rw [tb_f, if_pos rfl, if_neg hn]
      simp only [zlet_d, zob_0 q1.N1, d1, a4]
      rw [if_pos trivial]
      exact fin (m : Int)
end
