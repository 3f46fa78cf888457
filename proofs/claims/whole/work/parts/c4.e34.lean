/-! WHAT A GROUP SEES; A WRITE PUT; A REGISTER SET -/
section
variable {ρ : Type} {h : zH} {A B : zA} {kr : Int → zH → Option ρ} {kt : Nat → zH → Option ρ} {K L n G : Nat} {bc tc gc : Nat → Nat} {N M : Int}
theorem x_sn_loop (q : RS h) (qd : RD h) (hG : G < zhN h 11) {c : Int} (hc : 0 ≤ c ∧ c < 64) : ∀ n k : Nat, k ≤ 4 → k < n → zit (fun _ _ _ _ _ => none) (Gr_seenIn_7b kr) n (G : Int) c 0 ((k : Int) - 1) h = kr (zsn (zhD h 22 0) (zhD h 43 G) (zhD h 44 G) c k) h
  | 0, k, _, hn => absurd hn (Nat.not_lt_zero _)
  | n + 1, 0, _, hn => by
    show Gr_seenIn_7b kr (zit (fun _ _ _ _ _ => none) (Gr_seenIn_7b kr) n) (G : Int) c 0 (((0 : Nat) : Int) - 1) h = _
    have z1 : ∀ kk : Nat → Option ρ, zix 64 c kk = kk c.toNat := fun kk => zix_i hc.1 (by omega)
    unfold Gr_seenIn_7b
    rw [if_pos (by decide), zob_0 q.N22, q.L22_0, z1]
    rfl
  | n + 1, k + 1, hk, hn => by
    show Gr_seenIn_7b kr (zit (fun _ _ _ _ _ => none) (Gr_seenIn_7b kr) n) (G : Int) c 0 (((k + 1 : Nat) : Int) - 1) h = _
    have ih := x_sn_loop q qd hG hc n k (by omega) (by omega)
    have k4 : k < 4 := by omega
    have e0 : ((k + 1 : Nat) : Int) - 1 = (k : Int) := by omega
    have e1 : zsn (zhD h 22 0) (zhD h 43 G) (zhD h 44 G) c (k + 1) = if zhD h 43 G k = c then zhD h 44 G k else zsn (zhD h 22 0) (zhD h 43 G) (zhD h 44 G) c k := rfl
    have e2 : ¬ (k : Int) < 0 := by omega
    have e3 : wr ((k : Int) + -1) = (k : Int) - 1 := by rw [wr_id (by omega) (by omega)]; omega
    obtain ⟨n1, n2, n3, n4⟩ := qd.2.2.2.2
    obtain ⟨d2, d3, d4, l2, l3, l4⟩ := n4 G hG
    have g43 : G < zhN h 43 := by rw [n2]; exact hG
    have g44 : G < zhN h 44 := by rw [n3]; exact hG
    generalize zit (fun _ _ _ _ _ => none) (Gr_seenIn_7b kr) n = r2 at ih ⊢
    rw [e0, e1]
    unfold Gr_seenIn_7b
    rw [if_neg e2, zob_n hG, d3, zob_n g43, l3, zix_n k4]
    by_cases h1 : zhD h 43 G k = c
    · rw [if_pos h1, if_pos h1, zob_n hG, d4, zob_n g44, l4, zix_n k4]
    · rw [if_neg h1, if_neg h1, e3]
      exact ih
theorem x_seenIn (q : RS h) (qd : RD h) (hG : G < zhN h 11) {c : Int} {w : Nat} (hc : 0 ≤ c ∧ c < 64) (hw : w ≤ 4) (h5 : zhD h 11 G 5 = (w : Int)) : Gr_seenIn (G : Int) c 0 h kr = kr (zsn (zhD h 22 0) (zhD h 43 G) (zhD h 44 G) c w) h := by
  unfold Gr_seenIn
  rw [zob_n hG, h5, wr_id (by omega) (by omega)]
  exact x_sn_loop q qd hG hc zN w hw (by show w < 5000; omega)
theorem m_sn_loop {y w : Nat} (hy : y < 8) (hw : w ≤ 4) (h97 : A 97 y = (w : Int)) {c : Int} : ∀ n k : Nat, k ≤ w → w - k < n → zit (fun _ _ _ _ _ => none) (M_seen_12b kr) n (y : Int) c (zsn (A 60) (fun k => A 98 (4 * y + k)) (fun k => A 99 (4 * y + k)) c k) ((4 * y + k : Nat) : Int) (mh h A) = kr (zsn (A 60) (fun k => A 98 (4 * y + k)) (fun k => A 99 (4 * y + k)) c w) (mh h A)
  | 0, k, _, hn => absurd hn (Nat.not_lt_zero _)
  | n + 1, k, hk, hn => by
    show M_seen_12b kr (zit (fun _ _ _ _ _ => none) (M_seen_12b kr) n) (y : Int) c _ ((4 * y + k : Nat) : Int) (mh h A) = _
    have w1 : wr (wr (4 * (y : Int)) + (w : Int)) = ((4 * y + w : Nat) : Int) := by
      rw [wr_id (x := 4 * (y : Int)) (by omega) (by omega), wr_id (by omega) (by omega)]
      omega
    by_cases hkw : k < w
    · have ih := m_sn_loop (c := c) hy hw h97 n (k + 1) hkw (by clear w1; omega)
      have w2 : wr (((4 * y + k : Nat) : Int) + 1) = ((4 * y + (k + 1) : Nat) : Int) := by
        clear w1
        rw [wr_id (by omega) (by omega)]
        omega
      have i1 : 4 * y + k < 32 := by clear w1 w2; omega
      have i3 : ((4 * y + k : Nat) : Int) < ((4 * y + w : Nat) : Int) := by clear w1 w2; omega
      have e1 : zsn (A 60) (fun k => A 98 (4 * y + k)) (fun k => A 99 (4 * y + k)) c (k + 1) = if A 98 (4 * y + k) = c then A 99 (4 * y + k) else zsn (A 60) (fun k => A 98 (4 * y + k)) (fun k => A 99 (4 * y + k)) c k := rfl
      rw [e1] at ih
      generalize zit (fun _ _ _ _ _ => none) (M_seen_12b kr) n = r2 at ih ⊢
      generalize zsn (A 60) (fun k => A 98 (4 * y + k)) (fun k => A 99 (4 * y + k)) c k = v at ih ⊢
      unfold M_seen_12b M_seen_49
      rw [zix_n hy, mD97, h97, w1, if_pos i3, zix_n i1, mD98, w2]
      by_cases h1 : A 98 (4 * y + k) = c
      · rw [if_pos h1] at ih ⊢
        rw [zix_n i1, mD99]
        exact ih
      · rw [if_neg h1] at ih ⊢
        exact ih
    · have : k = w := by clear w1; omega
      subst this
      unfold M_seen_12b
      rw [zix_n hy, mD97, h97, w1, if_neg (by clear w1; omega)]
theorem m_seen {y w : Nat} (hy : y < 8) (hw : w ≤ 4) (h97 : A 97 y = (w : Int)) {c : Int} (hc : 0 ≤ c ∧ c < 64) : M_seen (y : Int) c (mh h A) kr = kr (zsn (A 60) (fun k => A 98 (4 * y + k)) (fun k => A 99 (4 * y + k)) c w) (mh h A) := by
  have w1 : wr (4 * (y : Int)) = ((4 * y + 0 : Nat) : Int) := by rw [wr_id (by omega) (by omega)]; omega
  have z1 : ∀ kk : Nat → Option ρ, zix 64 c kk = kk c.toNat := fun kk => zix_i hc.1 (by clear w1; omega)
  unfold M_seen
  rw [z1, mD60, w1]
  exact m_sn_loop hy hw h97 zN 0 (Nat.zero_le _) (by show w - 0 < 5000; clear w1; omega)
theorem x_isBufferFull (hG : G < zhN h 11) : Gr_isBufferFull (G : Int) h kr = kr (tb (decide (4 ≤ zhD h 11 G 5))) h := by
  unfold Gr_isBufferFull Gr_isBufferFull_13
  rw [zob_n hG]
  by_cases h1 : zhD h 11 G 5 < 4
  · rw [if_pos h1, znar_0, decide_eq_false (by omega), tb_f]
  · rw [if_neg h1, znar_1, decide_eq_true (by omega), tb_t]
def hPW (h : zH) (G w : Nat) (c v : Int) : zH := zset (zset (zset h 43 G w c) 44 G w v) 11 G 5 ((w : Int) + 1)
theorem x_putWrite (qd : RD h) (hG : G < zhN h 11) {w : Nat} {c v : Int} (hw : w < 4) (h5 : zhD h 11 G 5 = (w : Int)) : Gr_putWrite (G : Int) c v h kr = kr 0 (hPW h G w c v) := by
  obtain ⟨n1, n2, n3, n4⟩ := qd.2.2.2.2
  obtain ⟨d2, d3, d4, l2, l3, l4⟩ := n4 G hG
  have g43 : G < zhN h 43 := by rw [n2]; exact hG
  have g44 : G < zhN h 44 := by rw [n3]; exact hG
  have e1 : wr ((w : Int) + 1) = (w : Int) + 1 := wr_id (by omega) (by omega)
  have hG2 : ∀ v, G < zhN (zset h 43 G w v) 11 := fun _ => hG
  have hG3 : ∀ v v2, G < zhN (zset (zset h 43 G w v) 44 G w v2) 11 := fun _ _ => hG
  have hG4 : ∀ v, G < zhN (zset h 43 G w v) 44 := fun _ => g44
  unfold Gr_putWrite Gr_putWrite_37
  rw [zob_n hG, x_isBufferFull hG, h5, decide_eq_false (show ¬ 4 ≤ (w : Int) by clear e1; omega), tb_f, if_pos rfl]
  simp only [zob_n hG, d3, h5, zob_n g43, l3, zix_n hw, zlet_d, zob_n (hG2 c), zob_n (hG3 c v), zD_ne (show 11 ≠ 43 by decide), zD_ne (show 11 ≠ 44 by decide), d4, zob_n (hG4 c), zL_set, l4, e1]
  rfl
theorem x_set (qd : RD h) {T : Nat} {r v : Int} (hT : T < zhN h 6) : Th_set (T : Int) r v h kr = kr 0 (if zwi r 0 ((zhL h 32 T : Int) - 1) = true then zset h 32 T r.toNat v else h) := by
  obtain ⟨d1, -, d3, -⟩ := qd.2.2.1
  have e1 := d3 T hT
  have hT2 : T < zhN h 32 := by rw [d1]; exact hT
  unfold Th_set Th_set_20
  cases hz : zwi r 0 ((zhL h 32 T : Int) - 1) with
  | true =>
    obtain ⟨h1, h2⟩ := zwi_t hz
    have z1 : ∀ kk : Nat → Option ρ, zix (zhL h 32 T) r kk = kk r.toNat := fun kk => zix_i (by omega) (by omega)
    rw [if_neg (by omega), zob_n hT, e1, zob_n hT2, if_pos (by omega), zob_n hT, e1, zob_n hT2, z1]
    rfl
  | false =>
    rcases zwi_f hz with h1 | h1
    · rw [if_pos h1]
      rfl
    · by_cases h0 : r < 0
      · rw [if_pos h0]
        rfl
      · rw [if_neg h0, zob_n hT, e1, zob_n hT2, if_neg (by omega)]
        rfl
theorem m_set {y b j l r : Nat} {v : Int} (g : MG A y b j) (hl : l < 4) (hr : r < 8) : M_set (y : Int) (l : Int) (r : Int) v (mh h A) kr = kr 0 (mh h (au A 91 (8 * (16 * b + (4 * j + l)) + r) v)) := by
  have hb := g.2.1
  have hj := g.2.2.1
  unfold M_set
  rw [m_registerCell g hl hr, zix_n (by omega), zlet_d, mS91]
theorem m_lane {k r : Nat} (hk : k < 4) (hr : r < 8) : M_lane (k : Int) (r : Int) (mh h A) kr = kr (A 109 (8 * k + r)) (mh h A) := by
  have w1 : wr (wr (8 * (k : Int)) + (r : Int)) = ((8 * k + r : Nat) : Int) := by
    rw [wr_id (x := 8 * (k : Int)) (by omega) (by omega), wr_id (by omega) (by omega)]
    omega
  unfold M_lane
  rw [w1, zix_n (by clear w1; omega), mD109]
theorem rr_pw (q : RR A h K L bc tc gc n B N M) {u i b j w : Nat} {c v : Int} (hu : u < 2) (hi : (i : Int) < A 93 u) (x : A 94 (4 * u + i) = (b : Int)) (y : A 95 (4 * u + i) = (j : Int)) (hw : w < 4) (h97 : A 97 (4 * u + i) = (w : Int)) (hc : 0 ≤ c ∧ c < 64) (hv : zir v) :
    RR (au (au (au A 98 (4 * (4 * u + i) + w) c) 99 (4 * (4 * u + i) + w) v) 97 (4 * u + i) ((w : Int) + 1)) (hPW h (gc (4 * b + j)) w c v) K L bc tc gc n B N M := by
  obtain ⟨d1, d2, d3, d4, d5⟩ := q.ug u i hu hi b j x y
  have hm := (q.un hu).2.1
  refine up_ug q (fun c j hz => (fr_au rfl c j hz).trans ((fr_au rfl c j hz).trans (fr_au rfl c j hz))) (fun c p j hz => (fr_zs rfl c p j hz).trans ((fr_zs rfl c p j hz).trans (fr_zs rfl c p j hz))) rfl rfl rfl rfl (fun u2 i2 hu2 hi2 b2 j2 x2 y2 => ?_) (iv_au (iv_au (iv_au q.iv (by unfold zir; omega)) hv) (by unfold zir; omega))
  have hi3 : (i2 : Int) < A 93 u2 := hi2
  have x3 : A 94 (4 * u2 + i2) = (b2 : Int) := x2
  have y3 : A 95 (4 * u2 + i2) = (j2 : Int) := y2
  have hm2 := (q.un hu2).2.1
  obtain ⟨t1, t2, t3, t4, t5⟩ := q.ug u2 i2 hu2 hi3 b2 j2 x3 y3
  have D : ∀ c' p j', zhD (hPW h (gc (4 * b + j)) w c v) c' p j' = if c' = 11 ∧ p = gc (4 * b + j) ∧ j' = 5 then (w : Int) + 1 else if c' = 44 ∧ p = gc (4 * b + j) ∧ j' = w then v else if c' = 43 ∧ p = gc (4 * b + j) ∧ j' = w then c else zhD h c' p j' := fun c' p j' => rfl
  have E97 : ∀ k, au (au (au A 98 (4 * (4 * u + i) + w) c) 99 (4 * (4 * u + i) + w) v) 97 (4 * u + i) ((w : Int) + 1) 97 k = if k = 4 * u + i then (w : Int) + 1 else A 97 k := fun k => by rw [au_j, au_ne (by decide), au_ne (by decide)]
  have E98 : ∀ k, au (au (au A 98 (4 * (4 * u + i) + w) c) 99 (4 * (4 * u + i) + w) v) 97 (4 * u + i) ((w : Int) + 1) 98 k = if k = 4 * (4 * u + i) + w then c else A 98 k := fun k => by rw [au_ne (by decide), au_ne (by decide), au_j]
  have E99 : ∀ k, au (au (au A 98 (4 * (4 * u + i) + w) c) 99 (4 * (4 * u + i) + w) v) 97 (4 * u + i) ((w : Int) + 1) 99 k = if k = 4 * (4 * u + i) + w then v else A 99 k := fun k => by rw [au_ne (by decide), au_j, au_ne (by decide)]
  have D43 : ∀ p k, zhD (hPW h (gc (4 * b + j)) w c v) 43 p k = if p = gc (4 * b + j) ∧ k = w then c else zhD h 43 p k := fun p k => by rw [D]; simp
  have D44 : ∀ p k, zhD (hPW h (gc (4 * b + j)) w c v) 44 p k = if p = gc (4 * b + j) ∧ k = w then v else zhD h 44 p k := fun p k => by rw [D]; simp
  have D5 : ∀ p, zhD (hPW h (gc (4 * b + j)) w c v) 11 p 5 = if p = gc (4 * b + j) then (w : Int) + 1 else zhD h 11 p 5 := fun p => by rw [D]; simp
  rw [E97]
  have D6 : zhD (hPW h (gc (4 * b + j)) w c v) 11 (gc (4 * b2 + j2)) 6 = zhD h 11 (gc (4 * b2 + j2)) 6 := by
    rw [D, if_neg (fun z => absurd z.2.2 (by decide)), if_neg (fun z => absurd z.1 (by decide)), if_neg (fun z => absurd z.1 (by decide))]
  rw [D6]
  refine ⟨t1, ?_⟩
  rcases q.two hu hi x y hu2 hi3 x3 y3 with ⟨z1, z2, z3, z4⟩ | ⟨z1, z2⟩
  · subst z1
    subst z2
    subst z3
    subst z4
    rw [if_pos rfl, D5, if_pos rfl]
    refine ⟨rfl, by omega, by omega, fun k hk => ?_⟩
    rw [D43, D44, E98, E99]
    by_cases hkw : k = w
    · have p1 : gc (4 * b2 + j2) = gc (4 * b2 + j2) ∧ k = w := ⟨rfl, hkw⟩
      have p2 : 4 * (4 * u2 + i2) + k = 4 * (4 * u2 + i2) + w := by omega
      rw [if_pos p1, if_pos p1, if_pos p2, if_pos p2]
      exact ⟨rfl, rfl, hc.1, hc.2⟩
    · have p1 : ¬ (gc (4 * b2 + j2) = gc (4 * b2 + j2) ∧ k = w) := fun z => hkw z.2
      have p2 : ¬ (4 * (4 * u2 + i2) + k = 4 * (4 * u2 + i2) + w) := by omega
      rw [if_neg p1, if_neg p1, if_neg p2, if_neg p2]
      exact d5 k (by omega)
  · rw [if_neg z1, D5, if_neg z2]
    refine ⟨t2, t3, t4, fun k hk => ?_⟩
    have p1 : ¬ (gc (4 * b2 + j2) = gc (4 * b + j) ∧ k = w) := fun z => z2 z.1
    have p2 : ¬ (4 * (4 * u2 + i2) + k = 4 * (4 * u + i) + w) := by omega
    rw [D43, D44, if_neg p1, if_neg p1, E98, E99, if_neg p2, if_neg p2]
    exact t5 k hk
end
