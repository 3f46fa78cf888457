/-! THE LAW'S LOOP -/
section
variable {h : zH} {K L n len a : Nat} {N M : Int} {S : Nat → Int} {kr : Int → zH → Option zRes} {r28 : Int → Int → Int → Int → Int → Int → zH → Option zRes}
theorem LV.mono (v : LV S len h K L n N M) {n2 : Nat} {N2 M2 : Int} (hn : n ≤ n2) (hN : N ≤ N2) (hM : M ≤ M2) : LV S len h K L n2 N2 M2 := by
  obtain ⟨A, B, bc, tc, gc, m, q, cl, x1, x2, x3⟩ := v
  exact ⟨A, B, bc, tc, gc, m, q.mono hn hN hM, cl, x1, x2, x3⟩
theorem LV.L50 (v : LV S len h K L n N M) : 0 < zhN h 50 ∧ zhL h 50 0 = len := by
  obtain ⟨A, B, bc, tc, gc, m, q, cl, x1, x2, x3⟩ := v
  obtain ⟨y1, y2⟩ := q.rh.2 50 rfl
  have y3 := y2 (by decide)
  rw [if_pos rfl, x3] at y3
  exact ⟨by omega, by omega⟩
theorem law_one (v : LV S len h K L n N M) (ha : a + 5 < len) (hl : len ≤ 3072) (hSi : ∀ j, zir (S j)) (bn : n ≤ 9980000) : ∃ (h1 : zH) (K1 L1 : Nat), Lw_law_28b kr r28 ((0 : Nat) : Int) ((0 : Nat) : Int) ((0 : Nat) : Int) ((0 : Nat) : Int) ((0 : Nat) : Int) (a : Int) h = r28 ((0 : Nat) : Int) ((0 : Nat) : Int) ((0 : Nat) : Int) ((0 : Nat) : Int) ((0 : Nat) : Int) (wr ((a : Int) + 6)) h1 ∧ LV S len h1 K1 L1 (n + 18500) (N + 1000) (M + 13000) := by
  obtain ⟨l1, l2⟩ := v.L50
  unfold Lw_law_28b
  rw [zob_n l1, l2, show wr ((len : Int) - 6) = (len : Int) - 6 from wr_id (by omega) (by omega), if_neg (show ¬ ((len : Int) - 6 < (a : Int)) by omega), zob_n l1, l2, zix_n (show a < len by omega)]
  generalize zand (zhD h 50 0 a) 63 = z
  by_cases e0 : z = 0
  · obtain ⟨h1, K1, L1, e, v1⟩ := law_addKernel (kr := kr) (r28 := r28) (a := a) v ha hl hSi
    exact ⟨h1, K1, L1, (if_pos e0).trans e, v1⟩
  rw [if_neg e0]
  by_cases e1 : z = 1
  · obtain ⟨h1, K1, L1, e, v1⟩ := law_code (kr := kr) (r28 := r28) (a := a) v ha hl hSi
    exact ⟨h1, K1, L1, (if_pos e1).trans e, v1⟩
  rw [if_neg e1]
  by_cases e2 : z = 2
  · obtain ⟨h1, K1, L1, e, v1⟩ := law_fits (kr := kr) (r28 := r28) (a := a) v ha hl hSi
    exact ⟨h1, K1, L1, (if_pos e2).trans e, v1⟩
  rw [if_neg e2]
  by_cases e3 : z = 3
  · obtain ⟨h1, K1, L1, e, v1⟩ := law_poke (kr := kr) (r28 := r28) (a := a) v ha hl hSi
    exact ⟨h1, K1, L1, (if_pos e3).trans e, v1⟩
  rw [if_neg e3]
  by_cases e4 : z = 4
  · obtain ⟨h1, K1, L1, e, v1⟩ := law_peek (kr := kr) (r28 := r28) (a := a) v ha hl hSi
    exact ⟨h1, K1, L1, (if_pos e4).trans e, v1⟩
  rw [if_neg e4]
  by_cases e5 : z = 5
  · obtain ⟨h1, K1, L1, e, v1⟩ := law_launch (kr := kr) (r28 := r28) (a := a) v ha hl hSi
    exact ⟨h1, K1, L1, (if_pos e5).trans e, v1⟩
  rw [if_neg e5]
  by_cases e6 : z = 6
  · obtain ⟨h1, K1, L1, e, v1⟩ := law_copy (kr := kr) (r28 := r28) (a := a) v ha hl hSi
    exact ⟨h1, K1, L1, (if_pos e6).trans e, v1⟩
  rw [if_neg e6]
  by_cases e7 : z = 7
  · obtain ⟨h1, K1, L1, e, v1⟩ := law_launches (kr := kr) (r28 := r28) (a := a) v
    exact ⟨h1, K1, L1, (if_pos e7).trans e, v1⟩
  rw [if_neg e7]
  by_cases e8 : z = 8
  · obtain ⟨h1, K1, L1, e, v1⟩ := law_state (kr := kr) (r28 := r28) (a := a) v ha hl hSi
    exact ⟨h1, K1, L1, (if_pos e8).trans e, v1⟩
  rw [if_neg e8]
  by_cases e9 : z = 9
  · obtain ⟨h1, K1, L1, e, v1⟩ := law_parent (kr := kr) (r28 := r28) (a := a) v ha hl hSi
    exact ⟨h1, K1, L1, (if_pos e9).trans e, v1⟩
  rw [if_neg e9]
  by_cases e10 : z = 10
  · obtain ⟨h1, K1, L1, e, v1⟩ := law_given (kr := kr) (r28 := r28) (a := a) v ha hl hSi
    exact ⟨h1, K1, L1, (if_pos e10).trans e, v1⟩
  rw [if_neg e10]
  by_cases e11 : z = 11
  · obtain ⟨h1, K1, L1, e, v1⟩ := law_step (kr := kr) (r28 := r28) (a := a) v ha hl bn
    exact ⟨h1, K1, L1, (if_pos e11).trans e, v1⟩
  rw [if_neg e11]
  by_cases e12 : z = 12
  · obtain ⟨h1, K1, L1, e, v1⟩ := law_run (kr := kr) (r28 := r28) (a := a) v ha hl bn
    exact ⟨h1, K1, L1, (if_pos e12).trans e, v1⟩
  rw [if_neg e12]
  by_cases e13 : z = 13
  · obtain ⟨h1, K1, L1, e, v1⟩ := law_setOrder (kr := kr) (r28 := r28) (a := a) v ha hl hSi
    exact ⟨h1, K1, L1, (if_pos e13).trans e, v1⟩
  rw [if_neg e13]
  by_cases e14 : z = 14
  · obtain ⟨h1, K1, L1, e, v1⟩ := law_cycle (kr := kr) (r28 := r28) (a := a) v
    exact ⟨h1, K1, L1, (if_pos e14).trans e, v1⟩
  rw [if_neg e14]
  by_cases e15 : z = 15
  · obtain ⟨h1, K1, L1, e, v1⟩ := law_groups (kr := kr) (r28 := r28) (a := a) v ha hl hSi
    exact ⟨h1, K1, L1, (if_pos e15).trans e, v1⟩
  rw [if_neg e15]
  by_cases e16 : z = 16
  · obtain ⟨h1, K1, L1, e, v1⟩ := law_threadAt (kr := kr) (r28 := r28) (a := a) v ha hl hSi
    exact ⟨h1, K1, L1, (if_pos e16).trans e, v1⟩
  rw [if_neg e16]
  by_cases e17 : z = 17
  · obtain ⟨h1, K1, L1, e, v1⟩ := law_place (kr := kr) (r28 := r28) (a := a) v ha hl hSi
    exact ⟨h1, K1, L1, (if_pos e17).trans e, v1⟩
  rw [if_neg e17]
  by_cases e18 : z = 18
  · obtain ⟨h1, K1, L1, e, v1⟩ := law_mask (kr := kr) (r28 := r28) (a := a) v ha hl hSi
    exact ⟨h1, K1, L1, (if_pos e18).trans e, v1⟩
  rw [if_neg e18]
  by_cases e19 : z = 19
  · obtain ⟨h1, K1, L1, e, v1⟩ := law_places (kr := kr) (r28 := r28) (a := a) v ha hl hSi
    exact ⟨h1, K1, L1, (if_pos e19).trans e, v1⟩
  rw [if_neg e19]
  by_cases e20 : z = 20
  · obtain ⟨h1, K1, L1, e, v1⟩ := law_reason (kr := kr) (r28 := r28) (a := a) v ha hl hSi
    exact ⟨h1, K1, L1, (if_pos e20).trans e, v1⟩
  rw [if_neg e20]
  by_cases e21 : z = 21
  · obtain ⟨h1, K1, L1, e, v1⟩ := law_register (kr := kr) (r28 := r28) (a := a) v ha hl hSi
    exact ⟨h1, K1, L1, (if_pos e21).trans e, v1⟩
  rw [if_neg e21]
  by_cases e22 : z = 22
  · obtain ⟨h1, K1, L1, e, v1⟩ := law_shared (kr := kr) (r28 := r28) (a := a) v ha hl hSi
    exact ⟨h1, K1, L1, (if_pos e22).trans e, v1⟩
  rw [if_neg e22]
  by_cases e23 : z = 23
  · obtain ⟨h1, K1, L1, e, v1⟩ := law_buffered (kr := kr) (r28 := r28) (a := a) v ha hl hSi
    exact ⟨h1, K1, L1, (if_pos e23).trans e, v1⟩
  rw [if_neg e23]
  by_cases e24 : z = 24
  · obtain ⟨h1, K1, L1, e, v1⟩ := law_fault (kr := kr) (r28 := r28) (a := a) v ha hl hSi
    exact ⟨h1, K1, L1, (if_pos e24).trans e, v1⟩
  rw [if_neg e24]
  by_cases e25 : z = 25
  · obtain ⟨h1, K1, L1, e, v1⟩ := law_faultAt (kr := kr) (r28 := r28) (a := a) v ha hl hSi
    exact ⟨h1, K1, L1, (if_pos e25).trans e, v1⟩
  rw [if_neg e25]
  by_cases e26 : z = 26
  · obtain ⟨h1, K1, L1, e, v1⟩ := law_isRacing (kr := kr) (r28 := r28) (a := a) v ha hl
    exact ⟨h1, K1, L1, (if_pos e26).trans e, v1⟩
  rw [if_neg e26]
  by_cases e27 : z = 27
  · obtain ⟨h1, K1, L1, e, v1⟩ := law_races (kr := kr) (r28 := r28) (a := a) v ha hl hSi
    exact ⟨h1, K1, L1, (if_pos e27).trans e, v1⟩
  rw [if_neg e27]
  by_cases e28 : z = 28
  · obtain ⟨h1, K1, L1, e, v1⟩ := law_serial (kr9 := kr) (r289 := r28) (a := a) v ha hl
    exact ⟨h1, K1, L1, (if_pos e28).trans e, v1⟩
  rw [if_neg e28]
  by_cases e29 : z = 29
  · obtain ⟨h1, K1, L1, e, v1⟩ := law_lanes (kr := kr) (r28 := r28) (a := a) v
    exact ⟨h1, K1, L1, (if_pos e29).trans e, v1⟩
  rw [if_neg e29]
  by_cases e30 : z = 30
  · obtain ⟨h1, K1, L1, e, v1⟩ := law_misses (kr := kr) (r28 := r28) (a := a) v
    exact ⟨h1, K1, L1, (if_pos e30).trans e, v1⟩
  rw [if_neg e30]
  by_cases e31 : z = 31
  · obtain ⟨h1, K1, L1, e, v1⟩ := law_lost (kr := kr) (r28 := r28) (a := a) v
    exact ⟨h1, K1, L1, (if_pos e31).trans e, v1⟩
  rw [if_neg e31]
  by_cases e32 : z = 32
  · obtain ⟨h1, K1, L1, e, v1⟩ := law_barriers (kr := kr) (r28 := r28) (a := a) v
    exact ⟨h1, K1, L1, (if_pos e32).trans e, v1⟩
  rw [if_neg e32]
  by_cases e33 : z = 33
  · obtain ⟨h1, K1, L1, e, v1⟩ := law_refused (kr := kr) (r28 := r28) (a := a) v
    exact ⟨h1, K1, L1, (if_pos e33).trans e, v1⟩
  rw [if_neg e33]
  by_cases e34 : z = 34
  · obtain ⟨h1, K1, L1, e, v1⟩ := law_usedShare (kr := kr) (r28 := r28) (a := a) v bn
    exact ⟨h1, K1, L1, (if_pos e34).trans e, v1⟩
  rw [if_neg e34]
  by_cases e35 : z = 35
  · obtain ⟨h1, K1, L1, e, v1⟩ := law_meanDelay (kr := kr) (r28 := r28) (a := a) v bn
    exact ⟨h1, K1, L1, (if_pos e35).trans e, v1⟩
  rw [if_neg e35]
  by_cases e36 : z = 36
  · obtain ⟨h1, K1, L1, e, v1⟩ := law_isSound (kr := kr) (r28 := r28) (a := a) v
    exact ⟨h1, K1, L1, (if_pos e36).trans e, v1⟩
  rw [if_neg e36]
  exact ⟨h, K, L, rfl, v.mono (by omega) (by omega) (by omega)⟩
theorem law_loop (hl : len ≤ 3072) (hSi : ∀ j, zir (S j)) : ∀ (m fuel a : Nat) (h : zH) (K L n : Nat) (N M : Int), LV S len h K L n N M → len ≤ a + 6 * m + 5 → a ≤ len + 6 → m < fuel → n + 18500 * m ≤ 9980000 → ∃ (h1 : zH) (K1 L1 : Nat), zit (fun _ _ _ _ _ _ _ => none) (Lw_law_28b kr) fuel ((0 : Nat) : Int) ((0 : Nat) : Int) ((0 : Nat) : Int) ((0 : Nat) : Int) ((0 : Nat) : Int) (a : Int) h = kr 1 h1 ∧ LV S len h1 K1 L1 (n + 18500 * m) (N + 1000 * m) (M + 13000 * m)
  | m, fuel, a, h, K, L, n, N, M, v, h1, h2, h3, h4 => by
    obtain ⟨fuel, rfl⟩ : ∃ k, fuel = k + 1 := ⟨fuel - 1, by omega⟩
    rw [zit_s]
    by_cases he : a + 5 < len
    · obtain ⟨m, rfl⟩ : ∃ k, m = k + 1 := ⟨m - 1, by omega⟩
      obtain ⟨g, K1, L1, e, v1⟩ := law_one (kr := kr) (r28 := zit (fun _ _ _ _ _ _ _ => none) (Lw_law_28b kr) fuel) v he hl hSi (by omega)
      rw [e, show wr ((a : Int) + 6) = ((a + 6 : Nat) : Int) from wr_nn (a := a) (b := 6) (by omega)]
      obtain ⟨g2, K2, L2, e2, v2⟩ := law_loop hl hSi m fuel (a + 6) g K1 L1 (n + 18500) (N + 1000) (M + 13000) v1 (by omega) (by omega) (by omega) (by omega)
      exact ⟨g2, K2, L2, e2, v2.mono (by omega) (by omega) (by omega)⟩
    · obtain ⟨l1, l2⟩ := v.L50
      refine ⟨h, K, L, ?_, v.mono (by omega) (by omega) (by omega)⟩
      unfold Lw_law_28b
      rw [zob_n l1, l2, show wr ((len : Int) - 6) = (len : Int) - 6 from wr_id (by omega) (by omega), if_pos (show (len : Int) - 6 < (a : Int) by omega)]
  termination_by m => m
end
