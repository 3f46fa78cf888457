/-! A NEW LAUNCH: the class -/
def hL1 (h : zH) : zH := znew (zset (znew (zset (znew h 9 0 (znf zPP 9) (fun k => zdef (zft zPP 9 k))) 9 (zhN h 9) 10 113) 34 64 64 (fun _ => 0)) 9 (zhN h 9) 16 (zhN h 34 : Int)) 35 64 64 (fun _ => 0)
def hL0 (h : zH) (a b c d e : Int) : zH := zset (zset (zset (zset (zset (zset (hL1 h) 9 (zhN h 9) 17 (zhN h 35 : Int)) 9 (zhN h 9) 0 a) 9 (zhN h 9) 1 b) 9 (zhN h 9) 2 c) 9 (zhN h 9) 3 d) 9 (zhN h 9) 4 e
section
variable {ρ : Type} {h : zH} {A : zA} {kr : Int → zH → Option ρ} {kt : Nat → zH → Option ρ} {K L : Nat}
theorem x_laInit {a b c d e : Int} : La_init (zhN h 9 : Int) a b c d e (znew h 9 0 (znf zPP 9) (fun k => zdef (zft zPP 9 k))) kr = kr 0 (hL0 h a b c d e) := by
  unfold La_init
  have z1 : ∀ kk : Nat → Option ρ, zix 100000 64 kk = kk 64 := fun kk => zix_n (i := 64) (by decide)
  simp only [zlet_d, z1, zob_set, zob_newne (show 9 ≠ 34 by decide), zob_newne (show 9 ≠ 35 by decide), zob_new1]
  rfl
variable {a b c d e : Int}
theorem hL0_N9 : zhN (hL0 h a b c d e) 9 = zhN h 9 + 1 := rfl
theorem hL0_N34 : zhN (hL0 h a b c d e) 34 = zhN h 34 + 1 := rfl
theorem hL0_N35 : zhN (hL0 h a b c d e) 35 = zhN h 35 + 1 := rfl
theorem hL0_Nn {x : Nat} (h1 : x ≠ 9) (h2 : x ≠ 34) (h3 : x ≠ 35) : zhN (hL0 h a b c d e) x = zhN h x := by
  unfold hL0 hL1
  rw [zN_set, zN_set, zN_set, zN_set, zN_set, zN_set, zN_newne h3, zN_set, zN_newne h2, zN_set, zN_newne h1]
theorem hL0_D {x : Nat} (h1 : x ≠ 9) (h2 : x ≠ 34) (h3 : x ≠ 35) : zhD (hL0 h a b c d e) x = zhD h x := by
  unfold hL0 hL1
  rw [zD_ne h1, zD_ne h1, zD_ne h1, zD_ne h1, zD_ne h1, zD_ne h1, zD_newne h3, zD_ne h1, zD_newne h2, zD_ne h1, zD_newne h1]
theorem hL0_D9p {p : Nat} (hp : p ≠ zhN h 9) : zhD (hL0 h a b c d e) 9 p = zhD h 9 p := by
  unfold hL0 hL1
  rw [zD_np hp, zD_np hp, zD_np hp, zD_np hp, zD_np hp, zD_np hp, zD_newne (by decide), zD_np hp, zD_newne (by decide), zD_np hp, zD_newp hp]
theorem hL0_D34p {p : Nat} (hp : p ≠ zhN h 34) : zhD (hL0 h a b c d e) 34 p = zhD h 34 p := by
  unfold hL0 hL1
  rw [zD_ne (by decide), zD_ne (by decide), zD_ne (by decide), zD_ne (by decide), zD_ne (by decide), zD_ne (by decide), zD_newne (by decide), zD_ne (by decide), zD_newp (by rw [zN_set, zN_newne (by decide)]; exact hp), zD_ne (by decide), zD_newne (by decide)]
theorem hL0_D35p {p : Nat} (hp : p ≠ zhN h 35) : zhD (hL0 h a b c d e) 35 p = zhD h 35 p := by
  unfold hL0 hL1
  rw [zD_ne (by decide), zD_ne (by decide), zD_ne (by decide), zD_ne (by decide), zD_ne (by decide), zD_ne (by decide), zD_newp (by rw [zN_set, zN_newne (by decide), zN_set, zN_newne (by decide)]; exact hp), zD_ne (by decide), zD_newne (by decide), zD_ne (by decide), zD_newne (by decide)]
theorem hL0_D34n {j : Nat} : zhD (hL0 h a b c d e) 34 (zhN h 34) j = 0 := by
  unfold hL0 hL1
  rw [zD_ne (by decide), zD_ne (by decide), zD_ne (by decide), zD_ne (by decide), zD_ne (by decide), zD_ne (by decide), zD_newne (by decide), zD_ne (by decide)]
  have : zhN h 34 = zhN (zset (znew h 9 0 (znf zPP 9) (fun k => zdef (zft zPP 9 k))) 9 (zhN h 9) 10 113) 34 := by rw [zN_set, zN_newne (by decide)]
  rw [this, zD_new1]
theorem hL0_D35n {j : Nat} : zhD (hL0 h a b c d e) 35 (zhN h 35) j = 0 := by
  unfold hL0
  rw [zD_ne (by decide), zD_ne (by decide), zD_ne (by decide), zD_ne (by decide), zD_ne (by decide), zD_ne (by decide)]
  unfold hL1
  have : zhN h 35 = zhN (zset (znew (zset (znew h 9 0 (znf zPP 9) (fun k => zdef (zft zPP 9 k))) 9 (zhN h 9) 10 113) 34 64 64 (fun _ => 0)) 9 (zhN h 9) 16 (zhN h 34 : Int)) 35 := by rw [zN_set, zN_newne (by decide), zN_set, zN_newne (by decide)]
  rw [this, zD_new1]
theorem hL0_L {x : Nat} (h2 : x ≠ 34) (h3 : x ≠ 35) (h1 : x ≠ 9) : zhL (hL0 h a b c d e) x = zhL h x := by
  unfold hL0 hL1
  rw [zL_set, zL_set, zL_set, zL_set, zL_set, zL_set, zL_newne h3, zL_set, zL_newne h2, zL_set, zL_newne h1]
theorem hL0_L34 {p : Nat} : zhL (hL0 h a b c d e) 34 p = if p = zhN h 34 then 64 else zhL h 34 p := by
  unfold hL0 hL1
  rw [zL_set, zL_set, zL_set, zL_set, zL_set, zL_set, zL_newne (by decide), zL_set]
  by_cases hp : p = zhN h 34
  · rw [if_pos hp, hp]
    have : zhN h 34 = zhN (zset (znew h 9 0 (znf zPP 9) (fun k => zdef (zft zPP 9 k))) 9 (zhN h 9) 10 113) 34 := by rw [zN_set, zN_newne (by decide)]
    rw [this, zL_new1]
  · rw [if_neg hp, zL_newp (by rw [zN_set, zN_newne (by decide)]; exact hp), zL_set, zL_newne (by decide)]
theorem hL0_L35 {p : Nat} : zhL (hL0 h a b c d e) 35 p = if p = zhN h 35 then 64 else zhL h 35 p := by
  unfold hL0
  rw [zL_set, zL_set, zL_set, zL_set, zL_set, zL_set]
  unfold hL1
  have e9 : zhN (zset (znew (zset (znew h 9 0 (znf zPP 9) (fun k => zdef (zft zPP 9 k))) 9 (zhN h 9) 10 113) 34 64 64 (fun _ => 0)) 9 (zhN h 9) 16 (zhN h 34 : Int)) 35 = zhN h 35 := by rw [zN_set, zN_newne (by decide), zN_set, zN_newne (by decide)]
  by_cases hp : p = zhN h 35
  · rw [if_pos hp, hp, ← e9, zL_new1]
  · rw [if_neg hp, zL_newp (by rw [e9]; exact hp), zL_set, zL_newne (by decide), zL_set, zL_newne (by decide)]
/-- the fields of the new launch -/
theorem hL0_9 : zhD (hL0 h a b c d e) 9 (zhN h 9) 0 = a ∧ zhD (hL0 h a b c d e) 9 (zhN h 9) 1 = b ∧ zhD (hL0 h a b c d e) 9 (zhN h 9) 2 = c ∧ zhD (hL0 h a b c d e) 9 (zhN h 9) 3 = d ∧ zhD (hL0 h a b c d e) 9 (zhN h 9) 4 = e ∧ zhD (hL0 h a b c d e) 9 (zhN h 9) 10 = 113 ∧ zhD (hL0 h a b c d e) 9 (zhN h 9) 16 = (zhN h 34 : Int) ∧ zhD (hL0 h a b c d e) 9 (zhN h 9) 17 = (zhN h 35 : Int) ∧ zhD (hL0 h a b c d e) 9 (zhN h 9) 5 = -1 ∧ (∀ j : Nat, 6 ≤ j → j < 19 → j ≠ 10 → j ≠ 16 → j ≠ 17 → zhD (hL0 h a b c d e) 9 (zhN h 9) j = 0) := by
  have key : ∀ j : Nat, zhD (hL0 h a b c d e) 9 (zhN h 9) j = if j = 4 then e else if j = 3 then d else if j = 2 then c else if j = 1 then b else if j = 0 then a else if j = 17 then (zhN h 35 : Int) else if j = 16 then (zhN h 34 : Int) else if j = 10 then 113 else zdef (zft zPP 9 j) := fun j => by
    unfold hL0 hL1
    simp only [zD_set, zD_newne (show 9 ≠ 35 by decide), zD_newne (show 9 ≠ 34 by decide), zD_new1, true_and]
  refine ⟨?_, ?_, ?_, ?_, ?_, ?_, ?_, ?_, ?_, fun j h1 h2 h3 h4 h5 => ?_⟩
  · rw [key]; rfl
  · rw [key]; rfl
  · rw [key]; rfl
  · rw [key]; rfl
  · rw [key]; rfl
  · rw [key]; rfl
  · rw [key]; rfl
  · rw [key]; rfl
  · rw [key]; rfl
  · rw [key, if_neg (by omega), if_neg (by omega), if_neg (by omega), if_neg (by omega), if_neg (by omega), if_neg h5, if_neg h4, if_neg h3]
    have : ∀ j : Nat, 6 ≤ j → j < 19 → j ≠ 16 → j ≠ 17 → zdef (zft zPP 9 j) = 0 := by
      intro j h1 h2 h4 h5
      rcases (show j = 6 ∨ j = 7 ∨ j = 8 ∨ j = 9 ∨ j = 10 ∨ j = 11 ∨ j = 12 ∨ j = 13 ∨ j = 14 ∨ j = 15 ∨ j = 18 by omega) with rfl | rfl | rfl | rfl | rfl | rfl | rfl | rfl | rfl | rfl | rfl <;> rfl
    exact this j h1 h2 h4 h5
theorem RS.newL (q : RS h) : RS (hL0 h a b c d e) := ((((((((((q.new rfl).set rfl).new rfl).set rfl).new rfl).set rfl).set rfl).set rfl).set rfl).set rfl).set rfl
theorem RD.newL (q : RD h) : RD (hL0 h a b c d e) := by
  obtain ⟨⟨a1, a2⟩, ⟨b1, b2, b3⟩, ⟨c1, c2, c3, c4⟩, ⟨d1, d2, d3, d4, d5, d6, d7⟩, ⟨e1, e2, e3, e4⟩⟩ := q
  have hN : ∀ x, x ≠ 9 → x ≠ 34 → x ≠ 35 → zhN (hL0 h a b c d e) x = zhN h x := fun x h1 h2 h3 => hL0_Nn h1 h2 h3
  have hD : ∀ x, x ≠ 9 → x ≠ 34 → x ≠ 35 → zhD (hL0 h a b c d e) x = zhD h x := fun x h1 h2 h3 => hL0_D h1 h2 h3
  have hL : ∀ x, x ≠ 9 → x ≠ 34 → x ≠ 35 → zhL (hL0 h a b c d e) x = zhL h x := fun x h1 h2 h3 => hL0_L h2 h3 h1
  refine ⟨?_, ⟨by rw [hL0_N34, hL0_N9, b1], by rw [hL0_N35, hL0_N9, b2], fun l hl => ?_⟩, ?_, ?_, ?_⟩
  · rw [hN 33 (by decide) (by decide) (by decide), hN 7 (by decide) (by decide) (by decide), hD 7 (by decide) (by decide) (by decide), hL 33 (by decide) (by decide) (by decide)]
    exact ⟨a1, a2⟩
  · rw [hL0_L34, hL0_L35, b1, b2]
    by_cases hln : l = zhN h 9
    · subst hln
      obtain ⟨-, -, -, -, -, -, f6, f7, -⟩ := hL0_9 (h := h) (a := a) (b := b) (c := c) (d := d) (e := e)
      rw [f6, f7, b1, b2, if_pos rfl, if_pos rfl]
      exact ⟨rfl, rfl, rfl, rfl⟩
    · rw [hL0_D9p hln, if_neg hln, if_neg hln]
      exact b3 l (by rw [hL0_N9] at hl; omega)
  · rw [hN 32 (by decide) (by decide) (by decide), hN 6 (by decide) (by decide) (by decide), hD 6 (by decide) (by decide) (by decide), hL 32 (by decide) (by decide) (by decide)]
    exact ⟨c1, c2, c3, c4⟩
  · rw [hN 36 (by decide) (by decide) (by decide), hN 37 (by decide) (by decide) (by decide), hN 38 (by decide) (by decide) (by decide), hN 39 (by decide) (by decide) (by decide), hN 40 (by decide) (by decide) (by decide), hN 41 (by decide) (by decide) (by decide), hN 10 (by decide) (by decide) (by decide), hD 10 (by decide) (by decide) (by decide), hL 38 (by decide) (by decide) (by decide), hL 39 (by decide) (by decide) (by decide), hL 40 (by decide) (by decide) (by decide), hL 41 (by decide) (by decide) (by decide)]
    exact ⟨d1, d2, d3, d4, d5, d6, d7⟩
  · rw [hN 42 (by decide) (by decide) (by decide), hN 43 (by decide) (by decide) (by decide), hN 44 (by decide) (by decide) (by decide), hN 11 (by decide) (by decide) (by decide), hD 11 (by decide) (by decide) (by decide), hL 42 (by decide) (by decide) (by decide), hL 43 (by decide) (by decide) (by decide), hL 44 (by decide) (by decide) (by decide)]
    exact ⟨e1, e2, e3, e4⟩
end
