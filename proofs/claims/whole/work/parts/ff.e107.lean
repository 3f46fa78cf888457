/-! THE REPLAY'S THREADS -/
def RI (L : Nat) (xs : Nat → Int32) (g : zH) (i : Nat) : Prop := (∀ c, zhN g c = if c = 6 ∨ c = 32 then i else y9c45 c) ∧ (∀ c p, zhL g c p = if c = 32 ∧ p < i then 8 else y9l45 L c p) ∧ (∀ c p j, zhD g c p j = if c = 30 ∧ p = 0 ∧ j < i then (j : Int) else if c = 6 ∧ p < i then (if j ≤ 1 then (p : Int) else zdef (zft zPP 6 j)) else y9d45 xs c p j) ∧ zhC g = 21 + 2 * i ∧ zhS g = y9s45 + 13 * i
section
variable {ρ : Type} {L i : Nat} {xs : Nat → Int32} {g : zH} {kr : Int → zH → Option ρ} {r : Option ρ}
theorem re_step (x : RI L xs g i) (hi : i < 16) {r39 : Int → Int → zH → Option ρ} : Re_init_39b kr r39 ((0 : Nat) : Int) (i : Int) g = r39 ((0 : Nat) : Int) ((i + 1 : Nat) : Int) (zset (hTi g (i : Int) 8) 30 0 i (zhN g 6 : Int)) := by
  obtain ⟨x1, x2, x3, x4, x5⟩ := x
  have n5 : 0 < zhN g 5 := by rw [x1, if_neg (by decide)]; decide
  have n30 : 0 < zhN g 30 := by rw [x1, if_neg (by decide)]; decide
  have d5 : zhD g 5 0 2 = ((0 : Nat) : Int) := by rw [x3, if_neg (fun z => absurd z.1 (by decide)), if_neg (fun z => absurd z.1 (by decide))]; rfl
  have l30 : zhL g 30 0 = 16 := by rw [x2, if_neg (fun z => absurd z.1 (by decide))]; rfl
  have l30' : zhL (hTi g (i : Int) 8) 30 0 = 16 := by rw [hTi_L, if_neg (fun z => absurd z.1 (by decide)), if_neg (fun z => absurd z.1 (by decide))]; exact l30
  have n30' : 0 < zhN (hTi g (i : Int) 8) 30 := by rw [hTi_N, if_neg (by decide), if_neg (by decide)]; exact n30
  unfold Re_init_39b
  refine Eq.trans (zob_n n5) ?_
  rw [d5]
  refine Eq.trans (zob_n n30) ?_
  refine Eq.trans (if_pos (show (i : Int) < ((zhL g 30 0 : Nat) : Int) by rw [l30]; omega)) ?_
  refine Eq.trans (zob_n n5) ?_
  rw [zlet_d]
  refine Eq.trans zob_new1 ?_
  refine Eq.trans (x_thInit (R := 8) (by omega) (by decide)) ?_
  rw [d5]
  refine Eq.trans (zob_n n30') ?_
  rw [l30']
  refine Eq.trans (zix_n hi) ?_
  refine Eq.trans (zorn_n (by rw [hTi_N, if_pos rfl]; exact Nat.lt_succ_self _)) ?_
  rw [zlet_d, show wr ((i : Int) + 1) = ((i + 1 : Nat) : Int) from wr_nn (a := i) (b := 1) (by omega)]
theorem RI.step (x : RI L xs g i) (hi : i < 16) : RI L xs (zset (hTi g (i : Int) 8) 30 0 i (zhN g 6 : Int)) (i + 1) := by
  obtain ⟨x1, x2, x3, x4, x5⟩ := x
  have n6 : zhN g 6 = i := by rw [x1, if_pos (Or.inl rfl)]
  have n32 : zhN g 32 = i := by rw [x1, if_pos (Or.inr rfl)]
  refine ⟨fun c => ?_, fun c p => ?_, fun c p j => ?_, ?_, ?_⟩
  · rw [zN_set, hTi_N, n6, n32, x1]
    by_cases h6 : c = 6
    · rw [if_pos h6, if_pos (Or.inl h6)]
    · rw [if_neg h6]
      by_cases h32 : c = 32
      · rw [if_pos h32, if_pos (Or.inr h32)]
      · rw [if_neg h32, if_neg (fun z => z.elim h6 h32), if_neg (fun z => z.elim h6 h32)]
  · rw [zL_set, hTi_L, n6, n32, x2]
    by_cases h32 : c = 32
    · subst h32
      by_cases hp : p = i
      · rw [if_pos ⟨rfl, hp⟩, if_pos ⟨rfl, by omega⟩]
      · rw [if_neg (fun z => hp z.2), if_neg (fun z => absurd z.1 (by decide))]
        by_cases hp2 : p < i
        · rw [if_pos ⟨rfl, hp2⟩, if_pos ⟨rfl, by omega⟩]
        · rw [if_neg (fun z => hp2 z.2), if_neg (fun z => hp2 (by omega))]
    · rw [if_neg (fun z => h32 z.1), if_neg (c := c = 32 ∧ p < i) (fun z => h32 z.1), if_neg (c := c = 32 ∧ p < i + 1) (fun z => h32 z.1)]
      by_cases h6 : c = 6 ∧ p = i
      · rw [if_pos h6, h6.1]
        rfl
      · rw [if_neg h6]
  · rw [zD_set, hTi_D, n6, n32, x3]
    by_cases h30 : c = 30
    · subst h30
      by_cases hj : p = 0 ∧ j = i
      · rw [if_pos ⟨rfl, hj.1, hj.2⟩, if_pos ⟨rfl, hj.1, by omega⟩, hj.2]
      · rw [if_neg (fun z => hj z.2), if_neg (fun z => absurd z.1 (by decide)), if_neg (fun z => absurd z.1 (by decide)), if_neg (fun z => absurd z.1 (by decide)), if_neg (fun z => absurd z.1 (by decide))]
        by_cases hl : p = 0 ∧ j < i
        · rw [if_pos ⟨rfl, hl⟩, if_pos ⟨rfl, hl.1, by omega⟩]
        · rw [if_neg (fun z => hl z.2), if_neg (c := 30 = 30 ∧ p = 0 ∧ j < i + 1) (fun z => hl ⟨z.2.1, by have := z.2.2; have : ¬ (p = 0 ∧ j = i) := hj; omega⟩), if_neg (fun z => absurd z.1 (by decide)), if_neg (fun z => absurd z.1 (by decide))]
    · rw [if_neg (fun z => h30 z.1), if_neg (c := c = 30 ∧ p = 0 ∧ j < i) (fun z => h30 z.1), if_neg (c := c = 30 ∧ p = 0 ∧ j < i + 1) (fun z => h30 z.1)]
      by_cases h6 : c = 6
      · subst h6
        by_cases hp : p = i
        · subst hp
          by_cases j1 : j = 1
          · rw [if_pos ⟨rfl, rfl, j1⟩, if_pos ⟨rfl, by omega⟩, if_pos (by omega)]
          · rw [if_neg (fun z => j1 z.2.2), if_neg (fun z => absurd z.1 (by decide))]
            by_cases j0 : j = 0
            · rw [if_pos ⟨rfl, rfl, j0⟩, if_pos ⟨rfl, by omega⟩, if_pos (by omega)]
            · rw [if_neg (fun z => j0 z.2.2), if_pos ⟨rfl, rfl⟩, if_pos ⟨rfl, by omega⟩, if_neg (by omega)]
        · rw [if_neg (fun z => hp z.2.1), if_neg (fun z => absurd z.1 (by decide)), if_neg (fun z => hp z.2.1), if_neg (fun z => hp z.2)]
          by_cases hp2 : p < i
          · rw [if_pos (c := 6 = 6 ∧ p < i) ⟨rfl, hp2⟩, if_pos (c := 6 = 6 ∧ p < i + 1) ⟨rfl, by omega⟩]
          · rw [if_neg (fun z => hp2 z.2), if_neg (c := 6 = 6 ∧ p < i + 1) (fun z => hp2 (by have := z.2; omega))]
      · rw [if_neg (fun z => h6 z.1), if_neg (c := c = 6 ∧ p = i ∧ j = 0) (fun z => h6 z.1), if_neg (c := c = 6 ∧ p = i) (fun z => h6 z.1), if_neg (c := c = 6 ∧ p < i) (fun z => h6 z.1), if_neg (c := c = 6 ∧ p < i + 1) (fun z => h6 z.1)]
        by_cases h32 : c = 32 ∧ p = i
        · rw [if_pos h32, h32.1]
          rfl
        · rw [if_neg h32]
  · rw [zC_set, hTi_C.1, x4]
    omega
  · rw [zS_set, hTi_C.2, x5]
    omega
theorem re_loop (H : ∀ g, RI L xs g 16 → kr 0 g = r) : ∀ (m i n : Nat) (g : zH), RI L xs g i → i + m = 16 → m < n → zit (fun _ _ _ => none) (Re_init_39b kr) n ((0 : Nat) : Int) (i : Int) g = r
  | 0, i, n, g, x, hm, hn => by
    obtain ⟨n, rfl⟩ : ∃ k, n = k + 1 := ⟨n - 1, by omega⟩
    have e : i = 16 := by omega
    subst e
    rw [zit_s]
    obtain ⟨x1, x2, x3, -⟩ := id x
    have n5 : 0 < zhN g 5 := by rw [x1, if_neg (by decide)]; decide
    have n30 : 0 < zhN g 30 := by rw [x1, if_neg (by decide)]; decide
    have d5 : zhD g 5 0 2 = ((0 : Nat) : Int) := by rw [x3, if_neg (fun z => absurd z.1 (by decide)), if_neg (fun z => absurd z.1 (by decide))]; rfl
    have l30 : zhL g 30 0 = 16 := by rw [x2, if_neg (fun z => absurd z.1 (by decide))]; rfl
    unfold Re_init_39b
    refine Eq.trans (zob_n n5) ?_
    rw [d5]
    refine Eq.trans (zob_n n30) ?_
    refine Eq.trans (if_neg (show ¬ ((16 : Nat) : Int) < ((zhL g 30 0 : Nat) : Int) by rw [l30]; omega)) ?_
    exact H g x
  | m + 1, i, n, g, x, hm, hn => by
    obtain ⟨n, rfl⟩ : ∃ k, n = k + 1 := ⟨n - 1, by omega⟩
    rw [zit_s, re_step x (by omega)]
    exact re_loop H m (i + 1) n _ (x.step (by omega)) (by omega) (by omega)
/-- the class is made -/
theorem x_init_run (H : ∀ g, RI L xs g 16 → kr 0 (zset g 0 0 2 ((0 : Nat) : Int)) = r) : X_init ((0 : Nat) : Int) (hx0 L xs) kr = r := by
  refine x_init_p (fun g n l d c s => ?_)
  unfold Re_init_39
  refine re_loop (L := L) (xs := xs) (fun g x => ?_) 16 0 zN g ⟨fun c => ?_, fun c p => ?_, fun c p j => ?_, by rw [c], by rw [s, Nat.mul_zero, Nat.add_zero]⟩ rfl (by decide)
  · refine Eq.trans (zob_n (show 0 < zhN g 0 by rw [x.1, if_neg (by decide)]; decide)) ?_
    rw [zlet_d]
    exact H g x
  · rw [n]
    by_cases h : c = 6 ∨ c = 32
    · rw [if_pos h]
      rcases h with rfl | rfl <;> rfl
    · rw [if_neg h]
  · rw [l, if_neg (fun z => absurd z.2 (Nat.not_lt_zero _))]
  · rw [d, if_neg (fun z => absurd z.2.2 (Nat.not_lt_zero _)), if_neg (fun z => absurd z.2 (Nat.not_lt_zero _))]
end
