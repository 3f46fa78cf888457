/-! A NEW BLOCK: the class -/
def zold (Q m G c p : Nat) : Bool := match c with
  | 6 => Nat.blt p m
  | 32 => Nat.blt p m
  | 10 => Nat.blt p Q
  | 36 => Nat.blt p Q
  | 37 => Nat.blt p Q
  | 38 => Nat.blt p Q
  | 39 => Nat.blt p Q
  | 40 => Nat.blt p Q
  | 41 => Nat.blt p Q
  | 11 => Nat.blt p G
  | 42 => Nat.blt p G
  | 43 => Nat.blt p G
  | 44 => Nat.blt p G
  | _ => true
theorem blt_f {a b : Nat} (h : b ≤ a) : Nat.blt a b = false := by
  cases z : Nat.blt a b with
  | false => rfl
  | true => exact absurd (Nat.le_of_ble_eq_true z) (by omega)
theorem blt_t {a b : Nat} (h : a < b) : Nat.blt a b = true := Nat.ble_eq_true_of_le h
def FE (h0 h : zH) (Q m G : Nat) : Prop := ∀ c p, zold Q m G c p = true → zhD h c p = zhD h0 c p ∧ zhL h c p = zhL h0 c p
theorem zD_new {h : zH} {c len n : Nat} {f : Nat → Int} {c' p' j' : Nat} : zhD (znew h c len n f) c' p' j' = if c' = c ∧ p' = zhN h c then f j' else zhD h c' p' j' := rfl
theorem zL_new {h : zH} {c len n : Nat} {f : Nat → Int} {c' p' : Nat} : zhL (znew h c len n f) c' p' = if c' = c ∧ p' = zhN h c then len else zhL h c' p' := rfl
theorem zS_new {h : zH} {c len n : Nat} {f : Nat → Int} : zhS (znew h c len n f) = zhS h + n := rfl
section
variable {ρ : Type} {h h0 g : zH} {A B : zA} {kr : Int → zH → Option ρ} {Q m G : Nat}
theorem FE.rf : FE h h Q m G := fun _ _ _ => ⟨rfl, rfl⟩
theorem FE.set (x : FE h0 h Q m G) {c p j : Nat} {v : Int} (hk : zold Q m G c p = false) : FE h0 (zset h c p j v) Q m G := fun c' p' hz => by
  obtain ⟨x1, x2⟩ := x c' p' hz
  refine ⟨?_, x2⟩
  rw [← x1]
  exact funext fun j' => if_neg (fun z => by rw [z.1, z.2.1, hk] at hz; cases hz)
theorem FE.row (x : FE h0 h Q m G) {c p : Nat} {s : Nat → Int} (hk : zold Q m G c p = false) : FE h0 (hrw h c p s) Q m G := fun c' p' hz => by
  obtain ⟨x1, x2⟩ := x c' p' hz
  refine ⟨?_, x2⟩
  rw [← x1]
  exact funext fun j' => if_neg (fun z => by rw [z.1, z.2, hk] at hz; cases hz)
theorem FE.new (x : FE h0 h Q m G) {c len s : Nat} {f : Nat → Int} (hk : zold Q m G c (zhN h c) = false) : FE h0 (znew h c len s f) Q m G := fun c' p' hz => by
  obtain ⟨x1, x2⟩ := x c' p' hz
  have hne : ¬ (c' = c ∧ p' = zhN h c) := fun z => by rw [z.1, z.2, hk] at hz; cases hz
  exact ⟨by rw [← x1]; exact funext fun j' => if_neg hne, by rw [← x2]; exact if_neg hne⟩
theorem x_fl32_loop {p len : Nat} (hp : p < zhN h 32) (hl : zhL h 32 p = len) (l9 : len ≤ 1000) : ∀ f i : Nat, i ≤ len → len - i < f → zit (fun _ _ _ _ _ => none) (Ar_fill_32_5b kr) f (p : Int) 0 (i : Int) (len : Int) (hrw h 32 p (zf0 (zhD h 32 p) i)) = kr 0 (hrw h 32 p (zf0 (zhD h 32 p) len))
  | 0, _, _, hf => absurd hf (Nat.not_lt_zero _)
  | f + 1, i, hi, hf => by
    rw [zit_s]
    have hp' : p < zhN (hrw h 32 p (zf0 (zhD h 32 p) i)) 32 := hp
    have hl' : zhL (hrw h 32 p (zf0 (zhD h 32 p) i)) 32 p = len := hl
    by_cases h4 : i < len
    · have ih := x_fl32_loop hp hl l9 f (i + 1) h4 (by omega)
      have hlt : (i : Int) < (len : Int) := by omega
      have i9 : i < 100000 := by omega
      generalize zit (fun _ _ _ _ _ => none) (Ar_fill_32_5b kr) f = r2 at ih ⊢
      unfold Ar_fill_32_5b
      rw [if_pos hlt, zob_n hp', hl', zix_n h4, hrw_set, zlet_d, zf0_s, wr_s i9]
      exact ih
    · have : i = len := by omega
      subst this
      unfold Ar_fill_32_5b
      rw [if_neg (Int.lt_irrefl _)]
theorem x_fl32 {p len : Nat} (hp : p < zhN h 32) (hl : zhL h 32 p = len) (l9 : len ≤ 1000) : Ar_fill_32 (p : Int) 0 h kr = kr 0 (hrw h 32 p (zf0 (zhD h 32 p) len)) := by
  have := x_fl32_loop (kr := kr) hp hl l9 zN 0 (Nat.zero_le _) (by show len - 0 < 5000; omega)
  rw [zf0_0, hrw_id] at this
  unfold Ar_fill_32
  rw [zob_n hp, hl]
  exact this
/-- a thread begins -/
def hTb (h : zH) (T R : Nat) (a len : Int) : zH := if 0 < len then zset (zset (hrw (zset h 6 T 2 a) 32 T (zf0 (zhD (zset h 6 T 2 a) 32 T) R)) 6 T 4 114) 6 T 3 0 else zset (zset (zset (hrw (zset h 6 T 2 a) 32 T (zf0 (zhD (zset h 6 T 2 a) 32 T) R)) 6 T 4 114) 6 T 3 0) 6 T 4 101
theorem x_begin {T R : Nat} {a len : Int} (hT : T < zhN h 6) (h1 : zhD h 6 T 1 = (T : Int)) (hR : T < zhN h 32) (hl : zhL h 32 T = R) (l9 : R ≤ 1000) : Th_begin (T : Int) a len h kr = kr 0 (hTb h T R a len) := by
  have h1' : zhD (zset h 6 T 2 a) 6 T 1 = (T : Int) := by rw [zD_nj (by decide)]; exact h1
  have hT1 : T < zhN (zset h 6 T 2 a) 6 := hT
  have hR1 : T < zhN (zset h 6 T 2 a) 32 := hR
  have hl1 : zhL (zset h 6 T 2 a) 32 T = R := hl
  have hT2 : T < zhN (hrw (zset h 6 T 2 a) 32 T (zf0 (zhD (zset h 6 T 2 a) 32 T) R)) 6 := hT
  have hT3 : T < zhN (zset (hrw (zset h 6 T 2 a) 32 T (zf0 (zhD (zset h 6 T 2 a) 32 T) R)) 6 T 4 114) 6 := hT
  unfold Th_begin hTb
  rw [zob_n hT, zlet_d, zob_n hT1, h1', x_fl32 hR1 hl1 l9]
  rw [zob_n hT2, zlet_d, zob_n hT3, x_goTo hT3 (Int.le_refl _)]
theorem hTb_N {T R : Nat} {a len : Int} : zhN (hTb h T R a len) = zhN h ∧ zhL (hTb h T R a len) = zhL h ∧ zhC (hTb h T R a len) = zhC h ∧ zhS (hTb h T R a len) = zhS h := by
  unfold hTb
  by_cases hz : 0 < len
  · rw [if_pos hz]; exact ⟨rfl, rfl, rfl, rfl⟩
  · rw [if_neg hz]; exact ⟨rfl, rfl, rfl, rfl⟩
theorem hTb_D {T R c p j : Nat} {a len : Int} : zhD (hTb h T R a len) c p j = if c = 6 ∧ p = T ∧ j = 4 then (if 0 < len then 114 else 101) else if c = 6 ∧ p = T ∧ j = 3 then 0 else if c = 6 ∧ p = T ∧ j = 2 then a else if c = 32 ∧ p = T ∧ j < R then 0 else zhD h c p j := by
  unfold hTb
  by_cases h6 : c = 6
  · subst h6
    by_cases hp : p = T
    · subst hp
      by_cases hz : 0 < len
      · rw [if_pos hz, if_pos hz]
        simp only [zD_set, hrw_D, true_and, show (6 : Nat) ≠ 32 by decide, false_and, if_false]
        by_cases j3 : j = 3
        · subst j3; simp
        · by_cases j4 : j = 4
          · subst j4; simp
          · rw [if_neg j3, if_neg j4, if_neg j4, if_neg j3]
      · rw [if_neg hz, if_neg hz]
        simp only [zD_set, hrw_D, true_and, show (6 : Nat) ≠ 32 by decide, false_and, if_false]
        by_cases j3 : j = 3
        · subst j3; simp
        · by_cases j4 : j = 4
          · subst j4; simp
          · rw [if_neg j4, if_neg j3, if_neg j4, if_neg j4, if_neg j3]
    · have k : ∀ x : Nat, ¬ ((6 : Nat) = 6 ∧ p = T ∧ j = x) := fun x z => hp z.2.1
      have k2 : ¬ ((6 : Nat) = 32 ∧ p = T ∧ j < R) := fun z => hp z.2.1
      have k3 : ¬ ((6 : Nat) = 32 ∧ p = T) := fun z => hp z.2
      rw [if_neg (k 4), if_neg (k 3), if_neg (k 2), if_neg k2]
      by_cases hz : 0 < len
      · rw [if_pos hz, zD_np hp, zD_np hp, hrw_D, if_neg k3, zD_np hp]
      · rw [if_neg hz, zD_np hp, zD_np hp, zD_np hp, hrw_D, if_neg k3, zD_np hp]
  · have k : ∀ x : Nat, ¬ (c = 6 ∧ p = T ∧ j = x) := fun x z => h6 z.1
    rw [if_neg (k 4), if_neg (k 3), if_neg (k 2)]
    have e : zhD (if 0 < len then zset (zset (hrw (zset h 6 T 2 a) 32 T (zf0 (zhD (zset h 6 T 2 a) 32 T) R)) 6 T 4 114) 6 T 3 0 else zset (zset (zset (hrw (zset h 6 T 2 a) 32 T (zf0 (zhD (zset h 6 T 2 a) 32 T) R)) 6 T 4 114) 6 T 3 0) 6 T 4 101) c p j = zhD (hrw (zset h 6 T 2 a) 32 T (zf0 (zhD (zset h 6 T 2 a) 32 T) R)) c p j := by
      by_cases hz : 0 < len
      · rw [if_pos hz, zD_ne h6, zD_ne h6]
      · rw [if_neg hz, zD_ne h6, zD_ne h6, zD_ne h6]
    rw [e, hrw_D]
    by_cases hc : c = 32 ∧ p = T
    · rw [if_pos hc, hc.1, hc.2]
      unfold zf0
      by_cases hj : j < R
      · rw [if_pos hj, if_pos ⟨rfl, rfl, hj⟩]
      · rw [if_neg hj, if_neg (fun z => hj z.2.2), zD_ne (by decide)]
    · rw [if_neg hc, if_neg (fun z => hc ⟨z.1, z.2.1⟩), zD_ne h6]
/-- a thread is made -/
def hTi (h : zH) (t : Int) (R : Nat) : zH := zset (znew (zset (znew h 6 0 (znf zPP 6) (fun k => zdef (zft zPP 6 k))) 6 (zhN h 6) 0 t) 32 R R (fun _ => 0)) 6 (zhN h 6) 1 (zhN h 32 : Int)
theorem x_thInit {t : Int} {R : Nat} (h0 : 0 ≤ t) (hR : R < 100000) : Th_init (zhN h 6 : Int) t (R : Int) (znew h 6 0 (znf zPP 6) (fun k => zdef (zft zPP 6 k))) kr = kr 0 (hTi h t R) := by
  have z1 : ∀ kk : Nat → Option ρ, zix 100000 (R : Int) kk = kk R := fun kk => zix_n hR
  have mx : ∀ (h : zH) (kr : Int → zH → Option ρ), Ma_max (R : Int) 0 h kr = kr (R : Int) h := fun h kr => by
    unfold Ma_max Ma_max_10
    rw [if_neg (by omega)]
  unfold Th_init
  simp only [zlet_d, z1, mx, zob_set, zob_newne (show 6 ≠ 32 by decide), zob_new1]
  rfl
theorem hTi_N {t : Int} {R c : Nat} : zhN (hTi h t R) c = if c = 6 then zhN h 6 + 1 else if c = 32 then zhN h 32 + 1 else zhN h c := by
  unfold hTi
  by_cases h6 : c = 6
  · subst h6; rfl
  · rw [if_neg h6]
    by_cases h32 : c = 32
    · subst h32; rfl
    · rw [if_neg h32, zN_set, zN_newne h32, zN_set, zN_newne h6]
theorem hTi_L {t : Int} {R c p : Nat} : zhL (hTi h t R) c p = if c = 32 ∧ p = zhN h 32 then R else if c = 6 ∧ p = zhN h 6 then 0 else zhL h c p := by
  unfold hTi
  rw [zL_set, zL_new, zL_set, zL_new]
  rfl
theorem hTi_D {t : Int} {R c p j : Nat} : zhD (hTi h t R) c p j = if c = 6 ∧ p = zhN h 6 ∧ j = 1 then (zhN h 32 : Int) else if c = 32 ∧ p = zhN h 32 then 0 else if c = 6 ∧ p = zhN h 6 ∧ j = 0 then t else if c = 6 ∧ p = zhN h 6 then zdef (zft zPP 6 j) else zhD h c p j := rfl
theorem hTi_C {t : Int} {R : Nat} : zhC (hTi h t R) = zhC h + 2 ∧ zhS (hTi h t R) = zhS h + 5 + R := ⟨rfl, rfl⟩
/-- a thread is made and begins -/
def hTn (h : zH) (Q i R : Nat) (a len : Int) : zH := hTb (zset (hTi h (i : Int) R) 36 Q i (zhN h 6 : Int)) (zhN h 6) R a len
theorem hTn_N {i R c : Nat} {a len : Int} : zhN (hTn h Q i R a len) c = if c = 6 then zhN h 6 + 1 else if c = 32 then zhN h 32 + 1 else zhN h c := by
  unfold hTn
  rw [hTb_N.1, zN_set, hTi_N]
theorem hTn_L {i R c p : Nat} {a len : Int} : zhL (hTn h Q i R a len) c p = if c = 32 ∧ p = zhN h 32 then R else if c = 6 ∧ p = zhN h 6 then 0 else zhL h c p := by
  unfold hTn
  rw [hTb_N.2.1, zL_set, hTi_L]
theorem hTn_C {i R : Nat} {a len : Int} : zhC (hTn h Q i R a len) = zhC h + 2 ∧ zhS (hTn h Q i R a len) = zhS h + 5 + R := by
  unfold hTn
  rw [hTb_N.2.2.1, hTb_N.2.2.2]
  exact hTi_C
theorem hTn_o {i R c p j : Nat} {a len : Int} (n32 : zhN h 32 = zhN h 6) (h1 : ¬ (c = 6 ∧ p = zhN h 6)) (h2 : ¬ (c = 32 ∧ p = zhN h 6)) (h3 : ¬ (c = 36 ∧ p = Q ∧ j = i)) : zhD (hTn h Q i R a len) c p j = zhD h c p j := by
  unfold hTn
  rw [hTb_D, if_neg (fun z => h1 ⟨z.1, z.2.1⟩), if_neg (fun z => h1 ⟨z.1, z.2.1⟩), if_neg (fun z => h1 ⟨z.1, z.2.1⟩), if_neg (fun z => h2 ⟨z.1, z.2.1⟩), zD_set, if_neg h3, hTi_D, n32, if_neg (fun z => h1 ⟨z.1, z.2.1⟩), if_neg h2, if_neg (fun z => h1 ⟨z.1, z.2.1⟩), if_neg h1]
theorem hTn_n {i R : Nat} {a len : Int} (n32 : zhN h 32 = zhN h 6) : zhD (hTn h Q i R a len) 36 Q i = (zhN h 6 : Int) ∧ zhD (hTn h Q i R a len) 6 (zhN h 6) 0 = (i : Int) ∧ zhD (hTn h Q i R a len) 6 (zhN h 6) 1 = (zhN h 6 : Int) ∧ zhD (hTn h Q i R a len) 6 (zhN h 6) 2 = a ∧ zhD (hTn h Q i R a len) 6 (zhN h 6) 3 = 0 ∧ zhD (hTn h Q i R a len) 6 (zhN h 6) 4 = (if 0 < len then 114 else 101) ∧ ∀ r, r < R → zhD (hTn h Q i R a len) 32 (zhN h 6) r = 0 := by
  unfold hTn
  refine ⟨?_, ?_, ?_, ?_, ?_, ?_, fun r hr => ?_⟩
  · rw [hTb_D]; simp [zD_set]
  · rw [hTb_D]; simp [zD_set, hTi_D]
  · rw [hTb_D]; simp [zD_set, hTi_D, n32]
  · rw [hTb_D]; simp
  · rw [hTb_D]; simp
  · rw [hTb_D]; simp
  · rw [hTb_D]; simp [hr]
/-- a block with i threads -/
def BT (h0 h : zH) (Q m G l T R : Nat) (a st : Int) (i : Nat) : Prop := FE h0 h Q m G ∧
  (zhN h 6 = m + i ∧ zhN h 32 = m + i ∧ zhN h 10 = Q + 1 ∧ zhN h 36 = Q + 1 ∧ zhN h 39 = Q + 1 ∧ ∀ c, c ≠ 6 → c ≠ 32 → c ≠ 10 → c ≠ 36 → c ≠ 39 → zhN h c = zhN h0 c) ∧
  (zhD h 10 Q 0 = (l : Int) ∧ zhD h 10 Q 1 = a ∧ zhD h 10 Q 2 = (Q : Int) ∧ zhD h 10 Q 5 = (Q : Int) ∧ zhL h 36 Q = T ∧ zhL h 39 Q = 64 ∧ ∀ c, zhD h 39 Q c = 0) ∧
  (∀ t, t < i → zhD h 36 Q t = ((m + t : Nat) : Int) ∧ zhD h 6 (m + t) 0 = (t : Int) ∧ zhD h 6 (m + t) 1 = ((m + t : Nat) : Int) ∧ zhD h 6 (m + t) 2 = a ∧ zhD h 6 (m + t) 3 = 0 ∧ zhD h 6 (m + t) 4 = st ∧ zhL h 32 (m + t) = R ∧ ∀ r, r < R → zhD h 32 (m + t) r = 0) ∧
  (zhC h = zhC h0 + 3 + 2 * i ∧ zhS h ≤ zhS h0 + 100 + 20 * i)
theorem BT.step {l T R i : Nat} {a len : Int} (x : BT h0 h Q m G l T R a (if 0 < len then 114 else 101) i) (hR : R ≤ 8) : BT h0 (hTn h Q i R a len) Q m G l T R a (if 0 < len then 114 else 101) (i + 1) := by
  obtain ⟨x1, ⟨n6, n32, n10, n36, n39, nn⟩, ⟨b0, b1, b2, b5, l36, l39, z39⟩, xt, xc, xs⟩ := x
  have ne : zhN h 32 = zhN h 6 := by omega
  have N := fun c => hTn_N (h := h) (Q := Q) (i := i) (R := R) (a := a) (len := len) (c := c)
  have Lh := fun c p => hTn_L (h := h) (Q := Q) (i := i) (R := R) (a := a) (len := len) (c := c) (p := p)
  have D := fun c p j => hTn_o (h := h) (Q := Q) (i := i) (R := R) (a := a) (len := len) (c := c) (p := p) (j := j) ne
  have C := hTn_C (h := h) (Q := Q) (i := i) (R := R) (a := a) (len := len)
  obtain ⟨w1, w2, w3, w4, w5, w6, w7⟩ := hTn_n (h := h) (Q := Q) (i := i) (R := R) (a := a) (len := len) ne
  rw [n6] at w1 w2 w3 w4 w5 w6 w7 N Lh D
  rw [n32] at N Lh
  generalize hTn h Q i R a len = h' at *
  have f6 : zold Q m G 6 (m + i) = false := blt_f (by omega)
  have f32 : zold Q m G 32 (m + i) = false := blt_f (by omega)
  have f36 : zold Q m G 36 Q = false := blt_f (Nat.le_refl _)
  refine ⟨fun c p hz => ?_, ⟨?_, ?_, ?_, ?_, ?_, fun c c1 c2 c3 c4 c5 => ?_⟩, ⟨?_, ?_, ?_, ?_, ?_, ?_, fun c => ?_⟩, fun t ht => ?_, by rw [C.1, xc]; omega, by rw [C.2]; omega⟩
  · obtain ⟨y1, y2⟩ := x1 c p hz
    have k1 : ¬ (c = 6 ∧ p = m + i) := fun z => by rw [z.1, z.2, f6] at hz; cases hz
    have k2 : ¬ (c = 32 ∧ p = m + i) := fun z => by rw [z.1, z.2, f32] at hz; cases hz
    have k3 : ∀ j, ¬ (c = 36 ∧ p = Q ∧ j = i) := fun j z => by rw [z.1, z.2.1, f36] at hz; cases hz
    exact ⟨by rw [← y1]; exact funext fun j => D c p j k1 k2 (k3 j), by rw [Lh, if_neg k2, if_neg k1]; exact y2⟩
  · rw [N, if_pos rfl]; omega
  · rw [N, if_neg (by decide), if_pos rfl]; omega
  · rw [N, if_neg (by decide), if_neg (by decide)]; exact n10
  · rw [N, if_neg (by decide), if_neg (by decide)]; exact n36
  · rw [N, if_neg (by decide), if_neg (by decide)]; exact n39
  · rw [N, if_neg c1, if_neg c2]; exact nn c c1 c2 c3 c4 c5
  · rw [D _ _ _ (fun z => absurd z.1 (by decide)) (fun z => absurd z.1 (by decide)) (fun z => absurd z.1 (by decide))]; exact b0
  · rw [D _ _ _ (fun z => absurd z.1 (by decide)) (fun z => absurd z.1 (by decide)) (fun z => absurd z.1 (by decide))]; exact b1
  · rw [D _ _ _ (fun z => absurd z.1 (by decide)) (fun z => absurd z.1 (by decide)) (fun z => absurd z.1 (by decide))]; exact b2
  · rw [D _ _ _ (fun z => absurd z.1 (by decide)) (fun z => absurd z.1 (by decide)) (fun z => absurd z.1 (by decide))]; exact b5
  · rw [Lh, if_neg (fun z => absurd z.1 (by decide)), if_neg (fun z => absurd z.1 (by decide))]; exact l36
  · rw [Lh, if_neg (fun z => absurd z.1 (by decide)), if_neg (fun z => absurd z.1 (by decide))]; exact l39
  · rw [D _ _ _ (fun z => absurd z.1 (by decide)) (fun z => absurd z.1 (by decide)) (fun z => absurd z.1 (by decide))]; exact z39 c
  · by_cases hti : t = i
    · subst hti
      exact ⟨w1, w2, w3, w4, w5, w6, by rw [Lh, if_pos ⟨rfl, rfl⟩], w7⟩
    · obtain ⟨v1, v2, v3, v4, v5, v6, v7, v8⟩ := xt t (by omega)
      have q6 : ∀ j, zhD h' 6 (m + t) j = zhD h 6 (m + t) j := fun j => D _ _ _ (fun z => by omega) (fun z => absurd z.1 (by decide)) (fun z => absurd z.1 (by decide))
      have q32 : ∀ j, zhD h' 32 (m + t) j = zhD h 32 (m + t) j := fun j => D _ _ _ (fun z => absurd z.1 (by decide)) (fun z => by omega) (fun z => absurd z.1 (by decide))
      have q36 : zhD h' 36 Q t = zhD h 36 Q t := D _ _ _ (fun z => absurd z.1 (by decide)) (fun z => absurd z.1 (by decide)) (fun z => hti z.2.2)
      refine ⟨by rw [q36]; exact v1, by rw [q6]; exact v2, by rw [q6]; exact v3, by rw [q6]; exact v4, by rw [q6]; exact v5, by rw [q6]; exact v6, by rw [Lh, if_neg (fun z => by omega), if_neg (fun z => absurd z.1 (by decide))]; exact v7, fun r hr => by rw [q32]; exact v8 r hr⟩
end
