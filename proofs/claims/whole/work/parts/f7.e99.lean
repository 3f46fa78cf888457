/-! THE CLASS IS MADE -/
def zh9 (L : Nat) (xs : Nat → Int32) : zH := (fun c => if c = 50 then 1 else 0, fun c p => if c = 50 ∧ p = 0 then L else 0, fun c p j => if c = 50 ∧ p = 0 then (xs j).toInt else 0, 0, 0)
def hx0 (L : Nat) (xs : Nat → Int32) : zH := znew (zh9 L xs) 0 0 (znf zPP 0) (fun k => zdef (zft zPP 0 k))
def y9up (f : Nat → Nat) (c : Nat) : Nat → Nat := fun c' => if c' = c then f c + 1 else f c'
def y9lu (f : Nat → Nat → Nat) (c p len : Nat) : Nat → Nat → Nat := fun c' p' => if c' = c ∧ p' = p then len else f c' p'
def y9dn (f : Nat → Nat → Nat → Int) (c p : Nat) (v : Nat → Int) : Nat → Nat → Nat → Int := fun c' p' j' => if c' = c ∧ p' = p then v j' else f c' p' j'
def y9du (f : Nat → Nat → Nat → Int) (c p j : Nat) (v : Int) : Nat → Nat → Nat → Int := fun c' p' j' => if c' = c ∧ p' = p ∧ j' = j then v else f c' p' j'
def y9c0 : Nat → Nat := y9up (fun c => if c = 50 then 1 else 0) 0
def y9l0 (L : Nat) : Nat → Nat → Nat := y9lu (fun c p => if c = 50 ∧ p = 0 then L else 0) 0 0 0
def y9d0 (xs : Nat → Int32) : Nat → Nat → Nat → Int := y9dn (fun c p j => if c = 50 ∧ p = 0 then (xs j).toInt else 0) 0 0 (fun k => zdef (zft zPP 0 k))
def y9s0 : Nat := 0 + znf zPP 0
def y9c1 : Nat → Nat := y9up y9c0 1
def y9l1 (L : Nat) : Nat → Nat → Nat := y9lu (y9l0 L) 1 0 0
def y9d1 (xs : Nat → Int32) : Nat → Nat → Nat → Int := y9dn (y9d0 xs) 1 0 (fun k => zdef (zft zPP 1 k))
def y9s1 : Nat := y9s0 + (znf zPP 1)
def y9c2 : Nat → Nat := y9up y9c1 20
def y9l2 (L : Nat) : Nat → Nat → Nat := y9lu (y9l1 L) 20 0 4
def y9d2 (xs : Nat → Int32) : Nat → Nat → Nat → Int := y9dn (y9d1 xs) 20 0 (fun _ => -1)
def y9s2 : Nat := y9s1 + 4
def y9c3 : Nat → Nat := y9c2
def y9l3 (L : Nat) : Nat → Nat → Nat := y9l2 L
def y9d3 (xs : Nat → Int32) : Nat → Nat → Nat → Int := y9du (y9d2 xs) 1 0 0 (0)
def y9s3 : Nat := y9s2
def y9c4 : Nat → Nat := y9up y9c3 21
def y9l4 (L : Nat) : Nat → Nat → Nat := y9lu (y9l3 L) 21 0 12
def y9d4 (xs : Nat → Int32) : Nat → Nat → Nat → Int := y9dn (y9d3 xs) 21 0 (fun _ => -1)
def y9s4 : Nat := y9s3 + 12
def y9c5 : Nat → Nat := y9c4
def y9l5 (L : Nat) : Nat → Nat → Nat := y9l4 L
def y9d5 (xs : Nat → Int32) : Nat → Nat → Nat → Int := y9du (y9d4 xs) 1 0 1 (0)
def y9s5 : Nat := y9s4
def y9c6 : Nat → Nat := y9c5
def y9l6 (L : Nat) : Nat → Nat → Nat := y9l5 L
def y9d6 (xs : Nat → Int32) : Nat → Nat → Nat → Int := y9du (y9d5 xs) 0 0 0 (0)
def y9s6 : Nat := y9s5
def y9c7 : Nat → Nat := y9up y9c6 2
def y9l7 (L : Nat) : Nat → Nat → Nat := y9lu (y9l6 L) 2 0 0
def y9d7 (xs : Nat → Int32) : Nat → Nat → Nat → Int := y9dn (y9d6 xs) 2 0 (fun k => zdef (zft zPP 2 k))
def y9s7 : Nat := y9s6 + (znf zPP 2)
def y9c8 : Nat → Nat := y9up y9c7 22
def y9l8 (L : Nat) : Nat → Nat → Nat := y9lu (y9l7 L) 22 0 64
def y9d8 (xs : Nat → Int32) : Nat → Nat → Nat → Int := y9dn (y9d7 xs) 22 0 (fun _ => 0)
def y9s8 : Nat := y9s7 + 64
def y9c9 : Nat → Nat := y9c8
def y9l9 (L : Nat) : Nat → Nat → Nat := y9l8 L
def y9d9 (xs : Nat → Int32) : Nat → Nat → Nat → Int := y9du (y9d8 xs) 2 0 1 (0)
def y9s9 : Nat := y9s8
def y9c10 : Nat → Nat := y9up y9c9 23
def y9l10 (L : Nat) : Nat → Nat → Nat := y9lu (y9l9 L) 23 0 2
def y9d10 (xs : Nat → Int32) : Nat → Nat → Nat → Int := y9dn (y9d9 xs) 23 0 (fun _ => -1)
def y9s10 : Nat := y9s9 + 2
def y9c11 : Nat → Nat := y9up y9c10 3
def y9l11 (L : Nat) : Nat → Nat → Nat := y9lu (y9l10 L) 3 0 0
def y9d11 (xs : Nat → Int32) : Nat → Nat → Nat → Int := y9dn (y9d10 xs) 3 0 (fun k => zdef (zft zPP 3 k))
def y9s11 : Nat := y9s10 + (znf zPP 3)
def y9c12 : Nat → Nat := y9up y9c11 26
def y9l12 (L : Nat) : Nat → Nat → Nat := y9lu (y9l11 L) 26 0 4
def y9d12 (xs : Nat → Int32) : Nat → Nat → Nat → Int := y9dn (y9d11 xs) 26 0 (fun _ => -1)
def y9s12 : Nat := y9s11 + 4
def y9c13 : Nat → Nat := y9c12
def y9l13 (L : Nat) : Nat → Nat → Nat := y9l12 L
def y9d13 (xs : Nat → Int32) : Nat → Nat → Nat → Int := y9du (y9d12 xs) 3 0 0 (0)
def y9s13 : Nat := y9s12
def y9c14 : Nat → Nat := y9up y9c13 27
def y9l14 (L : Nat) : Nat → Nat → Nat := y9lu (y9l13 L) 27 0 2
def y9d14 (xs : Nat → Int32) : Nat → Nat → Nat → Int := y9dn (y9d13 xs) 27 0 (fun _ => 0)
def y9s14 : Nat := y9s13 + 2
def y9c15 : Nat → Nat := y9c14
def y9l15 (L : Nat) : Nat → Nat → Nat := y9l14 L
def y9d15 (xs : Nat → Int32) : Nat → Nat → Nat → Int := y9du (y9d14 xs) 27 0 0 (-1)
def y9s15 : Nat := y9s14
def y9c16 : Nat → Nat := y9c15
def y9l16 (L : Nat) : Nat → Nat → Nat := y9l15 L
def y9d16 (xs : Nat → Int32) : Nat → Nat → Nat → Int := y9du (y9d15 xs) 27 0 1 (-1)
def y9s16 : Nat := y9s15
def y9c17 : Nat → Nat := y9c16
def y9l17 (L : Nat) : Nat → Nat → Nat := y9l16 L
def y9d17 (xs : Nat → Int32) : Nat → Nat → Nat → Int := y9du (y9d16 xs) 3 0 1 (0)
def y9s17 : Nat := y9s16
def y9c18 : Nat → Nat := y9c17
def y9l18 (L : Nat) : Nat → Nat → Nat := y9l17 L
def y9d18 (xs : Nat → Int32) : Nat → Nat → Nat → Int := y9du (y9d17 xs) 23 0 0 (0)
def y9s18 : Nat := y9s17
def y9c19 : Nat → Nat := y9up y9c18 3
def y9l19 (L : Nat) : Nat → Nat → Nat := y9lu (y9l18 L) 3 1 0
def y9d19 (xs : Nat → Int32) : Nat → Nat → Nat → Int := y9dn (y9d18 xs) 3 1 (fun k => zdef (zft zPP 3 k))
def y9s19 : Nat := y9s18 + (znf zPP 3)
def y9c20 : Nat → Nat := y9up y9c19 26
def y9l20 (L : Nat) : Nat → Nat → Nat := y9lu (y9l19 L) 26 1 4
def y9d20 (xs : Nat → Int32) : Nat → Nat → Nat → Int := y9dn (y9d19 xs) 26 1 (fun _ => -1)
def y9s20 : Nat := y9s19 + 4
def y9c21 : Nat → Nat := y9c20
def y9l21 (L : Nat) : Nat → Nat → Nat := y9l20 L
def y9d21 (xs : Nat → Int32) : Nat → Nat → Nat → Int := y9du (y9d20 xs) 3 1 0 (1)
def y9s21 : Nat := y9s20
def y9c22 : Nat → Nat := y9up y9c21 27
def y9l22 (L : Nat) : Nat → Nat → Nat := y9lu (y9l21 L) 27 1 2
def y9d22 (xs : Nat → Int32) : Nat → Nat → Nat → Int := y9dn (y9d21 xs) 27 1 (fun _ => 0)
def y9s22 : Nat := y9s21 + 2
def y9c23 : Nat → Nat := y9c22
def y9l23 (L : Nat) : Nat → Nat → Nat := y9l22 L
def y9d23 (xs : Nat → Int32) : Nat → Nat → Nat → Int := y9du (y9d22 xs) 27 1 0 (-1)
def y9s23 : Nat := y9s22
def y9c24 : Nat → Nat := y9c23
def y9l24 (L : Nat) : Nat → Nat → Nat := y9l23 L
def y9d24 (xs : Nat → Int32) : Nat → Nat → Nat → Int := y9du (y9d23 xs) 27 1 1 (-1)
def y9s24 : Nat := y9s23
def y9c25 : Nat → Nat := y9c24
def y9l25 (L : Nat) : Nat → Nat → Nat := y9l24 L
def y9d25 (xs : Nat → Int32) : Nat → Nat → Nat → Int := y9du (y9d24 xs) 3 1 1 (1)
def y9s25 : Nat := y9s24
def y9c26 : Nat → Nat := y9c25
def y9l26 (L : Nat) : Nat → Nat → Nat := y9l25 L
def y9d26 (xs : Nat → Int32) : Nat → Nat → Nat → Int := y9du (y9d25 xs) 23 0 1 (1)
def y9s26 : Nat := y9s25
def y9c27 : Nat → Nat := y9c26
def y9l27 (L : Nat) : Nat → Nat → Nat := y9l26 L
def y9d27 (xs : Nat → Int32) : Nat → Nat → Nat → Int := y9du (y9d26 xs) 2 0 2 (0)
def y9s27 : Nat := y9s26
def y9c28 : Nat → Nat := y9up y9c27 4
def y9l28 (L : Nat) : Nat → Nat → Nat := y9lu (y9l27 L) 4 0 0
def y9d28 (xs : Nat → Int32) : Nat → Nat → Nat → Int := y9dn (y9d27 xs) 4 0 (fun k => zdef (zft zPP 4 k))
def y9s28 : Nat := y9s27 + (znf zPP 4)
def y9c29 : Nat → Nat := y9c28
def y9l29 (L : Nat) : Nat → Nat → Nat := y9l28 L
def y9d29 (xs : Nat → Int32) : Nat → Nat → Nat → Int := y9du (y9d28 xs) 2 0 3 (0)
def y9s29 : Nat := y9s28
def y9c30 : Nat → Nat := y9c29
def y9l30 (L : Nat) : Nat → Nat → Nat := y9l29 L
def y9d30 (xs : Nat → Int32) : Nat → Nat → Nat → Int := y9du (y9d29 xs) 2 0 5 (111)
def y9s30 : Nat := y9s29
def y9c31 : Nat → Nat := y9up y9c30 24
def y9l31 (L : Nat) : Nat → Nat → Nat := y9lu (y9l30 L) 24 0 4
def y9d31 (xs : Nat → Int32) : Nat → Nat → Nat → Int := y9dn (y9d30 xs) 24 0 (fun _ => 0)
def y9s31 : Nat := y9s30 + 4
def y9c32 : Nat → Nat := y9c31
def y9l32 (L : Nat) : Nat → Nat → Nat := y9l31 L
def y9d32 (xs : Nat → Int32) : Nat → Nat → Nat → Int := y9du (y9d31 xs) 2 0 6 (0)
def y9s32 : Nat := y9s31
def y9c33 : Nat → Nat := y9up y9c32 25
def y9l33 (L : Nat) : Nat → Nat → Nat := y9lu (y9l32 L) 25 0 4
def y9d33 (xs : Nat → Int32) : Nat → Nat → Nat → Int := y9dn (y9d32 xs) 25 0 (fun _ => 0)
def y9s33 : Nat := y9s32 + 4
def y9c34 : Nat → Nat := y9c33
def y9l34 (L : Nat) : Nat → Nat → Nat := y9l33 L
def y9d34 (xs : Nat → Int32) : Nat → Nat → Nat → Int := y9du (y9d33 xs) 2 0 7 (0)
def y9s34 : Nat := y9s33
def y9c35 : Nat → Nat := y9c34
def y9l35 (L : Nat) : Nat → Nat → Nat := y9l34 L
def y9d35 (xs : Nat → Int32) : Nat → Nat → Nat → Int := y9du (y9d34 xs) 2 0 0 (0)
def y9s35 : Nat := y9s34
def y9c36 : Nat → Nat := y9c35
def y9l36 (L : Nat) : Nat → Nat → Nat := y9l35 L
def y9d36 (xs : Nat → Int32) : Nat → Nat → Nat → Int := y9du (y9d35 xs) 0 0 1 (0)
def y9s36 : Nat := y9s35
def y9c37 : Nat → Nat := y9up y9c36 5
def y9l37 (L : Nat) : Nat → Nat → Nat := y9lu (y9l36 L) 5 0 0
def y9d37 (xs : Nat → Int32) : Nat → Nat → Nat → Int := y9dn (y9d36 xs) 5 0 (fun k => zdef (zft zPP 5 k))
def y9s37 : Nat := y9s36 + (znf zPP 5)
def y9c38 : Nat → Nat := y9up y9c37 28
def y9l38 (L : Nat) : Nat → Nat → Nat := y9lu (y9l37 L) 28 0 64
def y9d38 (xs : Nat → Int32) : Nat → Nat → Nat → Int := y9dn (y9d37 xs) 28 0 (fun _ => 0)
def y9s38 : Nat := y9s37 + 64
def y9c39 : Nat → Nat := y9c38
def y9l39 (L : Nat) : Nat → Nat → Nat := y9l38 L
def y9d39 (xs : Nat → Int32) : Nat → Nat → Nat → Int := y9du (y9d38 xs) 5 0 0 (0)
def y9s39 : Nat := y9s38
def y9c40 : Nat → Nat := y9up y9c39 29
def y9l40 (L : Nat) : Nat → Nat → Nat := y9lu (y9l39 L) 29 0 16
def y9d40 (xs : Nat → Int32) : Nat → Nat → Nat → Int := y9dn (y9d39 xs) 29 0 (fun _ => 0)
def y9s40 : Nat := y9s39 + 16
def y9c41 : Nat → Nat := y9c40
def y9l41 (L : Nat) : Nat → Nat → Nat := y9l40 L
def y9d41 (xs : Nat → Int32) : Nat → Nat → Nat → Int := y9du (y9d40 xs) 5 0 1 (0)
def y9s41 : Nat := y9s40
def y9c42 : Nat → Nat := y9up y9c41 30
def y9l42 (L : Nat) : Nat → Nat → Nat := y9lu (y9l41 L) 30 0 16
def y9d42 (xs : Nat → Int32) : Nat → Nat → Nat → Int := y9dn (y9d41 xs) 30 0 (fun _ => -1)
def y9s42 : Nat := y9s41 + 16
def y9c43 : Nat → Nat := y9c42
def y9l43 (L : Nat) : Nat → Nat → Nat := y9l42 L
def y9d43 (xs : Nat → Int32) : Nat → Nat → Nat → Int := y9du (y9d42 xs) 5 0 2 (0)
def y9s43 : Nat := y9s42
def y9c44 : Nat → Nat := y9up y9c43 31
def y9l44 (L : Nat) : Nat → Nat → Nat := y9lu (y9l43 L) 31 0 16
def y9d44 (xs : Nat → Int32) : Nat → Nat → Nat → Int := y9dn (y9d43 xs) 31 0 (fun _ => 0)
def y9s44 : Nat := y9s43 + 16
def y9c45 : Nat → Nat := y9c44
def y9l45 (L : Nat) : Nat → Nat → Nat := y9l44 L
def y9d45 (xs : Nat → Int32) : Nat → Nat → Nat → Int := y9du (y9d44 xs) 5 0 3 (0)
def y9s45 : Nat := y9s44
theorem zlet_g {α ρ : Type} {x : α} {k : α → Option ρ} {r : Option ρ} (H : ∀ g, g = x → k g = r) : zlet x k = r := H x rfl
section
variable {ρ : Type} {L : Nat} {xs : Nat → Int32} {kr : Int → zH → Option ρ} {r : Option ρ}
theorem x_init_p (H : ∀ g, zhN g = y9c45 → zhL g = y9l45 L → zhD g = y9d45 xs → zhC g = 21 → zhS g = y9s45 → Re_init_39 (fun _ h15 => zob h15 0 ((0 : Nat) : Int) fun p16 => zlet (zset h15 0 p16 2 ((0 : Nat) : Int)) fun h17 => kr 0 h17) ((0 : Nat) : Int) 0 g = r) : X_init ((0 : Nat) : Int) (hx0 L xs) kr = r := by
  obtain ⟨g0, e0⟩ : ∃ g, g = hx0 L xs := ⟨_, rfl⟩
  rw [← e0]
  have n0 : zhN g0 = y9c0 := congrArg zhN e0
  have l0 : zhL g0 = y9l0 L := congrArg zhL e0
  have d0 : zhD g0 = y9d0 xs := congrArg zhD e0
  have c0 : zhC g0 = 1 := congrArg zhC e0
  have s0 : zhS g0 = y9s0 := congrArg zhS e0
  unfold X_init Le_init Co_init Un_init Fi_init Re_init
  refine Eq.trans (zob_n (by simp only [n0]; decide)) ?_
  refine zlet_g (fun g1 e1 => ?_)
  have n1 : zhN g1 = y9c1 := (congrArg zhN e1).trans (congrArg (fun f => y9up f 1) n0)
  have l1 : zhL g1 = y9l1 L := by
    rw [e1]
    have z : zhN g0 1 = 0 := by rw [n0]; rfl
    refine Eq.trans ?_ (congrArg (fun f => y9lu f 1 0 0) l0)
    show y9lu (zhL g0) 1 (zhN g0 1) 0 = _
    rw [z]
  have d1 : zhD g1 = y9d1 xs := by
    rw [e1]
    have z : zhN g0 1 = 0 := by rw [n0]; rfl
    refine Eq.trans ?_ (congrArg (fun f => y9dn f 1 0 (fun k => zdef (zft zPP 1 k))) d0)
    show y9dn (zhD g0) 1 (zhN g0 1) _ = _
    rw [z]
  have c1 : zhC g1 = 2 := (congrArg zhC e1).trans (congrArg (fun x => x + 1) c0)
  have s1 : zhS g1 = y9s1 := (congrArg zhS e1).trans (congrArg (fun x => x + (znf zPP 1)) s0)
  refine Eq.trans (zob_n (by simp only [n0, n1]; decide)) ?_
  refine Eq.trans (zob_n (by simp only [n0, n1]; decide)) ?_
  refine Eq.trans (zix_n (i := 4) (by decide)) ?_
  refine zlet_g (fun g2 e2 => ?_)
  have n2 : zhN g2 = y9c2 := (congrArg zhN e2).trans (congrArg (fun f => y9up f 20) n1)
  have l2 : zhL g2 = y9l2 L := by
    rw [e2]
    have z : zhN g1 20 = 0 := by rw [n1]; rfl
    refine Eq.trans ?_ (congrArg (fun f => y9lu f 20 0 4) l1)
    show y9lu (zhL g1) 20 (zhN g1 20) 4 = _
    rw [z]
  have d2 : zhD g2 = y9d2 xs := by
    rw [e2]
    have z : zhN g1 20 = 0 := by rw [n1]; rfl
    refine Eq.trans ?_ (congrArg (fun f => y9dn f 20 0 (fun _ => -1)) d1)
    show y9dn (zhD g1) 20 (zhN g1 20) _ = _
    rw [z]
  have c2 : zhC g2 = 3 := (congrArg zhC e2).trans (congrArg (fun x => x + 1) c1)
  have s2 : zhS g2 = y9s2 := (congrArg zhS e2).trans (congrArg (fun x => x + 4) s1)
  refine Eq.trans (zob_n (by simp only [n0, n1, n2]; decide)) ?_
  refine zlet_g (fun g3 e3 => ?_)
  have n3 : zhN g3 = y9c3 := (congrArg zhN e3).trans n2
  have l3 : zhL g3 = y9l3 L := (congrArg zhL e3).trans l2
  have d3 : zhD g3 = y9d3 xs := by
    rw [e3]
    simp only [n0, n1, n2]
    exact congrArg (fun f => y9du f 1 0 0 (0)) d2
  have c3 : zhC g3 = 3 := (congrArg zhC e3).trans c2
  have s3 : zhS g3 = y9s3 := (congrArg zhS e3).trans s2
  refine Eq.trans (zix_n (i := 12) (by decide)) ?_
  refine zlet_g (fun g4 e4 => ?_)
  have n4 : zhN g4 = y9c4 := (congrArg zhN e4).trans (congrArg (fun f => y9up f 21) n3)
  have l4 : zhL g4 = y9l4 L := by
    rw [e4]
    have z : zhN g3 21 = 0 := by rw [n3]; rfl
    refine Eq.trans ?_ (congrArg (fun f => y9lu f 21 0 12) l3)
    show y9lu (zhL g3) 21 (zhN g3 21) 12 = _
    rw [z]
  have d4 : zhD g4 = y9d4 xs := by
    rw [e4]
    have z : zhN g3 21 = 0 := by rw [n3]; rfl
    refine Eq.trans ?_ (congrArg (fun f => y9dn f 21 0 (fun _ => -1)) d3)
    show y9dn (zhD g3) 21 (zhN g3 21) _ = _
    rw [z]
  have c4 : zhC g4 = 4 := (congrArg zhC e4).trans (congrArg (fun x => x + 1) c3)
  have s4 : zhS g4 = y9s4 := (congrArg zhS e4).trans (congrArg (fun x => x + 12) s3)
  refine Eq.trans (zob_n (by simp only [n0, n1, n2, n3, n4]; decide)) ?_
  refine zlet_g (fun g5 e5 => ?_)
  have n5 : zhN g5 = y9c5 := (congrArg zhN e5).trans n4
  have l5 : zhL g5 = y9l5 L := (congrArg zhL e5).trans l4
  have d5 : zhD g5 = y9d5 xs := by
    rw [e5]
    simp only [n0, n1, n2, n3, n4]
    exact congrArg (fun f => y9du f 1 0 1 (0)) d4
  have c5 : zhC g5 = 4 := (congrArg zhC e5).trans c4
  have s5 : zhS g5 = y9s5 := (congrArg zhS e5).trans s4
  refine Eq.trans (zob_n (by simp only [n0, n1, n2, n3, n4, n5]; decide)) ?_
  refine zlet_g (fun g6 e6 => ?_)
  have n6 : zhN g6 = y9c6 := (congrArg zhN e6).trans n5
  have l6 : zhL g6 = y9l6 L := (congrArg zhL e6).trans l5
  have d6 : zhD g6 = y9d6 xs := by
    rw [e6]
    simp only [n0, n1, n2, n3, n4, n5]
    exact congrArg (fun f => y9du f 0 0 0 (0)) d5
  have c6 : zhC g6 = 4 := (congrArg zhC e6).trans c5
  have s6 : zhS g6 = y9s6 := (congrArg zhS e6).trans s5
  refine zlet_g (fun g7 e7 => ?_)
  have n7 : zhN g7 = y9c7 := (congrArg zhN e7).trans (congrArg (fun f => y9up f 2) n6)
  have l7 : zhL g7 = y9l7 L := by
    rw [e7]
    have z : zhN g6 2 = 0 := by rw [n6]; rfl
    refine Eq.trans ?_ (congrArg (fun f => y9lu f 2 0 0) l6)
    show y9lu (zhL g6) 2 (zhN g6 2) 0 = _
    rw [z]
  have d7 : zhD g7 = y9d7 xs := by
    rw [e7]
    have z : zhN g6 2 = 0 := by rw [n6]; rfl
    refine Eq.trans ?_ (congrArg (fun f => y9dn f 2 0 (fun k => zdef (zft zPP 2 k))) d6)
    show y9dn (zhD g6) 2 (zhN g6 2) _ = _
    rw [z]
  have c7 : zhC g7 = 5 := (congrArg zhC e7).trans (congrArg (fun x => x + 1) c6)
  have s7 : zhS g7 = y9s7 := (congrArg zhS e7).trans (congrArg (fun x => x + (znf zPP 2)) s6)
  refine Eq.trans (zob_n (by simp only [n0, n1, n2, n3, n4, n5, n6, n7]; decide)) ?_
  refine Eq.trans (zob_n (by simp only [n0, n1, n2, n3, n4, n5, n6, n7]; decide)) ?_
  refine Eq.trans (zob_n (by simp only [n0, n1, n2, n3, n4, n5, n6, n7]; decide)) ?_
  refine Eq.trans (zix_n (i := 64) (by decide)) ?_
  refine zlet_g (fun g8 e8 => ?_)
  have n8 : zhN g8 = y9c8 := (congrArg zhN e8).trans (congrArg (fun f => y9up f 22) n7)
  have l8 : zhL g8 = y9l8 L := by
    rw [e8]
    have z : zhN g7 22 = 0 := by rw [n7]; rfl
    refine Eq.trans ?_ (congrArg (fun f => y9lu f 22 0 64) l7)
    show y9lu (zhL g7) 22 (zhN g7 22) 64 = _
    rw [z]
  have d8 : zhD g8 = y9d8 xs := by
    rw [e8]
    have z : zhN g7 22 = 0 := by rw [n7]; rfl
    refine Eq.trans ?_ (congrArg (fun f => y9dn f 22 0 (fun _ => 0)) d7)
    show y9dn (zhD g7) 22 (zhN g7 22) _ = _
    rw [z]
  have c8 : zhC g8 = 6 := (congrArg zhC e8).trans (congrArg (fun x => x + 1) c7)
  have s8 : zhS g8 = y9s8 := (congrArg zhS e8).trans (congrArg (fun x => x + 64) s7)
  refine Eq.trans (zob_n (by simp only [n0, n1, n2, n3, n4, n5, n6, n7, n8]; decide)) ?_
  refine zlet_g (fun g9 e9 => ?_)
  have n9 : zhN g9 = y9c9 := (congrArg zhN e9).trans n8
  have l9 : zhL g9 = y9l9 L := (congrArg zhL e9).trans l8
  have d9 : zhD g9 = y9d9 xs := by
    rw [e9]
    simp only [n0, n1, n2, n3, n4, n5, n6, n7, n8]
    exact congrArg (fun f => y9du f 2 0 1 (0)) d8
  have c9 : zhC g9 = 6 := (congrArg zhC e9).trans c8
  have s9 : zhS g9 = y9s9 := (congrArg zhS e9).trans s8
  refine Eq.trans (zix_n (i := 2) (by decide)) ?_
  refine zlet_g (fun g10 e10 => ?_)
  have n10 : zhN g10 = y9c10 := (congrArg zhN e10).trans (congrArg (fun f => y9up f 23) n9)
  have l10 : zhL g10 = y9l10 L := by
    rw [e10]
    have z : zhN g9 23 = 0 := by rw [n9]; rfl
    refine Eq.trans ?_ (congrArg (fun f => y9lu f 23 0 2) l9)
    show y9lu (zhL g9) 23 (zhN g9 23) 2 = _
    rw [z]
  have d10 : zhD g10 = y9d10 xs := by
    rw [e10]
    have z : zhN g9 23 = 0 := by rw [n9]; rfl
    refine Eq.trans ?_ (congrArg (fun f => y9dn f 23 0 (fun _ => -1)) d9)
    show y9dn (zhD g9) 23 (zhN g9 23) _ = _
    rw [z]
  have c10 : zhC g10 = 7 := (congrArg zhC e10).trans (congrArg (fun x => x + 1) c9)
  have s10 : zhS g10 = y9s10 := (congrArg zhS e10).trans (congrArg (fun x => x + 2) s9)
  refine zlet_g (fun g11 e11 => ?_)
  have n11 : zhN g11 = y9c11 := (congrArg zhN e11).trans (congrArg (fun f => y9up f 3) n10)
  have l11 : zhL g11 = y9l11 L := by
    rw [e11]
    have z : zhN g10 3 = 0 := by rw [n10]; rfl
    refine Eq.trans ?_ (congrArg (fun f => y9lu f 3 0 0) l10)
    show y9lu (zhL g10) 3 (zhN g10 3) 0 = _
    rw [z]
  have d11 : zhD g11 = y9d11 xs := by
    rw [e11]
    have z : zhN g10 3 = 0 := by rw [n10]; rfl
    refine Eq.trans ?_ (congrArg (fun f => y9dn f 3 0 (fun k => zdef (zft zPP 3 k))) d10)
    show y9dn (zhD g10) 3 (zhN g10 3) _ = _
    rw [z]
  have c11 : zhC g11 = 8 := (congrArg zhC e11).trans (congrArg (fun x => x + 1) c10)
  have s11 : zhS g11 = y9s11 := (congrArg zhS e11).trans (congrArg (fun x => x + (znf zPP 3)) s10)
  refine Eq.trans (zob_n (by simp only [n0, n1, n2, n3, n4, n5, n6, n7, n8, n9, n10, n11]; decide)) ?_
  refine Eq.trans (zob_n (by simp only [n0, n1, n2, n3, n4, n5, n6, n7, n8, n9, n10, n11]; decide)) ?_
  refine Eq.trans (zix_n (i := 4) (by decide)) ?_
  refine zlet_g (fun g12 e12 => ?_)
  have n12 : zhN g12 = y9c12 := (congrArg zhN e12).trans (congrArg (fun f => y9up f 26) n11)
  have l12 : zhL g12 = y9l12 L := by
    rw [e12]
    have z : zhN g11 26 = 0 := by rw [n11]; rfl
    refine Eq.trans ?_ (congrArg (fun f => y9lu f 26 0 4) l11)
    show y9lu (zhL g11) 26 (zhN g11 26) 4 = _
    rw [z]
  have d12 : zhD g12 = y9d12 xs := by
    rw [e12]
    have z : zhN g11 26 = 0 := by rw [n11]; rfl
    refine Eq.trans ?_ (congrArg (fun f => y9dn f 26 0 (fun _ => -1)) d11)
    show y9dn (zhD g11) 26 (zhN g11 26) _ = _
    rw [z]
  have c12 : zhC g12 = 9 := (congrArg zhC e12).trans (congrArg (fun x => x + 1) c11)
  have s12 : zhS g12 = y9s12 := (congrArg zhS e12).trans (congrArg (fun x => x + 4) s11)
  refine Eq.trans (zob_n (by simp only [n0, n1, n2, n3, n4, n5, n6, n7, n8, n9, n10, n11, n12]; decide)) ?_
  refine zlet_g (fun g13 e13 => ?_)
  have n13 : zhN g13 = y9c13 := (congrArg zhN e13).trans n12
  have l13 : zhL g13 = y9l13 L := (congrArg zhL e13).trans l12
  have d13 : zhD g13 = y9d13 xs := by
    rw [e13]
    simp only [n0, n1, n2, n3, n4, n5, n6, n7, n8, n9, n10, n11, n12]
    exact congrArg (fun f => y9du f 3 0 0 (0)) d12
  have c13 : zhC g13 = 9 := (congrArg zhC e13).trans c12
  have s13 : zhS g13 = y9s13 := (congrArg zhS e13).trans s12
  refine Eq.trans (zix_n (i := 2) (by decide)) ?_
  refine zlet_g (fun g14 e14 => ?_)
  have n14 : zhN g14 = y9c14 := (congrArg zhN e14).trans (congrArg (fun f => y9up f 27) n13)
  have l14 : zhL g14 = y9l14 L := by
    rw [e14]
    have z : zhN g13 27 = 0 := by rw [n13]; rfl
    refine Eq.trans ?_ (congrArg (fun f => y9lu f 27 0 2) l13)
    show y9lu (zhL g13) 27 (zhN g13 27) 2 = _
    rw [z]
  have d14 : zhD g14 = y9d14 xs := by
    rw [e14]
    have z : zhN g13 27 = 0 := by rw [n13]; rfl
    refine Eq.trans ?_ (congrArg (fun f => y9dn f 27 0 (fun _ => 0)) d13)
    show y9dn (zhD g13) 27 (zhN g13 27) _ = _
    rw [z]
  have c14 : zhC g14 = 10 := (congrArg zhC e14).trans (congrArg (fun x => x + 1) c13)
  have s14 : zhS g14 = y9s14 := (congrArg zhS e14).trans (congrArg (fun x => x + 2) s13)
  refine Eq.trans (zob_n (by simp only [n0, n1, n2, n3, n4, n5, n6, n7, n8, n9, n10, n11, n12, n13, n14]; decide)) ?_
  refine Eq.trans (zix_n (i := 0) (by simp only [l14, n0, n1, n2, n3, n4, n5, n6, n7, n8, n9, n10, n11, n12, n13, n14]; exact (show (0 : Nat) < 2 by decide))) ?_
  refine zlet_g (fun g15 e15 => ?_)
  have n15 : zhN g15 = y9c15 := (congrArg zhN e15).trans n14
  have l15 : zhL g15 = y9l15 L := (congrArg zhL e15).trans l14
  have d15 : zhD g15 = y9d15 xs := by
    rw [e15]
    simp only [n0, n1, n2, n3, n4, n5, n6, n7, n8, n9, n10, n11, n12, n13, n14]
    exact congrArg (fun f => y9du f 27 0 0 (-1)) d14
  have c15 : zhC g15 = 10 := (congrArg zhC e15).trans c14
  have s15 : zhS g15 = y9s15 := (congrArg zhS e15).trans s14
  refine Eq.trans (zob_n (by simp only [n0, n1, n2, n3, n4, n5, n6, n7, n8, n9, n10, n11, n12, n13, n14, n15]; decide)) ?_
  refine Eq.trans (zix_n (i := 1) (by simp only [l15, n0, n1, n2, n3, n4, n5, n6, n7, n8, n9, n10, n11, n12, n13, n14, n15]; exact (show (1 : Nat) < 2 by decide))) ?_
  refine zlet_g (fun g16 e16 => ?_)
  have n16 : zhN g16 = y9c16 := (congrArg zhN e16).trans n15
  have l16 : zhL g16 = y9l16 L := (congrArg zhL e16).trans l15
  have d16 : zhD g16 = y9d16 xs := by
    rw [e16]
    simp only [n0, n1, n2, n3, n4, n5, n6, n7, n8, n9, n10, n11, n12, n13, n14, n15]
    exact congrArg (fun f => y9du f 27 0 1 (-1)) d15
  have c16 : zhC g16 = 10 := (congrArg zhC e16).trans c15
  have s16 : zhS g16 = y9s16 := (congrArg zhS e16).trans s15
  refine Eq.trans (zob_n (by simp only [n0, n1, n2, n3, n4, n5, n6, n7, n8, n9, n10, n11, n12, n13, n14, n15, n16]; decide)) ?_
  refine zlet_g (fun g17 e17 => ?_)
  have n17 : zhN g17 = y9c17 := (congrArg zhN e17).trans n16
  have l17 : zhL g17 = y9l17 L := (congrArg zhL e17).trans l16
  have d17 : zhD g17 = y9d17 xs := by
    rw [e17]
    simp only [n0, n1, n2, n3, n4, n5, n6, n7, n8, n9, n10, n11, n12, n13, n14, n15, n16]
    exact congrArg (fun f => y9du f 3 0 1 (0)) d16
  have c17 : zhC g17 = 10 := (congrArg zhC e17).trans c16
  have s17 : zhS g17 = y9s17 := (congrArg zhS e17).trans s16
  refine Eq.trans (zob_n (by simp only [n0, n1, n2, n3, n4, n5, n6, n7, n8, n9, n10, n11, n12, n13, n14, n15, n16, n17]; decide)) ?_
  refine Eq.trans (zix_n (i := 0) (by simp only [l17, n0, n1, n2, n3, n4, n5, n6, n7, n8, n9, n10, n11, n12, n13, n14, n15, n16, n17]; exact (show (0 : Nat) < 2 by decide))) ?_
  refine Eq.trans (zorn_n (by simp only [n0, n1, n2, n3, n4, n5, n6, n7, n8, n9, n10, n11, n12, n13, n14, n15, n16, n17]; decide)) ?_
  refine zlet_g (fun g18 e18 => ?_)
  have n18 : zhN g18 = y9c18 := (congrArg zhN e18).trans n17
  have l18 : zhL g18 = y9l18 L := (congrArg zhL e18).trans l17
  have d18 : zhD g18 = y9d18 xs := by
    rw [e18]
    simp only [n0, n1, n2, n3, n4, n5, n6, n7, n8, n9, n10, n11, n12, n13, n14, n15, n16, n17]
    exact congrArg (fun f => y9du f 23 0 0 (0)) d17
  have c18 : zhC g18 = 10 := (congrArg zhC e18).trans c17
  have s18 : zhS g18 = y9s18 := (congrArg zhS e18).trans s17
  refine zlet_g (fun g19 e19 => ?_)
  have n19 : zhN g19 = y9c19 := (congrArg zhN e19).trans (congrArg (fun f => y9up f 3) n18)
  have l19 : zhL g19 = y9l19 L := by
    rw [e19]
    have z : zhN g18 3 = 1 := by rw [n18]; rfl
    refine Eq.trans ?_ (congrArg (fun f => y9lu f 3 1 0) l18)
    show y9lu (zhL g18) 3 (zhN g18 3) 0 = _
    rw [z]
  have d19 : zhD g19 = y9d19 xs := by
    rw [e19]
    have z : zhN g18 3 = 1 := by rw [n18]; rfl
    refine Eq.trans ?_ (congrArg (fun f => y9dn f 3 1 (fun k => zdef (zft zPP 3 k))) d18)
    show y9dn (zhD g18) 3 (zhN g18 3) _ = _
    rw [z]
  have c19 : zhC g19 = 11 := (congrArg zhC e19).trans (congrArg (fun x => x + 1) c18)
  have s19 : zhS g19 = y9s19 := (congrArg zhS e19).trans (congrArg (fun x => x + (znf zPP 3)) s18)
  refine Eq.trans (zob_n (by simp only [n0, n1, n2, n3, n4, n5, n6, n7, n8, n9, n10, n11, n12, n13, n14, n15, n16, n17, n18, n19]; decide)) ?_
  refine Eq.trans (zob_n (by simp only [n0, n1, n2, n3, n4, n5, n6, n7, n8, n9, n10, n11, n12, n13, n14, n15, n16, n17, n18, n19]; decide)) ?_
  refine Eq.trans (zix_n (i := 4) (by decide)) ?_
  refine zlet_g (fun g20 e20 => ?_)
  have n20 : zhN g20 = y9c20 := (congrArg zhN e20).trans (congrArg (fun f => y9up f 26) n19)
  have l20 : zhL g20 = y9l20 L := by
    rw [e20]
    have z : zhN g19 26 = 1 := by rw [n19]; rfl
    refine Eq.trans ?_ (congrArg (fun f => y9lu f 26 1 4) l19)
    show y9lu (zhL g19) 26 (zhN g19 26) 4 = _
    rw [z]
  have d20 : zhD g20 = y9d20 xs := by
    rw [e20]
    have z : zhN g19 26 = 1 := by rw [n19]; rfl
    refine Eq.trans ?_ (congrArg (fun f => y9dn f 26 1 (fun _ => -1)) d19)
    show y9dn (zhD g19) 26 (zhN g19 26) _ = _
    rw [z]
  have c20 : zhC g20 = 12 := (congrArg zhC e20).trans (congrArg (fun x => x + 1) c19)
  have s20 : zhS g20 = y9s20 := (congrArg zhS e20).trans (congrArg (fun x => x + 4) s19)
  refine Eq.trans (zob_n (by simp only [n0, n1, n2, n3, n4, n5, n6, n7, n8, n9, n10, n11, n12, n13, n14, n15, n16, n17, n18, n19, n20]; decide)) ?_
  refine zlet_g (fun g21 e21 => ?_)
  have n21 : zhN g21 = y9c21 := (congrArg zhN e21).trans n20
  have l21 : zhL g21 = y9l21 L := (congrArg zhL e21).trans l20
  have d21 : zhD g21 = y9d21 xs := by
    rw [e21]
    simp only [n0, n1, n2, n3, n4, n5, n6, n7, n8, n9, n10, n11, n12, n13, n14, n15, n16, n17, n18, n19, n20]
    exact congrArg (fun f => y9du f 3 1 0 (1)) d20
  have c21 : zhC g21 = 12 := (congrArg zhC e21).trans c20
  have s21 : zhS g21 = y9s21 := (congrArg zhS e21).trans s20
  refine Eq.trans (zix_n (i := 2) (by decide)) ?_
  refine zlet_g (fun g22 e22 => ?_)
  have n22 : zhN g22 = y9c22 := (congrArg zhN e22).trans (congrArg (fun f => y9up f 27) n21)
  have l22 : zhL g22 = y9l22 L := by
    rw [e22]
    have z : zhN g21 27 = 1 := by rw [n21]; rfl
    refine Eq.trans ?_ (congrArg (fun f => y9lu f 27 1 2) l21)
    show y9lu (zhL g21) 27 (zhN g21 27) 2 = _
    rw [z]
  have d22 : zhD g22 = y9d22 xs := by
    rw [e22]
    have z : zhN g21 27 = 1 := by rw [n21]; rfl
    refine Eq.trans ?_ (congrArg (fun f => y9dn f 27 1 (fun _ => 0)) d21)
    show y9dn (zhD g21) 27 (zhN g21 27) _ = _
    rw [z]
  have c22 : zhC g22 = 13 := (congrArg zhC e22).trans (congrArg (fun x => x + 1) c21)
  have s22 : zhS g22 = y9s22 := (congrArg zhS e22).trans (congrArg (fun x => x + 2) s21)
  refine Eq.trans (zob_n (by simp only [n0, n1, n2, n3, n4, n5, n6, n7, n8, n9, n10, n11, n12, n13, n14, n15, n16, n17, n18, n19, n20, n21, n22]; decide)) ?_
  refine Eq.trans (zix_n (i := 0) (by simp only [l22, n0, n1, n2, n3, n4, n5, n6, n7, n8, n9, n10, n11, n12, n13, n14, n15, n16, n17, n18, n19, n20, n21, n22]; exact (show (0 : Nat) < 2 by decide))) ?_
  refine zlet_g (fun g23 e23 => ?_)
  have n23 : zhN g23 = y9c23 := (congrArg zhN e23).trans n22
  have l23 : zhL g23 = y9l23 L := (congrArg zhL e23).trans l22
  have d23 : zhD g23 = y9d23 xs := by
    rw [e23]
    simp only [n0, n1, n2, n3, n4, n5, n6, n7, n8, n9, n10, n11, n12, n13, n14, n15, n16, n17, n18, n19, n20, n21, n22]
    exact congrArg (fun f => y9du f 27 1 0 (-1)) d22
  have c23 : zhC g23 = 13 := (congrArg zhC e23).trans c22
  have s23 : zhS g23 = y9s23 := (congrArg zhS e23).trans s22
  refine Eq.trans (zob_n (by simp only [n0, n1, n2, n3, n4, n5, n6, n7, n8, n9, n10, n11, n12, n13, n14, n15, n16, n17, n18, n19, n20, n21, n22, n23]; decide)) ?_
  refine Eq.trans (zix_n (i := 1) (by simp only [l23, n0, n1, n2, n3, n4, n5, n6, n7, n8, n9, n10, n11, n12, n13, n14, n15, n16, n17, n18, n19, n20, n21, n22, n23]; exact (show (1 : Nat) < 2 by decide))) ?_
  refine zlet_g (fun g24 e24 => ?_)
  have n24 : zhN g24 = y9c24 := (congrArg zhN e24).trans n23
  have l24 : zhL g24 = y9l24 L := (congrArg zhL e24).trans l23
  have d24 : zhD g24 = y9d24 xs := by
    rw [e24]
    simp only [n0, n1, n2, n3, n4, n5, n6, n7, n8, n9, n10, n11, n12, n13, n14, n15, n16, n17, n18, n19, n20, n21, n22, n23]
    exact congrArg (fun f => y9du f 27 1 1 (-1)) d23
  have c24 : zhC g24 = 13 := (congrArg zhC e24).trans c23
  have s24 : zhS g24 = y9s24 := (congrArg zhS e24).trans s23
  refine Eq.trans (zob_n (by simp only [n0, n1, n2, n3, n4, n5, n6, n7, n8, n9, n10, n11, n12, n13, n14, n15, n16, n17, n18, n19, n20, n21, n22, n23, n24]; decide)) ?_
  refine zlet_g (fun g25 e25 => ?_)
  have n25 : zhN g25 = y9c25 := (congrArg zhN e25).trans n24
  have l25 : zhL g25 = y9l25 L := (congrArg zhL e25).trans l24
  have d25 : zhD g25 = y9d25 xs := by
    rw [e25]
    simp only [n0, n1, n2, n3, n4, n5, n6, n7, n8, n9, n10, n11, n12, n13, n14, n15, n16, n17, n18, n19, n20, n21, n22, n23, n24]
    exact congrArg (fun f => y9du f 3 1 1 (1)) d24
  have c25 : zhC g25 = 13 := (congrArg zhC e25).trans c24
  have s25 : zhS g25 = y9s25 := (congrArg zhS e25).trans s24
  refine Eq.trans (zob_n (by simp only [n0, n1, n2, n3, n4, n5, n6, n7, n8, n9, n10, n11, n12, n13, n14, n15, n16, n17, n18, n19, n20, n21, n22, n23, n24, n25]; decide)) ?_
  refine Eq.trans (zix_n (i := 1) (by simp only [l25, n0, n1, n2, n3, n4, n5, n6, n7, n8, n9, n10, n11, n12, n13, n14, n15, n16, n17, n18, n19, n20, n21, n22, n23, n24, n25]; exact (show (1 : Nat) < 2 by decide))) ?_
  refine Eq.trans (zorn_n (by simp only [n0, n1, n2, n3, n4, n5, n6, n7, n8, n9, n10, n11, n12, n13, n14, n15, n16, n17, n18, n19, n20, n21, n22, n23, n24, n25]; decide)) ?_
  refine zlet_g (fun g26 e26 => ?_)
  have n26 : zhN g26 = y9c26 := (congrArg zhN e26).trans n25
  have l26 : zhL g26 = y9l26 L := (congrArg zhL e26).trans l25
  have d26 : zhD g26 = y9d26 xs := by
    rw [e26]
    simp only [n0, n1, n2, n3, n4, n5, n6, n7, n8, n9, n10, n11, n12, n13, n14, n15, n16, n17, n18, n19, n20, n21, n22, n23, n24, n25]
    exact congrArg (fun f => y9du f 23 0 1 (1)) d25
  have c26 : zhC g26 = 13 := (congrArg zhC e26).trans c25
  have s26 : zhS g26 = y9s26 := (congrArg zhS e26).trans s25
  refine Eq.trans (zob_n (by simp only [n0, n1, n2, n3, n4, n5, n6, n7, n8, n9, n10, n11, n12, n13, n14, n15, n16, n17, n18, n19, n20, n21, n22, n23, n24, n25, n26]; decide)) ?_
  refine zlet_g (fun g27 e27 => ?_)
  have n27 : zhN g27 = y9c27 := (congrArg zhN e27).trans n26
  have l27 : zhL g27 = y9l27 L := (congrArg zhL e27).trans l26
  have d27 : zhD g27 = y9d27 xs := by
    rw [e27]
    simp only [n0, n1, n2, n3, n4, n5, n6, n7, n8, n9, n10, n11, n12, n13, n14, n15, n16, n17, n18, n19, n20, n21, n22, n23, n24, n25, n26]
    exact congrArg (fun f => y9du f 2 0 2 (0)) d26
  have c27 : zhC g27 = 13 := (congrArg zhC e27).trans c26
  have s27 : zhS g27 = y9s27 := (congrArg zhS e27).trans s26
  refine zlet_g (fun g28 e28 => ?_)
  have n28 : zhN g28 = y9c28 := (congrArg zhN e28).trans (congrArg (fun f => y9up f 4) n27)
  have l28 : zhL g28 = y9l28 L := by
    rw [e28]
    have z : zhN g27 4 = 0 := by rw [n27]; rfl
    refine Eq.trans ?_ (congrArg (fun f => y9lu f 4 0 0) l27)
    show y9lu (zhL g27) 4 (zhN g27 4) 0 = _
    rw [z]
  have d28 : zhD g28 = y9d28 xs := by
    rw [e28]
    have z : zhN g27 4 = 0 := by rw [n27]; rfl
    refine Eq.trans ?_ (congrArg (fun f => y9dn f 4 0 (fun k => zdef (zft zPP 4 k))) d27)
    show y9dn (zhD g27) 4 (zhN g27 4) _ = _
    rw [z]
  have c28 : zhC g28 = 14 := (congrArg zhC e28).trans (congrArg (fun x => x + 1) c27)
  have s28 : zhS g28 = y9s28 := (congrArg zhS e28).trans (congrArg (fun x => x + (znf zPP 4)) s27)
  refine Eq.trans (zob_n (by simp only [n0, n1, n2, n3, n4, n5, n6, n7, n8, n9, n10, n11, n12, n13, n14, n15, n16, n17, n18, n19, n20, n21, n22, n23, n24, n25, n26, n27, n28]; decide)) ?_
  refine Eq.trans (zob_n (by simp only [n0, n1, n2, n3, n4, n5, n6, n7, n8, n9, n10, n11, n12, n13, n14, n15, n16, n17, n18, n19, n20, n21, n22, n23, n24, n25, n26, n27, n28]; decide)) ?_
  refine Eq.trans (zob_n (by simp only [n0, n1, n2, n3, n4, n5, n6, n7, n8, n9, n10, n11, n12, n13, n14, n15, n16, n17, n18, n19, n20, n21, n22, n23, n24, n25, n26, n27, n28]; decide)) ?_
  refine zlet_g (fun g29 e29 => ?_)
  have n29 : zhN g29 = y9c29 := (congrArg zhN e29).trans n28
  have l29 : zhL g29 = y9l29 L := (congrArg zhL e29).trans l28
  have d29 : zhD g29 = y9d29 xs := by
    rw [e29]
    simp only [n0, n1, n2, n3, n4, n5, n6, n7, n8, n9, n10, n11, n12, n13, n14, n15, n16, n17, n18, n19, n20, n21, n22, n23, n24, n25, n26, n27, n28]
    exact congrArg (fun f => y9du f 2 0 3 (0)) d28
  have c29 : zhC g29 = 14 := (congrArg zhC e29).trans c28
  have s29 : zhS g29 = y9s29 := (congrArg zhS e29).trans s28
  refine Eq.trans (zob_n (by simp only [n0, n1, n2, n3, n4, n5, n6, n7, n8, n9, n10, n11, n12, n13, n14, n15, n16, n17, n18, n19, n20, n21, n22, n23, n24, n25, n26, n27, n28, n29]; decide)) ?_
  refine zlet_g (fun g30 e30 => ?_)
  have n30 : zhN g30 = y9c30 := (congrArg zhN e30).trans n29
  have l30 : zhL g30 = y9l30 L := (congrArg zhL e30).trans l29
  have d30 : zhD g30 = y9d30 xs := by
    rw [e30]
    simp only [n0, n1, n2, n3, n4, n5, n6, n7, n8, n9, n10, n11, n12, n13, n14, n15, n16, n17, n18, n19, n20, n21, n22, n23, n24, n25, n26, n27, n28, n29]
    exact congrArg (fun f => y9du f 2 0 5 (111)) d29
  have c30 : zhC g30 = 14 := (congrArg zhC e30).trans c29
  have s30 : zhS g30 = y9s30 := (congrArg zhS e30).trans s29
  refine Eq.trans (zix_n (i := 4) (by decide)) ?_
  refine zlet_g (fun g31 e31 => ?_)
  have n31 : zhN g31 = y9c31 := (congrArg zhN e31).trans (congrArg (fun f => y9up f 24) n30)
  have l31 : zhL g31 = y9l31 L := by
    rw [e31]
    have z : zhN g30 24 = 0 := by rw [n30]; rfl
    refine Eq.trans ?_ (congrArg (fun f => y9lu f 24 0 4) l30)
    show y9lu (zhL g30) 24 (zhN g30 24) 4 = _
    rw [z]
  have d31 : zhD g31 = y9d31 xs := by
    rw [e31]
    have z : zhN g30 24 = 0 := by rw [n30]; rfl
    refine Eq.trans ?_ (congrArg (fun f => y9dn f 24 0 (fun _ => 0)) d30)
    show y9dn (zhD g30) 24 (zhN g30 24) _ = _
    rw [z]
  have c31 : zhC g31 = 15 := (congrArg zhC e31).trans (congrArg (fun x => x + 1) c30)
  have s31 : zhS g31 = y9s31 := (congrArg zhS e31).trans (congrArg (fun x => x + 4) s30)
  refine Eq.trans (zob_n (by simp only [n0, n1, n2, n3, n4, n5, n6, n7, n8, n9, n10, n11, n12, n13, n14, n15, n16, n17, n18, n19, n20, n21, n22, n23, n24, n25, n26, n27, n28, n29, n30, n31]; decide)) ?_
  refine zlet_g (fun g32 e32 => ?_)
  have n32 : zhN g32 = y9c32 := (congrArg zhN e32).trans n31
  have l32 : zhL g32 = y9l32 L := (congrArg zhL e32).trans l31
  have d32 : zhD g32 = y9d32 xs := by
    rw [e32]
    simp only [n0, n1, n2, n3, n4, n5, n6, n7, n8, n9, n10, n11, n12, n13, n14, n15, n16, n17, n18, n19, n20, n21, n22, n23, n24, n25, n26, n27, n28, n29, n30, n31]
    exact congrArg (fun f => y9du f 2 0 6 (0)) d31
  have c32 : zhC g32 = 15 := (congrArg zhC e32).trans c31
  have s32 : zhS g32 = y9s32 := (congrArg zhS e32).trans s31
  refine Eq.trans (zix_n (i := 4) (by decide)) ?_
  refine zlet_g (fun g33 e33 => ?_)
  have n33 : zhN g33 = y9c33 := (congrArg zhN e33).trans (congrArg (fun f => y9up f 25) n32)
  have l33 : zhL g33 = y9l33 L := by
    rw [e33]
    have z : zhN g32 25 = 0 := by rw [n32]; rfl
    refine Eq.trans ?_ (congrArg (fun f => y9lu f 25 0 4) l32)
    show y9lu (zhL g32) 25 (zhN g32 25) 4 = _
    rw [z]
  have d33 : zhD g33 = y9d33 xs := by
    rw [e33]
    have z : zhN g32 25 = 0 := by rw [n32]; rfl
    refine Eq.trans ?_ (congrArg (fun f => y9dn f 25 0 (fun _ => 0)) d32)
    show y9dn (zhD g32) 25 (zhN g32 25) _ = _
    rw [z]
  have c33 : zhC g33 = 16 := (congrArg zhC e33).trans (congrArg (fun x => x + 1) c32)
  have s33 : zhS g33 = y9s33 := (congrArg zhS e33).trans (congrArg (fun x => x + 4) s32)
  refine Eq.trans (zob_n (by simp only [n0, n1, n2, n3, n4, n5, n6, n7, n8, n9, n10, n11, n12, n13, n14, n15, n16, n17, n18, n19, n20, n21, n22, n23, n24, n25, n26, n27, n28, n29, n30, n31, n32, n33]; decide)) ?_
  refine zlet_g (fun g34 e34 => ?_)
  have n34 : zhN g34 = y9c34 := (congrArg zhN e34).trans n33
  have l34 : zhL g34 = y9l34 L := (congrArg zhL e34).trans l33
  have d34 : zhD g34 = y9d34 xs := by
    rw [e34]
    simp only [n0, n1, n2, n3, n4, n5, n6, n7, n8, n9, n10, n11, n12, n13, n14, n15, n16, n17, n18, n19, n20, n21, n22, n23, n24, n25, n26, n27, n28, n29, n30, n31, n32, n33]
    exact congrArg (fun f => y9du f 2 0 7 (0)) d33
  have c34 : zhC g34 = 16 := (congrArg zhC e34).trans c33
  have s34 : zhS g34 = y9s34 := (congrArg zhS e34).trans s33
  refine Eq.trans (zob_n (by simp only [n0, n1, n2, n3, n4, n5, n6, n7, n8, n9, n10, n11, n12, n13, n14, n15, n16, n17, n18, n19, n20, n21, n22, n23, n24, n25, n26, n27, n28, n29, n30, n31, n32, n33, n34]; decide)) ?_
  refine zlet_g (fun g35 e35 => ?_)
  have n35 : zhN g35 = y9c35 := (congrArg zhN e35).trans n34
  have l35 : zhL g35 = y9l35 L := (congrArg zhL e35).trans l34
  have d35 : zhD g35 = y9d35 xs := by
    rw [e35]
    simp only [n0, n1, n2, n3, n4, n5, n6, n7, n8, n9, n10, n11, n12, n13, n14, n15, n16, n17, n18, n19, n20, n21, n22, n23, n24, n25, n26, n27, n28, n29, n30, n31, n32, n33, n34, d0, d1, d2, d3, d4, d5, d6, d7, d8, d9, d10, d11, d12, d13, d14, d15, d16, d17, d18, d19, d20, d21, d22, d23, d24, d25, d26, d27, d28, d29, d30, d31, d32, d33, d34]
    exact congrArg (fun f => y9du f 2 0 0 (0)) d34
  have c35 : zhC g35 = 16 := (congrArg zhC e35).trans c34
  have s35 : zhS g35 = y9s35 := (congrArg zhS e35).trans s34
  refine Eq.trans (zob_n (by simp only [n0, n1, n2, n3, n4, n5, n6, n7, n8, n9, n10, n11, n12, n13, n14, n15, n16, n17, n18, n19, n20, n21, n22, n23, n24, n25, n26, n27, n28, n29, n30, n31, n32, n33, n34, n35]; decide)) ?_
  refine zlet_g (fun g36 e36 => ?_)
  have n36 : zhN g36 = y9c36 := (congrArg zhN e36).trans n35
  have l36 : zhL g36 = y9l36 L := (congrArg zhL e36).trans l35
  have d36 : zhD g36 = y9d36 xs := by
    rw [e36]
    simp only [n0, n1, n2, n3, n4, n5, n6, n7, n8, n9, n10, n11, n12, n13, n14, n15, n16, n17, n18, n19, n20, n21, n22, n23, n24, n25, n26, n27, n28, n29, n30, n31, n32, n33, n34, n35]
    exact congrArg (fun f => y9du f 0 0 1 (0)) d35
  have c36 : zhC g36 = 16 := (congrArg zhC e36).trans c35
  have s36 : zhS g36 = y9s36 := (congrArg zhS e36).trans s35
  refine zlet_g (fun g37 e37 => ?_)
  have n37 : zhN g37 = y9c37 := (congrArg zhN e37).trans (congrArg (fun f => y9up f 5) n36)
  have l37 : zhL g37 = y9l37 L := by
    rw [e37]
    have z : zhN g36 5 = 0 := by rw [n36]; rfl
    refine Eq.trans ?_ (congrArg (fun f => y9lu f 5 0 0) l36)
    show y9lu (zhL g36) 5 (zhN g36 5) 0 = _
    rw [z]
  have d37 : zhD g37 = y9d37 xs := by
    rw [e37]
    have z : zhN g36 5 = 0 := by rw [n36]; rfl
    refine Eq.trans ?_ (congrArg (fun f => y9dn f 5 0 (fun k => zdef (zft zPP 5 k))) d36)
    show y9dn (zhD g36) 5 (zhN g36 5) _ = _
    rw [z]
  have c37 : zhC g37 = 17 := (congrArg zhC e37).trans (congrArg (fun x => x + 1) c36)
  have s37 : zhS g37 = y9s37 := (congrArg zhS e37).trans (congrArg (fun x => x + (znf zPP 5)) s36)
  refine Eq.trans (zob_n (by simp only [n0, n1, n2, n3, n4, n5, n6, n7, n8, n9, n10, n11, n12, n13, n14, n15, n16, n17, n18, n19, n20, n21, n22, n23, n24, n25, n26, n27, n28, n29, n30, n31, n32, n33, n34, n35, n36, n37]; decide)) ?_
  refine Eq.trans (zob_n (by simp only [n0, n1, n2, n3, n4, n5, n6, n7, n8, n9, n10, n11, n12, n13, n14, n15, n16, n17, n18, n19, n20, n21, n22, n23, n24, n25, n26, n27, n28, n29, n30, n31, n32, n33, n34, n35, n36, n37]; decide)) ?_
  refine Eq.trans (zix_n (i := 64) (by decide)) ?_
  refine zlet_g (fun g38 e38 => ?_)
  have n38 : zhN g38 = y9c38 := (congrArg zhN e38).trans (congrArg (fun f => y9up f 28) n37)
  have l38 : zhL g38 = y9l38 L := by
    rw [e38]
    have z : zhN g37 28 = 0 := by rw [n37]; rfl
    refine Eq.trans ?_ (congrArg (fun f => y9lu f 28 0 64) l37)
    show y9lu (zhL g37) 28 (zhN g37 28) 64 = _
    rw [z]
  have d38 : zhD g38 = y9d38 xs := by
    rw [e38]
    have z : zhN g37 28 = 0 := by rw [n37]; rfl
    refine Eq.trans ?_ (congrArg (fun f => y9dn f 28 0 (fun _ => 0)) d37)
    show y9dn (zhD g37) 28 (zhN g37 28) _ = _
    rw [z]
  have c38 : zhC g38 = 18 := (congrArg zhC e38).trans (congrArg (fun x => x + 1) c37)
  have s38 : zhS g38 = y9s38 := (congrArg zhS e38).trans (congrArg (fun x => x + 64) s37)
  refine Eq.trans (zob_n (by simp only [n0, n1, n2, n3, n4, n5, n6, n7, n8, n9, n10, n11, n12, n13, n14, n15, n16, n17, n18, n19, n20, n21, n22, n23, n24, n25, n26, n27, n28, n29, n30, n31, n32, n33, n34, n35, n36, n37, n38]; decide)) ?_
  refine zlet_g (fun g39 e39 => ?_)
  have n39 : zhN g39 = y9c39 := (congrArg zhN e39).trans n38
  have l39 : zhL g39 = y9l39 L := (congrArg zhL e39).trans l38
  have d39 : zhD g39 = y9d39 xs := by
    rw [e39]
    simp only [n0, n1, n2, n3, n4, n5, n6, n7, n8, n9, n10, n11, n12, n13, n14, n15, n16, n17, n18, n19, n20, n21, n22, n23, n24, n25, n26, n27, n28, n29, n30, n31, n32, n33, n34, n35, n36, n37, n38]
    exact congrArg (fun f => y9du f 5 0 0 (0)) d38
  have c39 : zhC g39 = 18 := (congrArg zhC e39).trans c38
  have s39 : zhS g39 = y9s39 := (congrArg zhS e39).trans s38
  refine Eq.trans (zix_n (i := 16) (by decide)) ?_
  refine zlet_g (fun g40 e40 => ?_)
  have n40 : zhN g40 = y9c40 := (congrArg zhN e40).trans (congrArg (fun f => y9up f 29) n39)
  have l40 : zhL g40 = y9l40 L := by
    rw [e40]
    have z : zhN g39 29 = 0 := by rw [n39]; rfl
    refine Eq.trans ?_ (congrArg (fun f => y9lu f 29 0 16) l39)
    show y9lu (zhL g39) 29 (zhN g39 29) 16 = _
    rw [z]
  have d40 : zhD g40 = y9d40 xs := by
    rw [e40]
    have z : zhN g39 29 = 0 := by rw [n39]; rfl
    refine Eq.trans ?_ (congrArg (fun f => y9dn f 29 0 (fun _ => 0)) d39)
    show y9dn (zhD g39) 29 (zhN g39 29) _ = _
    rw [z]
  have c40 : zhC g40 = 19 := (congrArg zhC e40).trans (congrArg (fun x => x + 1) c39)
  have s40 : zhS g40 = y9s40 := (congrArg zhS e40).trans (congrArg (fun x => x + 16) s39)
  refine Eq.trans (zob_n (by simp only [n0, n1, n2, n3, n4, n5, n6, n7, n8, n9, n10, n11, n12, n13, n14, n15, n16, n17, n18, n19, n20, n21, n22, n23, n24, n25, n26, n27, n28, n29, n30, n31, n32, n33, n34, n35, n36, n37, n38, n39, n40]; decide)) ?_
  refine zlet_g (fun g41 e41 => ?_)
  have n41 : zhN g41 = y9c41 := (congrArg zhN e41).trans n40
  have l41 : zhL g41 = y9l41 L := (congrArg zhL e41).trans l40
  have d41 : zhD g41 = y9d41 xs := by
    rw [e41]
    simp only [n0, n1, n2, n3, n4, n5, n6, n7, n8, n9, n10, n11, n12, n13, n14, n15, n16, n17, n18, n19, n20, n21, n22, n23, n24, n25, n26, n27, n28, n29, n30, n31, n32, n33, n34, n35, n36, n37, n38, n39, n40]
    exact congrArg (fun f => y9du f 5 0 1 (0)) d40
  have c41 : zhC g41 = 19 := (congrArg zhC e41).trans c40
  have s41 : zhS g41 = y9s41 := (congrArg zhS e41).trans s40
  refine Eq.trans (zix_n (i := 16) (by decide)) ?_
  refine zlet_g (fun g42 e42 => ?_)
  have n42 : zhN g42 = y9c42 := (congrArg zhN e42).trans (congrArg (fun f => y9up f 30) n41)
  have l42 : zhL g42 = y9l42 L := by
    rw [e42]
    have z : zhN g41 30 = 0 := by rw [n41]; rfl
    refine Eq.trans ?_ (congrArg (fun f => y9lu f 30 0 16) l41)
    show y9lu (zhL g41) 30 (zhN g41 30) 16 = _
    rw [z]
  have d42 : zhD g42 = y9d42 xs := by
    rw [e42]
    have z : zhN g41 30 = 0 := by rw [n41]; rfl
    refine Eq.trans ?_ (congrArg (fun f => y9dn f 30 0 (fun _ => -1)) d41)
    show y9dn (zhD g41) 30 (zhN g41 30) _ = _
    rw [z]
  have c42 : zhC g42 = 20 := (congrArg zhC e42).trans (congrArg (fun x => x + 1) c41)
  have s42 : zhS g42 = y9s42 := (congrArg zhS e42).trans (congrArg (fun x => x + 16) s41)
  refine Eq.trans (zob_n (by simp only [n0, n1, n2, n3, n4, n5, n6, n7, n8, n9, n10, n11, n12, n13, n14, n15, n16, n17, n18, n19, n20, n21, n22, n23, n24, n25, n26, n27, n28, n29, n30, n31, n32, n33, n34, n35, n36, n37, n38, n39, n40, n41, n42]; decide)) ?_
  refine zlet_g (fun g43 e43 => ?_)
  have n43 : zhN g43 = y9c43 := (congrArg zhN e43).trans n42
  have l43 : zhL g43 = y9l43 L := (congrArg zhL e43).trans l42
  have d43 : zhD g43 = y9d43 xs := by
    rw [e43]
    simp only [n0, n1, n2, n3, n4, n5, n6, n7, n8, n9, n10, n11, n12, n13, n14, n15, n16, n17, n18, n19, n20, n21, n22, n23, n24, n25, n26, n27, n28, n29, n30, n31, n32, n33, n34, n35, n36, n37, n38, n39, n40, n41, n42]
    exact congrArg (fun f => y9du f 5 0 2 (0)) d42
  have c43 : zhC g43 = 20 := (congrArg zhC e43).trans c42
  have s43 : zhS g43 = y9s43 := (congrArg zhS e43).trans s42
  refine Eq.trans (zix_n (i := 16) (by decide)) ?_
  refine zlet_g (fun g44 e44 => ?_)
  have n44 : zhN g44 = y9c44 := (congrArg zhN e44).trans (congrArg (fun f => y9up f 31) n43)
  have l44 : zhL g44 = y9l44 L := by
    rw [e44]
    have z : zhN g43 31 = 0 := by rw [n43]; rfl
    refine Eq.trans ?_ (congrArg (fun f => y9lu f 31 0 16) l43)
    show y9lu (zhL g43) 31 (zhN g43 31) 16 = _
    rw [z]
  have d44 : zhD g44 = y9d44 xs := by
    rw [e44]
    have z : zhN g43 31 = 0 := by rw [n43]; rfl
    refine Eq.trans ?_ (congrArg (fun f => y9dn f 31 0 (fun _ => 0)) d43)
    show y9dn (zhD g43) 31 (zhN g43 31) _ = _
    rw [z]
  have c44 : zhC g44 = 21 := (congrArg zhC e44).trans (congrArg (fun x => x + 1) c43)
  have s44 : zhS g44 = y9s44 := (congrArg zhS e44).trans (congrArg (fun x => x + 16) s43)
  refine Eq.trans (zob_n (by simp only [n0, n1, n2, n3, n4, n5, n6, n7, n8, n9, n10, n11, n12, n13, n14, n15, n16, n17, n18, n19, n20, n21, n22, n23, n24, n25, n26, n27, n28, n29, n30, n31, n32, n33, n34, n35, n36, n37, n38, n39, n40, n41, n42, n43, n44]; decide)) ?_
  refine zlet_g (fun g45 e45 => ?_)
  have n45 : zhN g45 = y9c45 := (congrArg zhN e45).trans n44
  have l45 : zhL g45 = y9l45 L := (congrArg zhL e45).trans l44
  have d45 : zhD g45 = y9d45 xs := by
    rw [e45]
    simp only [n0, n1, n2, n3, n4, n5, n6, n7, n8, n9, n10, n11, n12, n13, n14, n15, n16, n17, n18, n19, n20, n21, n22, n23, n24, n25, n26, n27, n28, n29, n30, n31, n32, n33, n34, n35, n36, n37, n38, n39, n40, n41, n42, n43, n44]
    exact congrArg (fun f => y9du f 5 0 3 (0)) d44
  have c45 : zhC g45 = 21 := (congrArg zhC e45).trans c44
  have s45 : zhS g45 = y9s45 := (congrArg zhS e45).trans s44
  simp only [n0, n1, n2, n3, n4, n5, n6, n7, n8, n9, n10, n11, n12, n13, n14, n15, n16, n17, n18, n19, n20, n21, n22, n23, n24, n25, n26, n27, n28, n29, n30, n31, n32, n33, n34, n35, n36, n37, n38, n39, n40, n41, n42, n43, n44, n45]
  exact H g45 n45 l45 d45 c45 s45
end
