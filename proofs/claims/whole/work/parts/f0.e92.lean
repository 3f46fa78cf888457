/-! THE SERIAL RUN: a thread runs -/
/-- no votes, no reckoning over a group, no launches -/
def NL (A : zA) (k : Nat) : Prop := ∀ i : Nat, (i : Int) < A 63 k → A 65 (40 * k + i) ≠ 118 ∧ A 65 (40 * k + i) ≠ 115 ∧ A 65 (40 * k + i) ≠ 99
section
variable {ρ : Type} {h h0 g : zH} {A A0 B : zA} {kr : Int → zH → Option ρ} {K L n k T t p r : Nat} {M bn v c a b d w : Int}
theorem ir_of (rk : RK A h K) (hk : k < K) (hp : (p : Int) < A 63 k) : ∃ r : Nat, zhD h 33 k p = (r : Int) ∧ IR A h k p r (A 65 (40 * k + p)) (A 66 (40 * k + p)) (A 67 (40 * k + p)) (A 68 (40 * k + p)) := by
  have k4 := rk.2.1
  have n7 := rk.2.2.1
  obtain ⟨d0, d1, d2, d3, d4, d5, d6, d7, e1, e2, e3, e4, e5⟩ := rk.2.2.2.2.1 k hk
  obtain ⟨r, y1, y2, y3, y4, y5, y6, y7⟩ := e5 p hp
  exact ⟨r, y1, ⟨y2, y3, y4, y5, y6⟩, ⟨rfl, rfl, rfl, rfl⟩, y7, ⟨by omega, by omega, d2, d3, d4⟩, by omega, e2⟩
theorem wr_40 {i : Nat} (h : i < 1000) : wr (40 * (i : Int)) = ((40 * i : Nat) : Int) := by
  rw [wr_id (by omega) (by omega)]
  omega
theorem wr_8 {i : Nat} (h : i < 1000) : wr (8 * (i : Int)) = ((8 * i : Nat) : Int) := by
  rw [wr_id (by omega) (by omega)]
  omega
/-- the model begins an instruction -/
theorem m_rt_pre {r0 : Int → Int → Int → zH → Option ρ} {w : Int} (hk : k < 4) (ht : t < 16) (h114 : A 114 t = 114) (h113 : A 113 t = (p : Int)) (hp : (p : Int) < A 63 k) (p40 : p < 40) (hw : A 115 t + 1 = w) (hw2 : 0 ≤ w ∧ w ≤ 1000) (hr : ∀ i : Int, zwi i 0 7 = true → i.toNat < 8) : M_runThread_0b kr r0 (k : Int) bn (t : Int) (mh g A) = M_runThread_207 kr r0 (k : Int) bn (t : Int) ((40 * k + p : Nat) : Int) (A 65 (40 * k + p)) ((8 * t : Nat) : Int) (zsr A t (A 67 (40 * k + p))) (zsr A t (A 68 (40 * k + p))) (zsr A t (A 66 (40 * k + p))) (zcl9 (A 65 (40 * k + p)) (zsr A t (A 67 (40 * k + p))) (zsr A t (A 66 (40 * k + p)))) (mh g (au A 115 t w)) := by
  have x160 : 40 * k + p < 160 := by omega
  have x9 : 40 * k + p < 100000 := by omega
  have k4 : k < 1000 := by omega
  have t9 : t < 1000 := by omega
  have w1 : -2147483648 ≤ A 115 t + 1 := by omega
  have w2 : A 115 t + 1 < 2147483648 := by omega
  have n1 : ¬ (1 : Int) = 0 := by decide
  -- registers
  have R : ∀ {i : Int}, zwi i 0 7 = true → ∃ j : Nat, i = (j : Int) ∧ j < 8 := fun {i} hz => by
    obtain ⟨z1, z2⟩ := zwi_t hz
    exact ⟨i.toNat, by omega, by omega⟩
  have S1 : ∀ x4 x8 x9 : Int, M_runThread_184 kr r0 (k : Int) bn (t : Int) ((40 * k + p : Nat) : Int) (A 65 (40 * k + p)) ((8 * t : Nat) : Int) x8 x9 x4 (mh g (au A 115 t w)) = M_runThread_207 kr r0 (k : Int) bn (t : Int) ((40 * k + p : Nat) : Int) (A 65 (40 * k + p)) ((8 * t : Nat) : Int) x8 x9 x4 (zcl9 (A 65 (40 * k + p)) x8 x4) (mh g (au A 115 t w)) := fun x4 x8 x9 => by
    unfold M_runThread_184 M_runThread_200 zcl9
    by_cases h1 : A 65 (40 * k + p) = 119
    · rw [if_pos h1, if_pos (Or.inl h1)]
    · rw [if_neg h1]
      by_cases h2 : A 65 (40 * k + p) = 87
      · rw [if_pos h2, if_pos (Or.inr h2)]
      · rw [if_neg h2, if_neg (fun z => z.elim h1 h2)]
  have S2 : ∀ x8 x9 : Int, M_runThread_147 kr r0 (k : Int) bn (t : Int) ((40 * k + p : Nat) : Int) (A 65 (40 * k + p)) ((8 * t : Nat) : Int) x8 x9 (mh g (au A 115 t w)) = M_runThread_184 kr r0 (k : Int) bn (t : Int) ((40 * k + p : Nat) : Int) (A 65 (40 * k + p)) ((8 * t : Nat) : Int) x8 x9 (zsr A t (A 66 (40 * k + p))) (mh g (au A 115 t w)) := fun x8 x9 => by
    unfold M_runThread_147 zsr
    rw [zix_n x160, mD66, au_ne (by decide), m_in]
    cases hz : zwi (A 66 (40 * k + p)) 0 7 with
    | false => rw [tb_f, if_pos rfl, if_neg (by decide)]
    | true =>
      obtain ⟨j, ej, j8⟩ := R hz
      have j128 : 8 * t + j < 128 := by omega
      have j9 : 8 * t + j < 100000 := by omega
      rw [tb_t, if_neg n1, zix_n x160, mD66, au_ne (show 66 ≠ 115 by decide), ej, wr_nn j9, zix_n j128, mD112, au_ne (show 112 ≠ 115 by decide), if_pos rfl, Int.toNat_natCast]
  have S3 : ∀ x8 : Int, M_runThread_110 kr r0 (k : Int) bn (t : Int) ((40 * k + p : Nat) : Int) (A 65 (40 * k + p)) ((8 * t : Nat) : Int) x8 (mh g (au A 115 t w)) = M_runThread_147 kr r0 (k : Int) bn (t : Int) ((40 * k + p : Nat) : Int) (A 65 (40 * k + p)) ((8 * t : Nat) : Int) x8 (zsr A t (A 68 (40 * k + p))) (mh g (au A 115 t w)) := fun x8 => by
    unfold M_runThread_110 zsr
    rw [zix_n x160, mD68, au_ne (by decide), m_in]
    cases hz : zwi (A 68 (40 * k + p)) 0 7 with
    | false => rw [tb_f, if_pos rfl, if_neg (by decide)]
    | true =>
      obtain ⟨j, ej, j8⟩ := R hz
      have j128 : 8 * t + j < 128 := by omega
      have j9 : 8 * t + j < 100000 := by omega
      rw [tb_t, if_neg n1, zix_n x160, mD68, au_ne (show 68 ≠ 115 by decide), ej, wr_nn j9, zix_n j128, mD112, au_ne (show 112 ≠ 115 by decide), if_pos rfl, Int.toNat_natCast]
  unfold M_runThread_0b
  rw [zix_n ht, mD114, if_pos h114, zix_n ht, zix_n hk, mD113, mD63, h113, if_pos hp, zix_n ht, mD113, h113, wr_40 k4, wr_nn x9, zix_n x160, zix_n ht, zix_n ht, mD115, wr_id (x := A 115 t + 1) w1 w2, hw, mS115, zlet_d, zix_n x160, mD67, au_ne (by decide), m_in]
  cases hz : zwi (A 67 (40 * k + p)) 0 7 with
  | false =>
    have e : zsr A t (A 67 (40 * k + p)) = 0 := by
      unfold zsr
      rw [hz, if_neg (by decide)]
    rw [tb_f, if_pos rfl, wr_8 t9, mD65, S3, S2, S1, e]
  | true =>
    obtain ⟨j, ej, j8⟩ := R hz
    have j128 : 8 * t + j < 128 := by omega
    have j9 : 8 * t + j < 100000 := by omega
    have e : zsr A t (A 67 (40 * k + p)) = A 112 (8 * t + j) := by rw [ej, zsr_n j8]
    rw [tb_t, if_neg n1, zix_n x160, wr_8 t9, mD67, au_ne (show 67 ≠ 115 by decide), ej, wr_nn j9, zix_n j128, mD112, au_ne (show 112 ≠ 115 by decide), mD65, S3, S2, S1, ← ej, e]
theorem zlg_no {A : zA} (hz : ¬ (A 114 t = 114 ∧ ¬ A 113 t < A 63 k)) : zlg k t A = A := if_neg hz
theorem zmg_113 {A : zA} {nx : Int} : zmg A t c nx 113 = zup (A 113) t (if c = 98 then A 113 t else nx) := by
  unfold zmg
  by_cases h1 : c = 98
  · rw [if_pos h1, if_pos h1, au_zup, au_ne (by decide)]
  · rw [if_neg h1, if_neg h1]
    by_cases h2 : c = 101
    · rw [if_pos h2, au_zup, au_ne (by decide)]
    · rw [if_neg h2, au_zup]
theorem zmg_114 {A : zA} {nx : Int} : zmg A t c nx 114 = zup (A 114) t (if c = 98 then 119 else if c = 101 then 101 else A 114 t) := by
  unfold zmg
  by_cases h1 : c = 98
  · rw [if_pos h1, if_pos h1, au_ne (by decide), au_zup]
  · rw [if_neg h1, if_neg h1]
    by_cases h2 : c = 101
    · rw [if_pos h2, if_pos h2, au_ne (by decide), au_zup]
    · rw [if_neg h2, if_neg h2, au_ne (by decide), zup_id rfl]
theorem zmg_o {A : zA} {nx : Int} {c2 : Nat} (k1 : c2 ≠ 113) (k2 : c2 ≠ 114) : zmg A t c nx c2 = A c2 := by
  unfold zmg
  by_cases h1 : c = 98
  · rw [if_pos h1, au_ne k1, au_ne k2]
  · rw [if_neg h1]
    by_cases h2 : c = 101
    · rw [if_pos h2, au_ne k1, au_ne k2]
    · rw [if_neg h2, au_ne k1]
theorem zlg_114 {A : zA} : zlg k t A 114 = zup (A 114) t (if A 114 t = 114 ∧ ¬ A 113 t < A 63 k then 101 else A 114 t) := by
  unfold zlg
  by_cases h1 : A 114 t = 114 ∧ ¬ A 113 t < A 63 k
  · rw [if_pos h1, if_pos h1, au_zup]
  · rw [if_neg h1, if_neg h1, zup_id rfl]
theorem zlg_o {A : zA} {c2 : Nat} (k2 : c2 ≠ 114) : zlg k t A c2 = A c2 := by
  unfold zlg
  by_cases h1 : A 114 t = 114 ∧ ¬ A 113 t < A 63 k
  · rw [if_pos h1, au_ne k2]
  · rw [if_neg h1]
theorem zlg_ard {X : zA} {s : Nat → Int} {nx : Int} (hs : s t = X 114 t) : zlg k t (zmg (ard X 114 s) t c nx) = ard (zmg X t c nx) 114 (zup s t (if zmg X t c nx 114 t = 114 ∧ ¬ zmg X t c nx 113 t < zmg X t c nx 63 k then 101 else zmg X t c nx 114 t)) := by
  have e114 : zmg (ard X 114 s) t c nx 114 = zup s t (zmg X t c nx 114 t) := by
    rw [zmg_114, zmg_114, zup_same, ard_same, hs]
  have e113 : zmg (ard X 114 s) t c nx 113 = zmg X t c nx 113 := by
    rw [zmg_113, zmg_113, ard_ne (by decide)]
  have e63 : zmg (ard X 114 s) t c nx 63 = zmg X t c nx 63 := by
    rw [zmg_o (by decide) (by decide), zmg_o (by decide) (by decide), ard_ne (by decide)]
  refine zA_ext (fun c2 => ?_)
  by_cases h4 : c2 = 114
  · subst h4
    rw [zlg_114, ard_same, e114, e113, e63, zup_same, zup_upd]
  · rw [zlg_o h4, ard_ne h4]
    by_cases h3 : c2 = 113
    · subst h3
      exact e113
    · rw [zmg_o h3 h4, zmg_o h3 h4, ard_ne h4]
theorem ard_aus {A : zA} {s : Nat → Int} {v : Int} {c j : Nat} : ard (au A c j v) c s = ard A c s := zA_ext (fun c2 => by
  by_cases hc : c2 = c
  · subst hc
    rw [ard_same, ard_same]
  · rw [ard_ne hc, ard_ne hc, au_ne hc])
/-- how a thread's run may end -/
def RTE (A0 A A' : zA) (h0 h' : zH) (k T t : Nat) (bn : Int) (s : Nat → Int) (ok : Bool) : Prop := SF A0 A' h0 h' ∧ (ok = true → SQ (ard A' 114 (zup s t (A' 114 t))) h' k T bn ∧ A' 114 t ≠ 114 ∧ (∀ t2, t2 ≠ t → A' 114 t2 = A 114 t2 ∧ A' 115 t2 = A 115 t2 ∧ A' 113 t2 = A 113 t2) ∧ (A' 114 t = 119 → A 114 t = 119 ∨ A 115 t + 1 ≤ A' 115 t) ∧ A 115 t ≤ A' 115 t ∧ (A 114 t = 101 → A' 114 t = 101))
theorem rt_loop (q : RS h0) (qd : RD h0) (rk : RK A0 h0 K) (hk : k < K) (nl : NL A0 k) (ht : t < T) (t16 : T ≤ 16) (g : zH) : ∀ (f1 f2 i : Nat) (h : zH) (A : zA) (s : Nat → Int), SF A0 A h0 h → SQ (ard A 114 s) h k T bn → s t = (if A 114 t = 114 ∧ ¬ A 113 t < A 63 k then 101 else A 114 t) → (i : Int) ≤ A 115 t → 0 ≤ A 115 t → A 115 t ≤ 200 → 201 - (A 115 t).toNat < f1 → 202 - (A 115 t).toNat < f2 → ∃ (h' : zH) (A' : zA) (ok : Bool), (∀ kr : Int → zH → Option ρ, zit (fun _ _ _ _ => none) (Re_runThread_2b kr) f1 0 (t : Int) (i : Int) h = kr (tb ok) h') ∧ (∀ kr : Int → zH → Option ρ, zit (fun _ _ _ _ => none) (M_runThread_0b kr) f2 (k : Int) bn (t : Int) (mh g A) = kr (tb ok) (mh g A')) ∧ RTE A0 A A' h0 h' k T t bn s ok
  | 0, _, _, _, _, _, _, _, _, _, _, _, hf, _ => absurd hf (Nat.not_lt_zero _)
  | _ + 1, 0, _, _, _, _, _, _, _, _, _, _, _, hf => absurd hf (Nat.not_lt_zero _)
  | _ + 1, 1, _, _, A, _, _, _, _, _, _, _, _, hf => absurd hf (by omega)
  | f1 + 1, f2 + 2, i, h, A, s, x, sq, hs, hi, c0, c2, hf1, hf2 => by
    have rs := x.rs q
    have rd := x.rd qd
    have rkh := x.rk rk
    obtain ⟨th1, th2, th3⟩ := sq_th rd ht t16
    have lt16 : t < 16 := by omega
    have k4 : k < 4 := by have := rk.2.1; omega
    have i200 : ¬ (200 : Int) < (i : Int) := by omega
    have sqt := sq.2.2.2 t ht
    rw [ard_same, ard_ne (show 113 ≠ 114 by decide), ard_ne (show 63 ≠ 114 by decide), ard_ne (show 115 ≠ 114 by decide), ard_ne (show 112 ≠ 114 by decide)] at sqt
    have d54 := sq.1.1
    by_cases hs4 : s t = 114
    · -- an instruction
      have nz : ¬ (A 114 t = 114 ∧ ¬ A 113 t < A 63 k) := fun z => by
        rw [if_pos z, hs4] at hs
        cases hs
      rw [if_neg nz] at hs
      have hr : A 114 t = 114 := by rw [← hs]; exact hs4
      have hp63 : A 113 t < A 63 k := Classical.byContradiction (fun z => nz ⟨hr, z⟩)
      obtain ⟨b1, ⟨b2, -⟩, b3, ⟨b4, -⟩, b5⟩ := sqt
      obtain ⟨b31, b32, -⟩ := b3 (by rw [hs4]; decide)
      obtain ⟨p, hp⟩ : ∃ p : Nat, A 113 t = (p : Int) := ⟨(A 113 t).toNat, by omega⟩
      rw [hp] at hp63
      obtain ⟨r, r33, ir⟩ := ir_of rkh hk hp63
      have p40 : p < 40 := ir.2.2.2.1.2.1
      have run : zhD h 6 t 4 = 114 := by rw [b2, hs4]
      have p3 : zhD h 6 t 3 = (p : Int) := by rw [b31, hp]
      have d31 := rs.L31_0
      have r0n : ¬ (r : Int) < 0 := by omega
      -- the class, to the count
      have CP : ∀ (kr : Int → zH → Option ρ) (r2 : Int → Int → Int → zH → Option ρ), Re_runThread_2b kr r2 0 (t : Int) (i : Int) h = if A 115 t < 200 then Re_carry 0 (t : Int) (r : Int) h (fun v11 h12 => if v11 = 0 then Re_runThread_56 kr h12 else zob h12 5 0 fun p13 => zob h12 6 (t : Int) fun p14 => zob h12 31 (zhD h12 5 p13 3) fun p15 => zix (zhL h12 31 p15) (zhD h12 6 p14 0) fun j16 => zob h12 31 (zhD h12 5 p13 3) fun p17 => zix (zhL h12 31 p17) (zhD h12 6 p14 0) fun j18 => zlet (zset h12 31 p17 j18 (wr ((zhD h12 31 p15 j16) + 1))) fun h19 => zob h19 5 0 fun p20 => zob h19 7 (zhD h19 5 p20 4) fun p21 => zob h19 6 (t : Int) fun _ => Th_goOn (t : Int) (r : Int) (zhD h19 7 p21 3) h19 fun _ h23 => r2 0 (t : Int) (wr ((i : Int) + 1)) h23) else kr 0 h := fun kr r2 => by
        unfold Re_runThread_2b Re_runThread_56
        rw [if_neg i200, zob_n th1, x_isRunning th1, decide_eq_true run, tb_t, if_neg (by decide), zob_0 rs.N5, zob_n th1, d54, zob_n (by rw [rkh.2.2.1]; exact hk), p3, x_instrAt rs rd rkh hk hp63 r33, if_neg r0n, zob_0 rs.N5, zob_n th1, rs.D5_0_3, zob_0 rs.N31, d31, th3, zix_n lt16, b4]
        by_cases hc : A 115 t < 200
        · rw [if_pos hc, if_pos hc, zob_0 rs.N5]
        · rw [if_neg hc, if_neg hc]
      have MP : ∀ (kr : Int → zH → Option ρ) (r0 : Int → Int → Int → zH → Option ρ), M_runThread_0b kr r0 (k : Int) bn (t : Int) (mh g A) = M_runThread_207 kr r0 (k : Int) bn (t : Int) ((40 * k + p : Nat) : Int) (A 65 (40 * k + p)) ((8 * t : Nat) : Int) (zsr A t (A 67 (40 * k + p))) (zsr A t (A 68 (40 * k + p))) (zsr A t (A 66 (40 * k + p))) (zcl9 (A 65 (40 * k + p)) (zsr A t (A 67 (40 * k + p))) (zsr A t (A 66 (40 * k + p)))) (mh g (au A 115 t (A 115 t + 1))) := fun kr r0 => m_rt_pre k4 lt16 hr hp hp63 p40 rfl ⟨by omega, by omega⟩ (fun i hz => by
        obtain ⟨z1, z2⟩ := zwi_t hz
        omega)
      have sfw : SF A0 (au A 115 t (A 115 t + 1)) h0 h := x.au (by decide)
      by_cases hc : A 115 t < 200
      · obtain ⟨n1, n2, n3⟩ := nl p (by rw [← x.1 63 (by decide)]; exact hp63)
        rw [← x.1 65 (by decide)] at n1 n2 n3
        rcases se_all (ρ := ρ) (w := A 115 t + 1) sq ir rs rd ht t16 hp (by omega) n1 n2 n3 g with ⟨e1, e2⟩ | ⟨h1, A2, e1, e2, e3, e4, ⟨e5, e6, e7, e8⟩, e9⟩
        · refine ⟨h, au A 115 t (A 115 t + 1), false, fun kr => ?_, fun kr => ?_, sfw, fun z => by cases z⟩
          · rw [zit_s, CP, if_pos hc, e1]
            unfold Re_runThread_56
            rfl
          · rw [zit_s, MP, e2]
            rfl
        · -- it is carried out
          have sq1 : SQ (ard (au A2 115 t (A 115 t + 1)) 114 s) (zset h1 31 0 t (A 115 t + 1)) k T bn := by
            rw [ard_cm (by decide)]
            exact e3.cnt ⟨by omega, by omega⟩
          have x1 : SF A0 (au A2 115 t (A 115 t + 1)) h0 (zset h1 31 0 t (A 115 t + 1)) := ((x.tr e4).au (by decide)).zs rfl
          have rs1 := x1.rs q
          have rd1 := x1.rd qd
          have y114 : au A2 115 t (A 115 t + 1) 114 t = 114 := by rw [au_ne (by decide), e7]; exact hr
          have y113 : au A2 115 t (A 115 t + 1) 113 t = (p : Int) := by rw [au_ne (by decide), e6]; exact hp
          have y63 : ard (au A2 115 t (A 115 t + 1)) 114 s 63 = A 63 := by rw [ard_ne (by decide), au_ne (by decide)]; exact e5
          have ys : s t = au A2 115 t (A 115 t + 1) 114 t := by rw [y114]; exact hs4
          obtain ⟨i1, i2, i3, i4, i5⟩ := ir.1
          have f8 : ∀ j, zhD (zset h1 31 0 t (A 115 t + 1)) 8 r j = zhD h 8 r j := fun j => by rw [zD_ne (by decide)]; exact e4.2.2.2.2.2 8 r j rfl
          have n8 : r < zhN (zset h1 31 0 t (A 115 t + 1)) 8 := by rw [zN_set, e4.2.1]; exact i1
          obtain ⟨t1, t2, t3⟩ := sq_th rd1 ht t16
          have pl1 : zhD (zset h1 31 0 t (A 115 t + 1)) 6 t 3 = (p : Int) := by
            have := ((sq1.2.2.2 t ht).2.2.1 (by rw [ard_same, hs4]; decide)).1
            rw [ard_ne (by decide), y113] at this
            exact this
          obtain ⟨-, o1, o2, o3, o4, -⟩ := ir.2.2.1
          have a8 := ir.2.2.2.1.2.2.1
          have nxe : znx (A 65 (40 * k + p)) (A 67 (40 * k + p)) (p : Int) (zhD (zset h1 31 0 t (A 115 t + 1)) 32 t (A 66 (40 * k + p)).toNat) = znx (A 65 (40 * k + p)) (A 67 (40 * k + p)) (p : Int) (zsr A t (A 66 (40 * k + p))) := by
            unfold znx
            by_cases h122 : A 65 (40 * k + p) = 122
            · have := o1 (by rw [h122]; decide)
              obtain ⟨an, ea⟩ : ∃ an : Nat, A 66 (40 * k + p) = (an : Int) := ⟨(A 66 (40 * k + p)).toNat, by omega⟩
              have an8 : an < 8 := by omega
              rw [e9 h122, zD_ne (by decide), ea, Int.toNat_natCast, b5 an an8, zsr_n an8]
            · by_cases h106 : A 65 (40 * k + p) = 106
              · rw [if_pos (Or.inl h106), if_pos (Or.inl h106)]
              · rw [if_neg (fun z => z.elim h106 (fun y => h122 y.1)), if_neg (fun z => z.elim h106 (fun y => h122 y.1))]
          have nx0 : 0 ≤ znx (A 65 (40 * k + p)) (A 67 (40 * k + p)) (p : Int) (zsr A t (A 66 (40 * k + p))) := by
            unfold znx
            by_cases hz : A 65 (40 * k + p) = 106 ∨ A 65 (40 * k + p) = 122 ∧ zsr A t (A 66 (40 * k + p)) = 0
            · rw [if_pos hz]
              exact (o4 (hz.elim Or.inr (fun y => Or.inl y.1))).1
            · rw [if_neg hz]
              omega
          have go := fun kr : Int → zH → Option ρ => x_goOn (kr := kr) (T := t) (r := r) (len := A 63 k) (pl := (p : Int)) rd1 t1 n8 pl1 ⟨by omega, by omega⟩ (by
            rw [f8, f8, i2, i4]
            exact fun z => (o4 (z.elim Or.inr Or.inl)).1) (by
            rw [f8, f8, i2, i3, t2]
            intro z
            have := o1 (by rw [z]; decide)
            exact zwi_i this.1 (by omega))
          rw [f8, f8, f8, i2, i3, i4, nxe] at go
          have sq2 := sq1.go (c := A 65 (40 * k + p)) ht (by rw [ard_same]; exact hs4) nx0
          rw [y63, zlg_ard ys] at sq2
          have hGs : SF A0 (zmg (au A2 115 t (A 115 t + 1)) t (A 65 (40 * k + p)) (znx (A 65 (40 * k + p)) (A 67 (40 * k + p)) (p : Int) (zsr A t (A 66 (40 * k + p))))) h0 (hGO (zset h1 31 0 t (A 115 t + 1)) t (A 65 (40 * k + p)) (znx (A 65 (40 * k + p)) (A 67 (40 * k + p)) (p : Int) (zsr A t (A 66 (40 * k + p)))) (A 63 k)) := by
            unfold zmg hGO
            by_cases h98 : A 65 (40 * k + p) = 98
            · rw [if_pos h98, if_pos h98]
              exact (((x1.au (by decide)).au (by decide)).zs (srp_6 lt16 (by decide)))
            · rw [if_neg h98, if_neg h98]
              by_cases h101 : A 65 (40 * k + p) = 101
              · rw [if_pos h101, if_pos h101]
                exact (((x1.au (by decide)).au (by decide)).zs (srp_6 lt16 (by decide)))
              · rw [if_neg h101, if_neg h101]
                by_cases hl : znx (A 65 (40 * k + p)) (A 67 (40 * k + p)) (p : Int) (zsr A t (A 66 (40 * k + p))) < A 63 k
                · rw [if_pos hl]
                  exact ((x1.au (by decide)).zs (srp_6 lt16 (by decide)))
                · rw [if_neg hl]
                  exact (((x1.au (by decide)).zs (srp_6 lt16 (by decide))).zs (srp_6 lt16 (by decide)))
          have z115 : ∀ (A' : zA) (c nx : Int), zmg A' t c nx 115 = A' 115 := fun A' c nx => zmg_o (by decide) (by decide)
          have z114 : ∀ (A' : zA) (c nx : Int) (t2 : Nat), t2 ≠ t → zmg A' t c nx 114 t2 = A' 114 t2 := fun A' c nx t2 hn => by rw [zmg_114, zup_ne hn]
          have w115 : zmg (au A2 115 t (A 115 t + 1)) t (A 65 (40 * k + p)) (znx (A 65 (40 * k + p)) (A 67 (40 * k + p)) (p : Int) (zsr A t (A 66 (40 * k + p)))) 115 t = A 115 t + 1 := by rw [z115, au_same]
          obtain ⟨h9, A9, ok, v1, v2, v3, v4⟩ := rt_loop q qd rk hk nl ht t16 g f1 (f2 + 1) (i + 1) _ _ _ hGs sq2 zup_same (by rw [w115]; omega) (by rw [w115]; omega) (by rw [w115]; omega) (by rw [w115]; omega) (by rw [w115]; omega)
          refine ⟨h9, A9, ok, fun kr => ?_, fun kr => ?_, v3, fun hok => ?_⟩
          · have i9 : i < 100000 := by omega
            have ww : wr (A 115 t + 1) = A 115 t + 1 := wr_id (by omega) (by omega)
            have rs2 := (x.tr e4).rs q
            have rd2 := (x.tr e4).rd qd
            obtain ⟨s1, s2, s3⟩ := sq_th rd2 ht t16
            have c31 : zhD h1 31 0 t = A 115 t := by rw [(e3.2.2.2 t ht).2.2.2.1.1, ard_ne (by decide), e8]
            have d54' : zhD (zset h1 31 0 t (A 115 t + 1)) 5 0 4 = (k : Int) := sq1.1.1
            have k7' : k < zhN (zset h1 31 0 t (A 115 t + 1)) 7 := by rw [zN_set, e4.2.1, rkh.2.2.1]; exact hk
            have l73 : zhD (zset h1 31 0 t (A 115 t + 1)) 7 k 3 = A 63 k := by
              rw [zD_ne (by decide), e4.2.2.2.2.2 7 k 3 rfl]
              exact (rkh.2.2.2.2.1 k hk).2.2.2.2.2.2.2.2.2.2.1
            rw [zit_s, CP, if_pos hc, e1, ← v1 kr]
            generalize zit (fun _ _ _ _ => none) (Re_runThread_2b kr) f1 = r9
            rw [if_neg (by decide), zob_0 rs2.N5, zob_n s1, rs2.D5_0_3, zob_0 rs2.N31, rs2.L31_0, s3, zix_n lt16, zob_0 rs2.N31, rs2.L31_0, zix_n lt16, c31, ww, zlet_d, zob_0 rs1.N5, d54', zob_n k7', zob_n t1, l73, go, wr_s i9]
          · rw [zit_s, MP, e2, v2]
          · obtain ⟨u1, u2, u3, u4, u5, u6⟩ := v4 hok
            rw [w115] at u5
            rw [zup_upd] at u1
            refine ⟨u1, u2, fun t2 hn => ?_, fun hz => Or.inr u5, by omega, fun hz => by rw [hr] at hz; cases hz⟩
            obtain ⟨m1, m2, m3⟩ := u3 t2 hn
            rw [m1, m2, m3, z114 _ _ _ _ hn, z115, zmg_113, zup_ne hn, au_ne (by decide), au_j, if_neg hn, au_ne (show 113 ≠ 115 by decide), e6, e7, e8]
            exact ⟨rfl, rfl, rfl⟩
      · refine ⟨h, au A 115 t (A 115 t + 1), false, fun kr => ?_, fun kr => ?_, sfw, fun z => by cases z⟩
        · rw [zit_s, CP, if_neg hc]
          rfl
        · rw [zit_s, MP]
          unfold M_runThread_207 M_runThread_262
          rw [zix_n lt16, mD115, au_same, if_pos (by omega)]
          rfl
    · -- it does not run
      have run : ¬ zhD h 6 t 4 = 114 := by rw [sqt.2.1.1]; exact hs4
      have n0 : ¬ (1 : Int) = 0 := by decide
      have ck : ∀ kr : Int → zH → Option ρ, zit (fun _ _ _ _ => none) (Re_runThread_2b kr) (f1 + 1) 0 (t : Int) (i : Int) h = kr 1 h := fun kr => by
        rw [zit_s]
        unfold Re_runThread_2b Re_runThread_89 Re_runThread_101
        rw [if_neg i200, zob_n th1, x_isRunning th1, decide_eq_false run, tb_f, if_pos rfl, zob_n th1, x_isRunning th1, decide_eq_false run, tb_f, if_pos rfl, znar_1]
      by_cases hl : A 114 t = 114 ∧ ¬ A 113 t < A 63 k
      · rw [if_pos hl] at hs
        refine ⟨h, au A 114 t 101, true, ck, fun kr => ?_, x.au (by decide), fun _ => ⟨by rw [au_same, ard_aus, zup_id hs]; exact sq, by rw [au_same]; decide, fun t2 hn => ⟨by rw [au_j, if_neg hn], by rw [au_ne (by decide)], by rw [au_ne (by decide)]⟩, (fun hz => by rw [au_same] at hz; cases hz), by rw [au_ne (by decide)]; exact Int.le_refl _, fun _ => au_same⟩⟩
        rw [zit_s]
        unfold M_runThread_0b
        rw [zix_n lt16, mD114, if_pos hl.1, zix_n lt16, zix_n k4, mD113, mD63, if_neg hl.2, zix_n lt16, mS114, zlet_d]
        show zit (fun _ _ _ _ => none) (M_runThread_0b kr) (f2 + 1) (k : Int) bn (t : Int) (mh g (au A 114 t 101)) = _
        rw [zit_s]
        unfold M_runThread_0b
        rw [zix_n lt16, mD114, au_same, if_neg (by decide)]
        rfl
      · rw [if_neg hl] at hs
        have hr : A 114 t ≠ 114 := by rw [← hs]; exact hs4
        refine ⟨h, A, true, ck, fun kr => ?_, x, fun _ => ⟨by rw [zup_id hs]; exact sq, hr, fun t2 _ => ⟨rfl, rfl, rfl⟩, fun hz => Or.inl hz, Int.le_refl _, fun z => z⟩⟩
        rw [zit_s]
        unfold M_runThread_0b
        rw [zix_n lt16, mD114, if_neg hr]
        rfl
end
