/-! A NEW KERNEL -/
def hK0 (h : zH) (r s : Int) : zH := zset (zset (zset (znew (znew h 7 0 (znf zPP 7) (fun k => zdef (zft zPP 7 k))) 33 40 40 (fun _ => -1)) 7 (zhN h 7) 2 (zhN h 33 : Int)) 7 (zhN h 7) 0 r) 7 (zhN h 7) 1 s
theorem hK_0 {h : zH} {r s : Int} : hK h r s = zset (zset (hK0 h r s) 20 0 (zhN h 7) (zhN h 7 : Int)) 1 0 2 ((zhN h 7 : Int) + 1) := rfl
section
variable {ρ : Type} {h : zH} {A : zA} {kr : Int → zH → Option ρ} {kt : Nat → zH → Option ρ} {K : Nat}
theorem zix_l {n m : Nat} {k : Nat → Option ρ} (hm : m < n) : zix n (m : Int) k = k m := zix_n hm
theorem x_keInit {r s : Int} : Ke_init (zhN h 7 : Int) r s (znew h 7 0 (znf zPP 7) (fun k => zdef (zft zPP 7 k))) kr = kr 0 (hK0 h r s) := by
  unfold Ke_init
  have z1 : ∀ kk : Nat → Option ρ, zix 100000 40 kk = kk 40 := fun kk => zix_n (i := 40) (by decide)
  have n1 : zhN h 7 < zhN (znew h 7 0 (znf zPP 7) (fun k => zdef (zft zPP 7 k))) 7 := by rw [zN_new1]; exact Nat.lt_succ_self _
  have n2 : zhN h 7 < zhN (znew (znew h 7 0 (znf zPP 7) (fun k => zdef (zft zPP 7 k))) 33 40 40 (fun _ => -1)) 7 := by rw [zN_newne (by decide)]; exact n1
  simp only [zlet_d, z1, zob_set, zob_newne (show 7 ≠ 33 by decide), zob_new1]
  rfl
theorem hK0_N7 {r s : Int} : zhN (hK0 h r s) 7 = zhN h 7 + 1 := rfl
theorem hK0_N33 {r s : Int} : zhN (hK0 h r s) 33 = zhN h 33 + 1 := rfl
theorem hK0_Nn {r s : Int} {c : Nat} (h1 : c ≠ 7) (h2 : c ≠ 33) : zhN (hK0 h r s) c = zhN h c := by
  unfold hK0
  rw [zN_set, zN_set, zN_set, zN_newne h2, zN_newne h1]
theorem hK0_D {r s : Int} {c : Nat} (h1 : c ≠ 7) (h2 : c ≠ 33) : zhD (hK0 h r s) c = zhD h c := by
  unfold hK0
  rw [zD_ne h1, zD_ne h1, zD_ne h1, zD_newne h2, zD_newne h1]
theorem hK0_D7 {r s : Int} {p : Nat} (hp : p ≠ zhN h 7) : zhD (hK0 h r s) 7 p = zhD h 7 p := by
  unfold hK0
  rw [zD_np hp, zD_np hp, zD_np hp, zD_newne (by decide), zD_newp hp]
theorem hK0_D33 {r s : Int} {p : Nat} (hp : p ≠ zhN h 33) : zhD (hK0 h r s) 33 p = zhD h 33 p := by
  unfold hK0
  rw [zD_ne (by decide), zD_ne (by decide), zD_ne (by decide), zD_newp (by rw [zN_newne (by decide)]; exact hp), zD_newne (by decide)]
theorem hK0_L {r s : Int} {c : Nat} (h1 : c ≠ 7) (h2 : c ≠ 33) : zhL (hK0 h r s) c = zhL h c := by
  unfold hK0
  rw [zL_set, zL_set, zL_set, zL_newne h2, zL_newne h1]
theorem hK0_L33 {r s : Int} {p : Nat} : zhL (hK0 h r s) 33 p = if p = zhN h 33 then 40 else zhL h 33 p := by
  unfold hK0
  rw [zL_set, zL_set, zL_set]
  by_cases hp : p = zhN h 33
  · rw [if_pos hp, hp]
    exact zL_new1
  · rw [if_neg hp, zL_newp (by rw [zN_newne (by decide)]; exact hp), zL_newne (by decide)]
theorem hK0_new {r s : Int} : zhD (hK0 h r s) 7 (zhN h 7) 0 = r ∧ zhD (hK0 h r s) 7 (zhN h 7) 1 = s ∧ zhD (hK0 h r s) 7 (zhN h 7) 2 = (zhN h 33 : Int) ∧ zhD (hK0 h r s) 7 (zhN h 7) 3 = 0 ∧ zhD (hK0 h r s) 7 (zhN h 7) 4 = 0 := by
  unfold hK0
  refine ⟨?_, ?_, ?_, ?_, ?_⟩
  · simp [zD_set]
  · simp [zD_set]
  · simp [zD_set]
  · rw [zD_nj (by decide), zD_nj (by decide), zD_nj (by decide), zD_newne (by decide), zD_new1]
    rfl
  · rw [zD_nj (by decide), zD_nj (by decide), zD_nj (by decide), zD_newne (by decide), zD_new1]
    rfl
theorem RS.hK0 (q : RS h) {r s : Int} : RS (hK0 h r s) := ((((q.new rfl).new rfl).set rfl).set rfl).set rfl
theorem x_addKernel (q : RS h) (hR : RK A h K) {r s : Int} : X_addKernel 0 r s h kt kr = if (zwi r 1 8 && zwi s 0 16) = true then (if A 12 4 = 4 then kt 2 (zthrown h) else kr (A 12 4) (hK h r s)) else kt 1 (zthrown h) := by
  obtain ⟨r1, r2, r3, r4, r5⟩ := hR.at
  unfold X_addKernel X_addKernel_20
  simp only [x_isWithin, zob_0 q.N0, q.D0_0_0, zob_0 q.N1, r1]
  cases hr : zwi r 1 8 <;> cases hs : zwi s 0 16
  · simp [tb_f, zlet_d]
  · simp [tb_f, zlet_d]
  · simp [tb_f, tb_t, zlet_d]
  · by_cases h4 : A 12 4 = 4
    · have : ¬ (K : Int) < 4 := by omega
      simp [tb_t, zlet_d, h4, this]
    · have h5 : (K : Int) < 4 := by omega
      have n1 : zhN h 7 < zhN (znew h 7 0 (znf zPP 7) (fun k => zdef (zft zPP 7 k))) 7 := by rw [zN_new1]; exact Nat.lt_succ_self _
      have q0 := q.hK0 (r := r) (s := s)
      have e1 : zhD (hK0 h r s) 1 = zhD h 1 := hK0_D (by decide) (by decide)
      simp only [tb_t, if_true, zlet_d, h5, h4, zob_n n1, x_keInit, Bool.and_self, if_false, zob_0 q0.N1, show ((1 : Int) = 0) = False by decide]
      unfold Le_enterKernel Le_enterKernel_32
      have z1 : ∀ kk : Nat → Option ρ, zix 4 (K : Int) kk = kk K := fun kk => zix_n (by omega)
      have z2 : ∀ x : Option ρ, zorn (hK0 h r s) 7 (zhN h 7 : Int) x = x := fun x => if_pos (Or.inr ⟨Int.natCast_nonneg _, Int.ofNat_lt.mpr (by rw [hK0_N7]; exact Nat.lt_succ_self _)⟩)
      have w1 : wr ((K : Int) + 1) = (K : Int) + 1 := wr_id (by omega) (by omega)
      have w2 : wr (K : Int) = (K : Int) := wr_id (by omega) (by omega)
      have q1 : RS (zset (hK0 h r s) 20 0 K (K : Int)) → True := fun _ => trivial
      have m1 : zhN (zset (hK0 h r s) 20 0 K (K : Int)) 1 = 1 := q0.N1
      have m2 : zhN (zset (zset (hK0 h r s) 20 0 K (K : Int)) 1 0 2 ((K : Int) + 1)) 1 = 1 := q0.N1
      have m3 : zhD (zset (hK0 h r s) 20 0 K (K : Int)) 1 = zhD h 1 := by rw [zD_ne (by decide), e1]
      have m4 : (K : Int) < ((4 : Nat) : Int) := by omega
      rw [r4] at z2 ⊢
      simp [zob_0 q0.N1, e1, q.D1_0_0, zob_0 q0.N20, r1, q0.L20_0, m4, z1, z2, zlet_d, zob_0 m1, zob_0 m2, m3, w1, zD_eq, w2, r5, hK_0, r4, h5]
end
