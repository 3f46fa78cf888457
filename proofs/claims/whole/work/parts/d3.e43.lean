section
variable {A B : zA} {h : zH} {K L n : Nat} {bc tc gc : Nat → Nat} {N M : Int}
theorem RR.bdn (q : RR A h K L bc tc gc n B N M) {n2 : Nat} (x : BD A n2) : RR A h K L bc tc gc n2 B N M := ⟨q.rs, q.rd, q.rk, q.rl, q.rm, q.rc, q.bi, q.bh, q.th, q.td, q.gh, q.sh, q.us, q.ug, q.ul, q.su, q.ta, q.tb, q.tl, x, q.rh, q.iv, q.rn⟩
theorem BD.le (x : BD A n) {n2 : Nat} (hn : n ≤ n2) : BD A n2 := ⟨fun j hj => by have := x.1 j hj; omega, fun b hb => by have := x.2 b hb; omega⟩
theorem RR.le (q : RR A h K L bc tc gc n B N M) {n2 : Nat} (hn : n ≤ n2) : RR A h K L bc tc gc n2 B N M := q.bdn (q.bd.le hn)
theorem RR.up (q : RR A h K L bc tc gc n B N M) : RR A h K L bc tc gc (n + 1) B N M := q.le (Nat.le_succ n)
theorem rr_f0 (q : RR A h K L bc tc gc n B N M) {v : Int} (h0 : 0 ≤ v) (h1 : v ≤ (n : Int) + 1) : RR (au A 12 55 v) (zset h 4 0 0 v) K L bc tc gc (n + 1) B N M := by
  obtain ⟨m1, m2, m3, m4, m5, m6, m7, m8, m9, m10, m11, m12⟩ := q.rm
  refine up_rm q.up (fr_au rfl) (fr_zs rfl) rfl rfl rfl rfl ⟨m1, m2, m3, m4, rfl, m6, m7, m8, m9, m10, m11, m12⟩ ⟨fun j hj => ?_, q.up.bd.2⟩ (q.iv.au rfl)
  have := q.up.bd.1 j hj
  rw [au_j]
  split <;> omega
theorem rr_f1 (q : RR A h K L bc tc gc n B N M) {v : Int} (h0 : 0 ≤ v) (h1 : v ≤ 64 * ((n : Int) + 1)) : RR (au A 12 54 v) (zset h 4 0 1 v) K L bc tc gc (n + 1) B N M := by
  obtain ⟨m1, m2, m3, m4, m5, m6, m7, m8, m9, m10, m11, m12⟩ := q.rm
  refine up_rm q.up (fr_au rfl) (fr_zs rfl) rfl rfl rfl rfl ⟨m1, m2, m3, m4, m5, rfl, m7, m8, m9, m10, m11, m12⟩ ⟨fun j hj => ?_, q.up.bd.2⟩ (q.iv.au rfl)
  have := q.up.bd.1 j hj
  rw [au_j]
  split <;> omega
theorem rr_f2 (q : RR A h K L bc tc gc n B N M) {v : Int} (h0 : 0 ≤ v) (h1 : v ≤ 64 * ((n : Int) + 1)) : RR (au A 12 57 v) (zset h 4 0 2 v) K L bc tc gc (n + 1) B N M := by
  obtain ⟨m1, m2, m3, m4, m5, m6, m7, m8, m9, m10, m11, m12⟩ := q.rm
  refine up_rm q.up (fr_au rfl) (fr_zs rfl) rfl rfl rfl rfl ⟨m1, m2, m3, m4, m5, m6, rfl, m8, m9, m10, m11, m12⟩ ⟨fun j hj => ?_, q.up.bd.2⟩ (q.iv.au rfl)
  have := q.up.bd.1 j hj
  rw [au_j]
  split <;> omega
theorem rr_f3 (q : RR A h K L bc tc gc n B N M) {v : Int} (h0 : 0 ≤ v) (h1 : v ≤ 64 * ((n : Int) + 1)) : RR (au A 12 56 v) (zset h 4 0 3 v) K L bc tc gc (n + 1) B N M := by
  obtain ⟨m1, m2, m3, m4, m5, m6, m7, m8, m9, m10, m11, m12⟩ := q.rm
  refine up_rm q.up (fr_au rfl) (fr_zs rfl) rfl rfl rfl rfl ⟨m1, m2, m3, m4, m5, m6, m7, rfl, m9, m10, m11, m12⟩ ⟨fun j hj => ?_, q.up.bd.2⟩ (q.iv.au rfl)
  have := q.up.bd.1 j hj
  rw [au_j]
  split <;> omega
theorem rr_f4 (q : RR A h K L bc tc gc n B N M) {v : Int} (h0 : 0 ≤ v) (h1 : v ≤ 64 * ((n : Int) + 1)) : RR (au A 12 58 v) (zset h 4 0 4 v) K L bc tc gc (n + 1) B N M := by
  obtain ⟨m1, m2, m3, m4, m5, m6, m7, m8, m9, m10, m11, m12⟩ := q.rm
  refine up_rm q.up (fr_au rfl) (fr_zs rfl) rfl rfl rfl rfl ⟨m1, m2, m3, m4, m5, m6, m7, m8, rfl, m10, m11, m12⟩ ⟨fun j hj => ?_, q.up.bd.2⟩ (q.iv.au rfl)
  have := q.up.bd.1 j hj
  rw [au_j]
  split <;> omega
theorem rr_f5 (q : RR A h K L bc tc gc n B N M) {v : Int} (h0 : 0 ≤ v) (h1 : v ≤ 64 * ((n : Int) + 1)) : RR (au A 12 59 v) (zset h 4 0 5 v) K L bc tc gc (n + 1) B N M := by
  obtain ⟨m1, m2, m3, m4, m5, m6, m7, m8, m9, m10, m11, m12⟩ := q.rm
  refine up_rm q.up (fr_au rfl) (fr_zs rfl) rfl rfl rfl rfl ⟨m1, m2, m3, m4, m5, m6, m7, m8, m9, rfl, m11, m12⟩ ⟨fun j hj => ?_, q.up.bd.2⟩ (q.iv.au rfl)
  have := q.up.bd.1 j hj
  rw [au_j]
  split <;> omega
theorem rr_f6 (q : RR A h K L bc tc gc n B N M) {v : Int} (h0 : 0 ≤ v) (h1 : v ≤ 64 * ((n : Int) + 1)) : RR (au A 12 60 v) (zset h 4 0 6 v) K L bc tc gc (n + 1) B N M := by
  obtain ⟨m1, m2, m3, m4, m5, m6, m7, m8, m9, m10, m11, m12⟩ := q.rm
  refine up_rm q.up (fr_au rfl) (fr_zs rfl) rfl rfl rfl rfl ⟨m1, m2, m3, m4, m5, m6, m7, m8, m9, m10, rfl, m12⟩ ⟨fun j hj => ?_, q.up.bd.2⟩ (q.iv.au rfl)
  have := q.up.bd.1 j hj
  rw [au_j]
  split <;> omega
theorem rr_f7 (q : RR A h K L bc tc gc n B N M) {v : Int} (h0 : 0 ≤ v) (h1 : v ≤ 64 * ((n : Int) + 1)) : RR (au A 12 61 v) (zset h 4 0 7 v) K L bc tc gc (n + 1) B N M := by
  obtain ⟨m1, m2, m3, m4, m5, m6, m7, m8, m9, m10, m11, m12⟩ := q.rm
  refine up_rm q.up (fr_au rfl) (fr_zs rfl) rfl rfl rfl rfl ⟨m1, m2, m3, m4, m5, m6, m7, m8, m9, m10, m11, rfl⟩ ⟨fun j hj => ?_, q.up.bd.2⟩ (q.iv.au rfl)
  have := q.up.bd.1 j hj
  rw [au_j]
  split <;> omega
end
/-! ONE LANE -/
/-- a lane's register as it was; 0 for none -/
def zlat (A : zA) (k : Nat) (v : Int) (m : Nat) : Int := if zwi v 0 (A 61 k - 1) = true then A 109 (8 * m + v.toNat) else 0
def LC (A : zA) (h : zH) (K L : Nat) (bc tc gc : Nat → Nat) (n : Nat) (B : zA) (N M : Int) (u i b j m k p r a : Nat) (b2 d c : Int) (F : Nat → Bool) : Prop := RR (fg u b j A) h K L bc tc gc n B N M ∧ u < 2 ∧ (i : Int) < A 93 u ∧ A 94 (4 * u + i) = (b : Int) ∧ A 95 (4 * u + i) = (j : Int) ∧ ML A (4 * u + i) b j m k p ∧ A 87 b = 1 ∧ A 89 (16 * b + (4 * j + m)) = 114 ∧ (r < zhN h 8 ∧ zhD h 8 r 0 = c ∧ (zbits c ≠ 0 → zhD h 8 r 1 = (a : Int)) ∧ zhD h 8 r 2 = b2 ∧ zhD h 8 r 3 = d) ∧ (A 65 (40 * k + p) = c ∧ (zbits c ≠ 0 → A 66 (40 * k + p) = (a : Int)) ∧ A 67 (40 * k + p) = b2 ∧ A 68 (40 * k + p) = d) ∧ zinsOK (A 61 k) c (a : Int) b2 d ∧ (1 ≤ A 61 k ∧ A 61 k ≤ 8 ∧ 0 ≤ A 62 k ∧ A 62 k ≤ 16 ∧ (p : Int) < A 63 k ∧ A 63 k ≤ 40 ∧ k < K) ∧ (zhD h 2 0 8 = zbs F 4 ∧ A 12 63 = zbs F 4) ∧ (∀ q : Nat, (q : Int) < A 61 k → A 109 (8 * m + q) = A 91 (8 * (16 * b + (4 * j + m)) + q)) ∧ zhD h 24 0 m = zlat A k (if c = 119 ∨ c = 87 then (a : Int) else b2) m ∧ (∀ m2 : Nat, m2 < 4 → ((4 * j + m2 : Nat) : Int) < A 73 (b / 6) → zhD h 25 0 m2 = zlat A k b2 m2) ∧ (∀ m2 : Nat, m2 < 4 → F m2 = true → ((4 * j + m2 : Nat) : Int) < A 73 (b / 6)) ∧ zhD h 2 0 9 = zbs (fun m2 => F m2 && decide (zlat A k b2 m2 ≠ 0)) 4 ∧ n ≤ 10000000 ∧ (∀ q : Nat, q < 32 → zir (A 109 q)) ∧ (c = 119 → zhD h 2 0 10 = A 12 65 ∧ 0 ≤ A 12 65 ∧ A 12 65 ≤ (m : Int))
/-- what a lane comes to, ahead of going on -/
def LO (ρ : Type) (g : zH) (A : zA) (h : zH) (K L : Nat) (bc tc gc : Nat → Nat) (n : Nat) (B : zA) (N M : Int) (u i b j m k p r a : Nat) (b2 d c : Int) : Prop := ∃ (h1 : zH) (A1 : zA) (L1 : Nat), (L ≤ L1 ∧ ∀ l, L ≤ l → l < L1 → A1 69 l = 113 ∧ A1 76 l = ((b / 6 : Nat) : Int) ∧ A1 79 l ≠ A1 72 l ∧ A1 71 l = -1) ∧ (∀ kr : Int → zH → Option ρ, Co_carryLane 0 (gc (4 * b + j) : Int) (m : Int) (tc (16 * b + (4 * j + m)) : Int) (r : Int) h kr = kr 45 h1) ∧
  (∀ kr : Int → zH → Option ρ, (if c = 114 ∨ c = 119 ∨ c = 97 ∨ c = 120 ∨ c = 82 ∨ c = 87 then M_doCell ((4 * u + i : Nat) : Int) (m : Int) c ((40 * k + p : Nat) : Int) (mh g A) (fun _ h2 => M_doLane ((4 * u + i : Nat) : Int) (m : Int) c ((40 * k + p : Nat) : Int) h2 kr) else M_doLane ((4 * u + i : Nat) : Int) (m : Int) c ((40 * k + p : Nat) : Int) (mh g A) kr) = M_doLane_413 kr c (b : Int) ((16 * b + (4 * j + m) : Nat) : Int) (znx c b2 (p : Int) (A 109 (8 * m + a))) (mh g A1)) ∧
  RR (fg u b j A1) h1 K L1 bc tc gc (n + 1) B N M ∧ LF h A h1 A1 b (16 * b + (4 * j + m)) L ∧ (c = 122 → zhD h1 32 (tc (16 * b + (4 * j + m))) a = A 109 (8 * m + a)) ∧ (c = 119 → zhD h1 2 0 10 = A1 12 65 ∧ 0 ≤ A1 12 65 ∧ A1 12 65 ≤ (m : Int) + 1 ∧ ∀ y, y ≠ 4 * u + i → A1 97 y = A 97 y) ∧ (c ≠ 119 → zhD h1 2 0 10 = zhD h 2 0 10 ∧ A1 12 65 = A 12 65 ∧ A1 97 = A 97)
section
variable {ρ : Type} {h g : zH} {A B : zA} {kr : Int → zH → Option ρ} {K L n : Nat} {bc tc gc : Nat → Nat} {N M : Int} {u i b j m k p r a : Nat} {b2 d c : Int} {F : Nat → Bool}
theorem LC.q (x : LC A h K L bc tc gc n B N M u i b j m k p r a b2 d c F) : RR (fg u b j A) h K L bc tc gc n B N M := x.1
theorem LC.hu (x : LC A h K L bc tc gc n B N M u i b j m k p r a b2 d c F) : u < 2 := x.2.1
theorem LC.hi (x : LC A h K L bc tc gc n B N M u i b j m k p r a b2 d c F) : (i : Int) < A 93 u := x.2.2.1
theorem LC.e94 (x : LC A h K L bc tc gc n B N M u i b j m k p r a b2 d c F) : A 94 (4 * u + i) = (b : Int) := x.2.2.2.1
theorem LC.e95 (x : LC A h K L bc tc gc n B N M u i b j m k p r a b2 d c F) : A 95 (4 * u + i) = (j : Int) := x.2.2.2.2.1
theorem LC.ml (x : LC A h K L bc tc gc n B N M u i b j m k p r a b2 d c F) : ML A (4 * u + i) b j m k p := x.2.2.2.2.2.1
theorem LC.hin (x : LC A h K L bc tc gc n B N M u i b j m k p r a b2 d c F) : A 87 b = 1 := x.2.2.2.2.2.2.1
theorem LC.h89 (x : LC A h K L bc tc gc n B N M u i b j m k p r a b2 d c F) : A 89 (16 * b + (4 * j + m)) = 114 := x.2.2.2.2.2.2.2.1
theorem LC.ir (x : LC A h K L bc tc gc n B N M u i b j m k p r a b2 d c F) : (r < zhN h 8 ∧ zhD h 8 r 0 = c ∧ (zbits c ≠ 0 → zhD h 8 r 1 = (a : Int)) ∧ zhD h 8 r 2 = b2 ∧ zhD h 8 r 3 = d) := x.2.2.2.2.2.2.2.2.1
theorem LC.ia (x : LC A h K L bc tc gc n B N M u i b j m k p r a b2 d c F) : (A 65 (40 * k + p) = c ∧ (zbits c ≠ 0 → A 66 (40 * k + p) = (a : Int)) ∧ A 67 (40 * k + p) = b2 ∧ A 68 (40 * k + p) = d) := x.2.2.2.2.2.2.2.2.2.1
theorem LC.ok (x : LC A h K L bc tc gc n B N M u i b j m k p r a b2 d c F) : zinsOK (A 61 k) c (a : Int) b2 d := x.2.2.2.2.2.2.2.2.2.2.1
theorem LC.kk (x : LC A h K L bc tc gc n B N M u i b j m k p r a b2 d c F) : (1 ≤ A 61 k ∧ A 61 k ≤ 8 ∧ 0 ≤ A 62 k ∧ A 62 k ≤ 16 ∧ (p : Int) < A 63 k ∧ A 63 k ≤ 40 ∧ k < K) := x.2.2.2.2.2.2.2.2.2.2.2.1
theorem LC.ms (x : LC A h K L bc tc gc n B N M u i b j m k p r a b2 d c F) : (zhD h 2 0 8 = zbs F 4 ∧ A 12 63 = zbs F 4) := x.2.2.2.2.2.2.2.2.2.2.2.2.1
theorem LC.ws (x : LC A h K L bc tc gc n B N M u i b j m k p r a b2 d c F) : (∀ q : Nat, (q : Int) < A 61 k → A 109 (8 * m + q) = A 91 (8 * (16 * b + (4 * j + m)) + q)) := x.2.2.2.2.2.2.2.2.2.2.2.2.2.1
theorem LC.nm (x : LC A h K L bc tc gc n B N M u i b j m k p r a b2 d c F) : zhD h 24 0 m = zlat A k (if c = 119 ∨ c = 87 then (a : Int) else b2) m := x.2.2.2.2.2.2.2.2.2.2.2.2.2.2.1
theorem LC.tk (x : LC A h K L bc tc gc n B N M u i b j m k p r a b2 d c F) : (∀ m2 : Nat, m2 < 4 → ((4 * j + m2 : Nat) : Int) < A 73 (b / 6) → zhD h 25 0 m2 = zlat A k b2 m2) := x.2.2.2.2.2.2.2.2.2.2.2.2.2.2.2.1
theorem LC.fp (x : LC A h K L bc tc gc n B N M u i b j m k p r a b2 d c F) : (∀ m2 : Nat, m2 < 4 → F m2 = true → ((4 * j + m2 : Nat) : Int) < A 73 (b / 6)) := x.2.2.2.2.2.2.2.2.2.2.2.2.2.2.2.2.1
theorem LC.vt (x : LC A h K L bc tc gc n B N M u i b j m k p r a b2 d c F) : zhD h 2 0 9 = zbs (fun m2 => F m2 && decide (zlat A k b2 m2 ≠ 0)) 4 := x.2.2.2.2.2.2.2.2.2.2.2.2.2.2.2.2.2.1
theorem LC.bn (x : LC A h K L bc tc gc n B N M u i b j m k p r a b2 d c F) : n ≤ 10000000 := x.2.2.2.2.2.2.2.2.2.2.2.2.2.2.2.2.2.2.1
theorem LC.wz (x : LC A h K L bc tc gc n B N M u i b j m k p r a b2 d c F) : (∀ q : Nat, q < 32 → zir (A 109 q)) := x.2.2.2.2.2.2.2.2.2.2.2.2.2.2.2.2.2.2.2.1
theorem LC.wd (x : LC A h K L bc tc gc n B N M u i b j m k p r a b2 d c F) : (c = 119 → zhD h 2 0 10 = A 12 65 ∧ 0 ≤ A 12 65 ∧ A 12 65 ≤ (m : Int)) := x.2.2.2.2.2.2.2.2.2.2.2.2.2.2.2.2.2.2.2.2
theorem le0 {L : Nat} {f : Nat → Prop} : L ≤ L ∧ ∀ l, L ≤ l → l < L → f l := ⟨Nat.le_refl _, fun l h1 h2 => absurd (Nat.lt_of_le_of_lt h1 h2) (Nat.lt_irrefl _)⟩
theorem lc_th (x : LC A h K L bc tc gc n B N M u i b j m k p r a b2 d c F) : tc (16 * b + (4 * j + m)) < zhN h 6 ∧ (zhL h 32 (tc (16 * b + (4 * j + m))) : Int) = A 61 k ∧ zhD h 6 (tc (16 * b + (4 * j + m))) 0 = ((4 * j + m : Nat) : Int) ∧ zhD h 6 (tc (16 * b + (4 * j + m))) 2 = ((b % 6 : Nat) : Int) ∧ zhD h 6 (tc (16 * b + (4 * j + m))) 3 = (p : Int) ∧ (∀ q : Nat, (q : Int) < A 61 k → zhD h 32 (tc (16 * b + (4 * j + m))) q = A 109 (8 * m + q)) := by
  obtain ⟨-, hm, hlt, h70, hk, h90, hp⟩ := x.ml
  have hb : b < 72 := x.ml.1.2.1
  obtain ⟨t1, t2, t3, t4, t5, t6⟩ := x.q.th.1 b hb x.hin _ hlt
  obtain ⟨d1, d2, d3, d4⟩ := x.q.td b hb x.hin _ hlt
  have t6' : (zhL h 32 (tc (16 * b + (4 * j + m))) : Int) = A 61 (A 70 (b / 6)).toNat := t6
  rw [h70, Int.toNat_natCast] at t6'
  refine ⟨t2, t6', t4, t5, ?_, fun q hq => ?_⟩
  · have e := (d3 (show fg u b j A 89 (16 * b + (4 * j + m)) ≠ 101 by show A 89 (16 * b + (4 * j + m)) ≠ 101; rw [x.h89]; decide)).1
    refine Eq.trans e ?_
    exact h90
  · have e := d4 q (show (q : Int) < A 61 (A 70 (b / 6)).toNat by rw [h70, Int.toNat_natCast]; exact hq)
    refine Eq.trans e ?_
    exact (x.ws q hq).symm
theorem lc_g (x : LC A h K L bc tc gc n B N M u i b j m k p r a b2 d c F) : GW h (gc (4 * b + j)) ∧ zhD h 42 (gc (4 * b + j)) m = (tc (16 * b + (4 * j + m)) : Int) ∧ zhD h 11 (gc (4 * b + j)) 0 = (bc b : Int) ∧ ((4 * j : Nat) : Int) < A 73 (b / 6) := by
  obtain ⟨-, hm, hlt, h70, hk, h90, hp⟩ := x.ml
  have hb : b < 72 := x.ml.1.2.1
  have hj : ((4 * j : Nat) : Int) < A 73 (b / 6) := by omega
  obtain ⟨g1, g2, g3, g4, g5⟩ := x.q.gh.1 b hb x.hin j hj
  obtain ⟨gw, -⟩ := x.q.grp hb x.hin hj
  exact ⟨gw, (g5 m hm).trans (if_pos hlt), g3, hj⟩
theorem lf_reg {q : Nat} {v : Int} {T xx : Nat} (hq : q < 8) : LF h A (zset h 32 T q v) (au A 91 (8 * xx + q) v) b xx L := by
  refine ⟨fun c hc => ?_, fun c hc l hl => ?_, fun jj hj => ?_, fun c p jj hc => ?_, fun ii hi => ?_, fun _ _ _ _ => rfl, Nat.le_refl _, fun _ => rfl⟩
  · exact au_ne (fun z => by subst z; cases hc)
  · rw [au_ne (by omega)]
  · rw [au_ne (by decide)]
  · exact if_neg (fun z => by rw [z.1] at hc; cases hc)
  · rw [au_j, if_neg (by omega)]
/-- a register of the lane set -/
theorem lo_reg (x : LC A h K L bc tc gc n B N M u i b j m k p r a b2 d c F) {v : Int} (ha : (a : Int) < A 61 k) (hv : zir v) (h1 : c ≠ 119) (h2 : c ≠ 122) (hX : ∀ kr : Int → zH → Option ρ, Co_carryLane 0 (gc (4 * b + j) : Int) (m : Int) (tc (16 * b + (4 * j + m)) : Int) (r : Int) h kr = kr 45 (zset h 32 (tc (16 * b + (4 * j + m))) a v))
    (hM : ∀ kr : Int → zH → Option ρ, (if c = 114 ∨ c = 119 ∨ c = 97 ∨ c = 120 ∨ c = 82 ∨ c = 87 then M_doCell ((4 * u + i : Nat) : Int) (m : Int) c ((40 * k + p : Nat) : Int) (mh g A) (fun _ h2 => M_doLane ((4 * u + i : Nat) : Int) (m : Int) c ((40 * k + p : Nat) : Int) h2 kr) else M_doLane ((4 * u + i : Nat) : Int) (m : Int) c ((40 * k + p : Nat) : Int) (mh g A) kr) = M_doLane_413 kr c (b : Int) ((16 * b + (4 * j + m) : Nat) : Int) (znx c b2 (p : Int) (A 109 (8 * m + a))) (mh g (au A 91 (8 * (16 * b + (4 * j + m)) + a) v))) : LO ρ g A h K L bc tc gc n B N M u i b j m k p r a b2 d c := by
  have hb : b < 72 := x.ml.1.2.1
  obtain ⟨-, hm, hlt, h70, hk, h90, hp⟩ := x.ml
  refine ⟨_, _, L, le0, hX, hM, ?_, lf_reg (by have := x.kk.2.1; omega), fun z => absurd z h2, fun z => absurd z h1, fun _ => ⟨rfl, by rw [au_ne (by decide)], by rw [au_ne (by decide)]⟩⟩
  rw [← fg_au (by decide)]
  exact (rr_reg x.q hb x.hin hlt (show (a : Int) < A 61 (A 70 (b / 6)).toNat by rw [h70, Int.toNat_natCast]; exact ha) hv).up
theorem x_cl (x : LC A h K L bc tc gc n B N M u i b j m k p r a b2 d c F) (h1 : ¬ (c = 114 ∨ c = 119 ∨ c = 97 ∨ c = 120)) (h2 : ¬ (c = 82 ∨ c = 87)) (h3 : c ≠ 118) (h4 : c ≠ 115) (h5 : c ≠ 99) : Co_carryLane 0 (gc (4 * b + j) : Int) (m : Int) (tc (16 * b + (4 * j + m)) : Int) (r : Int) h kr = Th_reckon (tc (16 * b + (4 * j + m)) : Int) (r : Int) h (fun _ h9 => kr 45 h9) := by
  obtain ⟨i1, i2, i3, i4, i5⟩ := x.ir
  obtain ⟨-, -, -, -, -, -, -, -, z2, z3⟩ := zone_all c
  have hT := (lc_th x).1
  unfold Co_carryLane Co_carryLane_171
  rw [zob_n i1, x_isOneOf (s := 2) rfl i1, i2, z2, decide_eq_false h1, tb_f, if_pos rfl, zob_n i1, x_isOneOf (s := 3) rfl i1, i2, z3, decide_eq_false h2, tb_f, if_pos rfl, zob_n i1, i2, if_neg h3, zob_n i1, i2, if_neg h4, zob_n i1, i2, if_neg h5, zob_n hT]
theorem lo_add (x : LC A h K L bc tc gc n B N M u i b j m k p r a b2 d c F) (hc : c = 43) : LO ρ g A h K L bc tc gc n B N M u i b j m k p r a b2 d c := by
  subst hc
  obtain ⟨-, o1, o2, o3, -⟩ := x.ok
  have ha := o1 (Or.inl rfl)
  have hb2 := o2 (Or.inl rfl)
  have hd := o3 (Or.inl rfl)
  obtain ⟨bn, rfl⟩ : ∃ q : Nat, b2 = (q : Int) := ⟨b2.toNat, by omega⟩
  obtain ⟨dn, rfl⟩ : ∃ q : Nat, d = (q : Int) := ⟨d.toNat, by omega⟩
  obtain ⟨i1, i2, i3, i4, i5⟩ := x.ir
  obtain ⟨j1, j2, j3, j4⟩ := x.ia
  have i3 := i3 (by decide)
  have j2 := j2 (by decide)
  obtain ⟨t1, t2, t3, t4, t5, t6⟩ := lc_th x
  have hk8 := x.kk.2.1
  have hm4 := x.ml.2.1
  refine lo_reg x (v := zcomp 43 (A 109 (8 * m + bn)) (A 109 (8 * m + dn))) ha.2 ?_ (by decide) (by decide) (fun kr => ?_) (fun kr => ?_)
  · unfold zcomp zir
    have w1 := wr_rng (A 109 (8 * m + bn) + A 109 (8 * m + dn))
    have w2 := wr_rng (A 109 (8 * m + bn) - A 109 (8 * m + dn))
    have w3 := wr_rng (A 109 (8 * m + bn) * A 109 (8 * m + dn))
    simp only [reduceIte, Int.reduceEq]
    exact w1
  · rw [x_cl x (by decide) (by decide) (by decide) (by decide) (by decide), x_rk_add x.q.rd t1 i1 i2 i3 i4 i5 (by omega) (by omega) (by omega), t6 bn hb2.2, t6 dn hd.2]
  · rw [if_neg (by decide), m_dl x.ml, j2, j3, j4]
    simp only [reduceIte, Int.reduceEq, or_true, true_or, or_self, false_or, or_false, if_true, if_false]
    rw [m_lane hm4 (by omega), mD68, j4, m_lane hm4 (by omega), m_set x.ml.1 hm4 (by omega)]
    rfl
theorem lo_sub (x : LC A h K L bc tc gc n B N M u i b j m k p r a b2 d c F) (hc : c = 45) : LO ρ g A h K L bc tc gc n B N M u i b j m k p r a b2 d c := by
  subst hc
  obtain ⟨-, o1, o2, o3, -⟩ := x.ok
  have ha := o1 (Or.inl rfl)
  have hb2 := o2 (Or.inl rfl)
  have hd := o3 (Or.inl rfl)
  obtain ⟨bn, rfl⟩ : ∃ q : Nat, b2 = (q : Int) := ⟨b2.toNat, by omega⟩
  obtain ⟨dn, rfl⟩ : ∃ q : Nat, d = (q : Int) := ⟨d.toNat, by omega⟩
  obtain ⟨i1, i2, i3, i4, i5⟩ := x.ir
  obtain ⟨j1, j2, j3, j4⟩ := x.ia
  have i3 := i3 (by decide)
  have j2 := j2 (by decide)
  obtain ⟨t1, t2, t3, t4, t5, t6⟩ := lc_th x
  have hk8 := x.kk.2.1
  have hm4 := x.ml.2.1
  refine lo_reg x (v := zcomp 45 (A 109 (8 * m + bn)) (A 109 (8 * m + dn))) ha.2 ?_ (by decide) (by decide) (fun kr => ?_) (fun kr => ?_)
  · unfold zcomp zir
    have w1 := wr_rng (A 109 (8 * m + bn) + A 109 (8 * m + dn))
    have w2 := wr_rng (A 109 (8 * m + bn) - A 109 (8 * m + dn))
    have w3 := wr_rng (A 109 (8 * m + bn) * A 109 (8 * m + dn))
    simp only [reduceIte, Int.reduceEq]
    exact w2
  · rw [x_cl x (by decide) (by decide) (by decide) (by decide) (by decide), x_rk_sub x.q.rd t1 i1 i2 i3 i4 i5 (by omega) (by omega) (by omega), t6 bn hb2.2, t6 dn hd.2]
  · rw [if_neg (by decide), m_dl x.ml, j2, j3, j4]
    simp only [reduceIte, Int.reduceEq, or_true, true_or, or_self, false_or, or_false, if_true, if_false]
    rw [m_lane hm4 (by omega), mD68, j4, m_lane hm4 (by omega), m_set x.ml.1 hm4 (by omega)]
    rfl
theorem lo_mul (x : LC A h K L bc tc gc n B N M u i b j m k p r a b2 d c F) (hc : c = 42) : LO ρ g A h K L bc tc gc n B N M u i b j m k p r a b2 d c := by
  subst hc
  obtain ⟨-, o1, o2, o3, -⟩ := x.ok
  have ha := o1 (Or.inl rfl)
  have hb2 := o2 (Or.inl rfl)
  have hd := o3 (Or.inl rfl)
  obtain ⟨bn, rfl⟩ : ∃ q : Nat, b2 = (q : Int) := ⟨b2.toNat, by omega⟩
  obtain ⟨dn, rfl⟩ : ∃ q : Nat, d = (q : Int) := ⟨d.toNat, by omega⟩
  obtain ⟨i1, i2, i3, i4, i5⟩ := x.ir
  obtain ⟨j1, j2, j3, j4⟩ := x.ia
  have i3 := i3 (by decide)
  have j2 := j2 (by decide)
  obtain ⟨t1, t2, t3, t4, t5, t6⟩ := lc_th x
  have hk8 := x.kk.2.1
  have hm4 := x.ml.2.1
  refine lo_reg x (v := zcomp 42 (A 109 (8 * m + bn)) (A 109 (8 * m + dn))) ha.2 ?_ (by decide) (by decide) (fun kr => ?_) (fun kr => ?_)
  · unfold zcomp zir
    have w1 := wr_rng (A 109 (8 * m + bn) + A 109 (8 * m + dn))
    have w2 := wr_rng (A 109 (8 * m + bn) - A 109 (8 * m + dn))
    have w3 := wr_rng (A 109 (8 * m + bn) * A 109 (8 * m + dn))
    simp only [reduceIte, Int.reduceEq]
    exact w3
  · rw [x_cl x (by decide) (by decide) (by decide) (by decide) (by decide), x_rk_mul x.q.rd t1 i1 i2 i3 i4 i5 (by omega) (by omega) (by omega), t6 bn hb2.2, t6 dn hd.2]
  · rw [if_neg (by decide), m_dl x.ml, j2, j3, j4]
    simp only [reduceIte, Int.reduceEq, or_true, true_or, or_self, false_or, or_false, if_true, if_false]
    rw [m_lane hm4 (by omega), mD68, j4, m_lane hm4 (by omega), m_set x.ml.1 hm4 (by omega)]
    rfl
theorem lo_lt (x : LC A h K L bc tc gc n B N M u i b j m k p r a b2 d c F) (hc : c = 60) : LO ρ g A h K L bc tc gc n B N M u i b j m k p r a b2 d c := by
  subst hc
  obtain ⟨-, o1, o2, o3, -⟩ := x.ok
  have ha := o1 (Or.inl rfl)
  have hb2 := o2 (Or.inl rfl)
  have hd := o3 (Or.inl rfl)
  obtain ⟨bn, rfl⟩ : ∃ q : Nat, b2 = (q : Int) := ⟨b2.toNat, by omega⟩
  obtain ⟨dn, rfl⟩ : ∃ q : Nat, d = (q : Int) := ⟨d.toNat, by omega⟩
  obtain ⟨i1, i2, i3, i4, i5⟩ := x.ir
  obtain ⟨j1, j2, j3, j4⟩ := x.ia
  have i3 := i3 (by decide)
  have j2 := j2 (by decide)
  obtain ⟨t1, t2, t3, t4, t5, t6⟩ := lc_th x
  have hk8 := x.kk.2.1
  have hm4 := x.ml.2.1
  refine lo_reg x (v := zcomp 60 (A 109 (8 * m + bn)) (A 109 (8 * m + dn))) ha.2 ?_ (by decide) (by decide) (fun kr => ?_) (fun kr => ?_)
  · unfold zcomp zir
    have w1 := wr_rng (A 109 (8 * m + bn) + A 109 (8 * m + dn))
    have w2 := wr_rng (A 109 (8 * m + bn) - A 109 (8 * m + dn))
    have w3 := wr_rng (A 109 (8 * m + bn) * A 109 (8 * m + dn))
    simp only [reduceIte, Int.reduceEq]
    split <;> omega
  · rw [x_cl x (by decide) (by decide) (by decide) (by decide) (by decide), x_rk_lt x.q.rd t1 i1 i2 i3 i4 i5 (by omega) (by omega) (by omega), t6 bn hb2.2, t6 dn hd.2]
  · rw [if_neg (by decide), m_dl x.ml, j2, j3, j4]
    simp only [reduceIte, Int.reduceEq, or_true, true_or, or_self, false_or, or_false, if_true, if_false]
    rw [m_lane hm4 (by omega), mD68, j4, m_lane hm4 (by omega), m_set x.ml.1 hm4 (by omega)]
    rfl
theorem lo_eq (x : LC A h K L bc tc gc n B N M u i b j m k p r a b2 d c F) (hc : c = 61) : LO ρ g A h K L bc tc gc n B N M u i b j m k p r a b2 d c := by
  subst hc
  obtain ⟨-, o1, o2, o3, -⟩ := x.ok
  have ha := o1 (Or.inl rfl)
  have hb2 := o2 (Or.inl rfl)
  have hd := o3 (Or.inl rfl)
  obtain ⟨bn, rfl⟩ : ∃ q : Nat, b2 = (q : Int) := ⟨b2.toNat, by omega⟩
  obtain ⟨dn, rfl⟩ : ∃ q : Nat, d = (q : Int) := ⟨d.toNat, by omega⟩
  obtain ⟨i1, i2, i3, i4, i5⟩ := x.ir
  obtain ⟨j1, j2, j3, j4⟩ := x.ia
  have i3 := i3 (by decide)
  have j2 := j2 (by decide)
  obtain ⟨t1, t2, t3, t4, t5, t6⟩ := lc_th x
  have hk8 := x.kk.2.1
  have hm4 := x.ml.2.1
  refine lo_reg x (v := zcomp 61 (A 109 (8 * m + bn)) (A 109 (8 * m + dn))) ha.2 ?_ (by decide) (by decide) (fun kr => ?_) (fun kr => ?_)
  · unfold zcomp zir
    have w1 := wr_rng (A 109 (8 * m + bn) + A 109 (8 * m + dn))
    have w2 := wr_rng (A 109 (8 * m + bn) - A 109 (8 * m + dn))
    have w3 := wr_rng (A 109 (8 * m + bn) * A 109 (8 * m + dn))
    simp only [reduceIte, Int.reduceEq]
    split <;> omega
  · rw [x_cl x (by decide) (by decide) (by decide) (by decide) (by decide), x_rk_eq x.q.rd t1 i1 i2 i3 i4 i5 (by omega) (by omega) (by omega), t6 bn hb2.2, t6 dn hd.2]
  · rw [if_neg (by decide), m_dl x.ml, j2, j3, j4]
    simp only [reduceIte, Int.reduceEq, or_true, true_or, or_self, false_or, or_false, if_true, if_false]
    rw [m_lane hm4 (by omega), mD68, j4, m_lane hm4 (by omega), m_set x.ml.1 hm4 (by omega)]
    rfl
theorem lo_k (x : LC A h K L bc tc gc n B N M u i b j m k p r a b2 d c F) (hc : c = 107) : LO ρ g A h K L bc tc gc n B N M u i b j m k p r a b2 d c := by
  subst hc
  obtain ⟨-, o1, -⟩ := x.ok
  have ha := o1 (by decide)
  obtain ⟨i1, i2, i3, i4, i5⟩ := x.ir
  obtain ⟨j1, j2, j3, j4⟩ := x.ia
  have i3 := i3 (by decide)
  have j2 := j2 (by decide)
  obtain ⟨t1, t2, t3, t4, t5, t6⟩ := lc_th x
  have hk8 := x.kk.2.1
  have hm4 := x.ml.2.1
  have hj4 : j < 4 := x.ml.1.2.2.1
  refine lo_reg x (v := b2) ha.2 (by have := (x.q.iv (40 * k + p)).2.1; rw [fg_c (by decide), j3] at this; exact this) (by decide) (by decide) (fun kr => ?_) (fun kr => ?_)
  · rw [x_cl x (by decide) (by decide) (by decide) (by decide) (by decide), x_rk_k x.q.rd t1 i1 i2 i3 i4 (by omega)]
  · rw [if_neg (by decide), m_dl x.ml, j2, j3]
    simp only [reduceIte, Int.reduceEq, if_true, if_false]
    rw [m_set x.ml.1 hm4 (by omega)]
    rfl
theorem lo_t (x : LC A h K L bc tc gc n B N M u i b j m k p r a b2 d c F) (hc : c = 116) : LO ρ g A h K L bc tc gc n B N M u i b j m k p r a b2 d c := by
  subst hc
  obtain ⟨-, o1, -⟩ := x.ok
  have ha := o1 (by decide)
  obtain ⟨i1, i2, i3, i4, i5⟩ := x.ir
  obtain ⟨j1, j2, j3, j4⟩ := x.ia
  have i3 := i3 (by decide)
  have j2 := j2 (by decide)
  obtain ⟨t1, t2, t3, t4, t5, t6⟩ := lc_th x
  have hk8 := x.kk.2.1
  have hm4 := x.ml.2.1
  have hj4 : j < 4 := x.ml.1.2.2.1
  refine lo_reg x (v := ((4 * j + m : Nat) : Int)) ha.2 (by unfold zir; omega) (by decide) (by decide) (fun kr => ?_) (fun kr => ?_)
  · rw [x_cl x (by decide) (by decide) (by decide) (by decide) (by decide), x_rk_t x.q.rd t1 i1 i2 i3 (by omega), t3]
  · rw [if_neg (by decide), m_dl x.ml, j2]
    simp only [reduceIte, Int.reduceEq, if_true, if_false]
    rw [m_set x.ml.1 hm4 (by omega)]
    rfl
theorem lo_n (x : LC A h K L bc tc gc n B N M u i b j m k p r a b2 d c F) (hc : c = 110) : LO ρ g A h K L bc tc gc n B N M u i b j m k p r a b2 d c := by
  subst hc
  obtain ⟨-, o1, -⟩ := x.ok
  have ha := o1 (by decide)
  obtain ⟨i1, i2, i3, i4, i5⟩ := x.ir
  obtain ⟨j1, j2, j3, j4⟩ := x.ia
  have i3 := i3 (by decide)
  have j2 := j2 (by decide)
  obtain ⟨t1, t2, t3, t4, t5, t6⟩ := lc_th x
  have hk8 := x.kk.2.1
  have hm4 := x.ml.2.1
  have hj4 : j < 4 := x.ml.1.2.2.1
  refine lo_reg x (v := ((b % 6 : Nat) : Int)) ha.2 (by unfold zir; omega) (by decide) (by decide) (fun kr => ?_) (fun kr => ?_)
  · rw [x_cl x (by decide) (by decide) (by decide) (by decide) (by decide), x_rk_n x.q.rd t1 i1 i2 i3 (by omega), t4]
  · rw [if_neg (by decide), m_dl x.ml, j2]
    simp only [reduceIte, Int.reduceEq, if_true, if_false]
    rw [m_set x.ml.1 hm4 (by omega)]
    rfl
theorem lo_l (x : LC A h K L bc tc gc n B N M u i b j m k p r a b2 d c F) (hc : c = 108) : LO ρ g A h K L bc tc gc n B N M u i b j m k p r a b2 d c := by
  subst hc
  obtain ⟨-, o1, -⟩ := x.ok
  have ha := o1 (by decide)
  obtain ⟨i1, i2, i3, i4, i5⟩ := x.ir
  obtain ⟨j1, j2, j3, j4⟩ := x.ia
  have i3 := i3 (by decide)
  have j2 := j2 (by decide)
  obtain ⟨t1, t2, t3, t4, t5, t6⟩ := lc_th x
  have hk8 := x.kk.2.1
  have hm4 := x.ml.2.1
  have hj4 : j < 4 := x.ml.1.2.2.1
  refine lo_reg x (v := (m : Int)) ha.2 (by unfold zir; omega) (by decide) (by decide) (fun kr => ?_) (fun kr => ?_)
  · rw [x_cl x (by decide) (by decide) (by decide) (by decide) (by decide), x_rk_l x.q.rd t1 i1 i2 i3 (by omega), t3, show Int.tmod ((4 * j + m : Nat) : Int) 4 = (m : Int) by rw [Int.tmod_eq_emod_of_nonneg (by omega)]; omega]
  · rw [if_neg (by decide), m_dl x.ml, j2]
    simp only [reduceIte, Int.reduceEq, if_true, if_false]
    rw [m_set x.ml.1 hm4 (by omega)]
    rfl
theorem lo_no (x : LC A h K L bc tc gc n B N M u i b j m k p r a b2 d c F) (hc : c = 122 ∨ c = 106 ∨ c = 98 ∨ c = 102 ∨ c = 101) : LO ρ g A h K L bc tc gc n B N M u i b j m k p r a b2 d c := by
  obtain ⟨-, o1, -, -, o5, -⟩ := x.ok
  obtain ⟨i1, i2, i3, i4, i5⟩ := x.ir
  obtain ⟨j1, j2, j3, j4⟩ := x.ia
  obtain ⟨t1, t2, t3, t4, t5, t6⟩ := lc_th x
  have hk8 := x.kk.2.1
  have hm4 := x.ml.2.1
  have ha : c = 122 → (a : Int) < A 61 k := fun z => by
    subst z
    exact (o1 (by decide)).2
  have hX : ∀ kr : Int → zH → Option ρ, Co_carryLane 0 (gc (4 * b + j) : Int) (m : Int) (tc (16 * b + (4 * j + m)) : Int) (r : Int) h kr = kr 45 h := fun kr => by
    rw [x_cl x (by omega) (by omega) (by omega) (by omega) (by omega), x_rk_no i1 (by rw [i2]; exact hc)]
  refine ⟨h, A, L, le0, hX, fun kr => ?_, x.q.up, LF.rfl', fun z => t6 a (ha z), fun z => by omega, fun _ => ⟨rfl, rfl, rfl⟩⟩
  rw [if_neg (by omega), m_dl x.ml, j3]
  rcases hc with rfl | rfl | rfl | rfl | rfl
  · simp only [reduceIte, Int.reduceEq, if_true, if_false]
    rw [j2 (by decide), m_lane hm4 (by have := ha rfl; omega), mD67, j3]
    unfold znx
    by_cases hz : A 109 (8 * m + a) = 0
    · rw [if_pos hz, if_pos (Or.inr ⟨rfl, hz⟩)]
    · rw [if_neg hz, if_neg (fun z => by omega)]
  · simp [znx]
  · simp [znx]
  · simp [znx]
  · simp [znx]
end
