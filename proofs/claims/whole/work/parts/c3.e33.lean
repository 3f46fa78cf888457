/-! BUFFERS, KEPT -/
/-- an array's contents replaced -/
def hrw (h : zH) (c p : Nat) (s : Nat → Int) : zH := (h.1, h.2.1, (fun c' p' j => if c' = c ∧ p' = p then s j else h.2.2.1 c' p' j), h.2.2.2)
theorem hrw_D {h : zH} {c p c' p' j : Nat} {s : Nat → Int} : zhD (hrw h c p s) c' p' j = if c' = c ∧ p' = p then s j else zhD h c' p' j := rfl
theorem hrw_id {h : zH} {c p : Nat} : hrw h c p (zhD h c p) = h := by
  obtain ⟨h1, h2, h3, h4⟩ := h
  refine congrArg (fun f => (h1, h2, f, h4)) (funext fun c' => funext fun p' => funext fun j => ?_)
  show (if c' = c ∧ p' = p then h3 c p j else h3 c' p' j) = _
  split
  · rename_i e
    rw [e.1, e.2]
  · rfl
theorem hrw_set {h : zH} {c p j : Nat} {s : Nat → Int} {v : Int} : zset (hrw h c p s) c p j v = hrw h c p (zup s j v) := by
  obtain ⟨h1, h2, h3, h4⟩ := h
  refine congrArg (fun f => (h1, h2, f, h4)) (funext fun c' => funext fun p' => funext fun j' => ?_)
  show (if c' = c ∧ p' = p ∧ j' = j then v else if c' = c ∧ p' = p then s j' else h3 c' p' j') = if c' = c ∧ p' = p then (if j' = j then v else s j') else h3 c' p' j'
  by_cases hz : c' = c ∧ p' = p
  · rw [if_pos hz, if_pos hz]
    by_cases hj : j' = j
    · rw [if_pos ⟨hz.1, hz.2, hj⟩, if_pos hj]
    · rw [if_neg (fun z => hj z.2.2), if_neg hj]
  · rw [if_neg (fun z => hz ⟨z.1, z.2.1⟩), if_neg hz, if_neg hz]
/-- a memory after the first writes of a buffer -/
def zmw (mem cs vs : Nat → Int) : Nat → (Nat → Int)
  | 0 => mem
  | m + 1 => zup (zmw mem cs vs m) (cs m).toNat (vs m)
theorem zmw_f {cs vs : Nat → Int} : ∀ (m : Nat) (mem : Nat → Int), zmw mem cs vs (m + 1) = zmw (zup mem (cs 0).toNat (vs 0)) (fun k => cs (k + 1)) (fun k => vs (k + 1)) m
  | 0, mem => rfl
  | m + 1, mem => by
    show zup (zmw mem cs vs (m + 1)) _ _ = zup (zmw _ _ _ m) _ _
    rw [zmw_f m mem]
theorem zmw_congr {mem cs vs mem2 cs2 vs2 : Nat → Int} : ∀ m : Nat, (∀ j, j < 64 → mem j = mem2 j) → (∀ k, k < m → cs k = cs2 k ∧ vs k = vs2 k) → ∀ j, j < 64 → zmw mem cs vs m j = zmw mem2 cs2 vs2 m j
  | 0, h1, _, j, hj => h1 j hj
  | m + 1, h1, h2, j, hj => by
    show zup _ _ _ j = zup _ _ _ j
    unfold zup
    rw [(h2 m (Nat.lt_succ_self _)).1, (h2 m (Nat.lt_succ_self _)).2, zmw_congr m h1 (fun k hk => h2 k (Nat.lt_succ_of_lt hk)) j hj]
/-- what a group sees -/
def zsn (mem cs vs : Nat → Int) (c : Int) : Nat → Int
  | 0 => mem c.toNat
  | m + 1 => if cs m = c then vs m else zsn mem cs vs c m
theorem zsn_congr {mem cs vs mem2 cs2 vs2 : Nat → Int} {c : Int} (h1 : mem c.toNat = mem2 c.toNat) : ∀ m : Nat, (∀ k, k < m → cs k = cs2 k ∧ vs k = vs2 k) → zsn mem cs vs c m = zsn mem2 cs2 vs2 c m
  | 0, _ => h1
  | m + 1, h2 => by
    unfold zsn
    rw [(h2 m (Nat.lt_succ_self _)).1, (h2 m (Nat.lt_succ_self _)).2, zsn_congr h1 m (fun k hk => h2 k (Nat.lt_succ_of_lt hk))]
/-- what writes change -/
def Fw (h : zH) (A : zA) (h' : zH) (A' : zA) : Prop := (∀ c, c ≠ 60 → c ≠ 97 → c ≠ 98 → c ≠ 99 → A' c = A c) ∧ (∀ c p j, c ≠ 22 → c ≠ 43 → c ≠ 44 → ¬ (c = 11 ∧ j = 5) → zhD h' c p j = zhD h c p j) ∧ zhN h' = zhN h ∧ zhL h' = zhL h ∧ zhC h' = zhC h ∧ zhS h' = zhS h
theorem Fw.rfl' {h : zH} {A : zA} : Fw h A h A := ⟨fun _ _ _ _ _ => rfl, fun _ _ _ _ _ _ _ => rfl, rfl, rfl, rfl, rfl⟩
theorem Fw.tr {h h1 h2 : zH} {A A1 A2 : zA} (x : Fw h A h1 A1) (y : Fw h1 A1 h2 A2) : Fw h A h2 A2 := by
  obtain ⟨a1, b1, c1, d1, e1, f1⟩ := x
  obtain ⟨a2, b2, c2, d2, e2, f2⟩ := y
  exact ⟨fun c h1 h2 h3 h4 => (a2 c h1 h2 h3 h4).trans (a1 c h1 h2 h3 h4), fun c p j h1 h2 h3 h4 => (b2 c p j h1 h2 h3 h4).trans (b1 c p j h1 h2 h3 h4), c2.trans c1, d2.trans d1, e2.trans e1, f2.trans f1⟩
/-- all writes of a buffer go to the memory -/
def mWA (A : zA) (y : Nat) : Nat → zA
  | 0 => A
  | m + 1 => mWA (mWF A y) y m
def hWA (h : zH) (G : Nat) : zH := zset (hrw h 22 0 (zmw (zhD h 22 0) (zhD h 43 G) (zhD h 44 G) (zhD h 11 G 5).toNat)) 11 G 5 0
theorem mWA_c {y c : Nat} (h60 : c ≠ 60) (h97 : c ≠ 97) (h98 : c ≠ 98) (h99 : c ≠ 99) : ∀ (m : Nat) (A : zA), mWA A y m c = A c
  | 0, A => rfl
  | m + 1, A => (mWA_c h60 h97 h98 h99 m (mWF A y)).trans (mWF_c h60 h97 h98 h99)
theorem mWA_97 {y j : Nat} : ∀ (m : Nat) (A : zA), mWA A y m 97 j = if j = y then A 97 y - (m : Int) else A 97 j
  | 0, A => by
    show A 97 j = _
    split
    · rename_i e
      rw [e]
      omega
    · rfl
  | m + 1, A => by
    show mWA (mWF A y) y m 97 j = _
    rw [mWA_97 m (mWF A y), mWF_97, mWF_97, if_pos rfl]
    split
    · omega
    · rfl
theorem mWA_o {y c j : Nat} (hj : j < 4 * y ∨ 4 * y + 3 ≤ j) (hc : c = 98 ∨ c = 99) : ∀ (m : Nat) (A : zA), A 97 y ≤ 4 → mWA A y m c j = A c j
  | 0, A, _ => rfl
  | m + 1, A, h4 => by
    show mWA (mWF A y) y m c j = _
    rw [mWA_o hj hc m (mWF A y) (by rw [mWF_97, if_pos rfl]; omega)]
    rcases hc with rfl | rfl
    · rw [mWF_98]
      exact if_neg (fun z => by omega)
    · rw [mWF_99]
      exact if_neg (fun z => by omega)
theorem mWA_60 {y : Nat} : ∀ (m : Nat) (A : zA), A 97 y = (m : Int) → mWA A y m 60 = zmw (A 60) (fun k => A 98 (4 * y + k)) (fun k => A 99 (4 * y + k)) m
  | 0, A, _ => rfl
  | m + 1, A, h97 => by
    show mWA (mWF A y) y m 60 = _
    have e97 : mWF A y 97 y = (m : Int) := by
      rw [mWF_97, if_pos rfl]
      omega
    rw [mWA_60 m (mWF A y) e97, zmw_f, mWF_60, mWF_98, mWF_99]
    have hm : (A 97 y - 1).toNat = m := by omega
    rw [hm]
    have key : ∀ (m2 : Nat) (s t : Nat → Int) (mem : Nat → Int), m2 ≤ m → zmw mem (fun k => zshf s (4 * y) (4 * y + m) (4 * y + k)) (fun k => zshf t (4 * y) (4 * y + m) (4 * y + k)) m2 = zmw mem (fun k => s (4 * y + (k + 1))) (fun k => t (4 * y + (k + 1))) m2 := by
      intro m2 s t mem
      induction m2 with
      | zero => exact fun _ => rfl
      | succ m2 ih =>
        intro hm2
        show zup _ _ _ = zup _ _ _
        rw [ih (by omega)]
        have e1 : ∀ s : Nat → Int, zshf s (4 * y) (4 * y + m) (4 * y + m2) = s (4 * y + (m2 + 1)) := fun s => if_pos (by omega)
        simp only [e1]
    exact key m (A 98) (A 99) _ (Nat.le_refl _)
section
variable {ρ : Type} {h : zH} {A B : zA} {kr : Int → zH → Option ρ} {kt : Nat → zH → Option ρ} {K L n G : Nat} {bc tc gc : Nat → Nat} {N M : Int}
/-- two slots -/
theorem RR.two (q : RR A h K L bc tc gc n B N M) {u i b j u2 i2 b2 j2 : Nat} (hu : u < 2) (hi : (i : Int) < A 93 u) (x : A 94 (4 * u + i) = (b : Int)) (y : A 95 (4 * u + i) = (j : Int)) (hu2 : u2 < 2) (hi2 : (i2 : Int) < A 93 u2) (x2 : A 94 (4 * u2 + i2) = (b2 : Int)) (y2 : A 95 (4 * u2 + i2) = (j2 : Int)) :
    (u2 = u ∧ i2 = i ∧ b2 = b ∧ j2 = j) ∨ (4 * u2 + i2 ≠ 4 * u + i ∧ gc (4 * b2 + j2) ≠ gc (4 * b + j)) := by
  obtain ⟨b0, j0, s1, s2, s3, s4, s5, s6, -⟩ := q.slot hu hi
  obtain ⟨b3, j3, t1, t2, t3, t4, t5, t6, -⟩ := q.slot hu2 hi2
  have hm := (q.un hu).2.1
  have hm2 := (q.un hu2).2.1
  have y1 : b0 = b ∧ j0 = j := by omega
  have y2 : b3 = b2 ∧ j3 = j2 := by omega
  obtain ⟨rfl, rfl⟩ := y1
  obtain ⟨rfl, rfl⟩ := y2
  by_cases he : gc (4 * b3 + j3) = gc (4 * b0 + j0)
  · obtain ⟨z1, z2⟩ := q.gh.2 b3 b0 t3 s3 t4 s4 j3 j0 t6 s6 he
    subst z1
    subst z2
    have z3 : u2 = u := by omega
    subst z3
    have z4 : i2 = i := (q.us u2 hu).2.2.1 i2 i hi2 hi (by rw [x2, x]) (by rw [t2, s2])
    exact Or.inl ⟨rfl, z4, rfl, rfl⟩
  · refine Or.inr ⟨fun z => he ?_, he⟩
    have z3 : u2 = u ∧ i2 = i := by omega
    obtain ⟨rfl, rfl⟩ := z3
    rw [show b3 = b0 by omega, show j3 = j0 by omega]
theorem iv_shf {s : Nat → Int} {lo hi : Nat} (hs : ∀ j, zir (s j)) : ∀ j, zir (zshf s lo hi j) := fun j => by
  unfold zshf
  split
  · exact hs _
  · exact hs _
theorem iv_wf (q : IV A) {y : Nat} : IV (mWF A y) := fun i => by
  obtain ⟨h1, h2, h3, h4, h5⟩ := q i
  rw [mWF_c (c := 67) (by decide) (by decide) (by decide) (by decide), mWF_c (c := 91) (by decide) (by decide) (by decide) (by decide), mWF_c (c := 92) (by decide) (by decide) (by decide) (by decide), mWF_60, mWF_99]
  refine ⟨?_, h2, h3, h4, iv_shf (fun j => (q j).2.2.2.2) i⟩
  unfold zup
  split
  · exact (q _).2.2.2.2
  · exact h1
theorem iv_wa {y : Nat} : ∀ (m : Nat) (A : zA), IV A → IV (mWA A y m)
  | 0, A, q => q
  | m + 1, A, q => iv_wa m (mWF A y) (iv_wf q)
theorem rr_wf (q : RR A h K L bc tc gc n B N M) {u i b j : Nat} (hu : u < 2) (hi : (i : Int) < A 93 u) (x : A 94 (4 * u + i) = (b : Int)) (y : A 95 (4 * u + i) = (j : Int)) (h0 : 0 < A 97 (4 * u + i)) : RR (mWF A (4 * u + i)) (hWF h (gc (4 * b + j))) K L bc tc gc n B N M := by
  obtain ⟨d1, d2, d3, d4, d5⟩ := q.ug u i hu hi b j x y
  obtain ⟨f1, f2, f3, f4⟩ := d5 0 (by omega)
  have hA : ∀ c jj, oarmg c jj = true → mWF A (4 * u + i) c jj = A c jj := fun c jj hz => by
    have n1 : c ≠ 60 := fun e => by subst e; cases hz
    have n2 : c ≠ 97 := fun e => by subst e; cases hz
    have n3 : c ≠ 98 := fun e => by subst e; cases hz
    have n4 : c ≠ 99 := fun e => by subst e; cases hz
    rw [mWF_c n1 n2 n3 n4]
  have hD : ∀ c p jj, odrmg c jj = true → zhD (hWF h (gc (4 * b + j))) c p jj = zhD h c p jj := fun c p jj hz => by
    have n1 : c ≠ 43 := fun e => by subst e; cases hz
    have n2 : c ≠ 44 := fun e => by subst e; cases hz
    have n3 : c ≠ 22 := fun e => by subst e; cases hz
    exact hWF_o (fun z => z.1.elim n1 n2) (fun z => by obtain ⟨rfl, -, rfl⟩ := z; cases hz) n3
  refine up_rmg q hA hD rfl rfl rfl rfl ?_ ?_ ?_
  · obtain ⟨m1, m2⟩ := q.rm
    have e12 : mWF A (4 * u + i) 12 = A 12 := mWF_c (by decide) (by decide) (by decide) (by decide)
    have eD : ∀ c p jj, c = 2 ∨ c = 4 → zhD (hWF h (gc (4 * b + j))) c p jj = zhD h c p jj := fun c p jj hc => hWF_o (fun z => by omega) (fun z => by omega) (by omega)
    refine ⟨fun k hk => ?_, ?_⟩
    · rw [mWF_60, hWF_D, if_neg (fun z => by omega), if_neg (fun z => by omega), f1, f2, Nat.add_zero, m1 k hk]
      unfold zup
      by_cases hz : k = (A 98 (4 * (4 * u + i))).toNat
      · rw [if_pos ⟨rfl, rfl, hz⟩, if_pos hz]
      · rw [if_neg (fun z => hz z.2.2), if_neg hz]
    · rw [e12]
      simp only [eD 2 0 _ (Or.inl rfl), eD 4 0 _ (Or.inr rfl)]
      exact m2
  · intro u2 i2 hu2 hi2 b2 j2 x2 y2
    have e12 : mWF A (4 * u + i) 12 = A 12 := mWF_c (by decide) (by decide) (by decide) (by decide)
    have e96 : mWF A (4 * u + i) 96 = A 96 := mWF_c (by decide) (by decide) (by decide) (by decide)
    rw [mWF_c (by decide) (by decide) (by decide) (by decide)] at hi2 x2 y2
    obtain ⟨t1, t2, t3, t4, t5⟩ := q.ug u2 i2 hu2 hi2 b2 j2 x2 y2
    have hm := (q.un hu).2.1
    have hm2 := (q.un hu2).2.1
    rw [e12, e96, hWF_o (q := 6) (fun z => by omega) (fun z => by omega) (by decide), mWF_97, mWF_98, mWF_99]
    rcases q.two hu hi x y hu2 hi2 x2 y2 with ⟨z1, z2, z3, z4⟩ | ⟨z1, z2⟩
    · subst z1
      subst z2
      subst z3
      subst z4
      rw [if_pos rfl, hWF_D, if_neg (fun z => by omega), if_pos ⟨rfl, rfl, rfl⟩, d2]
      refine ⟨t1, rfl, by omega, by omega, fun k hk => ?_⟩
      rw [hWF_D, if_pos ⟨Or.inl rfl, rfl⟩, hWF_D, if_pos ⟨Or.inr rfl, rfl⟩, d2]
      have e1 : ∀ s : Nat → Int, zshf s 0 (A 97 (4 * u2 + i2) - 1).toNat k = s (k + 1) := fun s => if_pos (by omega)
      have e2 : ∀ s : Nat → Int, zshf s (4 * (4 * u2 + i2)) (4 * (4 * u2 + i2) + (A 97 (4 * u2 + i2) - 1).toNat) (4 * (4 * u2 + i2) + k) = s (4 * (4 * u2 + i2) + (k + 1)) := fun s => if_pos (by omega)
      rw [e1, e1, e2, e2]
      exact d5 (k + 1) (by omega)
    · rw [if_neg z1, hWF_o (fun z => by omega) (fun z => z2 z.2.1) (by decide)]
      refine ⟨t1, t2, t3, t4, fun k hk => ?_⟩
      rw [hWF_o (fun z => z2 z.2) (fun z => by omega) (by decide), hWF_o (fun z => z2 z.2) (fun z => by omega) (by decide)]
      have e2 : ∀ s : Nat → Int, zshf s (4 * (4 * u + i)) (4 * (4 * u + i) + (A 97 (4 * u + i) - 1).toNat) (4 * (4 * u2 + i2) + k) = s (4 * (4 * u2 + i2) + k) := fun s => if_neg (fun z => by omega)
      rw [e2, e2]
      exact t5 k hk
  · exact iv_wf q.iv
theorem fw_wf {y : Nat} : Fw h A (hWF h G) (mWF A y) := ⟨fun c h1 h2 h3 h4 => mWF_c h1 h2 h3 h4, fun c p j h1 h2 h3 h4 => hWF_o (fun z => z.1.elim h2 h3) (fun z => h4 ⟨z.1, z.2.2⟩) h1, rfl, rfl, rfl, rfl⟩
theorem m_wa_loop {y : Nat} {v : Int} (hy : y < 8) : ∀ (n m : Nat) (A : zA), m ≤ 4 → m < n → A 97 y = (m : Int) → (∀ k, k < m → 0 ≤ A 98 (4 * y + k) ∧ A 98 (4 * y + k) < 64) → zit (fun _ _ _ => none) (M_writeAll_7b kr) n (y : Int) v (mh h A) = kr v (mh h (mWA A y m))
  | 0, m, A, _, hn, _, _ => absurd hn (Nat.not_lt_zero _)
  | n + 1, 0, A, _, hn, h97, _ => by
    show M_writeAll_7b kr (zit (fun _ _ _ => none) (M_writeAll_7b kr) n) (y : Int) v (mh h A) = _
    unfold M_writeAll_7b
    rw [zix_n hy, mD97, h97, if_neg (by decide)]
    rfl
  | n + 1, m + 1, A, h4, hn, h97, hc => by
    show M_writeAll_7b kr (zit (fun _ _ _ => none) (M_writeAll_7b kr) n) (y : Int) v (mh h A) = _
    have e97 : mWF A y 97 y = (m : Int) := by
      rw [mWF_97, if_pos rfl]
      omega
    have hm : (A 97 y - 1).toNat = m := by omega
    have ih := m_wa_loop (v := v) hy n m (mWF A y) (by omega) (by omega) e97 (fun k hk => by
      rw [mWF_98, hm]
      have e1 : zshf (A 98) (4 * y) (4 * y + m) (4 * y + k) = A 98 (4 * y + (k + 1)) := if_pos (by omega)
      rw [e1]
      exact hc (k + 1) (by omega))
    generalize zit (fun _ _ _ => none) (M_writeAll_7b kr) n = r2 at ih ⊢
    unfold M_writeAll_7b
    rw [zix_n hy, mD97, h97, if_pos (by omega), m_writeFirst hy (by omega) (by omega) (hc 0 (by omega))]
    exact ih
theorem m_writeAll {y m : Nat} (hy : y < 8) (h4 : m ≤ 4) (h97 : A 97 y = (m : Int)) (hc : ∀ k, k < m → 0 ≤ A 98 (4 * y + k) ∧ A 98 (4 * y + k) < 64) : M_writeAll (y : Int) (mh h A) kr = kr (m : Int) (mh h (mWA A y m)) := by
  unfold M_writeAll
  rw [zix_n hy, mD97, h97]
  exact m_wa_loop hy zN m A h4 (by show m < 5000; omega) h97 hc
theorem x_wa_loop (q : RS h) (qd : RD h) (hG : G < zhN h 11) {m : Nat} (h4 : m ≤ 4) (hc : ∀ k, k < m → 0 ≤ zhD h 43 G k ∧ zhD h 43 G k < 64) : ∀ n k : Nat, k ≤ m → m - k < n → zit (fun _ _ _ _ _ => none) (Gr_writeAll_7b kr) n (G : Int) 0 (m : Int) (k : Int) (hrw h 22 0 (zmw (zhD h 22 0) (zhD h 43 G) (zhD h 44 G) k)) = kr (m : Int) (zset (hrw h 22 0 (zmw (zhD h 22 0) (zhD h 43 G) (zhD h 44 G) m)) 11 G 5 0)
  | 0, k, _, hn => absurd hn (Nat.not_lt_zero _)
  | n + 1, k, hk, hn => by
    obtain ⟨n1, n2, n3, n4⟩ := qd.2.2.2.2
    obtain ⟨d2, d3, d4, l2, l3, l4⟩ := n4 G hG
    have g43 : G < zhN h 43 := by omega
    have g44 : G < zhN h 44 := by omega
    show Gr_writeAll_7b kr (zit (fun _ _ _ _ _ => none) (Gr_writeAll_7b kr) n) (G : Int) 0 (m : Int) (k : Int) _ = _
    by_cases hkm : k < m
    · have ih := x_wa_loop q qd hG h4 hc n (k + 1) hkm (by omega)
      have k4 : k < 4 := by clear d2 d3 d4 l2 l3 l4 g43 g44 n1 n2 n3 n4; omega
      have km : (k : Int) < (m : Int) := by clear d2 d3 d4 l2 l3 l4 g43 g44 n1 n2 n3 n4; omega
      have hck := hc k hkm
      have z1 : ∀ kk : Nat → Option ρ, zix 64 (zhD h 43 G k) kk = kk (zhD h 43 G k).toNat := fun kk => zix_i hck.1 (by omega)
      have e1 : zmw (zhD h 22 0) (zhD h 43 G) (zhD h 44 G) (k + 1) = zup (zmw (zhD h 22 0) (zhD h 43 G) (zhD h 44 G) k) (zhD h 43 G k).toNat (zhD h 44 G k) := rfl
      rw [e1] at ih
      generalize zit (fun _ _ _ _ _ => none) (Gr_writeAll_7b kr) n = r2 at ih ⊢
      generalize zmw (zhD h 22 0) (zhD h 43 G) (zhD h 44 G) k = s at ih ⊢
      have o1 : ∀ c p j, c ≠ 22 → zhD (hrw h 22 0 s) c p j = zhD h c p j := fun c p j hc => if_neg (fun z => hc z.1)
      unfold Gr_writeAll_7b
      rw [if_pos km, zob_n (show G < zhN (hrw h 22 0 s) 11 from hG), o1 11 G 3 (by decide), d3, zob_n (show G < zhN (hrw h 22 0 s) 43 from g43), show zhL (hrw h 22 0 s) 43 G = 4 from l3, zix_n k4, zob_n (show G < zhN (hrw h 22 0 s) 11 from hG), o1 11 G 4 (by decide), d4, zob_n (show G < zhN (hrw h 22 0 s) 44 from g44), show zhL (hrw h 22 0 s) 44 G = 4 from l4, zix_n k4, o1 43 G k (by decide), o1 44 G k (by decide), zob_0 (show zhN (hrw h 22 0 s) 22 = 1 from q.N22), show zhL (hrw h 22 0 s) 22 0 = 64 from q.L22_0, z1, zlet_d, hrw_set, wk1 (by omega : k ≤ 4)]
      exact ih
    · have : k = m := by omega
      subst this
      unfold Gr_writeAll_7b
      rw [if_neg (by omega), zob_n (show G < zhN (hrw h 22 0 _) 11 from hG), zlet_d]
theorem x_writeAll (q : RS h) (qd : RD h) (hG : G < zhN h 11) {m : Nat} (h4 : m ≤ 4) (h5 : zhD h 11 G 5 = (m : Int)) (hc : ∀ k, k < m → 0 ≤ zhD h 43 G k ∧ zhD h 43 G k < 64) : Gr_writeAll (G : Int) 0 h kr = kr (m : Int) (hWA h G) := by
  unfold Gr_writeAll
  rw [zob_n hG, h5]
  have hl := x_wa_loop (kr := kr) q qd hG h4 hc zN 0 (Nat.zero_le _) (by show m - 0 < 5000; omega)
  have e0 : hrw h 22 0 (zmw (zhD h 22 0) (zhD h 43 G) (zhD h 44 G) 0) = h := hrw_id
  rw [e0] at hl
  unfold hWA
  rw [h5, Int.toNat_natCast]
  exact hl
theorem hWA_o {c p j : Nat} (h1 : c ≠ 22) (h2 : ¬ (c = 11 ∧ p = G ∧ j = 5)) : zhD (hWA h G) c p j = zhD h c p j := by
  unfold hWA
  rw [zD_set, if_neg h2, hrw_D, if_neg (fun z => h1 z.1)]
theorem fw_wa {y m : Nat} : Fw h A (hWA h G) (mWA A y m) := ⟨fun c h1 h2 h3 h4 => mWA_c h1 h2 h3 h4 m A, fun c p j h1 h2 h3 h4 => hWA_o h1 (fun z => h4 ⟨z.1, z.2.2⟩), rfl, rfl, rfl, rfl⟩
theorem rr_wa (q : RR A h K L bc tc gc n B N M) {u i b j m : Nat} (hu : u < 2) (hi : (i : Int) < A 93 u) (x : A 94 (4 * u + i) = (b : Int)) (y : A 95 (4 * u + i) = (j : Int)) (h97 : A 97 (4 * u + i) = (m : Int)) : RR (mWA A (4 * u + i) m) (hWA h (gc (4 * b + j))) K L bc tc gc n B N M := by
  obtain ⟨d1, d2, d3, d4, d5⟩ := q.ug u i hu hi b j x y
  have hm4 : m ≤ 4 := by omega
  have hA : ∀ c jj, oarmg c jj = true → mWA A (4 * u + i) m c jj = A c jj := fun c jj hz => by
    have n1 : c ≠ 60 := fun e => by subst e; cases hz
    have n2 : c ≠ 97 := fun e => by subst e; cases hz
    have n3 : c ≠ 98 := fun e => by subst e; cases hz
    have n4 : c ≠ 99 := fun e => by subst e; cases hz
    rw [mWA_c n1 n2 n3 n4]
  have hD : ∀ c p jj, odrmg c jj = true → zhD (hWA h (gc (4 * b + j))) c p jj = zhD h c p jj := fun c p jj hz => by
    have n3 : c ≠ 22 := fun e => by subst e; cases hz
    exact hWA_o n3 (fun z => by obtain ⟨rfl, -, rfl⟩ := z; cases hz)
  refine up_rmg q hA hD rfl rfl rfl rfl ?_ ?_ ?_
  · obtain ⟨m1, m2⟩ := q.rm
    have e12 : mWA A (4 * u + i) m 12 = A 12 := mWA_c (by decide) (by decide) (by decide) (by decide) m A
    have eD : ∀ c p jj, c = 2 ∨ c = 4 → zhD (hWA h (gc (4 * b + j))) c p jj = zhD h c p jj := fun c p jj hc => hWA_o (by omega) (fun z => by omega)
    refine ⟨fun k hk => ?_, ?_⟩
    · rw [mWA_60 m A h97]
      unfold hWA
      rw [zD_set, if_neg (fun z => by omega), hrw_D, if_pos ⟨rfl, rfl⟩, d2, h97, Int.toNat_natCast]
      exact zmw_congr m m1 (fun k hk => ⟨(d5 k (by omega)).1, (d5 k (by omega)).2.1⟩) k hk
    · rw [e12]
      simp only [eD 2 0 _ (Or.inl rfl), eD 4 0 _ (Or.inr rfl)]
      exact m2
  · intro u2 i2 hu2 hi2 b2 j2 x2 y2
    have e12 : mWA A (4 * u + i) m 12 = A 12 := mWA_c (by decide) (by decide) (by decide) (by decide) m A
    have e96 : mWA A (4 * u + i) m 96 = A 96 := mWA_c (by decide) (by decide) (by decide) (by decide) m A
    rw [mWA_c (by decide) (by decide) (by decide) (by decide)] at hi2 x2 y2
    obtain ⟨t1, t2, t3, t4, t5⟩ := q.ug u2 i2 hu2 hi2 b2 j2 x2 y2
    have hm := (q.un hu).2.1
    have hm2 := (q.un hu2).2.1
    rw [e12, e96, hWA_o (j := 6) (by decide) (fun z => by omega), mWA_97]
    rcases q.two hu hi x y hu2 hi2 x2 y2 with ⟨z1, z2, z3, z4⟩ | ⟨z1, z2⟩
    · subst z1
      subst z2
      subst z3
      subst z4
      have e5 : zhD (hWA h (gc (4 * b2 + j2))) 11 (gc (4 * b2 + j2)) 5 = 0 := zD_eq
      rw [if_pos rfl, e5, h97]
      exact ⟨t1, by omega, by omega, by omega, fun k hk => by omega⟩
    · rw [if_neg z1, hWA_o (by decide) (fun z => z2 z.2.1)]
      refine ⟨t1, t2, t3, t4, fun k hk => ?_⟩
      rw [hWA_o (by decide) (fun z => by omega), hWA_o (by decide) (fun z => by omega), mWA_o (by omega) (Or.inl rfl) m A (by omega), mWA_o (by omega) (Or.inr rfl) m A (by omega)]
      exact t5 k hk
  · exact iv_wa m A q.iv
end
