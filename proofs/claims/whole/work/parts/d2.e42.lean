/-! WHAT A THREAD RECKONS -/
def zcomp (c x y : Int) : Int := if c = 43 then wr (x + y) else if c = 45 then wr (x - y) else if c = 42 then wr (x * y) else if c = 60 then (if x < y then 1 else 0) else if x = y then 1 else 0
section
variable {ρ : Type} {h g : zH} {A B : zA} {kr : Int → zH → Option ρ} {K L n : Nat} {bc tc gc : Nat → Nat} {N M : Int}
theorem x_rk_add (qd : RD h) {T r a b d : Nat} (hT : T < zhN h 6) (hr : r < zhN h 8) (hc : zhD h 8 r 0 = 43) (h1 : zhD h 8 r 1 = (a : Int)) (h2 : zhD h 8 r 2 = (b : Int)) (h3 : zhD h 8 r 3 = (d : Int)) (ha : a < zhL h 32 T) (hb : b < zhL h 32 T) (hd : d < zhL h 32 T) : Th_reckon (T : Int) (r : Int) h kr = kr 0 (zset h 32 T a (zcomp 43 (zhD h 32 T b) (zhD h 32 T d))) := by
  have wa : zwi (a : Int) 0 ((zhL h 32 T : Int) - 1) = true := by
    unfold zwi
    simp
    omega
  have wb : zwi (b : Int) 0 ((zhL h 32 T : Int) - 1) = true := by
    unfold zwi
    simp
    omega
  have wd : zwi (d : Int) 0 ((zhL h 32 T : Int) - 1) = true := by
    unfold zwi
    simp
    omega
  have tb2 : ∀ (kr2 : Int → zH → Option ρ), Th_at (T : Int) (b : Int) h kr2 = kr2 (zhD h 32 T b) h := fun kr2 => by
    rw [x_at qd hT, wb]
    rfl
  have td2 : ∀ (kr2 : Int → zH → Option ρ), Th_at (T : Int) (d : Int) h kr2 = kr2 (zhD h 32 T d) h := fun kr2 => by
    rw [x_at qd hT, wd]
    rfl
  have sa : ∀ (v : Int) (kr2 : Int → zH → Option ρ), Th_set (T : Int) (a : Int) v h kr2 = kr2 0 (zset h 32 T a v) := fun v kr2 => by
    rw [x_set qd hT, wa]
    rfl
  unfold Th_reckon Th_reckon_216 Th_reckon_251 Th_reckon_304
  simp only [zob_n hr, zob_n hT, hc, h1, h2, h3]
  simp [tb2, td2, sa, zob_n hr, zob_n hT, h2, h3, zcomp]
theorem x_rk_sub (qd : RD h) {T r a b d : Nat} (hT : T < zhN h 6) (hr : r < zhN h 8) (hc : zhD h 8 r 0 = 45) (h1 : zhD h 8 r 1 = (a : Int)) (h2 : zhD h 8 r 2 = (b : Int)) (h3 : zhD h 8 r 3 = (d : Int)) (ha : a < zhL h 32 T) (hb : b < zhL h 32 T) (hd : d < zhL h 32 T) : Th_reckon (T : Int) (r : Int) h kr = kr 0 (zset h 32 T a (zcomp 45 (zhD h 32 T b) (zhD h 32 T d))) := by
  have wa : zwi (a : Int) 0 ((zhL h 32 T : Int) - 1) = true := by
    unfold zwi
    simp
    omega
  have wb : zwi (b : Int) 0 ((zhL h 32 T : Int) - 1) = true := by
    unfold zwi
    simp
    omega
  have wd : zwi (d : Int) 0 ((zhL h 32 T : Int) - 1) = true := by
    unfold zwi
    simp
    omega
  have tb2 : ∀ (kr2 : Int → zH → Option ρ), Th_at (T : Int) (b : Int) h kr2 = kr2 (zhD h 32 T b) h := fun kr2 => by
    rw [x_at qd hT, wb]
    rfl
  have td2 : ∀ (kr2 : Int → zH → Option ρ), Th_at (T : Int) (d : Int) h kr2 = kr2 (zhD h 32 T d) h := fun kr2 => by
    rw [x_at qd hT, wd]
    rfl
  have sa : ∀ (v : Int) (kr2 : Int → zH → Option ρ), Th_set (T : Int) (a : Int) v h kr2 = kr2 0 (zset h 32 T a v) := fun v kr2 => by
    rw [x_set qd hT, wa]
    rfl
  unfold Th_reckon Th_reckon_216 Th_reckon_251 Th_reckon_304
  simp only [zob_n hr, zob_n hT, hc, h1, h2, h3]
  simp [tb2, td2, sa, zob_n hr, zob_n hT, h2, h3, zcomp]
theorem x_rk_mul (qd : RD h) {T r a b d : Nat} (hT : T < zhN h 6) (hr : r < zhN h 8) (hc : zhD h 8 r 0 = 42) (h1 : zhD h 8 r 1 = (a : Int)) (h2 : zhD h 8 r 2 = (b : Int)) (h3 : zhD h 8 r 3 = (d : Int)) (ha : a < zhL h 32 T) (hb : b < zhL h 32 T) (hd : d < zhL h 32 T) : Th_reckon (T : Int) (r : Int) h kr = kr 0 (zset h 32 T a (zcomp 42 (zhD h 32 T b) (zhD h 32 T d))) := by
  have wa : zwi (a : Int) 0 ((zhL h 32 T : Int) - 1) = true := by
    unfold zwi
    simp
    omega
  have wb : zwi (b : Int) 0 ((zhL h 32 T : Int) - 1) = true := by
    unfold zwi
    simp
    omega
  have wd : zwi (d : Int) 0 ((zhL h 32 T : Int) - 1) = true := by
    unfold zwi
    simp
    omega
  have tb2 : ∀ (kr2 : Int → zH → Option ρ), Th_at (T : Int) (b : Int) h kr2 = kr2 (zhD h 32 T b) h := fun kr2 => by
    rw [x_at qd hT, wb]
    rfl
  have td2 : ∀ (kr2 : Int → zH → Option ρ), Th_at (T : Int) (d : Int) h kr2 = kr2 (zhD h 32 T d) h := fun kr2 => by
    rw [x_at qd hT, wd]
    rfl
  have sa : ∀ (v : Int) (kr2 : Int → zH → Option ρ), Th_set (T : Int) (a : Int) v h kr2 = kr2 0 (zset h 32 T a v) := fun v kr2 => by
    rw [x_set qd hT, wa]
    rfl
  unfold Th_reckon Th_reckon_216 Th_reckon_251 Th_reckon_304
  simp only [zob_n hr, zob_n hT, hc, h1, h2, h3]
  simp [tb2, td2, sa, zob_n hr, zob_n hT, h2, h3, zcomp]
theorem x_rk_lt (qd : RD h) {T r a b d : Nat} (hT : T < zhN h 6) (hr : r < zhN h 8) (hc : zhD h 8 r 0 = 60) (h1 : zhD h 8 r 1 = (a : Int)) (h2 : zhD h 8 r 2 = (b : Int)) (h3 : zhD h 8 r 3 = (d : Int)) (ha : a < zhL h 32 T) (hb : b < zhL h 32 T) (hd : d < zhL h 32 T) : Th_reckon (T : Int) (r : Int) h kr = kr 0 (zset h 32 T a (zcomp 60 (zhD h 32 T b) (zhD h 32 T d))) := by
  have wa : zwi (a : Int) 0 ((zhL h 32 T : Int) - 1) = true := by
    unfold zwi
    simp
    omega
  have wb : zwi (b : Int) 0 ((zhL h 32 T : Int) - 1) = true := by
    unfold zwi
    simp
    omega
  have wd : zwi (d : Int) 0 ((zhL h 32 T : Int) - 1) = true := by
    unfold zwi
    simp
    omega
  have tb2 : ∀ (kr2 : Int → zH → Option ρ), Th_at (T : Int) (b : Int) h kr2 = kr2 (zhD h 32 T b) h := fun kr2 => by
    rw [x_at qd hT, wb]
    rfl
  have td2 : ∀ (kr2 : Int → zH → Option ρ), Th_at (T : Int) (d : Int) h kr2 = kr2 (zhD h 32 T d) h := fun kr2 => by
    rw [x_at qd hT, wd]
    rfl
  have sa : ∀ (v : Int) (kr2 : Int → zH → Option ρ), Th_set (T : Int) (a : Int) v h kr2 = kr2 0 (zset h 32 T a v) := fun v kr2 => by
    rw [x_set qd hT, wa]
    rfl
  unfold Th_reckon Th_reckon_216 Th_reckon_251 Th_reckon_304
  simp only [zob_n hr, zob_n hT, hc, h1, h2, h3]
  simp [tb2, td2, sa, zob_n hr, zob_n hT, h2, h3, zcomp]
  split <;> simp [sa]
theorem x_rk_eq (qd : RD h) {T r a b d : Nat} (hT : T < zhN h 6) (hr : r < zhN h 8) (hc : zhD h 8 r 0 = 61) (h1 : zhD h 8 r 1 = (a : Int)) (h2 : zhD h 8 r 2 = (b : Int)) (h3 : zhD h 8 r 3 = (d : Int)) (ha : a < zhL h 32 T) (hb : b < zhL h 32 T) (hd : d < zhL h 32 T) : Th_reckon (T : Int) (r : Int) h kr = kr 0 (zset h 32 T a (zcomp 61 (zhD h 32 T b) (zhD h 32 T d))) := by
  have wa : zwi (a : Int) 0 ((zhL h 32 T : Int) - 1) = true := by
    unfold zwi
    simp
    omega
  have wb : zwi (b : Int) 0 ((zhL h 32 T : Int) - 1) = true := by
    unfold zwi
    simp
    omega
  have wd : zwi (d : Int) 0 ((zhL h 32 T : Int) - 1) = true := by
    unfold zwi
    simp
    omega
  have tb2 : ∀ (kr2 : Int → zH → Option ρ), Th_at (T : Int) (b : Int) h kr2 = kr2 (zhD h 32 T b) h := fun kr2 => by
    rw [x_at qd hT, wb]
    rfl
  have td2 : ∀ (kr2 : Int → zH → Option ρ), Th_at (T : Int) (d : Int) h kr2 = kr2 (zhD h 32 T d) h := fun kr2 => by
    rw [x_at qd hT, wd]
    rfl
  have sa : ∀ (v : Int) (kr2 : Int → zH → Option ρ), Th_set (T : Int) (a : Int) v h kr2 = kr2 0 (zset h 32 T a v) := fun v kr2 => by
    rw [x_set qd hT, wa]
    rfl
  unfold Th_reckon Th_reckon_216 Th_reckon_251 Th_reckon_304
  simp only [zob_n hr, zob_n hT, hc, h1, h2, h3]
  simp [tb2, td2, sa, zob_n hr, zob_n hT, h2, h3, zcomp]
  split <;> simp [sa]
theorem x_rk_k (qd : RD h) {T r a : Nat} (hT : T < zhN h 6) (hr : r < zhN h 8) (hc : zhD h 8 r 0 = 107) (h1 : zhD h 8 r 1 = (a : Int)) {v : Int} (h2 : zhD h 8 r 2 = v) (ha : a < zhL h 32 T)  : Th_reckon (T : Int) (r : Int) h kr = kr 0 (zset h 32 T a (v)) := by
  have wa : zwi (a : Int) 0 ((zhL h 32 T : Int) - 1) = true := by
    unfold zwi
    simp
    omega
  have sa : ∀ (v : Int) (kr2 : Int → zH → Option ρ), Th_set (T : Int) (a : Int) v h kr2 = kr2 0 (zset h 32 T a v) := fun v kr2 => by
    rw [x_set qd hT, wa]
    rfl
  unfold Th_reckon Th_reckon_216 Th_reckon_251 Th_reckon_304
  simp only [zob_n hr, zob_n hT, hc, h1, h2]
  simp [sa, zob_n hT]
theorem x_rk_t (qd : RD h) {T r a : Nat} (hT : T < zhN h 6) (hr : r < zhN h 8) (hc : zhD h 8 r 0 = 116) (h1 : zhD h 8 r 1 = (a : Int))  (ha : a < zhL h 32 T)  : Th_reckon (T : Int) (r : Int) h kr = kr 0 (zset h 32 T a (zhD h 6 T 0)) := by
  have wa : zwi (a : Int) 0 ((zhL h 32 T : Int) - 1) = true := by
    unfold zwi
    simp
    omega
  have sa : ∀ (v : Int) (kr2 : Int → zH → Option ρ), Th_set (T : Int) (a : Int) v h kr2 = kr2 0 (zset h 32 T a v) := fun v kr2 => by
    rw [x_set qd hT, wa]
    rfl
  unfold Th_reckon Th_reckon_216 Th_reckon_251 Th_reckon_304
  simp only [zob_n hr, zob_n hT, hc, h1]
  simp [sa, zob_n hT]
theorem x_rk_n (qd : RD h) {T r a : Nat} (hT : T < zhN h 6) (hr : r < zhN h 8) (hc : zhD h 8 r 0 = 110) (h1 : zhD h 8 r 1 = (a : Int))  (ha : a < zhL h 32 T)  : Th_reckon (T : Int) (r : Int) h kr = kr 0 (zset h 32 T a (zhD h 6 T 2)) := by
  have wa : zwi (a : Int) 0 ((zhL h 32 T : Int) - 1) = true := by
    unfold zwi
    simp
    omega
  have sa : ∀ (v : Int) (kr2 : Int → zH → Option ρ), Th_set (T : Int) (a : Int) v h kr2 = kr2 0 (zset h 32 T a v) := fun v kr2 => by
    rw [x_set qd hT, wa]
    rfl
  unfold Th_reckon Th_reckon_216 Th_reckon_251 Th_reckon_304
  simp only [zob_n hr, zob_n hT, hc, h1]
  simp [sa, zob_n hT]
theorem x_rk_l (qd : RD h) {T r a : Nat} (hT : T < zhN h 6) (hr : r < zhN h 8) (hc : zhD h 8 r 0 = 108) (h1 : zhD h 8 r 1 = (a : Int))  (ha : a < zhL h 32 T)  : Th_reckon (T : Int) (r : Int) h kr = kr 0 (zset h 32 T a (Int.tmod (zhD h 6 T 0) 4)) := by
  have wa : zwi (a : Int) 0 ((zhL h 32 T : Int) - 1) = true := by
    unfold zwi
    simp
    omega
  have sa : ∀ (v : Int) (kr2 : Int → zH → Option ρ), Th_set (T : Int) (a : Int) v h kr2 = kr2 0 (zset h 32 T a v) := fun v kr2 => by
    rw [x_set qd hT, wa]
    rfl
  unfold Th_reckon Th_reckon_216 Th_reckon_251 Th_reckon_304
  simp only [zob_n hr, zob_n hT, hc, h1]
  simp [sa, zob_n hT]
theorem x_rk_no {T r : Nat} (hr : r < zhN h 8) (hc : zhD h 8 r 0 = 122 ∨ zhD h 8 r 0 = 106 ∨ zhD h 8 r 0 = 98 ∨ zhD h 8 r 0 = 102 ∨ zhD h 8 r 0 = 101) : Th_reckon (T : Int) (r : Int) h kr = kr 0 h := by
  unfold Th_reckon Th_reckon_304
  rw [zob_n hr]
  rcases hc with z | z | z | z | z <;> simp [z]
/-! the model -/
theorem m_compute {c x y : Int} : M_compute c x y h kr = kr (zcomp c x y) h := by
  unfold M_compute M_compute_61 zcomp
  split
  · rfl
  · split
    · rfl
    · split
      · rfl
      · split
        · split <;> rfl
        · split <;> rfl
/-- a lane of a group carries out an instruction at a place of the code -/
def ML (A : zA) (y b j m k : Nat) (p : Nat) : Prop := MG A y b j ∧ m < 4 ∧ ((4 * j + m : Nat) : Int) < A 73 (b / 6) ∧ A 70 (b / 6) = (k : Int) ∧ k < 4 ∧ A 90 (16 * b + (4 * j + m)) = (p : Int) ∧ p < 40
theorem m_dl {y b j m k p : Nat} {c : Int} (x : ML A y b j m k p) : M_doLane (y : Int) (m : Int) c ((40 * k + p : Nat) : Int) (mh g A) kr =
    (if c = 107 then M_set (y : Int) (m : Int) (A 66 (40 * k + p)) (A 67 (40 * k + p)) (mh g A) (fun _ h2 => M_doLane_413 kr c (b : Int) ((16 * b + (4 * j + m) : Nat) : Int) ((p : Int) + 1) h2)
    else if c = 116 then M_set (y : Int) (m : Int) (A 66 (40 * k + p)) ((4 * j + m : Nat) : Int) (mh g A) (fun _ h2 => M_doLane_413 kr c (b : Int) ((16 * b + (4 * j + m) : Nat) : Int) ((p : Int) + 1) h2)
    else if c = 110 then M_set (y : Int) (m : Int) (A 66 (40 * k + p)) ((b % 6 : Nat) : Int) (mh g A) (fun _ h2 => M_doLane_413 kr c (b : Int) ((16 * b + (4 * j + m) : Nat) : Int) ((p : Int) + 1) h2)
    else if c = 108 then M_set (y : Int) (m : Int) (A 66 (40 * k + p)) (m : Int) (mh g A) (fun _ h2 => M_doLane_413 kr c (b : Int) ((16 * b + (4 * j + m) : Nat) : Int) ((p : Int) + 1) h2)
    else if c = 118 then M_vote (A 67 (40 * k + p)) (mh g A) (fun v h3 => M_set (y : Int) (m : Int) (A 66 (40 * k + p)) v h3 (fun _ h2 => M_doLane_413 kr c (b : Int) ((16 * b + (4 * j + m) : Nat) : Int) ((p : Int) + 1) h2))
    else if c = 115 then M_lane (m : Int) (A 68 (40 * k + p)) (mh g A) (fun v h3 => M_modulo v h3 (fun v2 h4 => M_isUnder v2 h4 (fun v3 h5 => M_doLane_212 kr c ((40 * k + p : Nat) : Int) (b : Int) ((16 * b + (4 * j + m) : Nat) : Int) ((p : Int) + 1) (if v3 = 0 then (m : Int) else v2) (zhD h4 66 0 (40 * k + p)) (m : Int) (y : Int) h5)))
    else if c = 122 then M_lane (m : Int) (A 66 (40 * k + p)) (mh g A) (fun v h3 => if v = 0 then M_doLane_413 kr c (b : Int) ((16 * b + (4 * j + m) : Nat) : Int) (zhD h3 67 0 (40 * k + p)) h3 else M_doLane_413 kr c (b : Int) ((16 * b + (4 * j + m) : Nat) : Int) ((p : Int) + 1) h3)
    else if c = 106 then M_doLane_413 kr c (b : Int) ((16 * b + (4 * j + m) : Nat) : Int) (A 67 (40 * k + p)) (mh g A)
    else if c = 99 then M_lane (m : Int) (A 68 (40 * k + p)) (mh g A) (fun v h3 => M_launchChild ((b / 6 : Nat) : Int) (A 67 (40 * k + p)) v h3 (fun v2 h4 => M_set (y : Int) (m : Int) (A 66 (40 * k + p)) (if v2 = 0 then 0 else 1) h4 (fun _ h2 => M_doLane_413 kr c (b : Int) ((16 * b + (4 * j + m) : Nat) : Int) ((p : Int) + 1) h2)))
    else if c = 43 ∨ c = 45 ∨ c = 42 ∨ c = 60 ∨ c = 61 then M_lane (m : Int) (A 67 (40 * k + p)) (mh g A) (fun v3 h4 => M_lane (m : Int) (zhD h4 68 0 (40 * k + p)) h4 (fun v6 h7 => M_set (y : Int) (m : Int) (A 66 (40 * k + p)) (zcomp c v3 v6) h7 (fun _ h2 => M_doLane_413 kr c (b : Int) ((16 * b + (4 * j + m) : Nat) : Int) ((p : Int) + 1) h2)))
    else M_doLane_413 kr c (b : Int) ((16 * b + (4 * j + m) : Nat) : Int) ((p : Int) + 1) (mh g A)) := by
  obtain ⟨gg, hm, hlt, h70, hk, h90, hp⟩ := x
  obtain ⟨hy, hb, hi, e94, e95, t0, t16⟩ := id gg
  have i1 : 40 * k + p < 160 := by omega
  have i2 : 16 * b + (4 * j + m) < 1152 := by omega
  have ht : 4 * j + m < 16 := by omega
  have w1 : wr ((p : Int) + 1) = (p : Int) + 1 := wr_id (by omega) (by omega)
  unfold M_doLane M_doLane_88 M_doLane_124 M_doLane_261 M_doLane_336 M_doLane_372
  simp only [zix_n hy, mD94, mD95, e94, e95, wi2 hi (Nat.le_of_lt hm), m_threadCell hb ht, zix_n i2, mD90, h90, w1, zix_n i1, mD66, mD67, mD68, wtm6, wtd6 hb]
  clear w1
  by_cases c107 : c = 107
  · subst c107
    simp
  by_cases c116 : c = 116
  · subst c116
    simp
  by_cases c110 : c = 110
  · subst c110
    simp
  by_cases c108 : c = 108
  · subst c108
    simp
  by_cases c118 : c = 118
  · subst c118
    simp
  by_cases c115 : c = 115
  · subst c115
    simp
    refine congrArg (M_lane _ _ _) (funext fun v => funext fun h3 => congrArg (M_modulo _ _) (funext fun v2 => funext fun h4 => congrArg (M_isUnder _ _) (funext fun v3 => funext fun h5 => ?_)))
    split <;> rfl
  by_cases c122 : c = 122
  · subst c122
    simp
  by_cases c106 : c = 106
  · subst c106
    simp
  by_cases c99 : c = 99
  · subst c99
    simp
    refine congrArg (M_lane _ _ _) (funext fun v => funext fun h3 => congrArg (M_launchChild _ _ _ _) (funext fun v2 => funext fun h4 => ?_))
    split <;> rfl
  by_cases cb : c = 43 ∨ c = 45 ∨ c = 42 ∨ c = 60 ∨ c = 61
  · rcases cb with rfl | rfl | rfl | rfl | rfl <;> simp [m_compute]
  · have n1 : c ≠ 43 := fun z => cb (by omega)
    have n2 : c ≠ 45 := fun z => cb (by omega)
    have n3 : c ≠ 42 := fun z => cb (by omega)
    have n4 : c ≠ 60 := fun z => cb (by omega)
    have n5 : c ≠ 61 := fun z => cb (by omega)
    simp [c107, c116, c110, c108, c118, c115, c122, c106, c99, n1, n2, n3, n4, n5]
end
