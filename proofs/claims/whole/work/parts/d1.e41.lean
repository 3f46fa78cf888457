/-! LANES: figures counted behind; going on -/
/-- the class counts at once what the model counts behind its lanes -/
def fg0 (A : zA) : zA := au (au A 12 55 (A 12 55 + 1)) 12 54 (A 12 54 + A 12 64)
theorem fg0_c {A : zA} {c : Nat} (h : c ≠ 12) : fg0 A c = A c := by
  unfold fg0
  rw [au_ne h, au_ne h]
theorem fg0_j {A : zA} {j : Nat} (h1 : j ≠ 54) (h2 : j ≠ 55) : fg0 A 12 j = A 12 j := by
  unfold fg0
  rw [au_j, if_neg h1, au_j, if_neg h2]
theorem fg0_ext {A X : zA} (h1 : ∀ c, c ≠ 12 → X c = A c) (h2 : ∀ j, j ≠ 54 → j ≠ 55 → X 12 j = A 12 j) (h3 : X 12 55 = A 12 55 + 1) (h4 : X 12 54 = A 12 54 + A 12 64) : X = fg0 A := by
  funext c j
  by_cases hc : c = 12
  · subst hc
    by_cases j54 : j = 54
    · subst j54
      rw [h4]
      unfold fg0
      rw [au_same]
    · by_cases j55 : j = 55
      · subst j55
        rw [h3]
        unfold fg0
        rw [au_j, if_neg (by decide), au_same]
      · rw [h2 j j54 j55, fg0_j j54 j55]
  · rw [h1 c hc, fg0_c hc]
theorem fg0_55 {A : zA} : fg0 A 12 55 = A 12 55 + 1 := by
  unfold fg0
  rw [au_j, if_neg (by decide), au_same]
theorem fg0_54 {A : zA} : fg0 A 12 54 = A 12 54 + A 12 64 := by
  unfold fg0
  rw [au_same]
theorem fg0_au {A : zA} {c j : Nat} {v : Int} (h : c ≠ 12) : au (fg0 A) c j v = fg0 (au A c j v) := by
  have e12 : au A c j v 12 = A 12 := au_ne (fun z => h z.symm)
  refine fg0_ext (fun c2 h2 => ?_) (fun j2 h1 h2 => ?_) ?_ ?_
  · funext j2
    unfold au
    rw [fg0_c h2]
  · rw [au_ne (fun z => h z.symm), e12, fg0_j h1 h2]
  · rw [au_ne (fun z => h z.symm), e12, fg0_55]
  · rw [au_ne (fun z => h z.symm), e12, fg0_54]
theorem fg0_12 {A : zA} {j : Nat} {v : Int} (h1 : j ≠ 54) (h2 : j ≠ 55) (h3 : j ≠ 64) : au (fg0 A) 12 j v = fg0 (au A 12 j v) := by
  refine fg0_ext (fun c2 hc => ?_) (fun j2 k1 k2 => ?_) ?_ ?_
  · rw [au_ne hc, au_ne hc, fg0_c hc]
  · rw [au_j, au_j, fg0_j k1 k2]
  · rw [au_j, if_neg (by omega), fg0_55, au_j, if_neg (by omega)]
  · rw [au_j, if_neg (by omega), fg0_54, au_j, if_neg (by omega), au_j, if_neg (by omega)]
theorem fg0_ard {A : zA} {c : Nat} {s : Nat → Int} (h : c ≠ 12) : ard (fg0 A) c s = fg0 (ard A c s) := by
  have e12 : ard A c s 12 = A 12 := ard_ne (fun z => h z.symm)
  refine fg0_ext (fun c2 h2 => ?_) (fun j2 h1 h2 => ?_) ?_ ?_
  · funext j2
    unfold ard
    rw [fg0_c h2]
  · rw [ard_ne (fun z => h z.symm), e12, fg0_j h1 h2]
  · rw [ard_ne (fun z => h z.symm), e12, fg0_55]
  · rw [ard_ne (fun z => h z.symm), e12, fg0_54]
theorem au_cm {A : zA} {c j c2 j2 : Nat} {v v2 : Int} (h : c ≠ c2) : au (au A c j v) c2 j2 v2 = au (au A c2 j2 v2) c j v := by
  funext c3 j3
  unfold au
  by_cases h1 : c3 = c ∧ j3 = j
  · rw [if_pos h1, if_pos h1, if_neg (fun z => h (h1.1.symm.trans z.1))]
  · rw [if_neg h1, if_neg h1]
theorem ard_cm {A : zA} {c j c2 : Nat} {v : Int} {s : Nat → Int} (h : c ≠ c2) : ard (au A c j v) c2 s = au (ard A c2 s) c j v := by
  funext c3 j3
  unfold au ard
  by_cases h1 : c3 = c2
  · rw [if_pos h1, if_neg (fun z => h (z.1.symm.trans h1)), if_pos h1]
  · rw [if_neg h1, if_neg h1]
/-- .. and notes at once which group came last -/
def fg (u0 b0 j0 : Nat) (A : zA) : zA := au (au (fg0 A) 100 u0 (b0 : Int)) 101 u0 (j0 : Int)
section
variable {u0 b0 j0 : Nat}
theorem fg_c {A : zA} {c : Nat} (h : c ≠ 12 ∧ c ≠ 100 ∧ c ≠ 101) : fg u0 b0 j0 A c = A c := by
  unfold fg
  rw [au_ne h.2.2, au_ne h.2.1, fg0_c h.1]
theorem fg_j {A : zA} {j : Nat} (h1 : j ≠ 54) (h2 : j ≠ 55) : fg u0 b0 j0 A 12 j = A 12 j := by
  unfold fg
  rw [au_ne (by decide), au_ne (by decide), fg0_j h1 h2]
theorem fg_55 {A : zA} : fg u0 b0 j0 A 12 55 = A 12 55 + 1 := by
  unfold fg
  rw [au_ne (by decide), au_ne (by decide), fg0_55]
theorem fg_54 {A : zA} : fg u0 b0 j0 A 12 54 = A 12 54 + A 12 64 := by
  unfold fg
  rw [au_ne (by decide), au_ne (by decide), fg0_54]
theorem fg_au {A : zA} {c j : Nat} {v : Int} (h : c ≠ 12 ∧ c ≠ 100 ∧ c ≠ 101) : au (fg u0 b0 j0 A) c j v = fg u0 b0 j0 (au A c j v) := by
  unfold fg
  rw [au_cm (fun z => h.2.2 z.symm), au_cm (fun z => h.2.1 z.symm), fg0_au h.1]
theorem fg_12 {A : zA} {j : Nat} {v : Int} (h1 : j ≠ 54) (h2 : j ≠ 55) (h3 : j ≠ 64) : au (fg u0 b0 j0 A) 12 j v = fg u0 b0 j0 (au A 12 j v) := by
  unfold fg
  rw [au_cm (by decide), au_cm (c := 100) (by decide), fg0_12 h1 h2 h3]
theorem fg_ard {A : zA} {c : Nat} {s : Nat → Int} (h : c ≠ 12 ∧ c ≠ 100 ∧ c ≠ 101) : ard (fg u0 b0 j0 A) c s = fg u0 b0 j0 (ard A c s) := by
  unfold fg
  rw [ard_cm (fun z => h.2.2 z.symm), ard_cm (fun z => h.2.1 z.symm), fg0_ard h.1]
theorem fg_wf {A : zA} {y : Nat} : mWF (fg u0 b0 j0 A) y = fg u0 b0 j0 (mWF A y) := by
  unfold mWF
  rw [fg_c (c := 98) (by decide), fg_c (c := 99) (by decide), fg_c (c := 97) (by decide), fg_au (by decide), fg_au (by decide), fg_ard (by decide), fg_ard (by decide)]
theorem fg_wa {y : Nat} : ∀ (m : Nat) (A : zA), mWA (fg u0 b0 j0 A) y m = fg u0 b0 j0 (mWA A y m)
  | 0, A => rfl
  | m + 1, A => by
    show mWA (mWF (fg u0 b0 j0 A) y) y m = _
    rw [fg_wf, fg_wa m (mWF A y)]
    rfl
theorem fg_acc {A : zA} {b t c : Nat} {w : Bool} : mAC (fg u0 b0 j0 A) b t c w = fg u0 b0 j0 (mAC A b t c w) := by
  have e1 : zacc (fg u0 b0 j0 A) b t c w = zacc A b t c w := by
    unfold zacc
    rw [fg_c (c := 73) (by decide), fg_c (c := 72) (by decide)]
    have : fK (fg u0 b0 j0 A) b t c w = fK A b t c w := by
      funext k t2
      unfold fK
      rw [fg_c (c := 86) (by decide), fg_c (c := if w = true then 103 else 104) (by cases w <;> decide)]
    rw [this]
  unfold mAC
  rw [e1, fg_c (c := 105) (by decide), fg_c (c := 86) (by decide), fg_c (c := 104) (by decide), fg_au (by decide), fg_au (by decide), fg_au (by decide)]
theorem fg_acs {A : zA} {b t c : Nat} {w : Bool} : mAS (fg u0 b0 j0 A) b t c w = fg u0 b0 j0 (mAS A b t c w) := by
  have e1 : zacs (fg u0 b0 j0 A) b t c w = zacs A b t c w := by
    unfold zacs
    rw [fg_c (c := 73) (by decide)]
    have : fS (fg u0 b0 j0 A) b t c w = fS A b t c w := by
      funext t2
      unfold fS
      rw [fg_c (c := 86) (by decide), fg_c (c := if w = true then 106 else 107) (by cases w <;> decide)]
    rw [this]
  unfold mAS
  rw [e1, fg_c (c := 108) (by decide), fg_c (c := 86) (by decide), fg_c (c := 107) (by decide), fg_au (by decide), fg_au (by decide), fg_au (by decide)]
theorem fg_ch {A : zA} {l L : Nat} {k th : Int} : mCh (fg u0 b0 j0 A) l L k th = fg u0 b0 j0 (mCh A l L k th) := by
  have e1 : zahead (fg u0 b0 j0 A) (-1) L = zahead A (-1) L := by
    have e : ∀ X : zA, zahd X (-1) L = -1 := fun X => if_pos rfl
    unfold zahead
    rw [e, e, if_neg (fun z => z.1 rfl), if_neg (fun z => z.1 rfl)]
  unfold mCh mAdd
  rw [e1, fg_c (c := 77) (by decide), fg_au (by decide), fg_au (by decide), fg_au (by decide), fg_au (by decide), fg_au (by decide), fg_au (by decide), fg_12 (by decide) (by decide) (by decide), fg_au (by decide), fg_au (by decide), fg_au (by decide), fg_au (by decide), fg_au (by decide)]
/-! going on -/
def hGO (h : zH) (T : Nat) (c nx len : Int) : zH := if c = 98 then zset h 6 T 4 119 else if c = 101 then zset h 6 T 4 101 else if nx < len then zset h 6 T 3 nx else zset (zset h 6 T 3 nx) 6 T 4 101
def mGO (A : zA) (x : Nat) (c nx len : Int) : zA := if c = 98 then au A 89 x 119 else au (au A 90 x nx) 89 x (if c = 101 ∨ ¬ nx < len then 101 else 114)
/-- where a thread goes -/
def znx (c b2 pl ra : Int) : Int := if c = 106 ∨ (c = 122 ∧ ra = 0) then b2 else pl + 1
theorem fg_go {A : zA} {x : Nat} {c nx len : Int} : mGO (fg u0 b0 j0 A) x c nx len = fg u0 b0 j0 (mGO A x c nx len) := by
  unfold mGO
  split
  · rw [fg_au (by decide)]
  · rw [fg_au (by decide), fg_au (by decide)]
end
section
variable {ρ : Type} {h g : zH} {A B : zA} {kr : Int → zH → Option ρ} {K L n : Nat} {bc tc gc : Nat → Nat} {N M : Int}
theorem x_goTo {T : Nat} {nx len : Int} (hT : T < zhN h 6) (h0 : 0 ≤ nx) : Th_goTo (T : Int) nx len h kr = kr 0 (if nx < len then zset h 6 T 3 nx else zset (zset h 6 T 3 nx) 6 T 4 101) := by
  unfold Th_goTo Th_goTo_14 Th_goTo_20
  rw [zob_n hT, zlet_d, if_neg (by omega)]
  by_cases hz : nx < len
  · rw [if_pos hz, if_pos hz]
  · rw [if_neg hz, if_neg hz, zob_n (show T < zhN (zset h 6 T 3 nx) 6 from hT), zlet_d]
theorem x_goOn (qd : RD h) {T r : Nat} {len pl : Int} (hT : T < zhN h 6) (hr : r < zhN h 8) (hp : zhD h 6 T 3 = pl) (hp0 : 0 ≤ pl ∧ pl < 1000) (hb : zhD h 8 r 0 = 106 ∨ zhD h 8 r 0 = 122 → 0 ≤ zhD h 8 r 2) (ha : zhD h 8 r 0 = 122 → zwi (zhD h 8 r 1) 0 ((zhL h 32 T : Int) - 1) = true) :
    Th_goOn (T : Int) (r : Int) len h kr = kr 0 (hGO h T (zhD h 8 r 0) (znx (zhD h 8 r 0) (zhD h 8 r 2) pl (zhD h 32 T (zhD h 8 r 1).toNat)) len) := by
  have w1 : wr (pl + 1) = pl + 1 := wr_id (by omega) (by omega)
  have t65 : 0 ≤ zhD h 8 r 2 → Th_goOn_65 kr (T : Int) (r : Int) len h = kr 0 (if zhD h 8 r 2 < len then zset h 6 T 3 (zhD h 8 r 2) else zset (zset h 6 T 3 (zhD h 8 r 2)) 6 T 4 101) := fun h0 => by
    unfold Th_goOn_65 Th_goOn_88
    rw [zob_n hr, zob_n hT, x_goTo hT h0]
  have t77 : Th_goOn_77 kr (T : Int) len h = kr 0 (if pl + 1 < len then zset h 6 T 3 (pl + 1) else zset (zset h 6 T 3 (pl + 1)) 6 T 4 101) := by
    unfold Th_goOn_77 Th_goOn_88
    rw [zob_n hT, zob_n hT, hp, w1, x_goTo hT (by clear w1; omega)]
  clear w1
  unfold Th_goOn Th_goOn_88 hGO znx
  rw [zob_n hr]
  by_cases c98 : zhD h 8 r 0 = 98
  · rw [if_pos c98, if_pos c98, zob_n hT, zlet_d]
  · rw [if_neg c98, if_neg c98, zob_n hr]
    by_cases c101 : zhD h 8 r 0 = 101
    · rw [if_pos c101, if_pos c101, zob_n hT, zlet_d]
    · rw [if_neg c101, if_neg c101, zob_n hr]
      by_cases c106 : zhD h 8 r 0 = 106
      · rw [if_pos c106, if_pos (Or.inl c106), t65 (hb (Or.inl c106))]
      · rw [if_neg c106, zob_n hr]
        by_cases c122 : zhD h 8 r 0 = 122
        · rw [if_pos c122, zob_n hr, zob_n hT, x_at qd hT, ha c122, if_pos rfl]
          by_cases hz : zhD h 32 T (zhD h 8 r 1).toNat = 0
          · rw [if_pos hz, if_pos (Or.inr ⟨c122, hz⟩), t65 (hb (Or.inr c122))]
          · have nz : ¬ (zhD h 8 r 0 = 106 ∨ zhD h 8 r 0 = 122 ∧ zhD h 32 T (zhD h 8 r 1).toNat = 0) := fun z => z.elim c106 (fun z => hz z.2)
            rw [if_neg hz, if_neg nz, t77]
        · have nz : ¬ (zhD h 8 r 0 = 106 ∨ zhD h 8 r 0 = 122 ∧ zhD h 32 T (zhD h 8 r 1).toNat = 0) := fun z => z.elim c106 (fun z => c122 z.1)
          rw [if_neg c122, if_neg nz, t77]
theorem m_413 {b x k : Nat} {c nx : Int} (hb : b < 72) (hx : x < 1152) (hk : k < 4) (hk2 : A 70 (b / 6) = (k : Int)) : M_doLane_413 kr c (b : Int) (x : Int) nx (mh g A) = kr 0 (mh g (mGO A x c nx (A 63 k))) := by
  have n1 : ∀ kk : Int → Option ρ, znar 2 101 kk = kk 101 := fun kk => znar_c (by decide)
  have n2 : ∀ kk : Int → Option ρ, znar 2 114 kk = kk 114 := fun kk => znar_c (by decide)
  unfold M_doLane_413 M_doLane_472 M_doLane_479 M_doLane_480 mGO
  by_cases c98 : c = 98
  · rw [if_pos c98, if_pos c98, zix_n hx, mS89, zlet_d]
  · rw [if_neg c98, if_neg c98, zix_n hx, mS90, zlet_d]
    by_cases c101 : c = 101
    · rw [if_pos c101, if_pos (Or.inl c101), zix_n hx, n1, mS89, zlet_d]
    · rw [if_neg c101, wtd6 hb, zix_n (by omega), mD70, au_ne (by decide), hk2, zix_n hk, mD63, au_ne (by decide)]
      by_cases hz : nx < A 63 k
      · rw [if_pos hz, if_neg (fun z => z.elim c101 (fun z2 => z2 hz)), zix_n hx, n2, mS89, zlet_d]
      · rw [if_neg hz, if_pos (Or.inr hz), zix_n hx, n1, mS89, zlet_d]
theorem rr_go (q : RR A h K L bc tc gc n B N M) {b t : Nat} {c nx : Int} (hb : b < 72) (hin : A 87 b = 1) (ht : (t : Int) < A 73 (b / 6)) (h89 : A 89 (16 * b + t) = 114) (hnx : 0 ≤ nx) :
    RR (mGO A (16 * b + t) c nx (A 63 (A 70 (b / 6)).toNat)) (hGO h (tc (16 * b + t)) c nx (A 63 (A 70 (b / 6)).toNat)) K L bc tc gc n B N M := by
  obtain ⟨d1, d2, d3, d4⟩ := q.td b hb hin t ht
  obtain ⟨e1, e2, e3⟩ := d3 (by omega)
  have sA : ∀ (A2 : zA) (v : Int), ∀ c2 j, ¬ ((c2 = 89 ∨ c2 = 90) ∧ j = 16 * b + t) → au A2 89 (16 * b + t) v c2 j = A2 c2 j := fun A2 v c2 j hz => if_neg (fun z => hz ⟨Or.inl z.1, z.2⟩)
  have sA2 : ∀ (A2 : zA) (v : Int), ∀ c2 j, ¬ ((c2 = 89 ∨ c2 = 90) ∧ j = 16 * b + t) → au A2 90 (16 * b + t) v c2 j = A2 c2 j := fun A2 v c2 j hz => if_neg (fun z => hz ⟨Or.inr z.1, z.2⟩)
  have sD : ∀ (h2 : zH) (v : Int), ∀ c2 p j, ¬ (c2 = 6 ∧ p = tc (16 * b + t) ∧ (j = 3 ∨ j = 4)) → zhD (zset h2 6 (tc (16 * b + t)) 4 v) c2 p j = zhD h2 c2 p j := fun h2 v c2 p j hz => if_neg (fun z => hz ⟨z.1, z.2.1, Or.inr z.2.2⟩)
  have sD2 : ∀ (h2 : zH) (v : Int), ∀ c2 p j, ¬ (c2 = 6 ∧ p = tc (16 * b + t) ∧ (j = 3 ∨ j = 4)) → zhD (zset h2 6 (tc (16 * b + t)) 3 v) c2 p j = zhD h2 c2 p j := fun h2 v c2 p j hz => if_neg (fun z => hz ⟨z.1, z.2.1, Or.inl z.2.2⟩)
  unfold mGO hGO
  by_cases c98 : c = 98
  · rw [if_pos c98, if_pos c98]
    refine rr_st q hb hin ht (sA A 119) (sD h 119) rfl rfl rfl rfl ?_ ?_ ?_
    · rw [au_same]
      exact Or.inr (Or.inl rfl)
    · rw [au_same, zD_eq]
    · rw [au_same, au_ne (by decide), zD_nj (by decide)]
      exact fun _ => ⟨e1, e2, e3⟩
  · rw [if_neg c98, if_neg c98]
    by_cases c101 : c = 101
    · rw [if_pos (Or.inl c101), if_pos c101]
      refine rr_st q hb hin ht (fun c2 j hz => (sA _ 101 c2 j hz).trans (sA2 _ nx c2 j hz)) (sD h 101) rfl rfl rfl rfl ?_ ?_ ?_
      · rw [au_same]
        exact Or.inr (Or.inr rfl)
      · rw [au_same, zD_eq]
      · rw [au_same]
        exact fun z => absurd rfl z
    · rw [if_neg c101]
      by_cases hz : nx < A 63 (A 70 (b / 6)).toNat
      · rw [if_neg (fun z => z.elim c101 (fun z2 => z2 hz)), if_pos hz]
        refine rr_st q hb hin ht (fun c2 j hz => (sA _ 114 c2 j hz).trans (sA2 _ nx c2 j hz)) (sD2 h nx) rfl rfl rfl rfl ?_ ?_ ?_
        · rw [au_same]
          exact Or.inl rfl
        · rw [au_same, zD_nj (by decide), d2, h89]
        · rw [au_same, au_ne (by decide), au_same, zD_eq]
          exact fun _ => ⟨rfl, hnx, hz⟩
      · rw [if_pos (Or.inr hz), if_neg hz]
        refine rr_st q hb hin ht (fun c2 j hz => (sA _ 101 c2 j hz).trans (sA2 _ nx c2 j hz)) (fun c2 p j hz => (sD _ 101 c2 p j hz).trans (sD2 h nx c2 p j hz)) rfl rfl rfl rfl ?_ ?_ ?_
        · rw [au_same]
          exact Or.inr (Or.inr rfl)
        · rw [au_same, zD_eq]
        · rw [au_same]
          exact fun z => absurd rfl z
end
/-! the frame of what a lane does ahead of going on -/
def lfa (c : Nat) : Bool := match c with
  | 61 => true
  | 62 => true
  | 63 => true
  | 65 => true
  | 66 => true
  | 67 => true
  | 68 => true
  | 86 => true
  | 87 => true
  | 88 => true
  | 89 => true
  | 90 => true
  | 93 => true
  | 94 => true
  | 95 => true
  | 96 => true
  | 100 => true
  | 101 => true
  | 102 => true
  | 109 => true
  | _ => false
def lfj (j : Nat) : Bool := match j with
  | 1 => true
  | 2 => true
  | 4 => true
  | 54 => true
  | 55 => true
  | 56 => true
  | 57 => true
  | 58 => true
  | 59 => true
  | 60 => true
  | 63 => true
  | 64 => true
  | 66 => true
  | 67 => true
  | _ => false
def lfd (c j : Nat) : Bool := match c with
  | 8 => true
  | 24 => true
  | 25 => true
  | 27 => true
  | 2 => !(Nat.beq j 10)
  | 4 => !(Nat.beq j 7)
  | 6 => true
  | _ => false
def LF (h : zH) (A : zA) (h' : zH) (A' : zA) (b x L : Nat) : Prop := (∀ c, lfa c = true → A' c = A c) ∧ (∀ c, c = 70 ∨ c = 73 ∨ c = 69 ∨ c = 72 ∨ c = 76 ∨ c = 79 ∨ c = 71 → ∀ l, l < L → A' c l = A c l) ∧ (∀ j, lfj j = true → A' 12 j = A 12 j) ∧ (∀ c p j, lfd c j = true → zhD h' c p j = zhD h c p j) ∧ (∀ i, (i < 8 * x ∨ 8 * x + 8 ≤ i) → A' 91 i = A 91 i) ∧ (∀ c, c ≠ 9 → c ≠ 34 → c ≠ 35 → zhN h' c = zhN h c) ∧ zhN h 9 ≤ zhN h' 9 ∧ (∀ p, zhL h' 32 p = zhL h 32 p)
section
variable {h h1 h2 : zH} {A A1 A2 : zA} {b x L L1 : Nat}
theorem LF.rfl' : LF h A h A b x L := ⟨fun _ _ => rfl, fun _ _ _ _ => rfl, fun _ _ => rfl, fun _ _ _ _ => rfl, fun _ _ => rfl, fun _ _ _ _ => rfl, Nat.le_refl _, fun _ => rfl⟩
theorem LF.tr (u : LF h A h1 A1 b x L) (v : LF h1 A1 h2 A2 b x L1) (hL : L ≤ L1) : LF h A h2 A2 b x L := by
  obtain ⟨a1, a2, a3, a4, a5, a6, a7, a8⟩ := u
  obtain ⟨b1, b2, b3, b4, b5, b6, b7, b8⟩ := v
  exact ⟨fun c hc => (b1 c hc).trans (a1 c hc), fun c hc l hl => (b2 c hc l (by omega)).trans (a2 c hc l hl), fun j hj => (b3 j hj).trans (a3 j hj), fun c p j hc => (b4 c p j hc).trans (a4 c p j hc), fun i hi => (b5 i hi).trans (a5 i hi), fun c h9 h34 h35 => (b6 c h9 h34 h35).trans (a6 c h9 h34 h35), Nat.le_trans a7 b7, fun p => (b8 p).trans (a8 p)⟩
end
