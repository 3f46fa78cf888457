/-! A BLOCK LEAVES: the model -/
def zsh4 (s : Nat → Int) (lo hi : Nat) : Nat → Int := fun j => if lo ≤ j ∧ j < hi then s (j + 4) else s j
theorem zsh4_s {s : Nat → Int} {lo hi : Nat} (h : lo ≤ hi) : zup (zsh4 s lo hi) hi (s (hi + 4)) = zsh4 s lo (hi + 1) := by
  funext j
  unfold zup zsh4
  by_cases h1 : j = hi
  · rw [if_pos h1, if_pos (by omega), h1]
  · rw [if_neg h1]
    by_cases h2 : lo ≤ j ∧ j < hi
    · rw [if_pos h2, if_pos (by omega)]
    · rw [if_neg h2, if_neg (by omega)]
theorem zsh4_h {s : Nat → Int} {lo hi : Nat} : zsh4 s lo hi (hi + 4) = s (hi + 4) := if_neg (by omega)
theorem zsh4_0 {s : Nat → Int} {lo : Nat} : zsh4 s lo lo = s := funext fun j => if_neg (by omega)
/-- rows of groups moved up: places lo to g, and k cells of buffers more -/
def RGi (A : zA) (lo g e : Nat) : zA := ard (ard (ard (ard (ard (ard A 94 (zshf (A 94) lo g)) 95 (zshf (A 95) lo g)) 96 (zshf (A 96) lo g)) 97 (zshf (A 97) lo g)) 98 (zsh4 (A 98) (4 * lo) e)) 99 (zsh4 (A 99) (4 * lo) e)
theorem RGi_r {A : zA} {lo g e : Nat} : RGi A lo g e 94 = zshf (A 94) lo g ∧ RGi A lo g e 95 = zshf (A 95) lo g ∧ RGi A lo g e 96 = zshf (A 96) lo g ∧ RGi A lo g e 97 = zshf (A 97) lo g ∧ RGi A lo g e 98 = zsh4 (A 98) (4 * lo) e ∧ RGi A lo g e 99 = zsh4 (A 99) (4 * lo) e := by
  unfold RGi
  refine ⟨?_, ?_, ?_, ?_, ?_, ?_⟩
  · rw [ard_ne (by decide), ard_ne (by decide), ard_ne (by decide), ard_ne (by decide), ard_ne (by decide), ard_same]
  · rw [ard_ne (by decide), ard_ne (by decide), ard_ne (by decide), ard_ne (by decide), ard_same]
  · rw [ard_ne (by decide), ard_ne (by decide), ard_ne (by decide), ard_same]
  · rw [ard_ne (by decide), ard_ne (by decide), ard_same]
  · rw [ard_ne (by decide), ard_same]
  · rw [ard_same]
theorem RGi_c {A : zA} {lo g e c : Nat} (h : c < 94 ∨ 99 < c) : RGi A lo g e c = A c := by
  unfold RGi
  rw [ard_ne (by omega), ard_ne (by omega), ard_ne (by omega), ard_ne (by omega), ard_ne (by omega), ard_ne (by omega)]
theorem zA_ext {A B : zA} (h : ∀ c, A c = B c) : A = B := funext h
theorem RGi_row {A X : zA} {lo g e : Nat} (h94 : X 94 = zshf (A 94) lo g) (h95 : X 95 = zshf (A 95) lo g) (h96 : X 96 = zshf (A 96) lo g) (h97 : X 97 = zshf (A 97) lo g) (h98 : X 98 = zsh4 (A 98) (4 * lo) e) (h99 : X 99 = zsh4 (A 99) (4 * lo) e) (ho : ∀ c, c < 94 ∨ 99 < c → X c = A c) : X = RGi A lo g e := by
  obtain ⟨r1, r2, r3, r4, r5, r6⟩ := RGi_r (A := A) (lo := lo) (g := g) (e := e)
  refine zA_ext (fun c => ?_)
  by_cases h : c < 94 ∨ 99 < c
  · rw [ho c h, RGi_c h]
  · rcases (show c = 94 ∨ c = 95 ∨ c = 96 ∨ c = 97 ∨ c = 98 ∨ c = 99 by omega) with rfl | rfl | rfl | rfl | rfl | rfl
    · rw [h94, r1]
    · rw [h95, r2]
    · rw [h96, r3]
    · rw [h97, r4]
    · rw [h98, r5]
    · rw [h99, r6]
theorem RGi_next {A : zA} {lo g e : Nat} (h : 4 * lo ≤ e) : au (au (RGi A lo g e) 98 e (A 98 (e + 4))) 99 e (A 99 (e + 4)) = RGi A lo g (e + 1) := by
  obtain ⟨r1, r2, r3, r4, r5, r6⟩ := RGi_r (A := A) (lo := lo) (g := g) (e := e)
  refine RGi_row ?_ ?_ ?_ ?_ ?_ ?_ (fun c hc => ?_)
  · rw [au_ne (by decide), au_ne (by decide), r1]
  · rw [au_ne (by decide), au_ne (by decide), r2]
  · rw [au_ne (by decide), au_ne (by decide), r3]
  · rw [au_ne (by decide), au_ne (by decide), r4]
  · rw [au_ne (by decide), au_zup, r5, zsh4_s h]
  · rw [au_zup, au_ne (by decide), r6, zsh4_s h]
  · rw [au_ne (by omega), au_ne (by omega), RGi_c hc]
theorem RGi_g {A : zA} {lo g e : Nat} (h : lo ≤ g) : au (au (au (au (RGi A lo g e) 94 g (A 94 (g + 1))) 95 g (A 95 (g + 1))) 96 g (A 96 (g + 1))) 97 g (A 97 (g + 1)) = RGi A lo (g + 1) e := by
  obtain ⟨r1, r2, r3, r4, r5, r6⟩ := RGi_r (A := A) (lo := lo) (g := g) (e := e)
  refine RGi_row ?_ ?_ ?_ ?_ ?_ ?_ (fun c hc => ?_)
  · rw [au_ne (by decide), au_ne (by decide), au_ne (by decide), au_zup, r1, zshf_s h]
  · rw [au_ne (by decide), au_ne (by decide), au_zup, au_ne (by decide), r2, zshf_s h]
  · rw [au_ne (by decide), au_zup, au_ne (by decide), au_ne (by decide), r3, zshf_s h]
  · rw [au_zup, au_ne (by decide), au_ne (by decide), au_ne (by decide), r4, zshf_s h]
  · rw [au_ne (by decide), au_ne (by decide), au_ne (by decide), au_ne (by decide), r5]
  · rw [au_ne (by decide), au_ne (by decide), au_ne (by decide), au_ne (by decide), r6]
  · rw [au_ne (by omega), au_ne (by omega), au_ne (by omega), au_ne (by omega), RGi_c hc]
theorem wr_g4 {g k : Nat} (hg : g < 8) (hk : k < 4) : wr (wr (wr (4 * (g : Int)) + 4) + (k : Int)) = ((4 * g + k + 4 : Nat) : Int) ∧ wr (wr (4 * (g : Int)) + (k : Int)) = ((4 * g + k : Nat) : Int) := by
  have e1 : wr (4 * (g : Int)) = 4 * (g : Int) := wr_id (by omega) (by omega)
  rw [e1]
  have e2 : wr (4 * (g : Int) + 4) = 4 * (g : Int) + 4 := wr_id (by omega) (by omega)
  rw [e2]
  clear e1 e2
  rw [wr_id (by omega) (by omega), wr_id (by omega) (by omega)]
  omega
section
variable {ρ : Type} {h g : zH} {A B : zA} {kr : Int → zH → Option ρ}
theorem m_rg89 {r16 : Int → Int → zH → Option ρ} {u lo g0 : Nat} (hg : g0 + 1 < 8) (hlo : lo ≤ g0) : ∀ f k : Nat, k ≤ 4 → 4 - k < f → zit (fun _ _ _ _ => none) (M_removeGroup_89b kr r16) f (u : Int) (g0 : Int) (k : Int) (mh g (RGi A lo (g0 + 1) (4 * g0 + k))) = r16 (u : Int) ((g0 + 1 : Nat) : Int) (mh g (RGi A lo (g0 + 1) (4 * (g0 + 1))))
  | 0, k, _, hf => absurd hf (Nat.not_lt_zero _)
  | f + 1, k, hk, hf => by
    rw [zit_s]
    by_cases h4 : k < 4
    · have ih := m_rg89 (r16 := r16) (u := u) hg hlo f (k + 1) h4 (by omega)
      have i1 : 4 * g0 + k + 4 < 32 := by omega
      have i2 : 4 * g0 + k < 32 := by omega
      have i4 : (k : Int) < 4 := by omega
      have hle : 4 * lo ≤ 4 * g0 + k := by omega
      have e1 : 4 * g0 + (k + 1) = 4 * g0 + k + 1 := by omega
      rw [e1] at ih
      obtain ⟨w1, w2⟩ := wr_g4 (show g0 < 8 by omega) h4
      obtain ⟨-, -, -, -, r5, r6⟩ := RGi_r (A := A) (lo := lo) (g := g0 + 1) (e := 4 * g0 + k)
      have v98 : RGi A lo (g0 + 1) (4 * g0 + k) 98 (4 * g0 + k + 4) = A 98 (4 * g0 + k + 4) := by rw [r5, zsh4_h]
      have v99 : ∀ v, au (RGi A lo (g0 + 1) (4 * g0 + k)) 98 (4 * g0 + k) v 99 (4 * g0 + k + 4) = A 99 (4 * g0 + k + 4) := fun v => by rw [au_ne (by decide), r6, zsh4_h]
      generalize zit (fun _ _ _ _ => none) (M_removeGroup_89b kr r16) f = r2 at ih ⊢
      unfold M_removeGroup_89b
      rw [if_pos i4, w1, zix_n i1, w2, zix_n i2, mD98, v98, zlet_d, mS98, zix_n i1, zix_n i2, mD99, v99, zlet_d, mS99, RGi_next hle, wk1 hk]
      exact ih
    · have : k = 4 := by omega
      subst this
      have hw : wr ((g0 : Int) + 1) = ((g0 + 1 : Nat) : Int) := by rw [wr_id (by omega) (by omega)]; rfl
      generalize zit (fun _ _ _ _ => none) (M_removeGroup_89b kr r16) f = r2
      unfold M_removeGroup_89b
      rw [if_neg (by decide), hw]
      rfl
theorem m_rg16 {u lo hi : Nat} (hu : u < 2) (hhi : hi < 4 * u + 4) (hlo4 : 4 * u ≤ lo) (h93 : A 93 u = ((hi - 4 * u : Nat) : Int)) : ∀ f g0 : Nat, lo ≤ g0 → g0 ≤ hi → hi - g0 < f → zit (fun _ _ _ => none) (M_removeGroup_16b kr) f (u : Int) (g0 : Int) (mh g (RGi A lo g0 (4 * g0))) = kr 0 (mh g (RGi A lo hi (4 * hi)))
  | 0, g0, _, _, hf => absurd hf (Nat.not_lt_zero _)
  | f + 1, g0, hl, hh, hf => by
    rw [zit_s]
    have e93 : RGi A lo g0 (4 * g0) 93 u = ((hi - 4 * u : Nat) : Int) := by rw [RGi_c (by decide)]; exact h93
    have hw2 : wr (wr (4 * (u : Int)) + ((hi - 4 * u : Nat) : Int)) = (hi : Int) := by
      rw [wr_id (x := 4 * (u : Int)) (by omega) (by omega), wr_id (by omega) (by omega)]
      omega
    by_cases h4 : g0 < hi
    · have hf2 : hi - (g0 + 1) < f := by clear hw2; omega
      have ih := m_rg16 hu hhi hlo4 h93 f (g0 + 1) (by clear hw2; omega) h4 hf2
      have i1 : g0 + 1 < 8 := by clear hw2; omega
      have i2 : g0 < 8 := by clear hw2; omega
      have hlt : (g0 : Int) < (hi : Int) := by clear hw2; omega
      have hw : wr ((g0 : Int) + 1) = ((g0 + 1 : Nat) : Int) := by
        clear hw2
        rw [wr_id (by omega) (by omega)]
        rfl
      obtain ⟨r1, r2, r3, r4, -, -⟩ := RGi_r (A := A) (lo := lo) (g := g0) (e := 4 * g0)
      have v94 : RGi A lo g0 (4 * g0) 94 (g0 + 1) = A 94 (g0 + 1) := by rw [r1, zshf_h.2]
      have v95 : ∀ v, au (RGi A lo g0 (4 * g0)) 94 g0 v 95 (g0 + 1) = A 95 (g0 + 1) := fun v => by rw [au_ne (by decide), r2, zshf_h.2]
      have v96 : ∀ v w, au (au (RGi A lo g0 (4 * g0)) 94 g0 v) 95 g0 w 96 (g0 + 1) = A 96 (g0 + 1) := fun v w => by rw [au_ne (by decide), au_ne (by decide), r3, zshf_h.2]
      have v97 : ∀ v w z, au (au (au (RGi A lo g0 (4 * g0)) 94 g0 v) 95 g0 w) 96 g0 z 97 (g0 + 1) = A 97 (g0 + 1) := fun v w z => by rw [au_ne (by decide), au_ne (by decide), au_ne (by decide), r4, zshf_h.2]
      generalize zit (fun _ _ _ => none) (M_removeGroup_16b kr) f = r9 at ih ⊢
      unfold M_removeGroup_16b
      rw [zix_n hu, mD93, e93, hw2, if_pos hlt, hw, zix_n i1, zix_n i2, mD94, v94, zlet_d, mS94, zix_n i1, zix_n i2, mD95, v95, zlet_d, mS95, zix_n i1, zix_n i2, mD96, v96, zlet_d, mS96, zix_n i1, zix_n i2, mD97, v97, zlet_d, mS97, RGi_g hl]
      exact Eq.trans (m_rg89 (kr := kr) (r16 := r9) (u := u) (A := A) i1 hl zN 0 (by decide) (by show 4 - 0 < 5000; decide)) ih
    · have : g0 = hi := Nat.le_antisymm hh (Nat.le_of_not_lt h4)
      subst this
      generalize zit (fun _ _ _ => none) (M_removeGroup_16b kr) f = r9
      unfold M_removeGroup_16b
      rw [zix_n hu, mD93, e93, hw2, if_neg (Int.lt_irrefl _)]
theorem RGi_0 {lo : Nat} : RGi A lo lo (4 * lo) = A := (RGi_row (zshf_0).symm (zshf_0).symm (zshf_0).symm (zshf_0).symm (zsh4_0).symm (zsh4_0).symm (fun _ _ => rfl)).symm
theorem m_removeGroup {u p m : Nat} (hu : u < 2) (hp : p < m) (hm : m ≤ 4) (h93 : A 93 u = (m : Int)) : M_removeGroup (u : Int) (p : Int) (mh g A) kr = kr 0 (mh g (RGi (au A 93 u ((m - 1 : Nat) : Int)) (4 * u + p) (4 * u + (m - 1)) (4 * (4 * u + (m - 1))))) := by
  have w1 : wr ((m : Int) - 1) = ((m - 1 : Nat) : Int) := by
    rw [wr_id (by omega) (by omega)]
    omega
  have w2 : wr (wr (4 * (u : Int)) + (p : Int)) = ((4 * u + p : Nat) : Int) := by
    clear w1
    rw [wr_id (x := 4 * (u : Int)) (by omega) (by omega), wr_id (by omega) (by omega)]
    omega
  have i1 : 4 * u + (m - 1) < 4 * u + 4 := by clear w1 w2; omega
  have i2 : 4 * u + p ≤ 4 * u + (m - 1) := by clear w1 w2; omega
  have e93 : au A 93 u ((m - 1 : Nat) : Int) 93 u = ((4 * u + (m - 1) - 4 * u : Nat) : Int) := by rw [au_same, Nat.add_sub_cancel_left]
  have i3 : 4 * u + (m - 1) - (4 * u + p) < zN := by
    clear w1 w2
    show _ < 5000
    omega
  unfold M_removeGroup
  rw [zix_n hu, zix_n hu, mD93, h93, w1, mS93, zlet_d, w2]
  have := m_rg16 (kr := kr) (g := g) (A := au A 93 u ((m - 1 : Nat) : Int)) (lo := 4 * u + p) (hi := 4 * u + (m - 1)) hu i1 (Nat.le_add_right _ _) e93 zN (4 * u + p) (Nat.le_refl _) i2 i3
  rw [RGi_0] at this
  exact this
/-- rows of a unit chosen -/
def LVt (A A' : zA) (u : Nat) (s : Nat → Nat) (m : Nat) : Prop := (∀ c, c < 93 ∨ 99 < c → A' c = A c) ∧ A' 93 = zup (A 93) u (m : Int) ∧ (∀ i, i < m → A' 94 (4 * u + i) = A 94 (4 * u + s i) ∧ A' 95 (4 * u + i) = A 95 (4 * u + s i) ∧ A' 96 (4 * u + i) = A 96 (4 * u + s i) ∧ A' 97 (4 * u + i) = A 97 (4 * u + s i) ∧ ∀ k, k < 4 → A' 98 (4 * (4 * u + i) + k) = A 98 (4 * (4 * u + s i) + k) ∧ A' 99 (4 * (4 * u + i) + k) = A 99 (4 * (4 * u + s i) + k)) ∧
  (∀ y, y < 4 * u ∨ 4 * u + 4 ≤ y → A' 94 y = A 94 y ∧ A' 95 y = A 95 y ∧ A' 96 y = A 96 y ∧ A' 97 y = A 97 y ∧ ∀ k, k < 4 → A' 98 (4 * y + k) = A 98 (4 * y + k) ∧ A' 99 (4 * y + k) = A 99 (4 * y + k)) ∧ (∀ j, ∃ j', A' 99 j = A 99 j')
theorem LVt.rm {A1 : zA} {u m p : Nat} {s : Nat → Nat} (x : LVt A A1 u s m) (hm : m ≤ 4) (hp : p < m) : LVt A (RGi (au A1 93 u ((m - 1 : Nat) : Int)) (4 * u + p) (4 * u + (m - 1)) (4 * (4 * u + (m - 1)))) u (fun i => if i < p then s i else s (i + 1)) (m - 1) := by
  obtain ⟨x1, x2, x3, x4, x5⟩ := x
  obtain ⟨r1, r2, r3, r4, r5, r6⟩ := RGi_r (A := au A1 93 u ((m - 1 : Nat) : Int)) (lo := 4 * u + p) (g := 4 * u + (m - 1)) (e := 4 * (4 * u + (m - 1)))
  rw [au_ne (by decide)] at r1 r2 r3 r4 r5 r6
  refine ⟨fun c hc => ?_, ?_, fun i hi => ?_, fun y hy => ?_, fun j => ?_⟩
  · rw [RGi_c (by omega), au_ne (by omega), x1 c hc]
  · rw [RGi_c (by decide), au_zup, x2, zup_upd]
  · rw [r1, r2, r3, r4, r5, r6]
    dsimp only
    unfold zshf zsh4
    by_cases h : i < p
    · obtain ⟨y1, y2, y3, y4, y5⟩ := x3 i (by omega)
      have hc : ¬ (4 * u + p ≤ 4 * u + i ∧ 4 * u + i < 4 * u + (m - 1)) := by omega
      rw [if_pos h, if_neg hc, if_neg hc, if_neg hc, if_neg hc]
      refine ⟨y1, y2, y3, y4, fun k hk => ?_⟩
      rw [if_neg (by omega), if_neg (by omega)]
      exact y5 k hk
    · obtain ⟨y1, y2, y3, y4, y5⟩ := x3 (i + 1) (by omega)
      have hc : 4 * u + p ≤ 4 * u + i ∧ 4 * u + i < 4 * u + (m - 1) := by omega
      rw [if_neg h, if_pos hc, if_pos hc, if_pos hc, if_pos hc]
      refine ⟨y1, y2, y3, y4, fun k hk => ?_⟩
      rw [if_pos (by omega), if_pos (by omega), show 4 * (4 * u + i) + k + 4 = 4 * (4 * u + (i + 1)) + k by omega]
      exact y5 k hk
  · obtain ⟨y1, y2, y3, y4, y5⟩ := x4 y hy
    rw [r1, r2, r3, r4, r5, r6]
    unfold zshf zsh4
    rw [if_neg (by omega), if_neg (by omega), if_neg (by omega), if_neg (by omega)]
    refine ⟨y1, y2, y3, y4, fun k hk => ?_⟩
    rw [if_neg (by omega), if_neg (by omega)]
    exact y5 k hk
  · rw [r6]
    unfold zsh4
    split
    · exact x5 _
    · exact x5 _
/-- a block has left, by the model's rows -/
def LVb (A A' : zA) (b u : Nat) (s : Nat → Nat) (m : Nat) : Prop := (∀ c, c ≠ 87 → c < 93 ∨ 100 < c → A' c = A c) ∧ A' 87 = zup (A 87) b 0 ∧ A' 93 = zup (A 93) u (m : Int) ∧ (∀ i, i < m → A' 94 (4 * u + i) = A 94 (4 * u + s i) ∧ A' 95 (4 * u + i) = A 95 (4 * u + s i) ∧ A' 96 (4 * u + i) = A 96 (4 * u + s i) ∧ A' 97 (4 * u + i) = A 97 (4 * u + s i) ∧ ∀ k, k < 4 → A' 98 (4 * (4 * u + i) + k) = A 98 (4 * (4 * u + s i) + k) ∧ A' 99 (4 * (4 * u + i) + k) = A 99 (4 * (4 * u + s i) + k)) ∧
  (∀ y, y < 4 * u ∨ 4 * u + 4 ≤ y → A' 94 y = A 94 y ∧ A' 95 y = A 95 y ∧ A' 96 y = A 96 y ∧ A' 97 y = A 97 y ∧ ∀ k, k < 4 → A' 98 (4 * y + k) = A 98 (4 * y + k) ∧ A' 99 (4 * y + k) = A 99 (4 * y + k)) ∧ (∀ j, ∃ j', A' 99 j = A 99 j') ∧ A' 100 = (if A 100 u = (b : Int) then zup (A 100) u (-1) else A 100)
theorem leave_loop {b u m0 : Nat} (hb : b < 72) (hu : u < 2) (h4 : m0 ≤ 4) (g : zH) : ∀ (f t m : Nat) (A1 : zA) (s : Nat → Nat), t ≤ m → m ≤ 4 → t < f → LVt A A1 u s m → SEL (fun i => i < t ∨ A 94 (4 * u + i) ≠ (b : Int)) m0 m s → (∀ i, i < t → s i = i) → ∃ (A' : zA) (m' : Nat) (s' : Nat → Nat), (∀ kr : Int → zH → Option ρ, zit (fun _ _ _ _ => none) (M_leave_16b kr) f (b : Int) (u : Int) ((t : Int) - 1) (mh g A1) = kr 0 (mh g A')) ∧ LVb A A' b u s' m' ∧ SEL (fun i => A 94 (4 * u + i) ≠ (b : Int)) m0 m' s'
  | 0, t, _, _, _, _, _, hf, _, _, _ => absurd hf (Nat.not_lt_zero _)
  | f + 1, 0, m, A1, s, _, hm, _, x, y, _ => by
    have y' : SEL (fun i => A 94 (4 * u + i) ≠ (b : Int)) m0 m s := y.congr (fun i _ => ⟨fun z => z.resolve_left (Nat.not_lt_zero _), Or.inr⟩)
    obtain ⟨x1, x2, x3, x4, x5⟩ := x
    have e100 : A1 100 = A 100 := x1 100 (Or.inr (by decide))
    by_cases hl : A 100 u = (b : Int)
    · refine ⟨au (au A1 100 u (-1)) 87 b 0, m, s, fun kr => ?_, ⟨fun c h1 h2 => by rw [au_ne h1, au_ne (by omega), x1 c (by omega)], by rw [au_zup, au_ne (by decide), x1 87 (Or.inl (by decide))], by rw [au_ne (by decide), au_ne (by decide), x2], fun i hi => ?_, fun yy hy => ?_, fun j => ?_, by rw [if_pos hl, au_ne (by decide), au_zup, e100]⟩, y'⟩
      · rw [zit_s]
        unfold M_leave_16b M_leave_63
        rw [if_pos (by decide), zix_n hu, mD100, e100, if_pos hl, zix_n hu, mS100, zlet_d, zix_n hb, mS87, zlet_d]
      · simp only [au_ne (show 94 ≠ 87 by decide), au_ne (show 94 ≠ 100 by decide), au_ne (show 95 ≠ 87 by decide), au_ne (show 95 ≠ 100 by decide), au_ne (show 96 ≠ 87 by decide), au_ne (show 96 ≠ 100 by decide), au_ne (show 97 ≠ 87 by decide), au_ne (show 97 ≠ 100 by decide), au_ne (show 98 ≠ 87 by decide), au_ne (show 98 ≠ 100 by decide), au_ne (show 99 ≠ 87 by decide), au_ne (show 99 ≠ 100 by decide)]
        exact x3 i hi
      · simp only [au_ne (show 94 ≠ 87 by decide), au_ne (show 94 ≠ 100 by decide), au_ne (show 95 ≠ 87 by decide), au_ne (show 95 ≠ 100 by decide), au_ne (show 96 ≠ 87 by decide), au_ne (show 96 ≠ 100 by decide), au_ne (show 97 ≠ 87 by decide), au_ne (show 97 ≠ 100 by decide), au_ne (show 98 ≠ 87 by decide), au_ne (show 98 ≠ 100 by decide), au_ne (show 99 ≠ 87 by decide), au_ne (show 99 ≠ 100 by decide)]
        exact x4 yy hy
      · rw [au_ne (by decide), au_ne (by decide)]
        exact x5 j
    · refine ⟨au A1 87 b 0, m, s, fun kr => ?_, ⟨fun c h1 h2 => by rw [au_ne h1, x1 c (by omega)], by rw [au_zup, x1 87 (Or.inl (by decide))], by rw [au_ne (by decide), x2], fun i hi => ?_, fun yy hy => ?_, fun j => ?_, by rw [if_neg hl, au_ne (by decide), e100]⟩, y'⟩
      · rw [zit_s]
        unfold M_leave_16b M_leave_63
        rw [if_pos (by decide), zix_n hu, mD100, e100, if_neg hl, zix_n hb, mS87, zlet_d]
      · simp only [au_ne (show 94 ≠ 87 by decide), au_ne (show 95 ≠ 87 by decide), au_ne (show 96 ≠ 87 by decide), au_ne (show 97 ≠ 87 by decide), au_ne (show 98 ≠ 87 by decide), au_ne (show 99 ≠ 87 by decide)]
        exact x3 i hi
      · simp only [au_ne (show 94 ≠ 87 by decide), au_ne (show 95 ≠ 87 by decide), au_ne (show 96 ≠ 87 by decide), au_ne (show 97 ≠ 87 by decide), au_ne (show 98 ≠ 87 by decide), au_ne (show 99 ≠ 87 by decide)]
        exact x4 yy hy
      · rw [au_ne (by decide)]
        exact x5 j
  | f + 1, t + 1, m, A1, s, ht, hm, hf, x, y, hs => by
    have hst : s t = t := hs t (Nat.lt_succ_self t)
    have htm : t < m := ht
    have e94 : A1 94 (4 * u + t) = A 94 (4 * u + t) := by
      have := (x.2.2.1 t htm).1
      rw [hst] at this
      exact this
    have i8 : 4 * u + t < 8 := by omega
    have ht0 : ¬ (((t + 1 : Nat) : Int) - 1 < 0) := by omega
    have ec : ((t + 1 : Nat) : Int) - 1 = (t : Int) := by omega
    have w1 : wr (wr (4 * (u : Int)) + (t : Int)) = ((4 * u + t : Nat) : Int) := by
      rw [wr_id (x := 4 * (u : Int)) (by omega) (by omega), wr_id (by omega) (by omega)]
      omega
    have w2 : wr ((t : Int) + (-1)) = (t : Int) - 1 := by
      clear w1
      exact wr_id (by omega) (by omega)
    by_cases hb2 : A 94 (4 * u + t) = (b : Int)
    · have y2 := y.rm htm
      have y3 : SEL (fun i => i < t ∨ A 94 (4 * u + i) ≠ (b : Int)) m0 (m - 1) (fun i => if i < t then s i else s (i + 1)) := y2.congr (fun i _ => by
        clear w1 w2
        constructor
        · rintro ⟨z1, z2⟩
          rw [hst] at z2
          rcases z1 with z1 | z1
          · exact Or.inl (by omega)
          · exact Or.inr z1
        · intro z
          refine ⟨?_, ?_⟩
          · rcases z with z | z
            · exact Or.inl (by omega)
            · exact Or.inr z
          · rw [hst]
            rcases z with z | z
            · omega
            · intro z2
              rw [z2] at z
              exact z hb2)
      have h93 : A1 93 u = (m : Int) := by rw [x.2.1, zup_same]
      obtain ⟨A', m', s', z1, z2, z3⟩ := leave_loop hb hu h4 g f t (m - 1) _ _ (by clear w1 w2; omega) (by clear w1 w2; omega) (Nat.lt_of_succ_lt_succ hf) (x.rm hm htm) y3 (fun i hi => by
        rw [if_pos hi]
        exact hs i (Nat.lt_succ_of_lt hi))
      refine ⟨A', m', s', fun kr => ?_, z2, z3⟩
      rw [zit_s, ← z1 kr]
      generalize zit (fun _ _ _ _ => none) (M_leave_16b kr) f = r9
      unfold M_leave_16b M_leave_40
      rw [if_neg ht0, ec, w1, zix_n i8, mD94, e94, if_pos hb2, m_removeGroup hu htm hm h93, w2]
    · have y3 : SEL (fun i => i < t ∨ A 94 (4 * u + i) ≠ (b : Int)) m0 m s := y.congr (fun i _ => by
        clear w1 w2
        constructor
        · rintro (z1 | z1)
          · by_cases hit : i = t
            · rw [hit]
              exact Or.inr hb2
            · exact Or.inl (by omega)
          · exact Or.inr z1
        · rintro (z1 | z1)
          · exact Or.inl (by omega)
          · exact Or.inr z1)
      obtain ⟨A', m', s', z1, z2, z3⟩ := leave_loop hb hu h4 g f t m A1 s (Nat.le_of_lt htm) hm (Nat.lt_of_succ_lt_succ hf) x y3 (fun i hi => hs i (Nat.lt_succ_of_lt hi))
      refine ⟨A', m', s', fun kr => ?_, z2, z3⟩
      rw [zit_s, ← z1 kr]
      generalize zit (fun _ _ _ _ => none) (M_leave_16b kr) f = r9
      unfold M_leave_16b M_leave_40
      rw [if_neg ht0, ec, w1, zix_n i8, mD94, e94, if_neg hb2, w2]
theorem m_leave {b u m0 : Nat} (hb : b < 72) (hu : u < 2) (h4 : m0 ≤ 4) (h88 : A 88 b = (u : Int)) (h93 : A 93 u = (m0 : Int)) (g : zH) : ∃ (A' : zA) (m' : Nat) (s' : Nat → Nat), (∀ kr : Int → zH → Option ρ, M_leave (b : Int) (mh g A) kr = kr 0 (mh g A')) ∧ LVb A A' b u s' m' ∧ SEL (fun i => A 94 (4 * u + i) ≠ (b : Int)) m0 m' s' := by
  have x0 : LVt A A u (fun i => i) m0 := ⟨fun _ _ => rfl, by rw [← h93]; exact (zup_id rfl).symm, fun i _ => ⟨rfl, rfl, rfl, rfl, fun _ _ => ⟨rfl, rfl⟩⟩, fun y _ => ⟨rfl, rfl, rfl, rfl, fun _ _ => ⟨rfl, rfl⟩⟩, fun j => ⟨j, rfl⟩⟩
  have i5 : m0 < zN := by
    show m0 < 5000
    omega
  obtain ⟨A', m', s', z1, z2, z3⟩ := leave_loop (ρ := ρ) (A := A) hb hu h4 g zN m0 m0 A (fun i => i) (Nat.le_refl _) h4 i5 x0 (SEL.id (fun i hi => Or.inl hi)) (fun _ _ => rfl)
  refine ⟨A', m', s', fun kr => ?_, z2, z3⟩
  have w : wr ((m0 : Int) - 1) = (m0 : Int) - 1 := wr_id (by omega) (by omega)
  unfold M_leave
  rw [zix_n hb, mD88, h88, zix_n hu, mD93, h93, w]
  exact z1 kr
end
