/-! THE LANES' LOOP -/
section
variable {ρ : Type} {h g : zH} {A B : zA} {kr : Int → zH → Option ρ} {K L n : Nat} {bc tc gc : Nat → Nat} {N M : Int} {u i b j m k p r a : Nat} {b2 d c : Int} {F : Nat → Bool}
theorem x_lfault {r63 : Int → Int → Int → Int → Int → Int → Int → zH → Option ρ} (x : LI A h K L bc tc gc n B N M u i b j k p r a b2 d c F m) (hm : m < 4) (hF : F m = true) {f : Int} (hf : ((c = 114 ∨ c = 119 ∨ c = 97 ∨ c = 120) ∧ zwi (zhD h 24 0 m) 0 63 = false ∧ f = 103) ∨ ((c = 82 ∨ c = 87) ∧ zwi (zhD h 24 0 m) 0 (A 62 k - 1) = false ∧ f = 115)) : Co_carryOut_63b kr r63 0 (u : Int) (gc (4 * b + j) : Int) (p : Int) (k : Int) (r : Int) (m : Int) h = Co_fail 0 (bc b : Int) ((4 * j + m : Nat) : Int) (p : Int) f h (fun _ h23 => kr 0 h23) := by
  have lc := x.lc hm hF
  have i4 : (m : Int) < 4 := Int.ofNat_lt.mpr hm
  obtain ⟨hG, e42, g0⟩ := x.grp
  have hf2 : f ≠ 45 := by rcases hf with ⟨-, -, rfl⟩ | ⟨-, -, rfl⟩ <;> decide
  unfold Co_carryOut_63b
  rw [if_pos i4, zob_n hG.1, x_threadIn_n x.q.rd hG hm, e42 m hm, if_pos lc.hlt, if_neg (Int.not_lt.mpr (Int.natCast_nonneg _)), zob_0 x.q.rs.N2, x.ms.1, x_isIn hm, hF, tb_t, if_neg (by decide), zob_0 x.q.rs.N2, x_clf lc hf, if_neg hf2, zob_n hG.1, zob_n lc.t1, zob_0 x.q.rs.N2, g0, lc.t3]
theorem lanes_loop : ∀ (f m n : Nat) (h : zH) (A : zA) (L : Nat), m ≤ 4 → 4 - m < f → LI A h K L bc tc gc n B N M u i b j k p r a b2 d c F m → (∃ (h1 : zH) (A1 : zA) (L1 n2 : Nat), (∀ kr : Int → zH → Option ρ, zit (fun _ _ _ _ _ _ _ _ => none) (Co_carryOut_63b kr) f 0 (u : Int) (gc (4 * b + j) : Int) (p : Int) (k : Int) (r : Int) (m : Int) h = Co_carryOut_63b kr (fun _ _ _ _ _ _ _ _ => none) 0 (u : Int) (gc (4 * b + j) : Int) (p : Int) (k : Int) (r : Int) 4 h1) ∧ (∀ kr : Int → zH → Option ρ, zit (fun _ _ _ _ _ _ => none) (M_doLanes_19b kr) f ((4 * u + i : Nat) : Int) c ((40 * k + p : Nat) : Int) (k : Int) (m : Int) (mh g A) = kr 0 (mh g A1)) ∧ LI A1 h1 K L1 bc tc gc n2 B N M u i b j k p r a b2 d c F 4 ∧ n2 ≤ n + 2 * (4 - m) ∧ L ≤ L1 ∧ LST A A1 c (4 * u + i) b j L F m 4) ∨
  (∃ (h1 : zH) (A1 : zA) (L1 n2 m2 : Nat) (fc : Int), m2 < 4 ∧ F m2 = true ∧ (fc = 103 ∨ fc = 115) ∧ (∀ kr : Int → zH → Option ρ, zit (fun _ _ _ _ _ _ _ _ => none) (Co_carryOut_63b kr) f 0 (u : Int) (gc (4 * b + j) : Int) (p : Int) (k : Int) (r : Int) (m : Int) h = Co_fail 0 (bc b : Int) ((4 * j + m2 : Nat) : Int) (p : Int) fc h1 (fun _ h23 => kr 0 h23)) ∧ (∀ kr : Int → zH → Option ρ, zit (fun _ _ _ _ _ _ => none) (M_doLanes_19b kr) f ((4 * u + i : Nat) : Int) c ((40 * k + p : Nat) : Int) (k : Int) (m : Int) (mh g A) = kr 0 (mh g (au (au A1 12 66 fc) 12 67 (m2 : Int)))) ∧ LI A1 h1 K L1 bc tc gc n2 B N M u i b j k p r a b2 d c F m2 ∧ n2 ≤ n + 2 * (4 - m) ∧ L ≤ L1 ∧ LST A A1 c (4 * u + i) b j L F m m2 ∧ m ≤ m2 ∧ c ≠ 98)
  | 0, m, _, _, _, _, _, hf, _ => absurd hf (Nat.not_lt_zero _)
  | f + 1, m, n, h, A, L, hm4, hf, x => by
    by_cases hm : m < 4
    · have good : ∀ (hF : F m = true), ((c = 114 ∨ c = 119 ∨ c = 97 ∨ c = 120) → zwi (zhD h 24 0 m) 0 63 = true) → ((c = 82 ∨ c = 87) → zwi (zhD h 24 0 m) 0 (A 62 k - 1) = true) → ((∃ (h1 : zH) (A1 : zA) (L1 n2 : Nat), (∀ kr : Int → zH → Option ρ, zit (fun _ _ _ _ _ _ _ _ => none) (Co_carryOut_63b kr) (f + 1) 0 (u : Int) (gc (4 * b + j) : Int) (p : Int) (k : Int) (r : Int) (m : Int) h = Co_carryOut_63b kr (fun _ _ _ _ _ _ _ _ => none) 0 (u : Int) (gc (4 * b + j) : Int) (p : Int) (k : Int) (r : Int) 4 h1) ∧ (∀ kr : Int → zH → Option ρ, zit (fun _ _ _ _ _ _ => none) (M_doLanes_19b kr) (f + 1) ((4 * u + i : Nat) : Int) c ((40 * k + p : Nat) : Int) (k : Int) (m : Int) (mh g A) = kr 0 (mh g A1)) ∧ LI A1 h1 K L1 bc tc gc n2 B N M u i b j k p r a b2 d c F 4 ∧ n2 ≤ n + 2 * (4 - m) ∧ L ≤ L1 ∧ LST A A1 c (4 * u + i) b j L F m 4) ∨
  (∃ (h1 : zH) (A1 : zA) (L1 n2 m2 : Nat) (fc : Int), m2 < 4 ∧ F m2 = true ∧ (fc = 103 ∨ fc = 115) ∧ (∀ kr : Int → zH → Option ρ, zit (fun _ _ _ _ _ _ _ _ => none) (Co_carryOut_63b kr) (f + 1) 0 (u : Int) (gc (4 * b + j) : Int) (p : Int) (k : Int) (r : Int) (m : Int) h = Co_fail 0 (bc b : Int) ((4 * j + m2 : Nat) : Int) (p : Int) fc h1 (fun _ h23 => kr 0 h23)) ∧ (∀ kr : Int → zH → Option ρ, zit (fun _ _ _ _ _ _ => none) (M_doLanes_19b kr) (f + 1) ((4 * u + i : Nat) : Int) c ((40 * k + p : Nat) : Int) (k : Int) (m : Int) (mh g A) = kr 0 (mh g (au (au A1 12 66 fc) 12 67 (m2 : Int)))) ∧ LI A1 h1 K L1 bc tc gc n2 B N M u i b j k p r a b2 d c F m2 ∧ n2 ≤ n + 2 * (4 - m) ∧ L ≤ L1 ∧ LST A A1 c (4 * u + i) b j L F m m2 ∧ m ≤ m2 ∧ c ≠ 98)) := fun hF hg hs => by
        obtain ⟨h1, A1, L1, hL, hX, hM, x1, ls⟩ := li_step (ρ := ρ) (g := g) x hm hF hg hs
        rcases lanes_loop f (m + 1) (n + 2) h1 A1 L1 hm (by omega) x1 with ⟨h2, A2, L2, n2, y1, y2, y3, y4, y5, y6⟩ | ⟨h2, A2, L2, n2, m2, fc, y0, y1, y2, y3, y4, y5, y6, y7, y8, y9, y10⟩
        · exact Or.inl ⟨h2, A2, L2, n2, fun kr => (hX kr _).trans (y1 kr), fun kr => (hM kr _).trans (y2 kr), y3, by omega, Nat.le_trans hL y5, ls.tr y6 hL (Nat.le_succ m) hm⟩
        · exact Or.inr ⟨h2, A2, L2, n2, m2, fc, y0, y1, y2, fun kr => (hX kr _).trans (y3 kr), fun kr => (hM kr _).trans (y4 kr), y5, by omega, Nat.le_trans hL y7, ls.tr y8 hL (Nat.le_succ m) y9, Nat.le_of_succ_le y9, y10⟩
      have bad : ∀ (hF : F m = true) (fc : Int), (((c = 114 ∨ c = 119 ∨ c = 97 ∨ c = 120) ∧ zwi (zhD h 24 0 m) 0 63 = false ∧ fc = 103) ∨ ((c = 82 ∨ c = 87) ∧ zwi (zhD h 24 0 m) 0 (A 62 k - 1) = false ∧ fc = 115)) → ((∃ (h1 : zH) (A1 : zA) (L1 n2 : Nat), (∀ kr : Int → zH → Option ρ, zit (fun _ _ _ _ _ _ _ _ => none) (Co_carryOut_63b kr) (f + 1) 0 (u : Int) (gc (4 * b + j) : Int) (p : Int) (k : Int) (r : Int) (m : Int) h = Co_carryOut_63b kr (fun _ _ _ _ _ _ _ _ => none) 0 (u : Int) (gc (4 * b + j) : Int) (p : Int) (k : Int) (r : Int) 4 h1) ∧ (∀ kr : Int → zH → Option ρ, zit (fun _ _ _ _ _ _ => none) (M_doLanes_19b kr) (f + 1) ((4 * u + i : Nat) : Int) c ((40 * k + p : Nat) : Int) (k : Int) (m : Int) (mh g A) = kr 0 (mh g A1)) ∧ LI A1 h1 K L1 bc tc gc n2 B N M u i b j k p r a b2 d c F 4 ∧ n2 ≤ n + 2 * (4 - m) ∧ L ≤ L1 ∧ LST A A1 c (4 * u + i) b j L F m 4) ∨
  (∃ (h1 : zH) (A1 : zA) (L1 n2 m2 : Nat) (fc : Int), m2 < 4 ∧ F m2 = true ∧ (fc = 103 ∨ fc = 115) ∧ (∀ kr : Int → zH → Option ρ, zit (fun _ _ _ _ _ _ _ _ => none) (Co_carryOut_63b kr) (f + 1) 0 (u : Int) (gc (4 * b + j) : Int) (p : Int) (k : Int) (r : Int) (m : Int) h = Co_fail 0 (bc b : Int) ((4 * j + m2 : Nat) : Int) (p : Int) fc h1 (fun _ h23 => kr 0 h23)) ∧ (∀ kr : Int → zH → Option ρ, zit (fun _ _ _ _ _ _ => none) (M_doLanes_19b kr) (f + 1) ((4 * u + i : Nat) : Int) c ((40 * k + p : Nat) : Int) (k : Int) (m : Int) (mh g A) = kr 0 (mh g (au (au A1 12 66 fc) 12 67 (m2 : Int)))) ∧ LI A1 h1 K L1 bc tc gc n2 B N M u i b j k p r a b2 d c F m2 ∧ n2 ≤ n + 2 * (4 - m) ∧ L ≤ L1 ∧ LST A A1 c (4 * u + i) b j L F m m2 ∧ m ≤ m2 ∧ c ≠ 98)) := fun hF fc hbad => by
        have hfc : fc = 103 ∨ fc = 115 := by rcases hbad with ⟨-, -, rfl⟩ | ⟨-, -, rfl⟩ <;> decide
        refine Or.inr ⟨h, A, L, n, m, fc, hm, hF, hfc, fun kr => x_lfault x hm hF hbad, fun kr => ?_, x, by omega, Nat.le_refl _, LST.rfl' (fun m3 k1 k2 => absurd (Nat.lt_of_lt_of_le k2 k1) (Nat.lt_irrefl _)), Nat.le_refl _, by rcases hbad with ⟨z, -, -⟩ | ⟨z, -, -⟩ <;> omega⟩
        rw [zit_s, m_dlf (x.lc hm hF) hF x.dn.2.2 hbad]
        obtain ⟨f2, rfl⟩ : ∃ f2, f = f2 + 1 := ⟨f - 1, by omega⟩
        have e66 : au (au A 12 66 fc) 12 67 (m : Int) 12 66 = fc := by rw [au_j, if_neg (by decide), au_same]
        rw [zit_s]
        generalize zit (fun _ _ _ _ _ _ => none) (M_doLanes_19b kr) f2 = r2
        unfold M_doLanes_19b M_doLanes_182
        rw [mD12, e66]
        by_cases h4 : ((m + 1 : Nat) : Int) < 4
        · rw [if_pos h4, if_neg (by omega)]
        · rw [if_neg h4]
      cases hF : F m with
      | false =>
        have x1 := li_skip x hF
        rcases lanes_loop f (m + 1) n h A L hm (by omega) x1 with ⟨h2, A2, L2, n2, y1, y2, y3, y4, y5, y6⟩ | ⟨h2, A2, L2, n2, m2, fc, y0, y1, y2, y3, y4, y5, y6, y7, y8, y9, y10⟩
        · exact Or.inl ⟨h2, A2, L2, n2, fun kr => (x_skip x hm hF).trans (y1 kr), fun kr => (m_skip x hm hF).trans (y2 kr), y3, by omega, y5, (LST.rfl' (fun m3 k1 k2 => by rw [show m3 = m from Nat.le_antisymm (Nat.le_of_lt_succ k2) k1]; exact hF)).tr y6 (Nat.le_refl _) (Nat.le_succ m) hm⟩
        · exact Or.inr ⟨h2, A2, L2, n2, m2, fc, y0, y1, y2, fun kr => (x_skip x hm hF).trans (y3 kr), fun kr => (m_skip x hm hF).trans (y4 kr), y5, by omega, y7, (LST.rfl' (fun m3 k1 k2 => by rw [show m3 = m from Nat.le_antisymm (Nat.le_of_lt_succ k2) k1]; exact hF)).tr y8 (Nat.le_refl _) (Nat.le_succ m) y9, Nat.le_of_succ_le y9, y10⟩
      | true =>
        by_cases hgc : (c = 114 ∨ c = 119 ∨ c = 97 ∨ c = 120)
        · cases hw : zwi (zhD h 24 0 m) 0 63 with
          | true => exact good hF (fun _ => hw) (fun z => absurd z (by omega))
          | false => exact bad hF 103 (Or.inl ⟨hgc, hw, rfl⟩)
        · by_cases hsc : (c = 82 ∨ c = 87)
          · cases hw : zwi (zhD h 24 0 m) 0 (A 62 k - 1) with
            | true => exact good hF (fun z => absurd z hgc) (fun _ => hw)
            | false => exact bad hF 115 (Or.inr ⟨hsc, hw, rfl⟩)
          · exact good hF (fun z => absurd z hgc) (fun z => absurd z hsc)
    · have : m = 4 := by omega
      subst this
      refine Or.inl ⟨h, A, L, n, fun kr => ?_, fun kr => ?_, x, by omega, Nat.le_refl _, LST.rfl' (fun m3 k1 k2 => absurd (Nat.lt_of_lt_of_le k2 k1) (Nat.lt_irrefl _))⟩
      · rw [zit_s]
        unfold Co_carryOut_63b
        rw [if_neg (by decide), if_neg (by decide)]
      · rw [zit_s]
        unfold M_doLanes_19b M_doLanes_182
        rw [if_neg (by decide)]
end
