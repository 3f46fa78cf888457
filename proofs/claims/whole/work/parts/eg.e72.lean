/-! A GROUP ACTS -/
section
variable {ρ : Type} {h h' g : zH} {A A' B : zA} {kr : Int → zH → Option ρ} {K L n n' : Nat} {bc tc gc : Nat → Nat} {N M : Int} {s : Nat → Int} {b : Nat}
/-- what the class marked at once, the model marks at the end -/
theorem PF.fin (x : PF A h K L bc tc gc n B N M) (g : zH) : ∃ A' : zA, (∀ kr : Int → zH → Option ρ, M_finish (mh g A) kr = kr 0 (mh g A')) ∧ RR A' h K L bc tc gc n B N M ∧ CW A' L ∧ (∀ c, c ≠ 69 → A' c = A c) := by
  obtain ⟨s, q, m, cl, cp, cq, c7, wl⟩ := x
  have E : ∀ c, c ≠ 69 → ard A 69 s c = A c := fun c hc => ard_ne hc
  have ee : ∀ t : Nat → Int, ard (ard A 69 s) 69 t = ard A 69 t := fun t => by
    refine zA_ext (fun c => ?_)
    by_cases e : c = 69
    · rw [e, ard_same, ard_same]
    · rw [ard_ne e, ard_ne e, ard_ne e]
  have zr : ∀ (ss : Nat → Int) (l2 : Nat), zenb (ard A 69 s) L ss l2 ↔ zenb A L ss l2 := fun ss l2 => zenb_row (E 70 (by decide)) (E 72 (by decide)) (E 76 (by decide)) (by rw [E 79 (by decide)])
  have hz : ∀ l, l < L → zst (A 69 l) := fun l hl => by
    have := (q.rl.l hl).2.2.2.2.2.2.2.2.1.2
    rw [ard_same] at this
    rcases m.1 l with z | ⟨-, z, -⟩
    · rw [← z]
      exact this
    · rw [z]
      exact Or.inr (Or.inl rfl)
  obtain ⟨s', e1, e2, e3⟩ := m_finish (ρ := ρ) q.rl hz g
  have m' : MKS A L (A 69) s' := ⟨e2.1, fun T hT => e2.2 T (fun l2 h1 h2 h3 h4 h5 => hT l2 h1 h2 (by rw [← E 70 (by decide)]; exact h3) (by rw [← E 79 (by decide), ← E 72 (by decide)]; exact h4) (fun k hk ek => h5 k hk (by rw [E 76 (by decide)]; exact ek)))⟩
  have es : s' = s := m'.uniq m (fun l hl z => e3 l hl ((zr s' l).mpr z)) cl
  subst es
  rw [ee, ee, ard_id] at e1
  refine ⟨ard A 69 s', e1, q, ⟨⟨fun l hl z => cl l hl ?_, fun l hl z => ?_, fun l hl y1 y2 => ?_, fun l hl y => by rw [E 76 (by decide)] at y; rw [E 71 (by decide)]; exact c7 l hl y⟩, wl_ard.mpr wl⟩, E⟩
  · have z2 : zenb (ard A 69 s') L (ard A 69 s' 69) l := z
    rw [ard_same] at z2
    exact (zr s' l).mp z2
  · rw [E 76 (by decide)] at z ⊢
    rw [E 70 (by decide)]
    exact cp l hl z
  · rw [ard_same] at y1
    rw [E 70 (by decide)] at y2
    rw [E 79 (by decide), E 72 (by decide)]
    rcases m.1 l with z | ⟨-, -, z⟩
    · exact cq l hl (by rw [← z]; exact y1) y2
    · rw [z] at y1
      exact absurd y1 (by decide)
theorem carry_both {u i j p : Nat} (q : RR (lb u b j A) h K L bc tc gc n B N M) (cl : CW A L) (bn : n ≤ 9999800) (hu : u < 2) (hi : (i : Int) < A 93 u) (e94 : A 94 (4 * u + i) = (b : Int)) (e95 : A 95 (4 * u + i) = (j : Int)) (hpz : zlm (mpl A b j) 4 = (p : Int)) (g : zH) :
    ∃ (h' : zH) (A' : zA) (L' : Nat), (∀ kk : zH → Option ρ, Co_carryOut 0 (u : Int) (gc (4 * b + j) : Int) h (fun v14 h15 => if v14 = 0 then kk h15 else zob h15 11 (gc (4 * b + j) : Int) fun p16 => zob h15 2 0 fun _ => Co_settle 0 (zhD h15 11 p16 0) h15 fun _ h18 => kk h18) = kk h') ∧ (∀ kk : zH → Option ρ, M_carryOut (u : Int) (i : Int) (mh g A) (fun _ h4 => M_finish h4 fun _ h6 => kk h6) = kk (mh g A')) ∧ RR A' h' K L' bc tc gc (n + 18) B N M ∧ CW A' L' ∧ L ≤ L' := by
  rcases co_all (ρ := ρ) (g := g) q cl.1 bn hu hi e94 e95 hpz with ⟨h1, A1, L1, y1, y2, q1, cl1, hb, hin, hL, hj, wl1⟩ | ⟨h1, A1, L1, t, fc, y1, y2, q1, cl1, hb, hin, hL, ht, hfc, wl1⟩
  · obtain ⟨h2, A2, z1, z2, x2⟩ := settle_both (ρ := ρ) (PF.of q1 ⟨cl1, wl1 cl.2⟩) (by omega) hb hin g
    obtain ⟨A3, w1, q3, cl3, -⟩ := x2.fin (ρ := ρ) g
    obtain ⟨g1, g2, g3, -⟩ := q1.gh.1 b hb hin j hj
    refine ⟨h2, A3, L1, fun kk => ?_, fun kk => ?_, q3, cl3, hL⟩
    · rw [y1, if_neg (by decide), zob_n g1, zob_0 q1.rs.N2, g3, z1]
    · rw [y2, z2, w1]
  · obtain ⟨h2, A2, z1, z2, x2, -⟩ := fail_both (ρ := ρ) (t := (t : Int)) (p := (p : Int)) (f := fc) (PF.of q1 ⟨cl1, wl1 cl.2⟩) hb hin (by rcases hfc with rfl | rfl <;> decide) g
    obtain ⟨A3, w1, q3, cl3, -⟩ := x2.fin (ρ := ρ) g
    refine ⟨h2, A3, L1, fun kk => ?_, fun kk => ?_, q3.le (by omega), cl3, hL⟩
    · rw [y1, z1, if_pos rfl]
    · rw [y2, z2, w1]
end
