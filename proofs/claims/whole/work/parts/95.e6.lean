/-! LETTERS -/
def zlets : List Int := [43, 45, 42, 60, 61, 97, 120, 115, 114, 119, 82, 87, 118, 107, 116, 110, 108, 122, 99, 106, 98, 102, 101]
def zone (s : Nat) (c : Int) : Bool := decide (0 ≤ zfind (zget [] zstrs s) c 0)
theorem zlets_all : ∀ s, s < 10 → ∀ b ∈ zget [] zstrs s, b ∈ zlets := by decide +kernel
theorem zone_out {s : Nat} (hs : s < 10) {c : Int} (hc : c ∉ zlets) : zone s c = false := by
  unfold zone
  rw [zfind_no (x := c) _ _ (fun b hb (e : b = c) => hc (by rw [← e]; exact zlets_all s hs b hb))]
  rfl
def zspec (c : Int) : Bool := (zone 4 c == decide (zbits c ≠ -1)) && (zone 5 c == decide (zbits c = 7 ∨ zbits c = 6 ∨ zbits c = 5 ∨ zbits c = 4)) && (zone 6 c == decide (zbits c = 7 ∨ zbits c = 6)) && (zone 7 c == decide (zbits c = 7 ∨ zbits c = 5)) && (zone 8 c == decide (c = 122 ∨ c = 106)) && (zone 9 c == decide (c = 119 ∨ c = 87)) && (zone 0 c == decide (c = 118 ∨ c = 115 ∨ c = 99)) && (zone 1 c == decide (c = 97 ∨ c = 120 ∨ c = 98 ∨ c = 102)) && (zone 2 c == decide (c = 114 ∨ c = 119 ∨ c = 97 ∨ c = 120)) && (zone 3 c == decide (c = 82 ∨ c = 87))
theorem zspec_in : ∀ c ∈ zlets, zspec c = true := by decide +kernel
theorem zlets_ne {c : Int} (hc : c ∉ zlets) : c ≠ 43 ∧ c ≠ 45 ∧ c ≠ 42 ∧ c ≠ 60 ∧ c ≠ 61 ∧ c ≠ 97 ∧ c ≠ 120 ∧ c ≠ 115 ∧ c ≠ 114 ∧ c ≠ 119 ∧ c ≠ 82 ∧ c ≠ 87 ∧ c ≠ 118 ∧ c ≠ 107 ∧ c ≠ 116 ∧ c ≠ 110 ∧ c ≠ 108 ∧ c ≠ 122 ∧ c ≠ 99 ∧ c ≠ 106 ∧ c ≠ 98 ∧ c ≠ 102 ∧ c ≠ 101 := by
  unfold zlets at hc
  simp only [List.mem_cons, List.mem_nil_iff, or_false, not_or] at hc
  exact hc
theorem zbits_out {c : Int} (hc : c ∉ zlets) : zbits c = -1 := by
  obtain ⟨n43, n45, n42, n60, n61, n97, n120, n115, n114, n119, n82, n87, n118, n107, n116, n110, n108, n122, n99, n106, n98, n102, n101⟩ := zlets_ne hc
  unfold zbits
  simp [n43, n45, n42, n60, n61, n97, n120, n115, n114, n119, n82, n87, n118, n107, n116, n110, n108, n122, n99, n106, n98, n102, n101]
theorem zspec_out {c : Int} (hc : c ∉ zlets) : zspec c = true := by
  have hb := zbits_out hc
  obtain ⟨n43, n45, n42, n60, n61, n97, n120, n115, n114, n119, n82, n87, n118, n107, n116, n110, n108, n122, n99, n106, n98, n102, n101⟩ := zlets_ne hc
  unfold zspec
  simp [zone_out (show 0 < 10 by decide) hc, zone_out (show 1 < 10 by decide) hc, zone_out (show 2 < 10 by decide) hc, zone_out (show 3 < 10 by decide) hc, zone_out (show 4 < 10 by decide) hc, zone_out (show 5 < 10 by decide) hc, zone_out (show 6 < 10 by decide) hc, zone_out (show 7 < 10 by decide) hc, zone_out (show 8 < 10 by decide) hc, zone_out (show 9 < 10 by decide) hc, hb, n43, n45, n42, n60, n61, n97, n120, n115, n114, n119, n82, n87, n118, n107, n116, n110, n108, n122, n99, n106, n98, n102, n101]
theorem zspec_all (c : Int) : zspec c = true := by
  by_cases h : c ∈ zlets
  · exact zspec_in c h
  · exact zspec_out h
theorem zone_all (c : Int) : zone 4 c = decide (zbits c ≠ -1) ∧ zone 5 c = decide (zbits c = 7 ∨ zbits c = 6 ∨ zbits c = 5 ∨ zbits c = 4) ∧ zone 6 c = decide (zbits c = 7 ∨ zbits c = 6) ∧ zone 7 c = decide (zbits c = 7 ∨ zbits c = 5) ∧ zone 8 c = decide (c = 122 ∨ c = 106) ∧ zone 9 c = decide (c = 119 ∨ c = 87) ∧ zone 0 c = decide (c = 118 ∨ c = 115 ∨ c = 99) ∧ zone 1 c = decide (c = 97 ∨ c = 120 ∨ c = 98 ∨ c = 102) ∧ zone 2 c = decide (c = 114 ∨ c = 119 ∨ c = 97 ∨ c = 120) ∧ zone 3 c = decide (c = 82 ∨ c = 87) := by
  have h := zspec_all c
  unfold zspec at h
  simp only [Bool.and_eq_true, beq_iff_eq] at h
  obtain ⟨⟨⟨⟨⟨⟨⟨⟨⟨h1, h2⟩, h3⟩, h4⟩, h5⟩, h6⟩, h7⟩, h8⟩, h9⟩, h10⟩ := h
  exact ⟨h1, h2, h3, h4, h5, h6, h7, h8, h9, h10⟩
/-- what a kernel may have, as both reckon it -/
def zallow (regs c a b d : Int) : Bool := zone 4 c && (!(zone 5 c) || zwi a 0 (regs - 1)) && (!(zone 6 c) || zwi b 0 (regs - 1)) && (!(zone 7 c) || zwi d 0 (regs - 1)) && (if zone 8 c = true then zwi b 0 39 else (!(decide (c = 99)) || zwi b 0 3))
section
variable {ρ : Type} {h : zH} {A : zA} {kr : Int → zH → Option ρ} {kt : Nat → zH → Option ρ} {K : Nat}
theorem x_isOneOf {r s : Nat} {si : Int} (hs : si.toNat = s) (hr : r < zhN h 8) : In_isOneOf (r : Int) si h kr = kr (tb (zone s (zhD h 8 r 0))) h := by
  unfold In_isOneOf In_isOneOf_16 zstix zone
  rw [hs]
  by_cases hz : zfind (zget [] zstrs s) (zhD h 8 r 0) 0 < 0
  · have : ¬ 0 ≤ zfind (zget [] zstrs s) (zhD h 8 r 0) 0 := by omega
    simp [zob_n hr, hz, this, znar_0, tb]
  · have : 0 ≤ zfind (zget [] zstrs s) (zhD h 8 r 0) 0 := by omega
    simp [zob_n hr, hz, this, znar_1, tb]
theorem x_hasRegister {k : Nat} {i : Int} (hk : k < zhN h 7) (h1 : 1 ≤ zhD h 7 k 0) (h2 : zhD h 7 k 0 ≤ 8) : Ke_hasRegister (k : Int) i h kr = kr (tb (zwi i 0 (zhD h 7 k 0 - 1))) h := by
  unfold Ke_hasRegister
  have w1 : wr (zhD h 7 k 0 - 1) = zhD h 7 k 0 - 1 := wr_id (by omega) (by omega)
  simp [zob_n hk, w1, x_isWithin, znar_tb]
theorem x_isAllowed {r k : Nat} (hr : r < zhN h 8) (hk : k < zhN h 7) (h1 : 1 ≤ zhD h 7 k 0) (h2 : zhD h 7 k 0 ≤ 8) : In_isAllowed (r : Int) (k : Int) h kr = kr (tb (zallow (zhD h 7 k 0) (zhD h 8 r 0) (zhD h 8 r 1) (zhD h 8 r 2) (zhD h 8 r 3))) h := by
  unfold In_isAllowed In_isAllowed_29 In_isAllowed_49 In_isAllowed_71 In_isAllowed_69 In_isAllowed_112 In_isAllowed_117
  have o4 := fun kr9 => x_isOneOf (ρ := ρ) (kr := kr9) (s := 4) (si := 4) rfl hr
  have o5 := fun kr9 => x_isOneOf (ρ := ρ) (kr := kr9) (s := 5) (si := 5) rfl hr
  have o6 := fun kr9 => x_isOneOf (ρ := ρ) (kr := kr9) (s := 6) (si := 6) rfl hr
  have o7 := fun kr9 => x_isOneOf (ρ := ρ) (kr := kr9) (s := 7) (si := 7) rfl hr
  have o8 := fun kr9 => x_isOneOf (ρ := ρ) (kr := kr9) (s := 8) (si := 8) rfl hr
  unfold zallow
  simp only [zob_n hr, zob_n hk, o4, o5, o6, o7, o8, x_hasRegister hk h1 h2, x_isWithin]
  generalize zone 4 (zhD h 8 r 0) = z4
  generalize zone 5 (zhD h 8 r 0) = z5
  generalize zone 6 (zhD h 8 r 0) = z6
  generalize zone 7 (zhD h 8 r 0) = z7
  generalize zone 8 (zhD h 8 r 0) = z8
  generalize zwi (zhD h 8 r 1) 0 (zhD h 7 k 0 - 1) = y5
  generalize zwi (zhD h 8 r 2) 0 (zhD h 7 k 0 - 1) = y6
  generalize zwi (zhD h 8 r 3) 0 (zhD h 7 k 0 - 1) = y7
  generalize zwi (zhD h 8 r 2) 0 39 = y8
  generalize zwi (zhD h 8 r 2) 0 3 = y9
  by_cases hc : zhD h 8 r 0 = 99 <;> cases z4 <;> cases z5 <;> cases z6 <;> cases z7 <;> cases z8 <;> cases y5 <;> cases y6 <;> cases y7 <;> cases y8 <;> cases y9 <;> simp [hc, tb, znar_0, znar_1]
end
