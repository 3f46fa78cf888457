/-! THE LAW, all places -/
theorem c_Lw_law (pc : Nat) : zcl9p pc (zget (999, 0, 0, 0) zc_Lw_law pc) (zget [] zwL pc) = true := by
  by_cases h0 : pc < 50
  · exact zlr_at zlr_0 (by omega) (by omega)
  by_cases h1 : pc < 100
  · exact zlr_at zlr_1 (by omega) (by omega)
  by_cases h2 : pc < 150
  · exact zlr_at zlr_2 (by omega) (by omega)
  by_cases h3 : pc < 200
  · exact zlr_at zlr_3 (by omega) (by omega)
  by_cases h4 : pc < 250
  · exact zlr_at zlr_4 (by omega) (by omega)
  by_cases h5 : pc < 300
  · exact zlr_at zlr_5 (by omega) (by omega)
  by_cases h6 : pc < 350
  · exact zlr_at zlr_6 (by omega) (by omega)
  by_cases h7 : pc < 400
  · exact zlr_at zlr_7 (by omega) (by omega)
  by_cases h8 : pc < 450
  · exact zlr_at zlr_8 (by omega) (by omega)
  by_cases h9 : pc < 500
  · exact zlr_at zlr_9 (by omega) (by omega)
  by_cases h10 : pc < 550
  · exact zlr_at zlr_10 (by omega) (by omega)
  by_cases h11 : pc < 600
  · exact zlr_at zlr_11 (by omega) (by omega)
  by_cases h12 : pc < 650
  · exact zlr_at zlr_12 (by omega) (by omega)
  by_cases h13 : pc < 700
  · exact zlr_at zlr_13 (by omega) (by omega)
  by_cases h14 : pc < 750
  · exact zlr_at zlr_14 (by omega) (by omega)
  by_cases h15 : pc < 800
  · exact zlr_at zlr_15 (by omega) (by omega)
  by_cases h16 : pc < 850
  · exact zlr_at zlr_16 (by omega) (by omega)
  by_cases h17 : pc < 900
  · exact zlr_at zlr_17 (by omega) (by omega)
  by_cases h18 : pc < 950
  · exact zlr_at zlr_18 (by omega) (by omega)
  by_cases h19 : pc < 1000
  · exact zlr_at zlr_19 (by omega) (by omega)
  by_cases h20 : pc < 1050
  · exact zlr_at zlr_20 (by omega) (by omega)
  by_cases h21 : pc < 1100
  · exact zlr_at zlr_21 (by omega) (by omega)
  by_cases h22 : pc < 1150
  · exact zlr_at zlr_22 (by omega) (by omega)
  by_cases h23 : pc < 1200
  · exact zlr_at zlr_23 (by omega) (by omega)
  by_cases h24 : pc < 1250
  · exact zlr_at zlr_24 (by omega) (by omega)
  by_cases h25 : pc < 1300
  · exact zlr_at zlr_25 (by omega) (by omega)
  by_cases h26 : pc < 1350
  · exact zlr_at zlr_26 (by omega) (by omega)
  by_cases h27 : pc < 1400
  · exact zlr_at zlr_27 (by omega) (by omega)
  by_cases h28 : pc < 1450
  · exact zlr_at zlr_28 (by omega) (by omega)
  by_cases h29 : pc < 1500
  · exact zlr_at zlr_29 (by omega) (by omega)
  by_cases h30 : pc < 1550
  · exact zlr_at zlr_30 (by omega) (by omega)
  by_cases h31 : pc < 1600
  · exact zlr_at zlr_31 (by omega) (by omega)
  by_cases h32 : pc < 1650
  · exact zlr_at zlr_32 (by omega) (by omega)
  by_cases h33 : pc < 1700
  · exact zlr_at zlr_33 (by omega) (by omega)
  by_cases h34 : pc < 1750
  · exact zlr_at zlr_34 (by omega) (by omega)
  by_cases h35 : pc < 1800
  · exact zlr_at zlr_35 (by omega) (by omega)
  by_cases h36 : pc < 1850
  · exact zlr_at zlr_36 (by omega) (by omega)
  by_cases h37 : pc < 1900
  · exact zlr_at zlr_37 (by omega) (by omega)
  by_cases h38 : pc < 1950
  · exact zlr_at zlr_38 (by omega) (by omega)
  by_cases h39 : pc < 2000
  · exact zlr_at zlr_39 (by omega) (by omega)
  by_cases h40 : pc < 2050
  · exact zlr_at zlr_40 (by omega) (by omega)
  by_cases h41 : pc < 2100
  · exact zlr_at zlr_41 (by omega) (by omega)
  by_cases h42 : pc < 2150
  · exact zlr_at zlr_42 (by omega) (by omega)
  by_cases h43 : pc < 2200
  · exact zlr_at zlr_43 (by omega) (by omega)
  by_cases h44 : pc < 2250
  · exact zlr_at zlr_44 (by omega) (by omega)
  by_cases h45 : pc < 2300
  · exact zlr_at zlr_45 (by omega) (by omega)
  by_cases h46 : pc < 2350
  · exact zlr_at zlr_46 (by omega) (by omega)
  by_cases h47 : pc < 2400
  · exact zlr_at zlr_47 (by omega) (by omega)
  have hl : zc_Lw_law.length ≤ pc := Nat.le_trans (Nat.le_of_ble_eq_true zlr_end) (by omega)
  rw [zget_o9 zc_Lw_law pc hl]
  rfl
