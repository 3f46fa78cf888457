/-! STAND-IN -/
theorem c_Lw_law (pc : Nat) : zcl9 pc (zget (999, 0, 0, 0) zc_Lw_law pc) (zget [] zwL pc) = true := sorry
