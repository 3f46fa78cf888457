set_option maxRecDepth 100000 in
set_option maxHeartbeats 0 in
theorem s_It_bitCount {l : Launch} {zi : Nat → zinfo} {r : zRes} {GO : Nat → List (Option zV) → List zV → zH → Prop} (hS : zSg l true zi (zget (999, 0, 0, 0) zc_It_bitCount) (zcut zu_It_bitCount) zin (fun _ _ => none) r GO) (a0 : Int) (h : zH) (hr : It_bitCount a0 h zin = some r) : GO 0 [some (0, a0)] [] h := by
  have e9 := Eq.trans (Eq.symm (qe_It_bitCount zin a0 h)) hr
  generalize (400 : Nat) = f9 at e9
  refine hS _ _ (zcal_s (SP := zKsp l true zi r) _ ?_) (zorc_s _ ?_) _ _ _ _ _ e9
  · exact trivial
  · exact trivial
set_option maxRecDepth 100000 in
set_option maxHeartbeats 0 in
theorem s_Ma_floorMod_18 {l : Launch} {zi : Nat → zinfo} {r : zRes} {GO : Nat → List (Option zV) → List zV → zH → Prop} (hS : zSg l true zi (zget (999, 0, 0, 0) zc_Ma_floorMod) (zcut zu_Ma_floorMod) zin (fun _ _ => none) r GO) (a2 : Int) (h : zH) (hr : Ma_floorMod_18 zin a2 h = some r) : GO 18 [none, none, some (0, a2)] [] h := by
  have e9 := Eq.trans (Eq.symm (qe_Ma_floorMod_18 zin a2 h)) hr
  generalize (400 : Nat) = f9 at e9
  refine hS _ _ (zcal_s (SP := zKsp l true zi r) _ ?_) (zorc_s _ ?_) _ _ _ _ _ e9
  · exact trivial
  · exact trivial
set_option maxRecDepth 100000 in
set_option maxHeartbeats 0 in
theorem s_Ma_floorMod {l : Launch} {zi : Nat → zinfo} {r : zRes} {GO : Nat → List (Option zV) → List zV → zH → Prop} (hS : zSg l true zi (zget (999, 0, 0, 0) zc_Ma_floorMod) (zcut zu_Ma_floorMod) zin (fun _ _ => none) r GO) (a0 a1 : Int) (h : zH) (hr : Ma_floorMod a0 a1 h zin = some r) : GO 0 [some (0, a0), some (0, a1), none] [] h := by
  have e9 := Eq.trans (Eq.symm (qe_Ma_floorMod zin a0 a1 h)) hr
  generalize (400 : Nat) = f9 at e9
  refine hS _ _ (zcal_s (SP := zKsp l true zi r) _ ?_) (zorc_s _ ?_) _ _ _ _ _ e9
  · exact trivial
  · exact ⟨zap1_s (P := fun xs h => GO 18 (zfl [none, none, some (0, none)] xs).1 (zfs [] (zfl [none, none, some (0, none)] xs).2) h) (fun x0 h hr => s_Ma_floorMod_18 hS x0 h hr), trivial⟩
set_option maxRecDepth 100000 in
set_option maxHeartbeats 0 in
theorem s_Ma_max_10 {l : Launch} {zi : Nat → zinfo} {r : zRes} {GO : Nat → List (Option zV) → List zV → zH → Prop} (hS : zSg l true zi (zget (999, 0, 0, 0) zc_Ma_max) (zcut zu_Ma_max) zin (fun _ _ => none) r GO) (t0 : Int) (h : zH) (hr : Ma_max_10 zin t0 h = some r) : GO 10 [none, none] [(0, t0)] h := by
  have e9 := Eq.trans (Eq.symm (qe_Ma_max_10 zin t0 h)) hr
  generalize (400 : Nat) = f9 at e9
  refine hS _ _ (zcal_s (SP := zKsp l true zi r) _ ?_) (zorc_s _ ?_) _ _ _ _ _ e9
  · exact trivial
  · exact trivial
set_option maxRecDepth 100000 in
set_option maxHeartbeats 0 in
theorem s_Ma_max {l : Launch} {zi : Nat → zinfo} {r : zRes} {GO : Nat → List (Option zV) → List zV → zH → Prop} (hS : zSg l true zi (zget (999, 0, 0, 0) zc_Ma_max) (zcut zu_Ma_max) zin (fun _ _ => none) r GO) (a0 a1 : Int) (h : zH) (hr : Ma_max a0 a1 h zin = some r) : GO 0 [some (0, a0), some (0, a1)] [] h := by
  have e9 := Eq.trans (Eq.symm (qe_Ma_max zin a0 a1 h)) hr
  generalize (400 : Nat) = f9 at e9
  refine hS _ _ (zcal_s (SP := zKsp l true zi r) _ ?_) (zorc_s _ ?_) _ _ _ _ _ e9
  · exact trivial
  · exact ⟨zap1_s (P := fun xs h => GO 10 (zfl [none, none] xs).1 (zfs [(0, none)] (zfl [none, none] xs).2) h) (fun x0 h hr => s_Ma_max_10 hS x0 h hr), trivial⟩
set_option maxRecDepth 100000 in
set_option maxHeartbeats 0 in
theorem s_Ma_min_10 {l : Launch} {zi : Nat → zinfo} {r : zRes} {GO : Nat → List (Option zV) → List zV → zH → Prop} (hS : zSg l true zi (zget (999, 0, 0, 0) zc_Ma_min) (zcut zu_Ma_min) zin (fun _ _ => none) r GO) (t0 : Int) (h : zH) (hr : Ma_min_10 zin t0 h = some r) : GO 10 [none, none] [(0, t0)] h := by
  have e9 := Eq.trans (Eq.symm (qe_Ma_min_10 zin t0 h)) hr
  generalize (400 : Nat) = f9 at e9
  refine hS _ _ (zcal_s (SP := zKsp l true zi r) _ ?_) (zorc_s _ ?_) _ _ _ _ _ e9
  · exact trivial
  · exact trivial
set_option maxRecDepth 100000 in
set_option maxHeartbeats 0 in
theorem s_Ma_min {l : Launch} {zi : Nat → zinfo} {r : zRes} {GO : Nat → List (Option zV) → List zV → zH → Prop} (hS : zSg l true zi (zget (999, 0, 0, 0) zc_Ma_min) (zcut zu_Ma_min) zin (fun _ _ => none) r GO) (a0 a1 : Int) (h : zH) (hr : Ma_min a0 a1 h zin = some r) : GO 0 [some (0, a0), some (0, a1)] [] h := by
  have e9 := Eq.trans (Eq.symm (qe_Ma_min zin a0 a1 h)) hr
  generalize (400 : Nat) = f9 at e9
  refine hS _ _ (zcal_s (SP := zKsp l true zi r) _ ?_) (zorc_s _ ?_) _ _ _ _ _ e9
  · exact trivial
  · exact ⟨zap1_s (P := fun xs h => GO 10 (zfl [none, none] xs).1 (zfs [(0, none)] (zfl [none, none] xs).2) h) (fun x0 h hr => s_Ma_min_10 hS x0 h hr), trivial⟩
set_option maxRecDepth 100000 in
set_option maxHeartbeats 0 in
theorem s_Ar_fill_29_5b {l : Launch} {zi : Nat → zinfo} {r : zRes} {GO : Nat → List (Option zV) → List zV → zH → Prop} (hS : zSg l true zi (zget (999, 0, 0, 0) zc_Ar_fill_29) (zcut zu_Ar_fill_29) zin (fun _ _ => none) r GO) {r5 : Int → Int → Int → Int → zH → Option zRes} (h5 : ∀ (x0 x1 x2 x3 : Int) (h : zH), r5 x0 x1 x2 x3 h = some r → GO 5 [some (129, x0), some (0, x1), some (0, x2), some (0, x3)] [] h) (a0 a1 a2 a3 : Int) (h : zH) (hr : Ar_fill_29_5b zin r5 a0 a1 a2 a3 h = some r) : GO 5 [some (129, a0), some (0, a1), some (0, a2), some (0, a3)] [] h := by
  have e9 := Eq.trans (Eq.symm (qe_Ar_fill_29_5b zin r5 a0 a1 a2 a3 h)) hr
  generalize (400 : Nat) = f9 at e9
  refine hS _ _ (zcal_s (SP := zKsp l true zi r) _ ?_) (zorc_s _ ?_) _ _ _ _ _ e9
  · exact trivial
  · exact ⟨zap4_s (P := fun xs h => GO 5 (zfl [some (129, none), some (0, none), some (0, none), some (0, none)] xs).1 (zfs [] (zfl [some (129, none), some (0, none), some (0, none), some (0, none)] xs).2) h) h5, trivial⟩
set_option maxRecDepth 100000 in
set_option maxHeartbeats 0 in
theorem s_Ar_fill_29_5 {l : Launch} {zi : Nat → zinfo} {r : zRes} {GO : Nat → List (Option zV) → List zV → zH → Prop} (hS : zSg l true zi (zget (999, 0, 0, 0) zc_Ar_fill_29) (zcut zu_Ar_fill_29) zin (fun _ _ => none) r GO) (a0 a1 a2 a3 : Int) (h : zH) (hr : Ar_fill_29_5 zin a0 a1 a2 a3 h = some r) : GO 5 [some (129, a0), some (0, a1), some (0, a2), some (0, a3)] [] h := zit4_s (P := fun x0 x1 x2 x3 h => GO 5 [some (129, x0), some (0, x1), some (0, x2), some (0, x3)] [] h) (fun rr hh a0 a1 a2 a3 h hr => s_Ar_fill_29_5b hS hh a0 a1 a2 a3 h hr) zN a0 a1 a2 a3 h hr
set_option maxRecDepth 100000 in
set_option maxHeartbeats 0 in
theorem s_Ar_fill_29 {l : Launch} {zi : Nat → zinfo} {r : zRes} {GO : Nat → List (Option zV) → List zV → zH → Prop} (hS : zSg l true zi (zget (999, 0, 0, 0) zc_Ar_fill_29) (zcut zu_Ar_fill_29) zin (fun _ _ => none) r GO) (a0 a1 : Int) (h : zH) (hr : Ar_fill_29 a0 a1 h zin = some r) : GO 0 [some (129, a0), some (0, a1), none, none] [] h := by
  have e9 := Eq.trans (Eq.symm (qe_Ar_fill_29 zin a0 a1 h)) hr
  generalize (400 : Nat) = f9 at e9
  refine hS _ _ (zcal_s (SP := zKsp l true zi r) _ ?_) (zorc_s _ ?_) _ _ _ _ _ e9
  · exact trivial
  · exact ⟨zap4_s (P := fun xs h => GO 5 (zfl [some (129, none), some (0, none), some (0, none), some (0, none)] xs).1 (zfs [] (zfl [some (129, none), some (0, none), some (0, none), some (0, none)] xs).2) h) (fun x0 x1 x2 x3 h hr => s_Ar_fill_29_5 hS x0 x1 x2 x3 h hr), trivial⟩
set_option maxRecDepth 100000 in
set_option maxHeartbeats 0 in
theorem s_Ar_fill_31_5b {l : Launch} {zi : Nat → zinfo} {r : zRes} {GO : Nat → List (Option zV) → List zV → zH → Prop} (hS : zSg l true zi (zget (999, 0, 0, 0) zc_Ar_fill_31) (zcut zu_Ar_fill_31) zin (fun _ _ => none) r GO) {r5 : Int → Int → Int → Int → zH → Option zRes} (h5 : ∀ (x0 x1 x2 x3 : Int) (h : zH), r5 x0 x1 x2 x3 h = some r → GO 5 [some (131, x0), some (0, x1), some (0, x2), some (0, x3)] [] h) (a0 a1 a2 a3 : Int) (h : zH) (hr : Ar_fill_31_5b zin r5 a0 a1 a2 a3 h = some r) : GO 5 [some (131, a0), some (0, a1), some (0, a2), some (0, a3)] [] h := by
  have e9 := Eq.trans (Eq.symm (qe_Ar_fill_31_5b zin r5 a0 a1 a2 a3 h)) hr
  generalize (400 : Nat) = f9 at e9
  refine hS _ _ (zcal_s (SP := zKsp l true zi r) _ ?_) (zorc_s _ ?_) _ _ _ _ _ e9
  · exact trivial
  · exact ⟨zap4_s (P := fun xs h => GO 5 (zfl [some (131, none), some (0, none), some (0, none), some (0, none)] xs).1 (zfs [] (zfl [some (131, none), some (0, none), some (0, none), some (0, none)] xs).2) h) h5, trivial⟩
set_option maxRecDepth 100000 in
set_option maxHeartbeats 0 in
theorem s_Ar_fill_31_5 {l : Launch} {zi : Nat → zinfo} {r : zRes} {GO : Nat → List (Option zV) → List zV → zH → Prop} (hS : zSg l true zi (zget (999, 0, 0, 0) zc_Ar_fill_31) (zcut zu_Ar_fill_31) zin (fun _ _ => none) r GO) (a0 a1 a2 a3 : Int) (h : zH) (hr : Ar_fill_31_5 zin a0 a1 a2 a3 h = some r) : GO 5 [some (131, a0), some (0, a1), some (0, a2), some (0, a3)] [] h := zit4_s (P := fun x0 x1 x2 x3 h => GO 5 [some (131, x0), some (0, x1), some (0, x2), some (0, x3)] [] h) (fun rr hh a0 a1 a2 a3 h hr => s_Ar_fill_31_5b hS hh a0 a1 a2 a3 h hr) zN a0 a1 a2 a3 h hr
set_option maxRecDepth 100000 in
set_option maxHeartbeats 0 in
theorem s_Ar_fill_31 {l : Launch} {zi : Nat → zinfo} {r : zRes} {GO : Nat → List (Option zV) → List zV → zH → Prop} (hS : zSg l true zi (zget (999, 0, 0, 0) zc_Ar_fill_31) (zcut zu_Ar_fill_31) zin (fun _ _ => none) r GO) (a0 a1 : Int) (h : zH) (hr : Ar_fill_31 a0 a1 h zin = some r) : GO 0 [some (131, a0), some (0, a1), none, none] [] h := by
  have e9 := Eq.trans (Eq.symm (qe_Ar_fill_31 zin a0 a1 h)) hr
  generalize (400 : Nat) = f9 at e9
  refine hS _ _ (zcal_s (SP := zKsp l true zi r) _ ?_) (zorc_s _ ?_) _ _ _ _ _ e9
  · exact trivial
  · exact ⟨zap4_s (P := fun xs h => GO 5 (zfl [some (131, none), some (0, none), some (0, none), some (0, none)] xs).1 (zfs [] (zfl [some (131, none), some (0, none), some (0, none), some (0, none)] xs).2) h) (fun x0 x1 x2 x3 h hr => s_Ar_fill_31_5 hS x0 x1 x2 x3 h hr), trivial⟩
set_option maxRecDepth 100000 in
set_option maxHeartbeats 0 in
theorem s_Ar_fill_32_5b {l : Launch} {zi : Nat → zinfo} {r : zRes} {GO : Nat → List (Option zV) → List zV → zH → Prop} (hS : zSg l true zi (zget (999, 0, 0, 0) zc_Ar_fill_32) (zcut zu_Ar_fill_32) zin (fun _ _ => none) r GO) {r5 : Int → Int → Int → Int → zH → Option zRes} (h5 : ∀ (x0 x1 x2 x3 : Int) (h : zH), r5 x0 x1 x2 x3 h = some r → GO 5 [some (132, x0), some (0, x1), some (0, x2), some (0, x3)] [] h) (a0 a1 a2 a3 : Int) (h : zH) (hr : Ar_fill_32_5b zin r5 a0 a1 a2 a3 h = some r) : GO 5 [some (132, a0), some (0, a1), some (0, a2), some (0, a3)] [] h := by
  have e9 := Eq.trans (Eq.symm (qe_Ar_fill_32_5b zin r5 a0 a1 a2 a3 h)) hr
  generalize (400 : Nat) = f9 at e9
  refine hS _ _ (zcal_s (SP := zKsp l true zi r) _ ?_) (zorc_s _ ?_) _ _ _ _ _ e9
  · exact trivial
  · exact ⟨zap4_s (P := fun xs h => GO 5 (zfl [some (132, none), some (0, none), some (0, none), some (0, none)] xs).1 (zfs [] (zfl [some (132, none), some (0, none), some (0, none), some (0, none)] xs).2) h) h5, trivial⟩
set_option maxRecDepth 100000 in
set_option maxHeartbeats 0 in
theorem s_Ar_fill_32_5 {l : Launch} {zi : Nat → zinfo} {r : zRes} {GO : Nat → List (Option zV) → List zV → zH → Prop} (hS : zSg l true zi (zget (999, 0, 0, 0) zc_Ar_fill_32) (zcut zu_Ar_fill_32) zin (fun _ _ => none) r GO) (a0 a1 a2 a3 : Int) (h : zH) (hr : Ar_fill_32_5 zin a0 a1 a2 a3 h = some r) : GO 5 [some (132, a0), some (0, a1), some (0, a2), some (0, a3)] [] h := zit4_s (P := fun x0 x1 x2 x3 h => GO 5 [some (132, x0), some (0, x1), some (0, x2), some (0, x3)] [] h) (fun rr hh a0 a1 a2 a3 h hr => s_Ar_fill_32_5b hS hh a0 a1 a2 a3 h hr) zN a0 a1 a2 a3 h hr
set_option maxRecDepth 100000 in
set_option maxHeartbeats 0 in
theorem s_Ar_fill_32 {l : Launch} {zi : Nat → zinfo} {r : zRes} {GO : Nat → List (Option zV) → List zV → zH → Prop} (hS : zSg l true zi (zget (999, 0, 0, 0) zc_Ar_fill_32) (zcut zu_Ar_fill_32) zin (fun _ _ => none) r GO) (a0 a1 : Int) (h : zH) (hr : Ar_fill_32 a0 a1 h zin = some r) : GO 0 [some (132, a0), some (0, a1), none, none] [] h := by
  have e9 := Eq.trans (Eq.symm (qe_Ar_fill_32 zin a0 a1 h)) hr
  generalize (400 : Nat) = f9 at e9
  refine hS _ _ (zcal_s (SP := zKsp l true zi r) _ ?_) (zorc_s _ ?_) _ _ _ _ _ e9
  · exact trivial
  · exact ⟨zap4_s (P := fun xs h => GO 5 (zfl [some (132, none), some (0, none), some (0, none), some (0, none)] xs).1 (zfs [] (zfl [some (132, none), some (0, none), some (0, none), some (0, none)] xs).2) h) (fun x0 x1 x2 x3 h hr => s_Ar_fill_32_5 hS x0 x1 x2 x3 h hr), trivial⟩
set_option maxRecDepth 100000 in
set_option maxHeartbeats 0 in
theorem s_Ar_fill_39_5b {l : Launch} {zi : Nat → zinfo} {r : zRes} {GO : Nat → List (Option zV) → List zV → zH → Prop} (hS : zSg l true zi (zget (999, 0, 0, 0) zc_Ar_fill_39) (zcut zu_Ar_fill_39) zin (fun _ _ => none) r GO) {r5 : Int → Int → Int → Int → zH → Option zRes} (h5 : ∀ (x0 x1 x2 x3 : Int) (h : zH), r5 x0 x1 x2 x3 h = some r → GO 5 [some (139, x0), some (0, x1), some (0, x2), some (0, x3)] [] h) (a0 a1 a2 a3 : Int) (h : zH) (hr : Ar_fill_39_5b zin r5 a0 a1 a2 a3 h = some r) : GO 5 [some (139, a0), some (0, a1), some (0, a2), some (0, a3)] [] h := by
  have e9 := Eq.trans (Eq.symm (qe_Ar_fill_39_5b zin r5 a0 a1 a2 a3 h)) hr
  generalize (400 : Nat) = f9 at e9
  refine hS _ _ (zcal_s (SP := zKsp l true zi r) _ ?_) (zorc_s _ ?_) _ _ _ _ _ e9
  · exact trivial
  · exact ⟨zap4_s (P := fun xs h => GO 5 (zfl [some (139, none), some (0, none), some (0, none), some (0, none)] xs).1 (zfs [] (zfl [some (139, none), some (0, none), some (0, none), some (0, none)] xs).2) h) h5, trivial⟩
set_option maxRecDepth 100000 in
set_option maxHeartbeats 0 in
theorem s_Ar_fill_39_5 {l : Launch} {zi : Nat → zinfo} {r : zRes} {GO : Nat → List (Option zV) → List zV → zH → Prop} (hS : zSg l true zi (zget (999, 0, 0, 0) zc_Ar_fill_39) (zcut zu_Ar_fill_39) zin (fun _ _ => none) r GO) (a0 a1 a2 a3 : Int) (h : zH) (hr : Ar_fill_39_5 zin a0 a1 a2 a3 h = some r) : GO 5 [some (139, a0), some (0, a1), some (0, a2), some (0, a3)] [] h := zit4_s (P := fun x0 x1 x2 x3 h => GO 5 [some (139, x0), some (0, x1), some (0, x2), some (0, x3)] [] h) (fun rr hh a0 a1 a2 a3 h hr => s_Ar_fill_39_5b hS hh a0 a1 a2 a3 h hr) zN a0 a1 a2 a3 h hr
set_option maxRecDepth 100000 in
set_option maxHeartbeats 0 in
theorem s_Ar_fill_39 {l : Launch} {zi : Nat → zinfo} {r : zRes} {GO : Nat → List (Option zV) → List zV → zH → Prop} (hS : zSg l true zi (zget (999, 0, 0, 0) zc_Ar_fill_39) (zcut zu_Ar_fill_39) zin (fun _ _ => none) r GO) (a0 a1 : Int) (h : zH) (hr : Ar_fill_39 a0 a1 h zin = some r) : GO 0 [some (139, a0), some (0, a1), none, none] [] h := by
  have e9 := Eq.trans (Eq.symm (qe_Ar_fill_39 zin a0 a1 h)) hr
  generalize (400 : Nat) = f9 at e9
  refine hS _ _ (zcal_s (SP := zKsp l true zi r) _ ?_) (zorc_s _ ?_) _ _ _ _ _ e9
  · exact trivial
  · exact ⟨zap4_s (P := fun xs h => GO 5 (zfl [some (139, none), some (0, none), some (0, none), some (0, none)] xs).1 (zfs [] (zfl [some (139, none), some (0, none), some (0, none), some (0, none)] xs).2) h) (fun x0 x1 x2 x3 h hr => s_Ar_fill_39_5 hS x0 x1 x2 x3 h hr), trivial⟩
set_option maxRecDepth 100000 in
set_option maxHeartbeats 0 in
theorem s_Ar_fill_40_5b {l : Launch} {zi : Nat → zinfo} {r : zRes} {GO : Nat → List (Option zV) → List zV → zH → Prop} (hS : zSg l true zi (zget (999, 0, 0, 0) zc_Ar_fill_40) (zcut zu_Ar_fill_40) zin (fun _ _ => none) r GO) {r5 : Int → Int → Int → Int → zH → Option zRes} (h5 : ∀ (x0 x1 x2 x3 : Int) (h : zH), r5 x0 x1 x2 x3 h = some r → GO 5 [some (140, x0), some (0, x1), some (0, x2), some (0, x3)] [] h) (a0 a1 a2 a3 : Int) (h : zH) (hr : Ar_fill_40_5b zin r5 a0 a1 a2 a3 h = some r) : GO 5 [some (140, a0), some (0, a1), some (0, a2), some (0, a3)] [] h := by
  have e9 := Eq.trans (Eq.symm (qe_Ar_fill_40_5b zin r5 a0 a1 a2 a3 h)) hr
  generalize (400 : Nat) = f9 at e9
  refine hS _ _ (zcal_s (SP := zKsp l true zi r) _ ?_) (zorc_s _ ?_) _ _ _ _ _ e9
  · exact trivial
  · exact ⟨zap4_s (P := fun xs h => GO 5 (zfl [some (140, none), some (0, none), some (0, none), some (0, none)] xs).1 (zfs [] (zfl [some (140, none), some (0, none), some (0, none), some (0, none)] xs).2) h) h5, trivial⟩
set_option maxRecDepth 100000 in
set_option maxHeartbeats 0 in
theorem s_Ar_fill_40_5 {l : Launch} {zi : Nat → zinfo} {r : zRes} {GO : Nat → List (Option zV) → List zV → zH → Prop} (hS : zSg l true zi (zget (999, 0, 0, 0) zc_Ar_fill_40) (zcut zu_Ar_fill_40) zin (fun _ _ => none) r GO) (a0 a1 a2 a3 : Int) (h : zH) (hr : Ar_fill_40_5 zin a0 a1 a2 a3 h = some r) : GO 5 [some (140, a0), some (0, a1), some (0, a2), some (0, a3)] [] h := zit4_s (P := fun x0 x1 x2 x3 h => GO 5 [some (140, x0), some (0, x1), some (0, x2), some (0, x3)] [] h) (fun rr hh a0 a1 a2 a3 h hr => s_Ar_fill_40_5b hS hh a0 a1 a2 a3 h hr) zN a0 a1 a2 a3 h hr
set_option maxRecDepth 100000 in
set_option maxHeartbeats 0 in
theorem s_Ar_fill_40 {l : Launch} {zi : Nat → zinfo} {r : zRes} {GO : Nat → List (Option zV) → List zV → zH → Prop} (hS : zSg l true zi (zget (999, 0, 0, 0) zc_Ar_fill_40) (zcut zu_Ar_fill_40) zin (fun _ _ => none) r GO) (a0 a1 : Int) (h : zH) (hr : Ar_fill_40 a0 a1 h zin = some r) : GO 0 [some (140, a0), some (0, a1), none, none] [] h := by
  have e9 := Eq.trans (Eq.symm (qe_Ar_fill_40 zin a0 a1 h)) hr
  generalize (400 : Nat) = f9 at e9
  refine hS _ _ (zcal_s (SP := zKsp l true zi r) _ ?_) (zorc_s _ ?_) _ _ _ _ _ e9
  · exact trivial
  · exact ⟨zap4_s (P := fun xs h => GO 5 (zfl [some (140, none), some (0, none), some (0, none), some (0, none)] xs).1 (zfs [] (zfl [some (140, none), some (0, none), some (0, none), some (0, none)] xs).2) h) (fun x0 x1 x2 x3 h hr => s_Ar_fill_40_5 hS x0 x1 x2 x3 h hr), trivial⟩
set_option maxRecDepth 100000 in
set_option maxHeartbeats 0 in
theorem s_Fi_init {l : Launch} {zi : Nat → zinfo} {r : zRes} {GO : Nat → List (Option zV) → List zV → zH → Prop} (hS : zSg l true zi (zget (999, 0, 0, 0) zc_Fi_init) (zcut zu_Fi_init) zin (fun _ _ => none) r GO) (a0 : Int) (h : zH) (hr : Fi_init a0 h zin = some r) : GO 0 [some (104, a0)] [] h := by
  have e9 := Eq.trans (Eq.symm (qe_Fi_init zin a0 h)) hr
  generalize (400 : Nat) = f9 at e9
  refine hS _ _ (zcal_s (SP := zKsp l true zi r) _ ?_) (zorc_s _ ?_) _ _ _ _ _ e9
  · exact trivial
  · exact trivial
set_option maxRecDepth 100000 in
set_option maxHeartbeats 0 in
theorem s_Un_init {l : Launch} {zi : Nat → zinfo} {r : zRes} {GO : Nat → List (Option zV) → List zV → zH → Prop} (hS : zSg l true zi (zget (999, 0, 0, 0) zc_Un_init) (zcut zu_Un_init) zin (fun _ _ => none) r GO) (a0 : Int) (h : zH) (hr : Un_init a0 h zin = some r) : GO 0 [some (103, a0)] [] h := by
  have e9 := Eq.trans (Eq.symm (qe_Un_init zin a0 h)) hr
  generalize (400 : Nat) = f9 at e9
  refine hS _ _ (zcal_s (SP := zKsp l true zi r) _ ?_) (zorc_s _ ?_) _ _ _ _ _ e9
  · exact trivial
  · exact trivial
set_option maxRecDepth 100000 in
set_option maxHeartbeats 0 in
theorem s_Co_init {l : Launch} {zi : Nat → zinfo} {r : zRes} {GO : Nat → List (Option zV) → List zV → zH → Prop} (hS : zSg l true zi (zget (999, 0, 0, 0) zc_Co_init) (zcut zu_Co_init) zin (fun _ _ => none) r GO) (k201 : ∀ (x0 : Int) (h : zH) (k : (Int → zH → Option zRes)) (t : (Nat → zH → Option zRes)), Fi_init x0 h k = some r → zKsp l true zi r 201 [x0] h k t) (k276 : ∀ (x0 : Int) (h : zH) (k : (Int → zH → Option zRes)) (t : (Nat → zH → Option zRes)), Un_init x0 h k = some r → zKsp l true zi r 276 [x0] h k t) (a0 a1 : Int) (h : zH) (hr : Co_init a0 a1 h zin = some r) : GO 0 [some (102, a0), some (101, a1)] [] h := by
  have e9 := Eq.trans (Eq.symm (qe_Co_init zin a0 a1 h)) hr
  generalize (400 : Nat) = f9 at e9
  refine hS _ _ (zcal_s (SP := zKsp l true zi r) _ ?_) (zorc_s _ ?_) _ _ _ _ _ e9
  · exact ⟨zca1_s (SP := fun xs h k t => zKsp l true zi r 201 (zfc [none] xs) h k t) k201, ⟨zca1_s (SP := fun xs h k t => zKsp l true zi r 276 (zfc [none] xs) h k t) k276, trivial⟩⟩
  · exact trivial
set_option maxRecDepth 100000 in
set_option maxHeartbeats 0 in
theorem s_Le_init {l : Launch} {zi : Nat → zinfo} {r : zRes} {GO : Nat → List (Option zV) → List zV → zH → Prop} (hS : zSg l true zi (zget (999, 0, 0, 0) zc_Le_init) (zcut zu_Le_init) zin (fun _ _ => none) r GO) (a0 : Int) (h : zH) (hr : Le_init a0 h zin = some r) : GO 0 [some (101, a0)] [] h := by
  have e9 := Eq.trans (Eq.symm (qe_Le_init zin a0 h)) hr
  generalize (400 : Nat) = f9 at e9
  refine hS _ _ (zcal_s (SP := zKsp l true zi r) _ ?_) (zorc_s _ ?_) _ _ _ _ _ e9
  · exact trivial
  · exact trivial
set_option maxRecDepth 100000 in
set_option maxHeartbeats 0 in
theorem s_Th_init {l : Launch} {zi : Nat → zinfo} {r : zRes} {GO : Nat → List (Option zV) → List zV → zH → Prop} (hS : zSg l true zi (zget (999, 0, 0, 0) zc_Th_init) (zcut zu_Th_init) zin (fun _ _ => none) r GO) (k2 : ∀ (x0 x1 : Int) (h : zH) (k : (Int → zH → Option zRes)) (t : (Nat → zH → Option zRes)), Ma_max x0 x1 h k = some r → zKsp l true zi r 2 [x0, x1] h k t) (a0 a1 a2 : Int) (h : zH) (hr : Th_init a0 a1 a2 h zin = some r) : GO 0 [some (106, a0), some (0, a1), some (0, a2)] [] h := by
  have e9 := Eq.trans (Eq.symm (qe_Th_init zin a0 a1 a2 h)) hr
  generalize (400 : Nat) = f9 at e9
  refine hS _ _ (zcal_s (SP := zKsp l true zi r) _ ?_) (zorc_s _ ?_) _ _ _ _ _ e9
  · exact ⟨zca2_s (SP := fun xs h k t => zKsp l true zi r 2 (zfc [none, none] xs) h k t) k2, trivial⟩
  · exact trivial
set_option maxRecDepth 100000 in
set_option maxHeartbeats 0 in
theorem s_Re_init_39b {l : Launch} {zi : Nat → zinfo} {r : zRes} {GO : Nat → List (Option zV) → List zV → zH → Prop} (hS : zSg l true zi (zget (999, 0, 0, 0) zc_Re_init) (zcut zu_Re_init) zin (fun _ _ => none) r GO) (k253 : ∀ (x0 x1 x2 : Int) (h : zH) (k : (Int → zH → Option zRes)) (t : (Nat → zH → Option zRes)), Th_init x0 x1 x2 h k = some r → zKsp l true zi r 253 [x0, x1, x2] h k t) {r39 : Int → Int → zH → Option zRes} (h39 : ∀ (x0 x1 : Int) (h : zH), r39 x0 x1 h = some r → GO 39 [some (105, x0), some (0, x1)] [] h) (a0 a1 : Int) (h : zH) (hr : Re_init_39b zin r39 a0 a1 h = some r) : GO 39 [some (105, a0), some (0, a1)] [] h := by
  have e9 := Eq.trans (Eq.symm (qe_Re_init_39b zin r39 a0 a1 h)) hr
  generalize (400 : Nat) = f9 at e9
  refine hS _ _ (zcal_s (SP := zKsp l true zi r) _ ?_) (zorc_s _ ?_) _ _ _ _ _ e9
  · exact ⟨zca3_s (SP := fun xs h k t => zKsp l true zi r 253 (zfc [none, none, none] xs) h k t) k253, trivial⟩
  · exact ⟨zap2_s (P := fun xs h => GO 39 (zfl [some (105, none), some (0, none)] xs).1 (zfs [] (zfl [some (105, none), some (0, none)] xs).2) h) h39, trivial⟩
set_option maxRecDepth 100000 in
set_option maxHeartbeats 0 in
theorem s_Re_init_39 {l : Launch} {zi : Nat → zinfo} {r : zRes} {GO : Nat → List (Option zV) → List zV → zH → Prop} (hS : zSg l true zi (zget (999, 0, 0, 0) zc_Re_init) (zcut zu_Re_init) zin (fun _ _ => none) r GO) (k253 : ∀ (x0 x1 x2 : Int) (h : zH) (k : (Int → zH → Option zRes)) (t : (Nat → zH → Option zRes)), Th_init x0 x1 x2 h k = some r → zKsp l true zi r 253 [x0, x1, x2] h k t) (a0 a1 : Int) (h : zH) (hr : Re_init_39 zin a0 a1 h = some r) : GO 39 [some (105, a0), some (0, a1)] [] h := zit2_s (P := fun x0 x1 h => GO 39 [some (105, x0), some (0, x1)] [] h) (fun rr hh a0 a1 h hr => s_Re_init_39b hS k253 hh a0 a1 h hr) zN a0 a1 h hr
set_option maxRecDepth 100000 in
set_option maxHeartbeats 0 in
theorem s_Re_init {l : Launch} {zi : Nat → zinfo} {r : zRes} {GO : Nat → List (Option zV) → List zV → zH → Prop} (hS : zSg l true zi (zget (999, 0, 0, 0) zc_Re_init) (zcut zu_Re_init) zin (fun _ _ => none) r GO) (k253 : ∀ (x0 x1 x2 : Int) (h : zH) (k : (Int → zH → Option zRes)) (t : (Nat → zH → Option zRes)), Th_init x0 x1 x2 h k = some r → zKsp l true zi r 253 [x0, x1, x2] h k t) (a0 : Int) (h : zH) (hr : Re_init a0 h zin = some r) : GO 0 [some (105, a0), none] [] h := by
  have e9 := Eq.trans (Eq.symm (qe_Re_init zin a0 h)) hr
  generalize (400 : Nat) = f9 at e9
  refine hS _ _ (zcal_s (SP := zKsp l true zi r) _ ?_) (zorc_s _ ?_) _ _ _ _ _ e9
  · exact trivial
  · exact ⟨zap2_s (P := fun xs h => GO 39 (zfl [some (105, none), some (0, none)] xs).1 (zfs [] (zfl [some (105, none), some (0, none)] xs).2) h) (fun x0 x1 h hr => s_Re_init_39 hS k253 x0 x1 h hr), trivial⟩
set_option maxRecDepth 100000 in
set_option maxHeartbeats 0 in
theorem s_X_init {l : Launch} {zi : Nat → zinfo} {r : zRes} {GO : Nat → List (Option zV) → List zV → zH → Prop} (hS : zSg l true zi (zget (999, 0, 0, 0) zc_X_init) (zcut zu_X_init) zin (fun _ _ => none) r GO) (k179 : ∀ (x0 x1 : Int) (h : zH) (k : (Int → zH → Option zRes)) (t : (Nat → zH → Option zRes)), Co_init x0 x1 h k = some r → zKsp l true zi r 179 [x0, x1] h k t) (k239 : ∀ (x0 : Int) (h : zH) (k : (Int → zH → Option zRes)) (t : (Nat → zH → Option zRes)), Le_init x0 h k = some r → zKsp l true zi r 239 [x0] h k t) (k268 : ∀ (x0 : Int) (h : zH) (k : (Int → zH → Option zRes)) (t : (Nat → zH → Option zRes)), Re_init x0 h k = some r → zKsp l true zi r 268 [x0] h k t) (a0 : Int) (h : zH) (hr : X_init a0 h zin = some r) : GO 0 [some (100, a0)] [] h := by
  have e9 := Eq.trans (Eq.symm (qe_X_init zin a0 h)) hr
  generalize (400 : Nat) = f9 at e9
  refine hS _ _ (zcal_s (SP := zKsp l true zi r) _ ?_) (zorc_s _ ?_) _ _ _ _ _ e9
  · exact ⟨zca2_s (SP := fun xs h k t => zKsp l true zi r 179 (zfc [none, none] xs) h k t) k179, ⟨zca1_s (SP := fun xs h k t => zKsp l true zi r 239 (zfc [none] xs) h k t) k239, ⟨zca1_s (SP := fun xs h k t => zKsp l true zi r 268 (zfc [none] xs) h k t) k268, trivial⟩⟩⟩
  · exact trivial
set_option maxRecDepth 100000 in
set_option maxHeartbeats 0 in
theorem s_X_isWithin_15 {l : Launch} {zi : Nat → zinfo} {r : zRes} {GO : Nat → List (Option zV) → List zV → zH → Prop} (hS : zSg l true zi (zget (999, 0, 0, 0) zc_X_isWithin) (zcut zu_X_isWithin) zin (fun _ _ => none) r GO) (t0 : Int) (h : zH) (hr : X_isWithin_15 zin t0 h = some r) : GO 15 [none, none, none] [(0, t0)] h := by
  have e9 := Eq.trans (Eq.symm (qe_X_isWithin_15 zin t0 h)) hr
  generalize (400 : Nat) = f9 at e9
  refine hS _ _ (zcal_s (SP := zKsp l true zi r) _ ?_) (zorc_s _ ?_) _ _ _ _ _ e9
  · exact trivial
  · exact trivial
set_option maxRecDepth 100000 in
set_option maxHeartbeats 0 in
theorem s_X_isWithin_14 {l : Launch} {zi : Nat → zinfo} {r : zRes} {GO : Nat → List (Option zV) → List zV → zH → Prop} (hS : zSg l true zi (zget (999, 0, 0, 0) zc_X_isWithin) (zcut zu_X_isWithin) zin (fun _ _ => none) r GO) (h : zH) (hr : X_isWithin_14 zin h = some r) : GO 14 [none, none, none] [] h := by
  have e9 := Eq.trans (Eq.symm (qe_X_isWithin_14 zin h)) hr
  generalize (400 : Nat) = f9 at e9
  refine hS _ _ (zcal_s (SP := zKsp l true zi r) _ ?_) (zorc_s _ ?_) _ _ _ _ _ e9
  · exact trivial
  · exact ⟨zap1_s (P := fun xs h => GO 15 (zfl [none, none, none] xs).1 (zfs [(0, none)] (zfl [none, none, none] xs).2) h) (fun x0 h hr => s_X_isWithin_15 hS x0 h hr), trivial⟩
set_option maxRecDepth 100000 in
set_option maxHeartbeats 0 in
theorem s_X_isWithin {l : Launch} {zi : Nat → zinfo} {r : zRes} {GO : Nat → List (Option zV) → List zV → zH → Prop} (hS : zSg l true zi (zget (999, 0, 0, 0) zc_X_isWithin) (zcut zu_X_isWithin) zin (fun _ _ => none) r GO) (a0 a1 a2 : Int) (h : zH) (hr : X_isWithin a0 a1 a2 h zin = some r) : GO 0 [some (0, a0), some (0, a1), some (0, a2)] [] h := by
  have e9 := Eq.trans (Eq.symm (qe_X_isWithin zin a0 a1 a2 h)) hr
  generalize (400 : Nat) = f9 at e9
  refine hS _ _ (zcal_s (SP := zKsp l true zi r) _ ?_) (zorc_s _ ?_) _ _ _ _ _ e9
  · exact trivial
  · exact ⟨zap0_s (P := fun xs h => GO 14 (zfl [none, none, none] xs).1 (zfs [] (zfl [none, none, none] xs).2) h) (fun  h hr => s_X_isWithin_14 hS  h hr), ⟨zap1_s (P := fun xs h => GO 15 (zfl [none, none, none] xs).1 (zfs [(0, none)] (zfl [none, none, none] xs).2) h) (fun x0 h hr => s_X_isWithin_15 hS x0 h hr), trivial⟩⟩
set_option maxRecDepth 100000 in
set_option maxHeartbeats 0 in
theorem s_Ke_init {l : Launch} {zi : Nat → zinfo} {r : zRes} {GO : Nat → List (Option zV) → List zV → zH → Prop} (hS : zSg l true zi (zget (999, 0, 0, 0) zc_Ke_init) (zcut zu_Ke_init) zin (fun _ _ => none) r GO) (a0 a1 a2 : Int) (h : zH) (hr : Ke_init a0 a1 a2 h zin = some r) : GO 0 [some (107, a0), some (0, a1), some (0, a2)] [] h := by
  have e9 := Eq.trans (Eq.symm (qe_Ke_init zin a0 a1 a2 h)) hr
  generalize (400 : Nat) = f9 at e9
  refine hS _ _ (zcal_s (SP := zKsp l true zi r) _ ?_) (zorc_s _ ?_) _ _ _ _ _ e9
  · exact trivial
  · exact trivial
set_option maxRecDepth 100000 in
set_option maxHeartbeats 0 in
theorem s_Le_enterKernel_32 {l : Launch} {zi : Nat → zinfo} {r : zRes} {GO : Nat → List (Option zV) → List zV → zH → Prop} (hS : zSg l true zi (zget (999, 0, 0, 0) zc_Le_enterKernel) (zcut zu_Le_enterKernel) zin (fun _ _ => none) r GO) (a0 : Int) (h : zH) (hr : Le_enterKernel_32 zin a0 h = some r) : GO 32 [some (101, a0), none] [] h := by
  have e9 := Eq.trans (Eq.symm (qe_Le_enterKernel_32 zin a0 h)) hr
  generalize (400 : Nat) = f9 at e9
  refine hS _ _ (zcal_s (SP := zKsp l true zi r) _ ?_) (zorc_s _ ?_) _ _ _ _ _ e9
  · exact trivial
  · exact trivial
set_option maxRecDepth 100000 in
set_option maxHeartbeats 0 in
theorem s_Le_enterKernel {l : Launch} {zi : Nat → zinfo} {r : zRes} {GO : Nat → List (Option zV) → List zV → zH → Prop} (hS : zSg l true zi (zget (999, 0, 0, 0) zc_Le_enterKernel) (zcut zu_Le_enterKernel) zin (fun _ _ => none) r GO) (a0 a1 : Int) (h : zH) (hr : Le_enterKernel a0 a1 h zin = some r) : GO 0 [some (101, a0), some (107, a1)] [] h := by
  have e9 := Eq.trans (Eq.symm (qe_Le_enterKernel zin a0 a1 h)) hr
  generalize (400 : Nat) = f9 at e9
  refine hS _ _ (zcal_s (SP := zKsp l true zi r) _ ?_) (zorc_s _ ?_) _ _ _ _ _ e9
  · exact trivial
  · exact ⟨zap1_s (P := fun xs h => GO 32 (zfl [some (101, none), none] xs).1 (zfs [] (zfl [some (101, none), none] xs).2) h) (fun x0 h hr => s_Le_enterKernel_32 hS x0 h hr), trivial⟩
set_option maxRecDepth 100000 in
set_option maxHeartbeats 0 in
theorem s_X_addKernel_20 {l : Launch} {zi : Nat → zinfo} {r : zRes} {GO : Nat → List (Option zV) → List zV → zH → Prop} (hS : zSg l true zi (zget (999, 0, 0, 0) zc_X_addKernel) (zcut zu_X_addKernel) zin zth r GO) (k54 : ∀ (x0 x1 x2 : Int) (h : zH) (k : (Int → zH → Option zRes)) (t : (Nat → zH → Option zRes)), X_isWithin x0 x1 x2 h k = some r → zKsp l true zi r 54 [x0, x1, x2] h k t) (k222 : ∀ (x0 x1 x2 : Int) (h : zH) (k : (Int → zH → Option zRes)) (t : (Nat → zH → Option zRes)), Ke_init x0 x1 x2 h k = some r → zKsp l true zi r 222 [x0, x1, x2] h k t) (k242 : ∀ (x0 x1 : Int) (h : zH) (k : (Int → zH → Option zRes)) (t : (Nat → zH → Option zRes)), Le_enterKernel x0 x1 h k = some r → zKsp l true zi r 242 [x0, x1] h k t) (h : zH) (hr : X_addKernel_20 zin zth h = some r) : GO 20 [none, none, none] [] h := by
  have e9 := Eq.trans (Eq.symm (qe_X_addKernel_20 zin zth h)) hr
  generalize (400 : Nat) = f9 at e9
  refine hS _ _ (zcal_s (SP := zKsp l true zi r) _ ?_) (zorc_s _ ?_) _ _ _ _ _ e9
  · exact trivial
  · exact trivial
set_option maxRecDepth 100000 in
set_option maxHeartbeats 0 in
theorem s_X_addKernel {l : Launch} {zi : Nat → zinfo} {r : zRes} {GO : Nat → List (Option zV) → List zV → zH → Prop} (hS : zSg l true zi (zget (999, 0, 0, 0) zc_X_addKernel) (zcut zu_X_addKernel) zin zth r GO) (k54 : ∀ (x0 x1 x2 : Int) (h : zH) (k : (Int → zH → Option zRes)) (t : (Nat → zH → Option zRes)), X_isWithin x0 x1 x2 h k = some r → zKsp l true zi r 54 [x0, x1, x2] h k t) (k222 : ∀ (x0 x1 x2 : Int) (h : zH) (k : (Int → zH → Option zRes)) (t : (Nat → zH → Option zRes)), Ke_init x0 x1 x2 h k = some r → zKsp l true zi r 222 [x0, x1, x2] h k t) (k242 : ∀ (x0 x1 : Int) (h : zH) (k : (Int → zH → Option zRes)) (t : (Nat → zH → Option zRes)), Le_enterKernel x0 x1 h k = some r → zKsp l true zi r 242 [x0, x1] h k t) (a0 a1 a2 : Int) (h : zH) (hr : X_addKernel a0 a1 a2 h zth zin = some r) : GO 0 [some (100, a0), some (0, a1), some (0, a2)] [] h := by
  have e9 := Eq.trans (Eq.symm (qe_X_addKernel zin zth a0 a1 a2 h)) hr
  generalize (400 : Nat) = f9 at e9
  refine hS _ _ (zcal_s (SP := zKsp l true zi r) _ ?_) (zorc_s _ ?_) _ _ _ _ _ e9
  · exact ⟨zca3_s (SP := fun xs h k t => zKsp l true zi r 54 (zfc [none, none, none] xs) h k t) k54, ⟨zca3_s (SP := fun xs h k t => zKsp l true zi r 222 (zfc [none, none, none] xs) h k t) k222, ⟨zca2_s (SP := fun xs h k t => zKsp l true zi r 242 (zfc [none, none] xs) h k t) k242, trivial⟩⟩⟩
  · exact ⟨zap0_s (P := fun xs h => GO 20 (zfl [none, none, none] xs).1 (zfs [] (zfl [none, none, none] xs).2) h) (fun  h hr => s_X_addKernel_20 hS k54 k222 k242  h hr), trivial⟩
set_option maxRecDepth 100000 in
set_option maxHeartbeats 0 in
theorem s_Le_kernelOf_24 {l : Launch} {zi : Nat → zinfo} {r : zRes} {GO : Nat → List (Option zV) → List zV → zH → Prop} (hS : zSg l true zi (zget (999, 0, 0, 0) zc_Le_kernelOf) (zcut zu_Le_kernelOf) zin (fun _ _ => none) r GO) (k54 : ∀ (x0 x1 x2 : Int) (h : zH) (k : (Int → zH → Option zRes)) (t : (Nat → zH → Option zRes)), X_isWithin x0 x1 x2 h k = some r → zKsp l true zi r 54 [x0, x1, x2] h k t) (t0 : Int) (h : zH) (hr : Le_kernelOf_24 zin t0 h = some r) : GO 24 [none, none] [(107, t0)] h := by
  have e9 := Eq.trans (Eq.symm (qe_Le_kernelOf_24 zin t0 h)) hr
  generalize (400 : Nat) = f9 at e9
  refine hS _ _ (zcal_s (SP := zKsp l true zi r) _ ?_) (zorc_s _ ?_) _ _ _ _ _ e9
  · exact trivial
  · exact trivial
set_option maxRecDepth 100000 in
set_option maxHeartbeats 0 in
theorem s_Le_kernelOf {l : Launch} {zi : Nat → zinfo} {r : zRes} {GO : Nat → List (Option zV) → List zV → zH → Prop} (hS : zSg l true zi (zget (999, 0, 0, 0) zc_Le_kernelOf) (zcut zu_Le_kernelOf) zin (fun _ _ => none) r GO) (k54 : ∀ (x0 x1 x2 : Int) (h : zH) (k : (Int → zH → Option zRes)) (t : (Nat → zH → Option zRes)), X_isWithin x0 x1 x2 h k = some r → zKsp l true zi r 54 [x0, x1, x2] h k t) (a0 a1 : Int) (h : zH) (hr : Le_kernelOf a0 a1 h zin = some r) : GO 0 [some (101, a0), some (0, a1)] [] h := by
  have e9 := Eq.trans (Eq.symm (qe_Le_kernelOf zin a0 a1 h)) hr
  generalize (400 : Nat) = f9 at e9
  refine hS _ _ (zcal_s (SP := zKsp l true zi r) _ ?_) (zorc_s _ ?_) _ _ _ _ _ e9
  · exact ⟨zca3_s (SP := fun xs h k t => zKsp l true zi r 54 (zfc [none, none, none] xs) h k t) k54, trivial⟩
  · exact ⟨zap1_s (P := fun xs h => GO 24 (zfl [none, none] xs).1 (zfs [(107, none)] (zfl [none, none] xs).2) h) (fun x0 h hr => s_Le_kernelOf_24 hS k54 x0 h hr), trivial⟩
set_option maxRecDepth 100000 in
set_option maxHeartbeats 0 in
theorem s_X_kernelAt {l : Launch} {zi : Nat → zinfo} {r : zRes} {GO : Nat → List (Option zV) → List zV → zH → Prop} (hS : zSg l true zi (zget (999, 0, 0, 0) zc_X_kernelAt) (zcut zu_X_kernelAt) zin zth r GO) (k240 : ∀ (x0 x1 : Int) (h : zH) (k : (Int → zH → Option zRes)) (t : (Nat → zH → Option zRes)), Le_kernelOf x0 x1 h k = some r → zKsp l true zi r 240 [x0, x1] h k t) (a0 a1 : Int) (h : zH) (hr : X_kernelAt a0 a1 h zth zin = some r) : GO 0 [some (100, a0), some (0, a1), none] [] h := by
  have e9 := Eq.trans (Eq.symm (qe_X_kernelAt zin zth a0 a1 h)) hr
  generalize (400 : Nat) = f9 at e9
  refine hS _ _ (zcal_s (SP := zKsp l true zi r) _ ?_) (zorc_s _ ?_) _ _ _ _ _ e9
  · exact ⟨zca2_s (SP := fun xs h k t => zKsp l true zi r 240 (zfc [none, none] xs) h k t) k240, trivial⟩
  · exact trivial
set_option maxRecDepth 100000 in
set_option maxHeartbeats 0 in
theorem s_In_init {l : Launch} {zi : Nat → zinfo} {r : zRes} {GO : Nat → List (Option zV) → List zV → zH → Prop} (hS : zSg l true zi (zget (999, 0, 0, 0) zc_In_init) (zcut zu_In_init) zin (fun _ _ => none) r GO) (a0 a1 a2 a3 a4 : Int) (h : zH) (hr : In_init a0 a1 a2 a3 a4 h zin = some r) : GO 0 [some (108, a0), some (0, a1), some (0, a2), some (0, a3), some (0, a4)] [] h := by
  have e9 := Eq.trans (Eq.symm (qe_In_init zin a0 a1 a2 a3 a4 h)) hr
  generalize (400 : Nat) = f9 at e9
  refine hS _ _ (zcal_s (SP := zKsp l true zi r) _ ?_) (zorc_s _ ?_) _ _ _ _ _ e9
  · exact trivial
  · exact trivial
set_option maxRecDepth 100000 in
set_option maxHeartbeats 0 in
theorem s_In_isOneOf_16 {l : Launch} {zi : Nat → zinfo} {r : zRes} {GO : Nat → List (Option zV) → List zV → zH → Prop} (hS : zSg l true zi (zget (999, 0, 0, 0) zc_In_isOneOf) (zcut zu_In_isOneOf) zin (fun _ _ => none) r GO) (t0 : Int) (h : zH) (hr : In_isOneOf_16 zin t0 h = some r) : GO 16 [none, none] [(0, t0)] h := by
  have e9 := Eq.trans (Eq.symm (qe_In_isOneOf_16 zin t0 h)) hr
  generalize (400 : Nat) = f9 at e9
  refine hS _ _ (zcal_s (SP := zKsp l true zi r) _ ?_) (zorc_s _ ?_) _ _ _ _ _ e9
  · exact trivial
  · exact trivial
set_option maxRecDepth 100000 in
set_option maxHeartbeats 0 in
theorem s_In_isOneOf {l : Launch} {zi : Nat → zinfo} {r : zRes} {GO : Nat → List (Option zV) → List zV → zH → Prop} (hS : zSg l true zi (zget (999, 0, 0, 0) zc_In_isOneOf) (zcut zu_In_isOneOf) zin (fun _ _ => none) r GO) (a0 a1 : Int) (h : zH) (hr : In_isOneOf a0 a1 h zin = some r) : GO 0 [some (108, a0), some (3, a1)] [] h := by
  have e9 := Eq.trans (Eq.symm (qe_In_isOneOf zin a0 a1 h)) hr
  generalize (400 : Nat) = f9 at e9
  refine hS _ _ (zcal_s (SP := zKsp l true zi r) _ ?_) (zorc_s _ ?_) _ _ _ _ _ e9
  · exact trivial
  · exact ⟨zap1_s (P := fun xs h => GO 16 (zfl [none, none] xs).1 (zfs [(0, none)] (zfl [none, none] xs).2) h) (fun x0 h hr => s_In_isOneOf_16 hS x0 h hr), trivial⟩
set_option maxRecDepth 100000 in
set_option maxHeartbeats 0 in
theorem s_Ke_hasRegister {l : Launch} {zi : Nat → zinfo} {r : zRes} {GO : Nat → List (Option zV) → List zV → zH → Prop} (hS : zSg l true zi (zget (999, 0, 0, 0) zc_Ke_hasRegister) (zcut zu_Ke_hasRegister) zin (fun _ _ => none) r GO) (k54 : ∀ (x0 x1 x2 : Int) (h : zH) (k : (Int → zH → Option zRes)) (t : (Nat → zH → Option zRes)), X_isWithin x0 x1 x2 h k = some r → zKsp l true zi r 54 [x0, x1, x2] h k t) (a0 a1 : Int) (h : zH) (hr : Ke_hasRegister a0 a1 h zin = some r) : GO 0 [some (107, a0), some (0, a1)] [] h := by
  have e9 := Eq.trans (Eq.symm (qe_Ke_hasRegister zin a0 a1 h)) hr
  generalize (400 : Nat) = f9 at e9
  refine hS _ _ (zcal_s (SP := zKsp l true zi r) _ ?_) (zorc_s _ ?_) _ _ _ _ _ e9
  · exact ⟨zca3_s (SP := fun xs h k t => zKsp l true zi r 54 (zfc [none, none, none] xs) h k t) k54, trivial⟩
  · exact trivial
set_option maxRecDepth 100000 in
set_option maxHeartbeats 0 in
theorem s_In_isAllowed_69 {l : Launch} {zi : Nat → zinfo} {r : zRes} {GO : Nat → List (Option zV) → List zV → zH → Prop} (hS : zSg l true zi (zget (999, 0, 0, 0) zc_In_isAllowed) (zcut zu_In_isAllowed) zin (fun _ _ => none) r GO) (k54 : ∀ (x0 x1 x2 : Int) (h : zH) (k : (Int → zH → Option zRes)) (t : (Nat → zH → Option zRes)), X_isWithin x0 x1 x2 h k = some r → zKsp l true zi r 54 [x0, x1, x2] h k t) (k219 : ∀ (x0 x1 : Int) (h : zH) (k : (Int → zH → Option zRes)) (t : (Nat → zH → Option zRes)), In_isOneOf x0 x1 h k = some r → zKsp l true zi r 219 [x0, x1] h k t) (k225 : ∀ (x0 x1 : Int) (h : zH) (k : (Int → zH → Option zRes)) (t : (Nat → zH → Option zRes)), Ke_hasRegister x0 x1 h k = some r → zKsp l true zi r 225 [x0, x1] h k t) (h : zH) (hr : In_isAllowed_69 zin h = some r) : GO 69 [none, none] [] h := by
  have e9 := Eq.trans (Eq.symm (qe_In_isAllowed_69 zin h)) hr
  generalize (400 : Nat) = f9 at e9
  refine hS _ _ (zcal_s (SP := zKsp l true zi r) _ ?_) (zorc_s _ ?_) _ _ _ _ _ e9
  · exact trivial
  · exact trivial
set_option maxRecDepth 100000 in
set_option maxHeartbeats 0 in
theorem s_In_isAllowed_117 {l : Launch} {zi : Nat → zinfo} {r : zRes} {GO : Nat → List (Option zV) → List zV → zH → Prop} (hS : zSg l true zi (zget (999, 0, 0, 0) zc_In_isAllowed) (zcut zu_In_isAllowed) zin (fun _ _ => none) r GO) (k54 : ∀ (x0 x1 x2 : Int) (h : zH) (k : (Int → zH → Option zRes)) (t : (Nat → zH → Option zRes)), X_isWithin x0 x1 x2 h k = some r → zKsp l true zi r 54 [x0, x1, x2] h k t) (k219 : ∀ (x0 x1 : Int) (h : zH) (k : (Int → zH → Option zRes)) (t : (Nat → zH → Option zRes)), In_isOneOf x0 x1 h k = some r → zKsp l true zi r 219 [x0, x1] h k t) (k225 : ∀ (x0 x1 : Int) (h : zH) (k : (Int → zH → Option zRes)) (t : (Nat → zH → Option zRes)), Ke_hasRegister x0 x1 h k = some r → zKsp l true zi r 225 [x0, x1] h k t) (t0 : Int) (h : zH) (hr : In_isAllowed_117 zin t0 h = some r) : GO 117 [none, none] [(0, t0)] h := by
  have e9 := Eq.trans (Eq.symm (qe_In_isAllowed_117 zin t0 h)) hr
  generalize (400 : Nat) = f9 at e9
  refine hS _ _ (zcal_s (SP := zKsp l true zi r) _ ?_) (zorc_s _ ?_) _ _ _ _ _ e9
  · exact trivial
  · exact trivial
set_option maxRecDepth 100000 in
set_option maxHeartbeats 0 in
theorem s_In_isAllowed_112 {l : Launch} {zi : Nat → zinfo} {r : zRes} {GO : Nat → List (Option zV) → List zV → zH → Prop} (hS : zSg l true zi (zget (999, 0, 0, 0) zc_In_isAllowed) (zcut zu_In_isAllowed) zin (fun _ _ => none) r GO) (k54 : ∀ (x0 x1 x2 : Int) (h : zH) (k : (Int → zH → Option zRes)) (t : (Nat → zH → Option zRes)), X_isWithin x0 x1 x2 h k = some r → zKsp l true zi r 54 [x0, x1, x2] h k t) (k219 : ∀ (x0 x1 : Int) (h : zH) (k : (Int → zH → Option zRes)) (t : (Nat → zH → Option zRes)), In_isOneOf x0 x1 h k = some r → zKsp l true zi r 219 [x0, x1] h k t) (k225 : ∀ (x0 x1 : Int) (h : zH) (k : (Int → zH → Option zRes)) (t : (Nat → zH → Option zRes)), Ke_hasRegister x0 x1 h k = some r → zKsp l true zi r 225 [x0, x1] h k t) (h : zH) (hr : In_isAllowed_112 zin h = some r) : GO 112 [none, none] [] h := by
  have e9 := Eq.trans (Eq.symm (qe_In_isAllowed_112 zin h)) hr
  generalize (400 : Nat) = f9 at e9
  refine hS _ _ (zcal_s (SP := zKsp l true zi r) _ ?_) (zorc_s _ ?_) _ _ _ _ _ e9
  · exact trivial
  · exact ⟨zap1_s (P := fun xs h => GO 117 (zfl [none, none] xs).1 (zfs [(0, none)] (zfl [none, none] xs).2) h) (fun x0 h hr => s_In_isAllowed_117 hS k54 k219 k225 x0 h hr), trivial⟩
set_option maxRecDepth 100000 in
set_option maxHeartbeats 0 in
theorem s_In_isAllowed_71 {l : Launch} {zi : Nat → zinfo} {r : zRes} {GO : Nat → List (Option zV) → List zV → zH → Prop} (hS : zSg l true zi (zget (999, 0, 0, 0) zc_In_isAllowed) (zcut zu_In_isAllowed) zin (fun _ _ => none) r GO) (k54 : ∀ (x0 x1 x2 : Int) (h : zH) (k : (Int → zH → Option zRes)) (t : (Nat → zH → Option zRes)), X_isWithin x0 x1 x2 h k = some r → zKsp l true zi r 54 [x0, x1, x2] h k t) (k219 : ∀ (x0 x1 : Int) (h : zH) (k : (Int → zH → Option zRes)) (t : (Nat → zH → Option zRes)), In_isOneOf x0 x1 h k = some r → zKsp l true zi r 219 [x0, x1] h k t) (k225 : ∀ (x0 x1 : Int) (h : zH) (k : (Int → zH → Option zRes)) (t : (Nat → zH → Option zRes)), Ke_hasRegister x0 x1 h k = some r → zKsp l true zi r 225 [x0, x1] h k t) (a0 : Int) (h : zH) (hr : In_isAllowed_71 zin a0 h = some r) : GO 71 [some (108, a0), none] [] h := by
  have e9 := Eq.trans (Eq.symm (qe_In_isAllowed_71 zin a0 h)) hr
  generalize (400 : Nat) = f9 at e9
  refine hS _ _ (zcal_s (SP := zKsp l true zi r) _ ?_) (zorc_s _ ?_) _ _ _ _ _ e9
  · exact ⟨zca3_s (SP := fun xs h k t => zKsp l true zi r 54 (zfc [none, none, none] xs) h k t) k54, ⟨zca2_s (SP := fun xs h k t => zKsp l true zi r 219 (zfc [none, none] xs) h k t) k219, trivial⟩⟩
  · exact ⟨zap0_s (P := fun xs h => GO 112 (zfl [none, none] xs).1 (zfs [] (zfl [none, none] xs).2) h) (fun  h hr => s_In_isAllowed_112 hS k54 k219 k225  h hr), ⟨zap1_s (P := fun xs h => GO 117 (zfl [none, none] xs).1 (zfs [(0, none)] (zfl [none, none] xs).2) h) (fun x0 h hr => s_In_isAllowed_117 hS k54 k219 k225 x0 h hr), trivial⟩⟩
set_option maxRecDepth 100000 in
set_option maxHeartbeats 0 in
theorem s_In_isAllowed_49 {l : Launch} {zi : Nat → zinfo} {r : zRes} {GO : Nat → List (Option zV) → List zV → zH → Prop} (hS : zSg l true zi (zget (999, 0, 0, 0) zc_In_isAllowed) (zcut zu_In_isAllowed) zin (fun _ _ => none) r GO) (k54 : ∀ (x0 x1 x2 : Int) (h : zH) (k : (Int → zH → Option zRes)) (t : (Nat → zH → Option zRes)), X_isWithin x0 x1 x2 h k = some r → zKsp l true zi r 54 [x0, x1, x2] h k t) (k219 : ∀ (x0 x1 : Int) (h : zH) (k : (Int → zH → Option zRes)) (t : (Nat → zH → Option zRes)), In_isOneOf x0 x1 h k = some r → zKsp l true zi r 219 [x0, x1] h k t) (k225 : ∀ (x0 x1 : Int) (h : zH) (k : (Int → zH → Option zRes)) (t : (Nat → zH → Option zRes)), Ke_hasRegister x0 x1 h k = some r → zKsp l true zi r 225 [x0, x1] h k t) (a0 a1 : Int) (h : zH) (hr : In_isAllowed_49 zin a0 a1 h = some r) : GO 49 [some (108, a0), some (107, a1)] [] h := by
  have e9 := Eq.trans (Eq.symm (qe_In_isAllowed_49 zin a0 a1 h)) hr
  generalize (400 : Nat) = f9 at e9
  refine hS _ _ (zcal_s (SP := zKsp l true zi r) _ ?_) (zorc_s _ ?_) _ _ _ _ _ e9
  · exact ⟨zca2_s (SP := fun xs h k t => zKsp l true zi r 219 (zfc [none, none] xs) h k t) k219, ⟨zca2_s (SP := fun xs h k t => zKsp l true zi r 225 (zfc [none, none] xs) h k t) k225, trivial⟩⟩
  · exact ⟨zap0_s (P := fun xs h => GO 69 (zfl [none, none] xs).1 (zfs [] (zfl [none, none] xs).2) h) (fun  h hr => s_In_isAllowed_69 hS k54 k219 k225  h hr), ⟨zap1_s (P := fun xs h => GO 71 (zfl [some (108, none), none] xs).1 (zfs [] (zfl [some (108, none), none] xs).2) h) (fun x0 h hr => s_In_isAllowed_71 hS k54 k219 k225 x0 h hr), trivial⟩⟩
set_option maxRecDepth 100000 in
set_option maxHeartbeats 0 in
theorem s_In_isAllowed_29 {l : Launch} {zi : Nat → zinfo} {r : zRes} {GO : Nat → List (Option zV) → List zV → zH → Prop} (hS : zSg l true zi (zget (999, 0, 0, 0) zc_In_isAllowed) (zcut zu_In_isAllowed) zin (fun _ _ => none) r GO) (k54 : ∀ (x0 x1 x2 : Int) (h : zH) (k : (Int → zH → Option zRes)) (t : (Nat → zH → Option zRes)), X_isWithin x0 x1 x2 h k = some r → zKsp l true zi r 54 [x0, x1, x2] h k t) (k219 : ∀ (x0 x1 : Int) (h : zH) (k : (Int → zH → Option zRes)) (t : (Nat → zH → Option zRes)), In_isOneOf x0 x1 h k = some r → zKsp l true zi r 219 [x0, x1] h k t) (k225 : ∀ (x0 x1 : Int) (h : zH) (k : (Int → zH → Option zRes)) (t : (Nat → zH → Option zRes)), Ke_hasRegister x0 x1 h k = some r → zKsp l true zi r 225 [x0, x1] h k t) (a0 a1 : Int) (h : zH) (hr : In_isAllowed_29 zin a0 a1 h = some r) : GO 29 [some (108, a0), some (107, a1)] [] h := by
  have e9 := Eq.trans (Eq.symm (qe_In_isAllowed_29 zin a0 a1 h)) hr
  generalize (400 : Nat) = f9 at e9
  refine hS _ _ (zcal_s (SP := zKsp l true zi r) _ ?_) (zorc_s _ ?_) _ _ _ _ _ e9
  · exact ⟨zca2_s (SP := fun xs h k t => zKsp l true zi r 219 (zfc [none, none] xs) h k t) k219, ⟨zca2_s (SP := fun xs h k t => zKsp l true zi r 225 (zfc [none, none] xs) h k t) k225, trivial⟩⟩
  · exact ⟨zap2_s (P := fun xs h => GO 49 (zfl [some (108, none), some (107, none)] xs).1 (zfs [] (zfl [some (108, none), some (107, none)] xs).2) h) (fun x0 x1 h hr => s_In_isAllowed_49 hS k54 k219 k225 x0 x1 h hr), ⟨zap0_s (P := fun xs h => GO 69 (zfl [none, none] xs).1 (zfs [] (zfl [none, none] xs).2) h) (fun  h hr => s_In_isAllowed_69 hS k54 k219 k225  h hr), trivial⟩⟩
set_option maxRecDepth 100000 in
set_option maxHeartbeats 0 in
theorem s_In_isAllowed {l : Launch} {zi : Nat → zinfo} {r : zRes} {GO : Nat → List (Option zV) → List zV → zH → Prop} (hS : zSg l true zi (zget (999, 0, 0, 0) zc_In_isAllowed) (zcut zu_In_isAllowed) zin (fun _ _ => none) r GO) (k54 : ∀ (x0 x1 x2 : Int) (h : zH) (k : (Int → zH → Option zRes)) (t : (Nat → zH → Option zRes)), X_isWithin x0 x1 x2 h k = some r → zKsp l true zi r 54 [x0, x1, x2] h k t) (k219 : ∀ (x0 x1 : Int) (h : zH) (k : (Int → zH → Option zRes)) (t : (Nat → zH → Option zRes)), In_isOneOf x0 x1 h k = some r → zKsp l true zi r 219 [x0, x1] h k t) (k225 : ∀ (x0 x1 : Int) (h : zH) (k : (Int → zH → Option zRes)) (t : (Nat → zH → Option zRes)), Ke_hasRegister x0 x1 h k = some r → zKsp l true zi r 225 [x0, x1] h k t) (a0 a1 : Int) (h : zH) (hr : In_isAllowed a0 a1 h zin = some r) : GO 0 [some (108, a0), some (107, a1)] [] h := by
  have e9 := Eq.trans (Eq.symm (qe_In_isAllowed zin a0 a1 h)) hr
  generalize (400 : Nat) = f9 at e9
  refine hS _ _ (zcal_s (SP := zKsp l true zi r) _ ?_) (zorc_s _ ?_) _ _ _ _ _ e9
  · exact ⟨zca2_s (SP := fun xs h k t => zKsp l true zi r 219 (zfc [none, none] xs) h k t) k219, ⟨zca2_s (SP := fun xs h k t => zKsp l true zi r 225 (zfc [none, none] xs) h k t) k225, trivial⟩⟩
  · exact ⟨zap2_s (P := fun xs h => GO 29 (zfl [some (108, none), some (107, none)] xs).1 (zfs [] (zfl [some (108, none), some (107, none)] xs).2) h) (fun x0 x1 h hr => s_In_isAllowed_29 hS k54 k219 k225 x0 x1 h hr), ⟨zap0_s (P := fun xs h => GO 69 (zfl [none, none] xs).1 (zfs [] (zfl [none, none] xs).2) h) (fun  h hr => s_In_isAllowed_69 hS k54 k219 k225  h hr), trivial⟩⟩
set_option maxRecDepth 100000 in
set_option maxHeartbeats 0 in
theorem s_Ke_append_32 {l : Launch} {zi : Nat → zinfo} {r : zRes} {GO : Nat → List (Option zV) → List zV → zH → Prop} (hS : zSg l true zi (zget (999, 0, 0, 0) zc_Ke_append) (zcut zu_Ke_append) zin (fun _ _ => none) r GO) (a0 : Int) (h : zH) (hr : Ke_append_32 zin a0 h = some r) : GO 32 [some (107, a0), none] [] h := by
  have e9 := Eq.trans (Eq.symm (qe_Ke_append_32 zin a0 h)) hr
  generalize (400 : Nat) = f9 at e9
  refine hS _ _ (zcal_s (SP := zKsp l true zi r) _ ?_) (zorc_s _ ?_) _ _ _ _ _ e9
  · exact trivial
  · exact trivial
set_option maxRecDepth 100000 in
set_option maxHeartbeats 0 in
theorem s_Ke_append {l : Launch} {zi : Nat → zinfo} {r : zRes} {GO : Nat → List (Option zV) → List zV → zH → Prop} (hS : zSg l true zi (zget (999, 0, 0, 0) zc_Ke_append) (zcut zu_Ke_append) zin (fun _ _ => none) r GO) (a0 a1 : Int) (h : zH) (hr : Ke_append a0 a1 h zin = some r) : GO 0 [some (107, a0), some (108, a1)] [] h := by
  have e9 := Eq.trans (Eq.symm (qe_Ke_append zin a0 a1 h)) hr
  generalize (400 : Nat) = f9 at e9
  refine hS _ _ (zcal_s (SP := zKsp l true zi r) _ ?_) (zorc_s _ ?_) _ _ _ _ _ e9
  · exact trivial
  · exact ⟨zap1_s (P := fun xs h => GO 32 (zfl [some (107, none), none] xs).1 (zfs [] (zfl [some (107, none), none] xs).2) h) (fun x0 h hr => s_Ke_append_32 hS x0 h hr), trivial⟩
set_option maxRecDepth 100000 in
set_option maxHeartbeats 0 in
theorem s_X_code_58 {l : Launch} {zi : Nat → zinfo} {r : zRes} {GO : Nat → List (Option zV) → List zV → zH → Prop} (hS : zSg l true zi (zget (999, 0, 0, 0) zc_X_code) (zcut zu_X_code) zin zth r GO) (k47 : ∀ (x0 x1 : Int) (h : zH) (k : (Int → zH → Option zRes)) (t : (Nat → zH → Option zRes)), X_kernelAt x0 x1 h t k = some r → zKsp l true zi r 47 [x0, x1] h k t) (k218 : ∀ (x0 x1 x2 x3 x4 : Int) (h : zH) (k : (Int → zH → Option zRes)) (t : (Nat → zH → Option zRes)), In_init x0 x1 x2 x3 x4 h k = some r → zKsp l true zi r 218 [x0, x1, x2, x3, x4] h k t) (k220 : ∀ (x0 x1 : Int) (h : zH) (k : (Int → zH → Option zRes)) (t : (Nat → zH → Option zRes)), In_isAllowed x0 x1 h k = some r → zKsp l true zi r 220 [x0, x1] h k t) (k223 : ∀ (x0 x1 : Int) (h : zH) (k : (Int → zH → Option zRes)) (t : (Nat → zH → Option zRes)), Ke_append x0 x1 h k = some r → zKsp l true zi r 223 [x0, x1] h k t) (h : zH) (hr : X_code_58 zin zth h = some r) : GO 58 [none, none, none, none, none, none, none, none] [] h := by
  have e9 := Eq.trans (Eq.symm (qe_X_code_58 zin zth h)) hr
  generalize (400 : Nat) = f9 at e9
  refine hS _ _ (zcal_s (SP := zKsp l true zi r) _ ?_) (zorc_s _ ?_) _ _ _ _ _ e9
  · exact trivial
  · exact trivial
set_option maxRecDepth 100000 in
set_option maxHeartbeats 0 in
theorem s_X_code {l : Launch} {zi : Nat → zinfo} {r : zRes} {GO : Nat → List (Option zV) → List zV → zH → Prop} (hS : zSg l true zi (zget (999, 0, 0, 0) zc_X_code) (zcut zu_X_code) zin zth r GO) (k47 : ∀ (x0 x1 : Int) (h : zH) (k : (Int → zH → Option zRes)) (t : (Nat → zH → Option zRes)), X_kernelAt x0 x1 h t k = some r → zKsp l true zi r 47 [x0, x1] h k t) (k218 : ∀ (x0 x1 x2 x3 x4 : Int) (h : zH) (k : (Int → zH → Option zRes)) (t : (Nat → zH → Option zRes)), In_init x0 x1 x2 x3 x4 h k = some r → zKsp l true zi r 218 [x0, x1, x2, x3, x4] h k t) (k220 : ∀ (x0 x1 : Int) (h : zH) (k : (Int → zH → Option zRes)) (t : (Nat → zH → Option zRes)), In_isAllowed x0 x1 h k = some r → zKsp l true zi r 220 [x0, x1] h k t) (k223 : ∀ (x0 x1 : Int) (h : zH) (k : (Int → zH → Option zRes)) (t : (Nat → zH → Option zRes)), Ke_append x0 x1 h k = some r → zKsp l true zi r 223 [x0, x1] h k t) (a0 a1 a2 a3 a4 a5 : Int) (h : zH) (hr : X_code a0 a1 a2 a3 a4 a5 h zth zin = some r) : GO 0 [some (100, a0), some (0, a1), some (0, a2), some (0, a3), some (0, a4), some (0, a5), none, none] [] h := by
  have e9 := Eq.trans (Eq.symm (qe_X_code zin zth a0 a1 a2 a3 a4 a5 h)) hr
  generalize (400 : Nat) = f9 at e9
  refine hS _ _ (zcal_s (SP := zKsp l true zi r) _ ?_) (zorc_s _ ?_) _ _ _ _ _ e9
  · exact ⟨zcx2_s (SP := fun xs h k t => zKsp l true zi r 47 (zfc [none, none] xs) h k t) k47, ⟨zca5_s (SP := fun xs h k t => zKsp l true zi r 218 (zfc [none, none, none, none, none] xs) h k t) k218, ⟨zca2_s (SP := fun xs h k t => zKsp l true zi r 220 (zfc [none, none] xs) h k t) k220, ⟨zca2_s (SP := fun xs h k t => zKsp l true zi r 223 (zfc [none, none] xs) h k t) k223, trivial⟩⟩⟩⟩
  · exact ⟨zap0_s (P := fun xs h => GO 58 (zfl [none, none, none, none, none, none, none, none] xs).1 (zfs [] (zfl [none, none, none, none, none, none, none, none] xs).2) h) (fun  h hr => s_X_code_58 hS k47 k218 k220 k223  h hr), trivial⟩
set_option maxRecDepth 100000 in
set_option maxHeartbeats 0 in
theorem s_X_groupsFor {l : Launch} {zi : Nat → zinfo} {r : zRes} {GO : Nat → List (Option zV) → List zV → zH → Prop} (hS : zSg l true zi (zget (999, 0, 0, 0) zc_X_groupsFor) (zcut zu_X_groupsFor) zin (fun _ _ => none) r GO) (a0 : Int) (h : zH) (hr : X_groupsFor a0 h zin = some r) : GO 0 [some (0, a0)] [] h := by
  have e9 := Eq.trans (Eq.symm (qe_X_groupsFor zin a0 h)) hr
  generalize (400 : Nat) = f9 at e9
  refine hS _ _ (zcal_s (SP := zKsp l true zi r) _ ?_) (zorc_s _ ?_) _ _ _ _ _ e9
  · exact trivial
  · exact trivial
set_option maxRecDepth 100000 in
set_option maxHeartbeats 0 in
theorem s_Ke_blocksInUnit_18 {l : Launch} {zi : Nat → zinfo} {r : zRes} {GO : Nat → List (Option zV) → List zV → zH → Prop} (hS : zSg l true zi (zget (999, 0, 0, 0) zc_Ke_blocksInUnit) (zcut zu_Ke_blocksInUnit) zin (fun _ _ => none) r GO) (k3 : ∀ (x0 x1 : Int) (h : zH) (k : (Int → zH → Option zRes)) (t : (Nat → zH → Option zRes)), Ma_min x0 x1 h k = some r → zKsp l true zi r 3 [x0, x1] h k t) (k54 : ∀ (x0 x1 x2 : Int) (h : zH) (k : (Int → zH → Option zRes)) (t : (Nat → zH → Option zRes)), X_isWithin x0 x1 x2 h k = some r → zKsp l true zi r 54 [x0, x1, x2] h k t) (k57 : ∀ (x0 : Int) (h : zH) (k : (Int → zH → Option zRes)) (t : (Nat → zH → Option zRes)), X_groupsFor x0 h k = some r → zKsp l true zi r 57 [x0] h k t) (h : zH) (hr : Ke_blocksInUnit_18 zin h = some r) : GO 18 [none, none, none] [] h := by
  have e9 := Eq.trans (Eq.symm (qe_Ke_blocksInUnit_18 zin h)) hr
  generalize (400 : Nat) = f9 at e9
  refine hS _ _ (zcal_s (SP := zKsp l true zi r) _ ?_) (zorc_s _ ?_) _ _ _ _ _ e9
  · exact trivial
  · exact trivial
set_option maxRecDepth 100000 in
set_option maxHeartbeats 0 in
theorem s_Ke_blocksInUnit_62 {l : Launch} {zi : Nat → zinfo} {r : zRes} {GO : Nat → List (Option zV) → List zV → zH → Prop} (hS : zSg l true zi (zget (999, 0, 0, 0) zc_Ke_blocksInUnit) (zcut zu_Ke_blocksInUnit) zin (fun _ _ => none) r GO) (k3 : ∀ (x0 x1 : Int) (h : zH) (k : (Int → zH → Option zRes)) (t : (Nat → zH → Option zRes)), Ma_min x0 x1 h k = some r → zKsp l true zi r 3 [x0, x1] h k t) (k54 : ∀ (x0 x1 x2 : Int) (h : zH) (k : (Int → zH → Option zRes)) (t : (Nat → zH → Option zRes)), X_isWithin x0 x1 x2 h k = some r → zKsp l true zi r 54 [x0, x1, x2] h k t) (k57 : ∀ (x0 : Int) (h : zH) (k : (Int → zH → Option zRes)) (t : (Nat → zH → Option zRes)), X_groupsFor x0 h k = some r → zKsp l true zi r 57 [x0] h k t) (t0 : Int) (h : zH) (hr : Ke_blocksInUnit_62 zin t0 h = some r) : GO 62 [none, none, none] [(0, t0)] h := by
  have e9 := Eq.trans (Eq.symm (qe_Ke_blocksInUnit_62 zin t0 h)) hr
  generalize (400 : Nat) = f9 at e9
  refine hS _ _ (zcal_s (SP := zKsp l true zi r) _ ?_) (zorc_s _ ?_) _ _ _ _ _ e9
  · exact trivial
  · exact trivial
set_option maxRecDepth 100000 in
set_option maxHeartbeats 0 in
theorem s_Ke_blocksInUnit {l : Launch} {zi : Nat → zinfo} {r : zRes} {GO : Nat → List (Option zV) → List zV → zH → Prop} (hS : zSg l true zi (zget (999, 0, 0, 0) zc_Ke_blocksInUnit) (zcut zu_Ke_blocksInUnit) zin (fun _ _ => none) r GO) (k3 : ∀ (x0 x1 : Int) (h : zH) (k : (Int → zH → Option zRes)) (t : (Nat → zH → Option zRes)), Ma_min x0 x1 h k = some r → zKsp l true zi r 3 [x0, x1] h k t) (k54 : ∀ (x0 x1 x2 : Int) (h : zH) (k : (Int → zH → Option zRes)) (t : (Nat → zH → Option zRes)), X_isWithin x0 x1 x2 h k = some r → zKsp l true zi r 54 [x0, x1, x2] h k t) (k57 : ∀ (x0 : Int) (h : zH) (k : (Int → zH → Option zRes)) (t : (Nat → zH → Option zRes)), X_groupsFor x0 h k = some r → zKsp l true zi r 57 [x0] h k t) (a0 a1 : Int) (h : zH) (hr : Ke_blocksInUnit a0 a1 h zin = some r) : GO 0 [some (107, a0), some (0, a1), none] [] h := by
  have e9 := Eq.trans (Eq.symm (qe_Ke_blocksInUnit zin a0 a1 h)) hr
  generalize (400 : Nat) = f9 at e9
  refine hS _ _ (zcal_s (SP := zKsp l true zi r) _ ?_) (zorc_s _ ?_) _ _ _ _ _ e9
  · exact ⟨zca2_s (SP := fun xs h k t => zKsp l true zi r 3 (zfc [none, none] xs) h k t) k3, ⟨zca3_s (SP := fun xs h k t => zKsp l true zi r 54 (zfc [none, none, none] xs) h k t) k54, ⟨zca1_s (SP := fun xs h k t => zKsp l true zi r 57 (zfc [none] xs) h k t) k57, trivial⟩⟩⟩
  · exact ⟨zap0_s (P := fun xs h => GO 18 (zfl [none, none, none] xs).1 (zfs [] (zfl [none, none, none] xs).2) h) (fun  h hr => s_Ke_blocksInUnit_18 hS k3 k54 k57  h hr), ⟨zap1_s (P := fun xs h => GO 62 (zfl [none, none, none] xs).1 (zfs [(0, none)] (zfl [none, none, none] xs).2) h) (fun x0 h hr => s_Ke_blocksInUnit_62 hS k3 k54 k57 x0 h hr), trivial⟩⟩
set_option maxRecDepth 100000 in
set_option maxHeartbeats 0 in
theorem s_X_fits {l : Launch} {zi : Nat → zinfo} {r : zRes} {GO : Nat → List (Option zV) → List zV → zH → Prop} (hS : zSg l true zi (zget (999, 0, 0, 0) zc_X_fits) (zcut zu_X_fits) zin zth r GO) (k47 : ∀ (x0 x1 : Int) (h : zH) (k : (Int → zH → Option zRes)) (t : (Nat → zH → Option zRes)), X_kernelAt x0 x1 h t k = some r → zKsp l true zi r 47 [x0, x1] h k t) (k54 : ∀ (x0 x1 x2 : Int) (h : zH) (k : (Int → zH → Option zRes)) (t : (Nat → zH → Option zRes)), X_isWithin x0 x1 x2 h k = some r → zKsp l true zi r 54 [x0, x1, x2] h k t) (k227 : ∀ (x0 x1 : Int) (h : zH) (k : (Int → zH → Option zRes)) (t : (Nat → zH → Option zRes)), Ke_blocksInUnit x0 x1 h k = some r → zKsp l true zi r 227 [x0, x1] h k t) (a0 a1 a2 : Int) (h : zH) (hr : X_fits a0 a1 a2 h zth zin = some r) : GO 0 [some (100, a0), some (0, a1), some (0, a2), none] [] h := by
  have e9 := Eq.trans (Eq.symm (qe_X_fits zin zth a0 a1 a2 h)) hr
  generalize (400 : Nat) = f9 at e9
  refine hS _ _ (zcal_s (SP := zKsp l true zi r) _ ?_) (zorc_s _ ?_) _ _ _ _ _ e9
  · exact ⟨zcx2_s (SP := fun xs h k t => zKsp l true zi r 47 (zfc [none, none] xs) h k t) k47, ⟨zca3_s (SP := fun xs h k t => zKsp l true zi r 54 (zfc [none, none, none] xs) h k t) k54, ⟨zca2_s (SP := fun xs h k t => zKsp l true zi r 227 (zfc [none, none] xs) h k t) k227, trivial⟩⟩⟩
  · exact trivial
set_option maxRecDepth 100000 in
set_option maxHeartbeats 0 in
theorem s_X_isCell {l : Launch} {zi : Nat → zinfo} {r : zRes} {GO : Nat → List (Option zV) → List zV → zH → Prop} (hS : zSg l true zi (zget (999, 0, 0, 0) zc_X_isCell) (zcut zu_X_isCell) zin (fun _ _ => none) r GO) (k54 : ∀ (x0 x1 x2 : Int) (h : zH) (k : (Int → zH → Option zRes)) (t : (Nat → zH → Option zRes)), X_isWithin x0 x1 x2 h k = some r → zKsp l true zi r 54 [x0, x1, x2] h k t) (a0 : Int) (h : zH) (hr : X_isCell a0 h zin = some r) : GO 0 [some (0, a0)] [] h := by
  have e9 := Eq.trans (Eq.symm (qe_X_isCell zin a0 h)) hr
  generalize (400 : Nat) = f9 at e9
  refine hS _ _ (zcal_s (SP := zKsp l true zi r) _ ?_) (zorc_s _ ?_) _ _ _ _ _ e9
  · exact ⟨zca3_s (SP := fun xs h k t => zKsp l true zi r 54 (zfc [none, none, none] xs) h k t) k54, trivial⟩
  · exact trivial
set_option maxRecDepth 100000 in
set_option maxHeartbeats 0 in
theorem s_X_poke {l : Launch} {zi : Nat → zinfo} {r : zRes} {GO : Nat → List (Option zV) → List zV → zH → Prop} (hS : zSg l true zi (zget (999, 0, 0, 0) zc_X_poke) (zcut zu_X_poke) zin zth r GO) (k55 : ∀ (x0 : Int) (h : zH) (k : (Int → zH → Option zRes)) (t : (Nat → zH → Option zRes)), X_isCell x0 h k = some r → zKsp l true zi r 55 [x0] h k t) (a0 a1 a2 : Int) (h : zH) (hr : X_poke a0 a1 a2 h zth zin = some r) : GO 0 [some (100, a0), some (0, a1), some (0, a2), none] [] h := by
  have e9 := Eq.trans (Eq.symm (qe_X_poke zin zth a0 a1 a2 h)) hr
  generalize (400 : Nat) = f9 at e9
  refine hS _ _ (zcal_s (SP := zKsp l true zi r) _ ?_) (zorc_s _ ?_) _ _ _ _ _ e9
  · exact ⟨zca1_s (SP := fun xs h k t => zKsp l true zi r 55 (zfc [none] xs) h k t) k55, trivial⟩
  · exact trivial
set_option maxRecDepth 100000 in
set_option maxHeartbeats 0 in
theorem s_X_peek {l : Launch} {zi : Nat → zinfo} {r : zRes} {GO : Nat → List (Option zV) → List zV → zH → Prop} (hS : zSg l true zi (zget (999, 0, 0, 0) zc_X_peek) (zcut zu_X_peek) zin zth r GO) (k55 : ∀ (x0 : Int) (h : zH) (k : (Int → zH → Option zRes)) (t : (Nat → zH → Option zRes)), X_isCell x0 h k = some r → zKsp l true zi r 55 [x0] h k t) (a0 a1 : Int) (h : zH) (hr : X_peek a0 a1 h zth zin = some r) : GO 0 [some (100, a0), some (0, a1)] [] h := by
  have e9 := Eq.trans (Eq.symm (qe_X_peek zin zth a0 a1 h)) hr
  generalize (400 : Nat) = f9 at e9
  refine hS _ _ (zcal_s (SP := zKsp l true zi r) _ ?_) (zorc_s _ ?_) _ _ _ _ _ e9
  · exact ⟨zca1_s (SP := fun xs h k t => zKsp l true zi r 55 (zfc [none] xs) h k t) k55, trivial⟩
  · exact trivial
set_option maxRecDepth 100000 in
set_option maxHeartbeats 0 in
theorem s_Le_launchOf_24 {l : Launch} {zi : Nat → zinfo} {r : zRes} {GO : Nat → List (Option zV) → List zV → zH → Prop} (hS : zSg l true zi (zget (999, 0, 0, 0) zc_Le_launchOf) (zcut zu_Le_launchOf) zin (fun _ _ => none) r GO) (k54 : ∀ (x0 x1 x2 : Int) (h : zH) (k : (Int → zH → Option zRes)) (t : (Nat → zH → Option zRes)), X_isWithin x0 x1 x2 h k = some r → zKsp l true zi r 54 [x0, x1, x2] h k t) (t0 : Int) (h : zH) (hr : Le_launchOf_24 zin t0 h = some r) : GO 24 [none, none] [(109, t0)] h := by
  have e9 := Eq.trans (Eq.symm (qe_Le_launchOf_24 zin t0 h)) hr
  generalize (400 : Nat) = f9 at e9
  refine hS _ _ (zcal_s (SP := zKsp l true zi r) _ ?_) (zorc_s _ ?_) _ _ _ _ _ e9
  · exact trivial
  · exact trivial
set_option maxRecDepth 100000 in
set_option maxHeartbeats 0 in
theorem s_Le_launchOf {l : Launch} {zi : Nat → zinfo} {r : zRes} {GO : Nat → List (Option zV) → List zV → zH → Prop} (hS : zSg l true zi (zget (999, 0, 0, 0) zc_Le_launchOf) (zcut zu_Le_launchOf) zin (fun _ _ => none) r GO) (k54 : ∀ (x0 x1 x2 : Int) (h : zH) (k : (Int → zH → Option zRes)) (t : (Nat → zH → Option zRes)), X_isWithin x0 x1 x2 h k = some r → zKsp l true zi r 54 [x0, x1, x2] h k t) (a0 a1 : Int) (h : zH) (hr : Le_launchOf a0 a1 h zin = some r) : GO 0 [some (101, a0), some (0, a1)] [] h := by
  have e9 := Eq.trans (Eq.symm (qe_Le_launchOf zin a0 a1 h)) hr
  generalize (400 : Nat) = f9 at e9
  refine hS _ _ (zcal_s (SP := zKsp l true zi r) _ ?_) (zorc_s _ ?_) _ _ _ _ _ e9
  · exact ⟨zca3_s (SP := fun xs h k t => zKsp l true zi r 54 (zfc [none, none, none] xs) h k t) k54, trivial⟩
  · exact ⟨zap1_s (P := fun xs h => GO 24 (zfl [none, none] xs).1 (zfs [(109, none)] (zfl [none, none] xs).2) h) (fun x0 h hr => s_Le_launchOf_24 hS k54 x0 h hr), trivial⟩
set_option maxRecDepth 100000 in
set_option maxHeartbeats 0 in
theorem s_X_launchAt {l : Launch} {zi : Nat → zinfo} {r : zRes} {GO : Nat → List (Option zV) → List zV → zH → Prop} (hS : zSg l true zi (zget (999, 0, 0, 0) zc_X_launchAt) (zcut zu_X_launchAt) zin zth r GO) (k241 : ∀ (x0 x1 : Int) (h : zH) (k : (Int → zH → Option zRes)) (t : (Nat → zH → Option zRes)), Le_launchOf x0 x1 h k = some r → zKsp l true zi r 241 [x0, x1] h k t) (a0 a1 : Int) (h : zH) (hr : X_launchAt a0 a1 h zth zin = some r) : GO 0 [some (100, a0), some (0, a1), none] [] h := by
  have e9 := Eq.trans (Eq.symm (qe_X_launchAt zin zth a0 a1 h)) hr
  generalize (400 : Nat) = f9 at e9
  refine hS _ _ (zcal_s (SP := zKsp l true zi r) _ ?_) (zorc_s _ ?_) _ _ _ _ _ e9
  · exact ⟨zca2_s (SP := fun xs h k t => zKsp l true zi r 241 (zfc [none, none] xs) h k t) k241, trivial⟩
  · exact trivial
set_option maxRecDepth 100000 in
set_option maxHeartbeats 0 in
theorem s_X_checkQueueAndAfter_28 {l : Launch} {zi : Nat → zinfo} {r : zRes} {GO : Nat → List (Option zV) → List zV → zH → Prop} (hS : zSg l true zi (zget (999, 0, 0, 0) zc_X_checkQueueAndAfter) (zcut zu_X_checkQueueAndAfter) zin zth r GO) (k48 : ∀ (x0 x1 : Int) (h : zH) (k : (Int → zH → Option zRes)) (t : (Nat → zH → Option zRes)), X_launchAt x0 x1 h t k = some r → zKsp l true zi r 48 [x0, x1] h k t) (k54 : ∀ (x0 x1 x2 : Int) (h : zH) (k : (Int → zH → Option zRes)) (t : (Nat → zH → Option zRes)), X_isWithin x0 x1 x2 h k = some r → zKsp l true zi r 54 [x0, x1, x2] h k t) (h : zH) (hr : X_checkQueueAndAfter_28 zin zth h = some r) : GO 28 [none, none, none] [] h := by
  have e9 := Eq.trans (Eq.symm (qe_X_checkQueueAndAfter_28 zin zth h)) hr
  generalize (400 : Nat) = f9 at e9
  refine hS _ _ (zcal_s (SP := zKsp l true zi r) _ ?_) (zorc_s _ ?_) _ _ _ _ _ e9
  · exact trivial
  · exact trivial
set_option maxRecDepth 100000 in
set_option maxHeartbeats 0 in
theorem s_X_checkQueueAndAfter {l : Launch} {zi : Nat → zinfo} {r : zRes} {GO : Nat → List (Option zV) → List zV → zH → Prop} (hS : zSg l true zi (zget (999, 0, 0, 0) zc_X_checkQueueAndAfter) (zcut zu_X_checkQueueAndAfter) zin zth r GO) (k48 : ∀ (x0 x1 : Int) (h : zH) (k : (Int → zH → Option zRes)) (t : (Nat → zH → Option zRes)), X_launchAt x0 x1 h t k = some r → zKsp l true zi r 48 [x0, x1] h k t) (k54 : ∀ (x0 x1 x2 : Int) (h : zH) (k : (Int → zH → Option zRes)) (t : (Nat → zH → Option zRes)), X_isWithin x0 x1 x2 h k = some r → zKsp l true zi r 54 [x0, x1, x2] h k t) (a0 a1 a2 : Int) (h : zH) (hr : X_checkQueueAndAfter a0 a1 a2 h zth zin = some r) : GO 0 [some (100, a0), some (0, a1), some (0, a2)] [] h := by
  have e9 := Eq.trans (Eq.symm (qe_X_checkQueueAndAfter zin zth a0 a1 a2 h)) hr
  generalize (400 : Nat) = f9 at e9
  refine hS _ _ (zcal_s (SP := zKsp l true zi r) _ ?_) (zorc_s _ ?_) _ _ _ _ _ e9
  · exact ⟨zcx2_s (SP := fun xs h k t => zKsp l true zi r 48 (zfc [none, none] xs) h k t) k48, ⟨zca3_s (SP := fun xs h k t => zKsp l true zi r 54 (zfc [none, none, none] xs) h k t) k54, trivial⟩⟩
  · exact ⟨zap0_s (P := fun xs h => GO 28 (zfl [none, none, none] xs).1 (zfs [] (zfl [none, none, none] xs).2) h) (fun  h hr => s_X_checkQueueAndAfter_28 hS k48 k54  h hr), trivial⟩
set_option maxRecDepth 100000 in
set_option maxHeartbeats 0 in
theorem s_X_checkRoomForLaunch {l : Launch} {zi : Nat → zinfo} {r : zRes} {GO : Nat → List (Option zV) → List zV → zH → Prop} (hS : zSg l true zi (zget (999, 0, 0, 0) zc_X_checkRoomForLaunch) (zcut zu_X_checkRoomForLaunch) zin zth r GO) (a0 : Int) (h : zH) (hr : X_checkRoomForLaunch a0 h zth zin = some r) : GO 0 [some (100, a0)] [] h := by
  have e9 := Eq.trans (Eq.symm (qe_X_checkRoomForLaunch zin zth a0 h)) hr
  generalize (400 : Nat) = f9 at e9
  refine hS _ _ (zcal_s (SP := zKsp l true zi r) _ ?_) (zorc_s _ ?_) _ _ _ _ _ e9
  · exact trivial
  · exact trivial
set_option maxRecDepth 100000 in
set_option maxHeartbeats 0 in
theorem s_La_useKernel {l : Launch} {zi : Nat → zinfo} {r : zRes} {GO : Nat → List (Option zV) → List zV → zH → Prop} (hS : zSg l true zi (zget (999, 0, 0, 0) zc_La_useKernel) (zcut zu_La_useKernel) zin (fun _ _ => none) r GO) (a0 a1 a2 a3 : Int) (h : zH) (hr : La_useKernel a0 a1 a2 a3 h zin = some r) : GO 0 [some (109, a0), some (107, a1), some (0, a2), some (0, a3)] [] h := by
  have e9 := Eq.trans (Eq.symm (qe_La_useKernel zin a0 a1 a2 a3 h)) hr
  generalize (400 : Nat) = f9 at e9
  refine hS _ _ (zcal_s (SP := zKsp l true zi r) _ ?_) (zorc_s _ ?_) _ _ _ _ _ e9
  · exact trivial
  · exact trivial
set_option maxRecDepth 100000 in
set_option maxHeartbeats 0 in
theorem s_La_init {l : Launch} {zi : Nat → zinfo} {r : zRes} {GO : Nat → List (Option zV) → List zV → zH → Prop} (hS : zSg l true zi (zget (999, 0, 0, 0) zc_La_init) (zcut zu_La_init) zin (fun _ _ => none) r GO) (a0 a1 a2 a3 a4 a5 : Int) (h : zH) (hr : La_init a0 a1 a2 a3 a4 a5 h zin = some r) : GO 0 [some (109, a0), some (0, a1), some (0, a2), some (109, a3), some (109, a4), some (109, a5)] [] h := by
  have e9 := Eq.trans (Eq.symm (qe_La_init zin a0 a1 a2 a3 a4 a5 h)) hr
  generalize (400 : Nat) = f9 at e9
  refine hS _ _ (zcal_s (SP := zKsp l true zi r) _ ?_) (zorc_s _ ?_) _ _ _ _ _ e9
  · exact trivial
  · exact trivial
set_option maxRecDepth 100000 in
set_option maxHeartbeats 0 in
theorem s_La_isOver_32 {l : Launch} {zi : Nat → zinfo} {r : zRes} {GO : Nat → List (Option zV) → List zV → zH → Prop} (hS : zSg l true zi (zget (999, 0, 0, 0) zc_La_isOver) (zcut zu_La_isOver) zin (fun _ _ => none) r GO) (t0 : Int) (h : zH) (hr : La_isOver_32 zin t0 h = some r) : GO 32 [none] [(0, t0)] h := by
  have e9 := Eq.trans (Eq.symm (qe_La_isOver_32 zin t0 h)) hr
  generalize (400 : Nat) = f9 at e9
  refine hS _ _ (zcal_s (SP := zKsp l true zi r) _ ?_) (zorc_s _ ?_) _ _ _ _ _ e9
  · exact trivial
  · exact trivial
set_option maxRecDepth 100000 in
set_option maxHeartbeats 0 in
theorem s_La_isOver_27 {l : Launch} {zi : Nat → zinfo} {r : zRes} {GO : Nat → List (Option zV) → List zV → zH → Prop} (hS : zSg l true zi (zget (999, 0, 0, 0) zc_La_isOver) (zcut zu_La_isOver) zin (fun _ _ => none) r GO) (h : zH) (hr : La_isOver_27 zin h = some r) : GO 27 [none] [] h := by
  have e9 := Eq.trans (Eq.symm (qe_La_isOver_27 zin h)) hr
  generalize (400 : Nat) = f9 at e9
  refine hS _ _ (zcal_s (SP := zKsp l true zi r) _ ?_) (zorc_s _ ?_) _ _ _ _ _ e9
  · exact trivial
  · exact ⟨zap1_s (P := fun xs h => GO 32 (zfl [none] xs).1 (zfs [(0, none)] (zfl [none] xs).2) h) (fun x0 h hr => s_La_isOver_32 hS x0 h hr), trivial⟩
set_option maxRecDepth 100000 in
set_option maxHeartbeats 0 in
theorem s_La_isOver {l : Launch} {zi : Nat → zinfo} {r : zRes} {GO : Nat → List (Option zV) → List zV → zH → Prop} (hS : zSg l true zi (zget (999, 0, 0, 0) zc_La_isOver) (zcut zu_La_isOver) zin (fun _ _ => none) r GO) (a0 : Int) (h : zH) (hr : La_isOver a0 h zin = some r) : GO 0 [some (109, a0)] [] h := by
  have e9 := Eq.trans (Eq.symm (qe_La_isOver zin a0 h)) hr
  generalize (400 : Nat) = f9 at e9
  refine hS _ _ (zcal_s (SP := zKsp l true zi r) _ ?_) (zorc_s _ ?_) _ _ _ _ _ e9
  · exact trivial
  · exact ⟨zap0_s (P := fun xs h => GO 27 (zfl [none] xs).1 (zfs [] (zfl [none] xs).2) h) (fun  h hr => s_La_isOver_27 hS  h hr), ⟨zap1_s (P := fun xs h => GO 32 (zfl [none] xs).1 (zfs [(0, none)] (zfl [none] xs).2) h) (fun x0 h hr => s_La_isOver_32 hS x0 h hr), trivial⟩⟩
set_option maxRecDepth 100000 in
set_option maxHeartbeats 0 in
theorem s_Le_enter_32 {l : Launch} {zi : Nat → zinfo} {r : zRes} {GO : Nat → List (Option zV) → List zV → zH → Prop} (hS : zSg l true zi (zget (999, 0, 0, 0) zc_Le_enter) (zcut zu_Le_enter) zin (fun _ _ => none) r GO) (a1 : Int) (h : zH) (hr : Le_enter_32 zin a1 h = some r) : GO 32 [none, some (109, a1)] [] h := by
  have e9 := Eq.trans (Eq.symm (qe_Le_enter_32 zin a1 h)) hr
  generalize (400 : Nat) = f9 at e9
  refine hS _ _ (zcal_s (SP := zKsp l true zi r) _ ?_) (zorc_s _ ?_) _ _ _ _ _ e9
  · exact trivial
  · exact trivial
set_option maxRecDepth 100000 in
set_option maxHeartbeats 0 in
theorem s_Le_enter {l : Launch} {zi : Nat → zinfo} {r : zRes} {GO : Nat → List (Option zV) → List zV → zH → Prop} (hS : zSg l true zi (zget (999, 0, 0, 0) zc_Le_enter) (zcut zu_Le_enter) zin (fun _ _ => none) r GO) (a0 a1 : Int) (h : zH) (hr : Le_enter a0 a1 h zin = some r) : GO 0 [some (101, a0), some (109, a1)] [] h := by
  have e9 := Eq.trans (Eq.symm (qe_Le_enter zin a0 a1 h)) hr
  generalize (400 : Nat) = f9 at e9
  refine hS _ _ (zcal_s (SP := zKsp l true zi r) _ ?_) (zorc_s _ ?_) _ _ _ _ _ e9
  · exact trivial
  · exact ⟨zap1_s (P := fun xs h => GO 32 (zfl [none, some (109, none)] xs).1 (zfs [] (zfl [none, some (109, none)] xs).2) h) (fun x0 h hr => s_Le_enter_32 hS x0 h hr), trivial⟩
set_option maxRecDepth 100000 in
set_option maxHeartbeats 0 in
theorem s_Le_lastIn_7b {l : Launch} {zi : Nat → zinfo} {r : zRes} {GO : Nat → List (Option zV) → List zV → zH → Prop} (hS : zSg l true zi (zget (999, 0, 0, 0) zc_Le_lastIn) (zcut zu_Le_lastIn) zin (fun _ _ => none) r GO) {r7 : Int → Int → Int → zH → Option zRes} (h7 : ∀ (x0 x1 x2 : Int) (h : zH), r7 x0 x1 x2 h = some r → GO 7 [some (101, x0), some (0, x1), some (0, x2)] [] h) (a0 a1 a2 : Int) (h : zH) (hr : Le_lastIn_7b zin r7 a0 a1 a2 h = some r) : GO 7 [some (101, a0), some (0, a1), some (0, a2)] [] h := by
  have e9 := Eq.trans (Eq.symm (qe_Le_lastIn_7b zin r7 a0 a1 a2 h)) hr
  generalize (400 : Nat) = f9 at e9
  refine hS _ _ (zcal_s (SP := zKsp l true zi r) _ ?_) (zorc_s _ ?_) _ _ _ _ _ e9
  · exact trivial
  · exact ⟨zap3_s (P := fun xs h => GO 7 (zfl [some (101, none), some (0, none), some (0, none)] xs).1 (zfs [] (zfl [some (101, none), some (0, none), some (0, none)] xs).2) h) h7, trivial⟩
set_option maxRecDepth 100000 in
set_option maxHeartbeats 0 in
theorem s_Le_lastIn_7 {l : Launch} {zi : Nat → zinfo} {r : zRes} {GO : Nat → List (Option zV) → List zV → zH → Prop} (hS : zSg l true zi (zget (999, 0, 0, 0) zc_Le_lastIn) (zcut zu_Le_lastIn) zin (fun _ _ => none) r GO) (a0 a1 a2 : Int) (h : zH) (hr : Le_lastIn_7 zin a0 a1 a2 h = some r) : GO 7 [some (101, a0), some (0, a1), some (0, a2)] [] h := zit3_s (P := fun x0 x1 x2 h => GO 7 [some (101, x0), some (0, x1), some (0, x2)] [] h) (fun rr hh a0 a1 a2 h hr => s_Le_lastIn_7b hS hh a0 a1 a2 h hr) zN a0 a1 a2 h hr
set_option maxRecDepth 100000 in
set_option maxHeartbeats 0 in
theorem s_Le_lastIn {l : Launch} {zi : Nat → zinfo} {r : zRes} {GO : Nat → List (Option zV) → List zV → zH → Prop} (hS : zSg l true zi (zget (999, 0, 0, 0) zc_Le_lastIn) (zcut zu_Le_lastIn) zin (fun _ _ => none) r GO) (a0 a1 : Int) (h : zH) (hr : Le_lastIn a0 a1 h zin = some r) : GO 0 [some (101, a0), some (0, a1), none] [] h := by
  have e9 := Eq.trans (Eq.symm (qe_Le_lastIn zin a0 a1 h)) hr
  generalize (400 : Nat) = f9 at e9
  refine hS _ _ (zcal_s (SP := zKsp l true zi r) _ ?_) (zorc_s _ ?_) _ _ _ _ _ e9
  · exact trivial
  · exact ⟨zap3_s (P := fun xs h => GO 7 (zfl [some (101, none), some (0, none), some (0, none)] xs).1 (zfs [] (zfl [some (101, none), some (0, none), some (0, none)] xs).2) h) (fun x0 x1 x2 h hr => s_Le_lastIn_7 hS x0 x1 x2 h hr), trivial⟩
set_option maxRecDepth 100000 in
set_option maxHeartbeats 0 in
theorem s_Le_enterHostLaunch_44 {l : Launch} {zi : Nat → zinfo} {r : zRes} {GO : Nat → List (Option zV) → List zV → zH → Prop} (hS : zSg l true zi (zget (999, 0, 0, 0) zc_Le_enterHostLaunch) (zcut zu_Le_enterHostLaunch) zin (fun _ _ => none) r GO) (k228 : ∀ (x0 x1 x2 x3 x4 x5 : Int) (h : zH) (k : (Int → zH → Option zRes)) (t : (Nat → zH → Option zRes)), La_init x0 x1 x2 x3 x4 x5 h k = some r → zKsp l true zi r 228 [x0, x1, x2, x3, x4, x5] h k t) (k231 : ∀ (x0 : Int) (h : zH) (k : (Int → zH → Option zRes)) (t : (Nat → zH → Option zRes)), La_isOver x0 h k = some r → zKsp l true zi r 231 [x0] h k t) (k241 : ∀ (x0 x1 : Int) (h : zH) (k : (Int → zH → Option zRes)) (t : (Nat → zH → Option zRes)), Le_launchOf x0 x1 h k = some r → zKsp l true zi r 241 [x0, x1] h k t) (k244 : ∀ (x0 x1 : Int) (h : zH) (k : (Int → zH → Option zRes)) (t : (Nat → zH → Option zRes)), Le_enter x0 x1 h k = some r → zKsp l true zi r 244 [x0, x1] h k t) (k245 : ∀ (x0 x1 : Int) (h : zH) (k : (Int → zH → Option zRes)) (t : (Nat → zH → Option zRes)), Le_lastIn x0 x1 h k = some r → zKsp l true zi r 245 [x0, x1] h k t) (a0 a2 t0 t1 t2 t3 t4 t5 : Int) (h : zH) (hr : Le_enterHostLaunch_44 zin a0 a2 t0 t1 t2 t3 t4 t5 h = some r) : GO 44 [some (101, a0), none, some (0, a2), none, none] [(109, t0), (0, t1), (0, t2), (109, t3), (109, t4), (101, t5)] h := by
  have e9 := Eq.trans (Eq.symm (qe_Le_enterHostLaunch_44 zin a0 a2 t0 t1 t2 t3 t4 t5 h)) hr
  generalize (400 : Nat) = f9 at e9
  refine hS _ _ (zcal_s (SP := zKsp l true zi r) _ ?_) (zorc_s _ ?_) _ _ _ _ _ e9
  · exact ⟨zca6_s (SP := fun xs h k t => zKsp l true zi r 228 (zfc [none, none, none, none, none, none] xs) h k t) k228, ⟨zca2_s (SP := fun xs h k t => zKsp l true zi r 241 (zfc [none, none] xs) h k t) k241, ⟨zca2_s (SP := fun xs h k t => zKsp l true zi r 244 (zfc [none, none] xs) h k t) k244, trivial⟩⟩⟩
  · exact trivial
set_option maxRecDepth 100000 in
set_option maxHeartbeats 0 in
theorem s_Le_enterHostLaunch_22 {l : Launch} {zi : Nat → zinfo} {r : zRes} {GO : Nat → List (Option zV) → List zV → zH → Prop} (hS : zSg l true zi (zget (999, 0, 0, 0) zc_Le_enterHostLaunch) (zcut zu_Le_enterHostLaunch) zin (fun _ _ => none) r GO) (k228 : ∀ (x0 x1 x2 x3 x4 x5 : Int) (h : zH) (k : (Int → zH → Option zRes)) (t : (Nat → zH → Option zRes)), La_init x0 x1 x2 x3 x4 x5 h k = some r → zKsp l true zi r 228 [x0, x1, x2, x3, x4, x5] h k t) (k231 : ∀ (x0 : Int) (h : zH) (k : (Int → zH → Option zRes)) (t : (Nat → zH → Option zRes)), La_isOver x0 h k = some r → zKsp l true zi r 231 [x0] h k t) (k241 : ∀ (x0 x1 : Int) (h : zH) (k : (Int → zH → Option zRes)) (t : (Nat → zH → Option zRes)), Le_launchOf x0 x1 h k = some r → zKsp l true zi r 241 [x0, x1] h k t) (k244 : ∀ (x0 x1 : Int) (h : zH) (k : (Int → zH → Option zRes)) (t : (Nat → zH → Option zRes)), Le_enter x0 x1 h k = some r → zKsp l true zi r 244 [x0, x1] h k t) (k245 : ∀ (x0 x1 : Int) (h : zH) (k : (Int → zH → Option zRes)) (t : (Nat → zH → Option zRes)), Le_lastIn x0 x1 h k = some r → zKsp l true zi r 245 [x0, x1] h k t) (a0 a1 a2 a3 t0 : Int) (h : zH) (hr : Le_enterHostLaunch_22 zin a0 a1 a2 a3 t0 h = some r) : GO 22 [some (101, a0), some (0, a1), some (0, a2), some (109, a3), none] [(0, t0)] h := by
  have e9 := Eq.trans (Eq.symm (qe_Le_enterHostLaunch_22 zin a0 a1 a2 a3 t0 h)) hr
  generalize (400 : Nat) = f9 at e9
  refine hS _ _ (zcal_s (SP := zKsp l true zi r) _ ?_) (zorc_s _ ?_) _ _ _ _ _ e9
  · exact trivial
  · exact ⟨zap8_s (P := fun xs h => GO 44 (zfl [some (101, none), none, some (0, none), none, none] xs).1 (zfs [(109, none), (0, none), (0, none), (109, none), (109, none), (101, none)] (zfl [some (101, none), none, some (0, none), none, none] xs).2) h) (fun x0 x1 x2 x3 x4 x5 x6 x7 h hr => s_Le_enterHostLaunch_44 hS k228 k231 k241 k244 k245 x0 x1 x2 x3 x4 x5 x6 x7 h hr), trivial⟩
set_option maxRecDepth 100000 in
set_option maxHeartbeats 0 in
theorem s_Le_enterHostLaunch_17 {l : Launch} {zi : Nat → zinfo} {r : zRes} {GO : Nat → List (Option zV) → List zV → zH → Prop} (hS : zSg l true zi (zget (999, 0, 0, 0) zc_Le_enterHostLaunch) (zcut zu_Le_enterHostLaunch) zin (fun _ _ => none) r GO) (k228 : ∀ (x0 x1 x2 x3 x4 x5 : Int) (h : zH) (k : (Int → zH → Option zRes)) (t : (Nat → zH → Option zRes)), La_init x0 x1 x2 x3 x4 x5 h k = some r → zKsp l true zi r 228 [x0, x1, x2, x3, x4, x5] h k t) (k231 : ∀ (x0 : Int) (h : zH) (k : (Int → zH → Option zRes)) (t : (Nat → zH → Option zRes)), La_isOver x0 h k = some r → zKsp l true zi r 231 [x0] h k t) (k241 : ∀ (x0 x1 : Int) (h : zH) (k : (Int → zH → Option zRes)) (t : (Nat → zH → Option zRes)), Le_launchOf x0 x1 h k = some r → zKsp l true zi r 241 [x0, x1] h k t) (k244 : ∀ (x0 x1 : Int) (h : zH) (k : (Int → zH → Option zRes)) (t : (Nat → zH → Option zRes)), Le_enter x0 x1 h k = some r → zKsp l true zi r 244 [x0, x1] h k t) (k245 : ∀ (x0 x1 : Int) (h : zH) (k : (Int → zH → Option zRes)) (t : (Nat → zH → Option zRes)), Le_lastIn x0 x1 h k = some r → zKsp l true zi r 245 [x0, x1] h k t) (a0 a1 a2 a3 : Int) (h : zH) (hr : Le_enterHostLaunch_17 zin a0 a1 a2 a3 h = some r) : GO 17 [some (101, a0), some (0, a1), some (0, a2), some (109, a3), none] [] h := by
  have e9 := Eq.trans (Eq.symm (qe_Le_enterHostLaunch_17 zin a0 a1 a2 a3 h)) hr
  generalize (400 : Nat) = f9 at e9
  refine hS _ _ (zcal_s (SP := zKsp l true zi r) _ ?_) (zorc_s _ ?_) _ _ _ _ _ e9
  · exact trivial
  · exact ⟨zap5_s (P := fun xs h => GO 22 (zfl [some (101, none), some (0, none), some (0, none), some (109, none), none] xs).1 (zfs [(0, none)] (zfl [some (101, none), some (0, none), some (0, none), some (109, none), none] xs).2) h) (fun x0 x1 x2 x3 x4 h hr => s_Le_enterHostLaunch_22 hS k228 k231 k241 k244 k245 x0 x1 x2 x3 x4 h hr), trivial⟩
set_option maxRecDepth 100000 in
set_option maxHeartbeats 0 in
theorem s_Le_enterHostLaunch {l : Launch} {zi : Nat → zinfo} {r : zRes} {GO : Nat → List (Option zV) → List zV → zH → Prop} (hS : zSg l true zi (zget (999, 0, 0, 0) zc_Le_enterHostLaunch) (zcut zu_Le_enterHostLaunch) zin (fun _ _ => none) r GO) (k228 : ∀ (x0 x1 x2 x3 x4 x5 : Int) (h : zH) (k : (Int → zH → Option zRes)) (t : (Nat → zH → Option zRes)), La_init x0 x1 x2 x3 x4 x5 h k = some r → zKsp l true zi r 228 [x0, x1, x2, x3, x4, x5] h k t) (k231 : ∀ (x0 : Int) (h : zH) (k : (Int → zH → Option zRes)) (t : (Nat → zH → Option zRes)), La_isOver x0 h k = some r → zKsp l true zi r 231 [x0] h k t) (k241 : ∀ (x0 x1 : Int) (h : zH) (k : (Int → zH → Option zRes)) (t : (Nat → zH → Option zRes)), Le_launchOf x0 x1 h k = some r → zKsp l true zi r 241 [x0, x1] h k t) (k244 : ∀ (x0 x1 : Int) (h : zH) (k : (Int → zH → Option zRes)) (t : (Nat → zH → Option zRes)), Le_enter x0 x1 h k = some r → zKsp l true zi r 244 [x0, x1] h k t) (k245 : ∀ (x0 x1 : Int) (h : zH) (k : (Int → zH → Option zRes)) (t : (Nat → zH → Option zRes)), Le_lastIn x0 x1 h k = some r → zKsp l true zi r 245 [x0, x1] h k t) (a0 a1 a2 : Int) (h : zH) (hr : Le_enterHostLaunch a0 a1 a2 h zin = some r) : GO 0 [some (101, a0), some (0, a1), some (0, a2), none, none] [] h := by
  have e9 := Eq.trans (Eq.symm (qe_Le_enterHostLaunch zin a0 a1 a2 h)) hr
  generalize (400 : Nat) = f9 at e9
  refine hS _ _ (zcal_s (SP := zKsp l true zi r) _ ?_) (zorc_s _ ?_) _ _ _ _ _ e9
  · exact ⟨zca1_s (SP := fun xs h k t => zKsp l true zi r 231 (zfc [none] xs) h k t) k231, ⟨zca2_s (SP := fun xs h k t => zKsp l true zi r 245 (zfc [none, none] xs) h k t) k245, trivial⟩⟩
  · exact ⟨zap4_s (P := fun xs h => GO 17 (zfl [some (101, none), some (0, none), some (0, none), some (109, none), none] xs).1 (zfs [] (zfl [some (101, none), some (0, none), some (0, none), some (109, none), none] xs).2) h) (fun x0 x1 x2 x3 h hr => s_Le_enterHostLaunch_17 hS k228 k231 k241 k244 k245 x0 x1 x2 x3 h hr), ⟨zap5_s (P := fun xs h => GO 22 (zfl [some (101, none), some (0, none), some (0, none), some (109, none), none] xs).1 (zfs [(0, none)] (zfl [some (101, none), some (0, none), some (0, none), some (109, none), none] xs).2) h) (fun x0 x1 x2 x3 x4 h hr => s_Le_enterHostLaunch_22 hS k228 k231 k241 k244 k245 x0 x1 x2 x3 x4 h hr), trivial⟩⟩
set_option maxRecDepth 100000 in
set_option maxHeartbeats 0 in
theorem s_X_launch_35 {l : Launch} {zi : Nat → zinfo} {r : zRes} {GO : Nat → List (Option zV) → List zV → zH → Prop} (hS : zSg l true zi (zget (999, 0, 0, 0) zc_X_launch) (zcut zu_X_launch) zin zth r GO) (k47 : ∀ (x0 x1 : Int) (h : zH) (k : (Int → zH → Option zRes)) (t : (Nat → zH → Option zRes)), X_kernelAt x0 x1 h t k = some r → zKsp l true zi r 47 [x0, x1] h k t) (k52 : ∀ (x0 x1 x2 : Int) (h : zH) (k : (Int → zH → Option zRes)) (t : (Nat → zH → Option zRes)), X_checkQueueAndAfter x0 x1 x2 h t k = some r → zKsp l true zi r 52 [x0, x1, x2] h k t) (k53 : ∀ (x0 : Int) (h : zH) (k : (Int → zH → Option zRes)) (t : (Nat → zH → Option zRes)), X_checkRoomForLaunch x0 h t k = some r → zKsp l true zi r 53 [x0] h k t) (k54 : ∀ (x0 x1 x2 : Int) (h : zH) (k : (Int → zH → Option zRes)) (t : (Nat → zH → Option zRes)), X_isWithin x0 x1 x2 h k = some r → zKsp l true zi r 54 [x0, x1, x2] h k t) (k227 : ∀ (x0 x1 : Int) (h : zH) (k : (Int → zH → Option zRes)) (t : (Nat → zH → Option zRes)), Ke_blocksInUnit x0 x1 h k = some r → zKsp l true zi r 227 [x0, x1] h k t) (k229 : ∀ (x0 x1 x2 x3 : Int) (h : zH) (k : (Int → zH → Option zRes)) (t : (Nat → zH → Option zRes)), La_useKernel x0 x1 x2 x3 h k = some r → zKsp l true zi r 229 [x0, x1, x2, x3] h k t) (k243 : ∀ (x0 x1 x2 : Int) (h : zH) (k : (Int → zH → Option zRes)) (t : (Nat → zH → Option zRes)), Le_enterHostLaunch x0 x1 x2 h k = some r → zKsp l true zi r 243 [x0, x1, x2] h k t) (h : zH) (hr : X_launch_35 zin zth h = some r) : GO 35 [none, none, none, none, none, none, none, none] [] h := by
  have e9 := Eq.trans (Eq.symm (qe_X_launch_35 zin zth h)) hr
  generalize (400 : Nat) = f9 at e9
  refine hS _ _ (zcal_s (SP := zKsp l true zi r) _ ?_) (zorc_s _ ?_) _ _ _ _ _ e9
  · exact trivial
  · exact trivial
set_option maxRecDepth 100000 in
set_option maxHeartbeats 0 in
theorem s_X_launch {l : Launch} {zi : Nat → zinfo} {r : zRes} {GO : Nat → List (Option zV) → List zV → zH → Prop} (hS : zSg l true zi (zget (999, 0, 0, 0) zc_X_launch) (zcut zu_X_launch) zin zth r GO) (k47 : ∀ (x0 x1 : Int) (h : zH) (k : (Int → zH → Option zRes)) (t : (Nat → zH → Option zRes)), X_kernelAt x0 x1 h t k = some r → zKsp l true zi r 47 [x0, x1] h k t) (k52 : ∀ (x0 x1 x2 : Int) (h : zH) (k : (Int → zH → Option zRes)) (t : (Nat → zH → Option zRes)), X_checkQueueAndAfter x0 x1 x2 h t k = some r → zKsp l true zi r 52 [x0, x1, x2] h k t) (k53 : ∀ (x0 : Int) (h : zH) (k : (Int → zH → Option zRes)) (t : (Nat → zH → Option zRes)), X_checkRoomForLaunch x0 h t k = some r → zKsp l true zi r 53 [x0] h k t) (k54 : ∀ (x0 x1 x2 : Int) (h : zH) (k : (Int → zH → Option zRes)) (t : (Nat → zH → Option zRes)), X_isWithin x0 x1 x2 h k = some r → zKsp l true zi r 54 [x0, x1, x2] h k t) (k227 : ∀ (x0 x1 : Int) (h : zH) (k : (Int → zH → Option zRes)) (t : (Nat → zH → Option zRes)), Ke_blocksInUnit x0 x1 h k = some r → zKsp l true zi r 227 [x0, x1] h k t) (k229 : ∀ (x0 x1 x2 x3 : Int) (h : zH) (k : (Int → zH → Option zRes)) (t : (Nat → zH → Option zRes)), La_useKernel x0 x1 x2 x3 h k = some r → zKsp l true zi r 229 [x0, x1, x2, x3] h k t) (k243 : ∀ (x0 x1 x2 : Int) (h : zH) (k : (Int → zH → Option zRes)) (t : (Nat → zH → Option zRes)), Le_enterHostLaunch x0 x1 x2 h k = some r → zKsp l true zi r 243 [x0, x1, x2] h k t) (a0 a1 a2 a3 a4 a5 : Int) (h : zH) (hr : X_launch a0 a1 a2 a3 a4 a5 h zth zin = some r) : GO 0 [some (100, a0), some (0, a1), some (0, a2), some (0, a3), some (0, a4), some (0, a5), none, none] [] h := by
  have e9 := Eq.trans (Eq.symm (qe_X_launch zin zth a0 a1 a2 a3 a4 a5 h)) hr
  generalize (400 : Nat) = f9 at e9
  refine hS _ _ (zcal_s (SP := zKsp l true zi r) _ ?_) (zorc_s _ ?_) _ _ _ _ _ e9
  · exact ⟨zcx2_s (SP := fun xs h k t => zKsp l true zi r 47 (zfc [none, none] xs) h k t) k47, ⟨zcx3_s (SP := fun xs h k t => zKsp l true zi r 52 (zfc [none, none, none] xs) h k t) k52, ⟨zcx1_s (SP := fun xs h k t => zKsp l true zi r 53 (zfc [none] xs) h k t) k53, ⟨zca3_s (SP := fun xs h k t => zKsp l true zi r 54 (zfc [none, none, none] xs) h k t) k54, ⟨zca2_s (SP := fun xs h k t => zKsp l true zi r 227 (zfc [none, none] xs) h k t) k227, ⟨zca4_s (SP := fun xs h k t => zKsp l true zi r 229 (zfc [none, none, none, none] xs) h k t) k229, ⟨zca3_s (SP := fun xs h k t => zKsp l true zi r 243 (zfc [none, none, none] xs) h k t) k243, trivial⟩⟩⟩⟩⟩⟩⟩
  · exact ⟨zap0_s (P := fun xs h => GO 35 (zfl [none, none, none, none, none, none, none, none] xs).1 (zfs [] (zfl [none, none, none, none, none, none, none, none] xs).2) h) (fun  h hr => s_X_launch_35 hS k47 k52 k53 k54 k227 k229 k243  h hr), trivial⟩
set_option maxRecDepth 100000 in
set_option maxHeartbeats 0 in
theorem s_La_useCopy {l : Launch} {zi : Nat → zinfo} {r : zRes} {GO : Nat → List (Option zV) → List zV → zH → Prop} (hS : zSg l true zi (zget (999, 0, 0, 0) zc_La_useCopy) (zcut zu_La_useCopy) zin (fun _ _ => none) r GO) (a0 a1 a2 a3 : Int) (h : zH) (hr : La_useCopy a0 a1 a2 a3 h zin = some r) : GO 0 [some (109, a0), some (0, a1), some (0, a2), some (0, a3)] [] h := by
  have e9 := Eq.trans (Eq.symm (qe_La_useCopy zin a0 a1 a2 a3 h)) hr
  generalize (400 : Nat) = f9 at e9
  refine hS _ _ (zcal_s (SP := zKsp l true zi r) _ ?_) (zorc_s _ ?_) _ _ _ _ _ e9
  · exact trivial
  · exact trivial
set_option maxRecDepth 100000 in
set_option maxHeartbeats 0 in
theorem s_X_copy_44 {l : Launch} {zi : Nat → zinfo} {r : zRes} {GO : Nat → List (Option zV) → List zV → zH → Prop} (hS : zSg l true zi (zget (999, 0, 0, 0) zc_X_copy) (zcut zu_X_copy) zin zth r GO) (k52 : ∀ (x0 x1 x2 : Int) (h : zH) (k : (Int → zH → Option zRes)) (t : (Nat → zH → Option zRes)), X_checkQueueAndAfter x0 x1 x2 h t k = some r → zKsp l true zi r 52 [x0, x1, x2] h k t) (k53 : ∀ (x0 : Int) (h : zH) (k : (Int → zH → Option zRes)) (t : (Nat → zH → Option zRes)), X_checkRoomForLaunch x0 h t k = some r → zKsp l true zi r 53 [x0] h k t) (k54 : ∀ (x0 x1 x2 : Int) (h : zH) (k : (Int → zH → Option zRes)) (t : (Nat → zH → Option zRes)), X_isWithin x0 x1 x2 h k = some r → zKsp l true zi r 54 [x0, x1, x2] h k t) (k230 : ∀ (x0 x1 x2 x3 : Int) (h : zH) (k : (Int → zH → Option zRes)) (t : (Nat → zH → Option zRes)), La_useCopy x0 x1 x2 x3 h k = some r → zKsp l true zi r 230 [x0, x1, x2, x3] h k t) (k243 : ∀ (x0 x1 x2 : Int) (h : zH) (k : (Int → zH → Option zRes)) (t : (Nat → zH → Option zRes)), Le_enterHostLaunch x0 x1 x2 h k = some r → zKsp l true zi r 243 [x0, x1, x2] h k t) (h : zH) (hr : X_copy_44 zin zth h = some r) : GO 44 [none, none, none, none, none, none, none] [] h := by
  have e9 := Eq.trans (Eq.symm (qe_X_copy_44 zin zth h)) hr
  generalize (400 : Nat) = f9 at e9
  refine hS _ _ (zcal_s (SP := zKsp l true zi r) _ ?_) (zorc_s _ ?_) _ _ _ _ _ e9
  · exact trivial
  · exact trivial
set_option maxRecDepth 100000 in
set_option maxHeartbeats 0 in
theorem s_X_copy {l : Launch} {zi : Nat → zinfo} {r : zRes} {GO : Nat → List (Option zV) → List zV → zH → Prop} (hS : zSg l true zi (zget (999, 0, 0, 0) zc_X_copy) (zcut zu_X_copy) zin zth r GO) (k52 : ∀ (x0 x1 x2 : Int) (h : zH) (k : (Int → zH → Option zRes)) (t : (Nat → zH → Option zRes)), X_checkQueueAndAfter x0 x1 x2 h t k = some r → zKsp l true zi r 52 [x0, x1, x2] h k t) (k53 : ∀ (x0 : Int) (h : zH) (k : (Int → zH → Option zRes)) (t : (Nat → zH → Option zRes)), X_checkRoomForLaunch x0 h t k = some r → zKsp l true zi r 53 [x0] h k t) (k54 : ∀ (x0 x1 x2 : Int) (h : zH) (k : (Int → zH → Option zRes)) (t : (Nat → zH → Option zRes)), X_isWithin x0 x1 x2 h k = some r → zKsp l true zi r 54 [x0, x1, x2] h k t) (k230 : ∀ (x0 x1 x2 x3 : Int) (h : zH) (k : (Int → zH → Option zRes)) (t : (Nat → zH → Option zRes)), La_useCopy x0 x1 x2 x3 h k = some r → zKsp l true zi r 230 [x0, x1, x2, x3] h k t) (k243 : ∀ (x0 x1 x2 : Int) (h : zH) (k : (Int → zH → Option zRes)) (t : (Nat → zH → Option zRes)), Le_enterHostLaunch x0 x1 x2 h k = some r → zKsp l true zi r 243 [x0, x1, x2] h k t) (a0 a1 a2 a3 a4 a5 : Int) (h : zH) (hr : X_copy a0 a1 a2 a3 a4 a5 h zth zin = some r) : GO 0 [some (100, a0), some (0, a1), some (0, a2), some (0, a3), some (0, a4), some (0, a5), none] [] h := by
  have e9 := Eq.trans (Eq.symm (qe_X_copy zin zth a0 a1 a2 a3 a4 a5 h)) hr
  generalize (400 : Nat) = f9 at e9
  refine hS _ _ (zcal_s (SP := zKsp l true zi r) _ ?_) (zorc_s _ ?_) _ _ _ _ _ e9
  · exact ⟨zcx3_s (SP := fun xs h k t => zKsp l true zi r 52 (zfc [none, none, none] xs) h k t) k52, ⟨zcx1_s (SP := fun xs h k t => zKsp l true zi r 53 (zfc [none] xs) h k t) k53, ⟨zca3_s (SP := fun xs h k t => zKsp l true zi r 54 (zfc [none, none, none] xs) h k t) k54, ⟨zca4_s (SP := fun xs h k t => zKsp l true zi r 230 (zfc [none, none, none, none] xs) h k t) k230, ⟨zca3_s (SP := fun xs h k t => zKsp l true zi r 243 (zfc [none, none, none] xs) h k t) k243, trivial⟩⟩⟩⟩⟩
  · exact ⟨zap0_s (P := fun xs h => GO 44 (zfl [none, none, none, none, none, none, none] xs).1 (zfs [] (zfl [none, none, none, none, none, none, none] xs).2) h) (fun  h hr => s_X_copy_44 hS k52 k53 k54 k230 k243  h hr), trivial⟩
set_option maxRecDepth 100000 in
set_option maxHeartbeats 0 in
theorem s_X_launches {l : Launch} {zi : Nat → zinfo} {r : zRes} {GO : Nat → List (Option zV) → List zV → zH → Prop} (hS : zSg l true zi (zget (999, 0, 0, 0) zc_X_launches) (zcut zu_X_launches) zin (fun _ _ => none) r GO) (a0 : Int) (h : zH) (hr : X_launches a0 h zin = some r) : GO 0 [some (100, a0)] [] h := by
  have e9 := Eq.trans (Eq.symm (qe_X_launches zin a0 h)) hr
  generalize (400 : Nat) = f9 at e9
  refine hS _ _ (zcal_s (SP := zKsp l true zi r) _ ?_) (zorc_s _ ?_) _ _ _ _ _ e9
  · exact trivial
  · exact trivial
set_option maxRecDepth 100000 in
set_option maxHeartbeats 0 in
theorem s_X_state {l : Launch} {zi : Nat → zinfo} {r : zRes} {GO : Nat → List (Option zV) → List zV → zH → Prop} (hS : zSg l true zi (zget (999, 0, 0, 0) zc_X_state) (zcut zu_X_state) zin zth r GO) (k48 : ∀ (x0 x1 : Int) (h : zH) (k : (Int → zH → Option zRes)) (t : (Nat → zH → Option zRes)), X_launchAt x0 x1 h t k = some r → zKsp l true zi r 48 [x0, x1] h k t) (a0 a1 : Int) (h : zH) (hr : X_state a0 a1 h zth zin = some r) : GO 0 [some (100, a0), some (0, a1)] [] h := by
  have e9 := Eq.trans (Eq.symm (qe_X_state zin zth a0 a1 h)) hr
  generalize (400 : Nat) = f9 at e9
  refine hS _ _ (zcal_s (SP := zKsp l true zi r) _ ?_) (zorc_s _ ?_) _ _ _ _ _ e9
  · exact ⟨zcx2_s (SP := fun xs h k t => zKsp l true zi r 48 (zfc [none, none] xs) h k t) k48, trivial⟩
  · exact trivial
set_option maxRecDepth 100000 in
set_option maxHeartbeats 0 in
theorem s_X_parent {l : Launch} {zi : Nat → zinfo} {r : zRes} {GO : Nat → List (Option zV) → List zV → zH → Prop} (hS : zSg l true zi (zget (999, 0, 0, 0) zc_X_parent) (zcut zu_X_parent) zin zth r GO) (k48 : ∀ (x0 x1 : Int) (h : zH) (k : (Int → zH → Option zRes)) (t : (Nat → zH → Option zRes)), X_launchAt x0 x1 h t k = some r → zKsp l true zi r 48 [x0, x1] h k t) (a0 a1 : Int) (h : zH) (hr : X_parent a0 a1 h zth zin = some r) : GO 0 [some (100, a0), some (0, a1), none] [] h := by
  have e9 := Eq.trans (Eq.symm (qe_X_parent zin zth a0 a1 h)) hr
  generalize (400 : Nat) = f9 at e9
  refine hS _ _ (zcal_s (SP := zKsp l true zi r) _ ?_) (zorc_s _ ?_) _ _ _ _ _ e9
  · exact ⟨zcx2_s (SP := fun xs h k t => zKsp l true zi r 48 (zfc [none, none] xs) h k t) k48, trivial⟩
  · exact trivial
