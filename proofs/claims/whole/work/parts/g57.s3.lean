set_option maxRecDepth 100000 in
set_option maxHeartbeats 0 in
theorem s_Gr_leastPlace_32 {l : Launch} {zi : Nat → zinfo} {r : zRes} {GO : Nat → List (Option zV) → List zV → zH → Prop} (hS : zSg l true zi (zget (999, 0, 0, 0) zc_Gr_leastPlace) (zcut zu_Gr_leastPlace) zin (fun _ _ => none) r GO) (k204 : ∀ (x0 x1 : Int) (h : zH) (k : (Int → zH → Option zRes)) (t : (Nat → zH → Option zRes)), Gr_placeIn x0 x1 h k = some r → zKsp l true zi r 204 [x0, x1] h k t) {r4 : Int → Int → Int → zH → Option zRes} (h4 : ∀ (x0 x1 x2 : Int) (h : zH), r4 x0 x1 x2 h = some r → GO 4 [some (111, x0), some (0, x1), some (0, x2), none] [] h) (a0 a1 a2 : Int) (h : zH) (hr : Gr_leastPlace_32 zin r4 a0 a1 a2 h = some r) : GO 32 [some (111, a0), some (0, a1), some (0, a2), none] [] h := by
  have e9 := Eq.trans (Eq.symm (qe_Gr_leastPlace_32 zin r4 a0 a1 a2 h)) hr
  generalize (400 : Nat) = f9 at e9
  refine hS _ _ (zcal_s (SP := zKsp l true zi r) _ ?_) (zorc_s _ ?_) _ _ _ _ _ e9
  · exact trivial
  · exact ⟨zap3_s (P := fun xs h => GO 4 (zfl [some (111, none), some (0, none), some (0, none), none] xs).1 (zfs [] (zfl [some (111, none), some (0, none), some (0, none), none] xs).2) h) h4, trivial⟩
set_option maxRecDepth 100000 in
set_option maxHeartbeats 0 in
theorem s_Gr_leastPlace_30 {l : Launch} {zi : Nat → zinfo} {r : zRes} {GO : Nat → List (Option zV) → List zV → zH → Prop} (hS : zSg l true zi (zget (999, 0, 0, 0) zc_Gr_leastPlace) (zcut zu_Gr_leastPlace) zin (fun _ _ => none) r GO) (k204 : ∀ (x0 x1 : Int) (h : zH) (k : (Int → zH → Option zRes)) (t : (Nat → zH → Option zRes)), Gr_placeIn x0 x1 h k = some r → zKsp l true zi r 204 [x0, x1] h k t) {r4 : Int → Int → Int → zH → Option zRes} (h4 : ∀ (x0 x1 x2 : Int) (h : zH), r4 x0 x1 x2 h = some r → GO 4 [some (111, x0), some (0, x1), some (0, x2), none] [] h) (a0 a2 a3 : Int) (h : zH) (hr : Gr_leastPlace_30 zin r4 a0 a2 a3 h = some r) : GO 30 [some (111, a0), none, some (0, a2), some (0, a3)] [] h := by
  have e9 := Eq.trans (Eq.symm (qe_Gr_leastPlace_30 zin r4 a0 a2 a3 h)) hr
  generalize (400 : Nat) = f9 at e9
  refine hS _ _ (zcal_s (SP := zKsp l true zi r) _ ?_) (zorc_s _ ?_) _ _ _ _ _ e9
  · exact trivial
  · exact ⟨zap3_s (P := fun xs h => GO 32 (zfl [some (111, none), some (0, none), some (0, none), none] xs).1 (zfs [] (zfl [some (111, none), some (0, none), some (0, none), none] xs).2) h) (fun x0 x1 x2 h hr => s_Gr_leastPlace_32 hS k204 h4 x0 x1 x2 h hr), trivial⟩
set_option maxRecDepth 100000 in
set_option maxHeartbeats 0 in
theorem s_Gr_leastPlace_4b {l : Launch} {zi : Nat → zinfo} {r : zRes} {GO : Nat → List (Option zV) → List zV → zH → Prop} (hS : zSg l true zi (zget (999, 0, 0, 0) zc_Gr_leastPlace) (zcut zu_Gr_leastPlace) zin (fun _ _ => none) r GO) (k204 : ∀ (x0 x1 : Int) (h : zH) (k : (Int → zH → Option zRes)) (t : (Nat → zH → Option zRes)), Gr_placeIn x0 x1 h k = some r → zKsp l true zi r 204 [x0, x1] h k t) {r4 : Int → Int → Int → zH → Option zRes} (h4 : ∀ (x0 x1 x2 : Int) (h : zH), r4 x0 x1 x2 h = some r → GO 4 [some (111, x0), some (0, x1), some (0, x2), none] [] h) (a0 a1 a2 : Int) (h : zH) (hr : Gr_leastPlace_4b zin r4 a0 a1 a2 h = some r) : GO 4 [some (111, a0), some (0, a1), some (0, a2), none] [] h := by
  have e9 := Eq.trans (Eq.symm (qe_Gr_leastPlace_4b zin r4 a0 a1 a2 h)) hr
  generalize (400 : Nat) = f9 at e9
  refine hS _ _ (zcal_s (SP := zKsp l true zi r) _ ?_) (zorc_s _ ?_) _ _ _ _ _ e9
  · exact ⟨zca2_s (SP := fun xs h k t => zKsp l true zi r 204 (zfc [none, none] xs) h k t) k204, trivial⟩
  · exact ⟨zap3_s (P := fun xs h => GO 30 (zfl [some (111, none), none, some (0, none), some (0, none)] xs).1 (zfs [] (zfl [some (111, none), none, some (0, none), some (0, none)] xs).2) h) (fun x0 x1 x2 h hr => s_Gr_leastPlace_30 hS k204 h4 x0 x1 x2 h hr), ⟨zap3_s (P := fun xs h => GO 32 (zfl [some (111, none), some (0, none), some (0, none), none] xs).1 (zfs [] (zfl [some (111, none), some (0, none), some (0, none), none] xs).2) h) (fun x0 x1 x2 h hr => s_Gr_leastPlace_32 hS k204 h4 x0 x1 x2 h hr), trivial⟩⟩
set_option maxRecDepth 100000 in
set_option maxHeartbeats 0 in
theorem s_Gr_leastPlace_4 {l : Launch} {zi : Nat → zinfo} {r : zRes} {GO : Nat → List (Option zV) → List zV → zH → Prop} (hS : zSg l true zi (zget (999, 0, 0, 0) zc_Gr_leastPlace) (zcut zu_Gr_leastPlace) zin (fun _ _ => none) r GO) (k204 : ∀ (x0 x1 : Int) (h : zH) (k : (Int → zH → Option zRes)) (t : (Nat → zH → Option zRes)), Gr_placeIn x0 x1 h k = some r → zKsp l true zi r 204 [x0, x1] h k t) (a0 a1 a2 : Int) (h : zH) (hr : Gr_leastPlace_4 zin a0 a1 a2 h = some r) : GO 4 [some (111, a0), some (0, a1), some (0, a2), none] [] h := zit3_s (P := fun x0 x1 x2 h => GO 4 [some (111, x0), some (0, x1), some (0, x2), none] [] h) (fun rr hh a0 a1 a2 h hr => s_Gr_leastPlace_4b hS k204 hh a0 a1 a2 h hr) zN a0 a1 a2 h hr
set_option maxRecDepth 100000 in
set_option maxHeartbeats 0 in
theorem s_Gr_leastPlace {l : Launch} {zi : Nat → zinfo} {r : zRes} {GO : Nat → List (Option zV) → List zV → zH → Prop} (hS : zSg l true zi (zget (999, 0, 0, 0) zc_Gr_leastPlace) (zcut zu_Gr_leastPlace) zin (fun _ _ => none) r GO) (k204 : ∀ (x0 x1 : Int) (h : zH) (k : (Int → zH → Option zRes)) (t : (Nat → zH → Option zRes)), Gr_placeIn x0 x1 h k = some r → zKsp l true zi r 204 [x0, x1] h k t) (a0 : Int) (h : zH) (hr : Gr_leastPlace a0 h zin = some r) : GO 0 [some (111, a0), none, none, none] [] h := by
  have e9 := Eq.trans (Eq.symm (qe_Gr_leastPlace zin a0 h)) hr
  generalize (400 : Nat) = f9 at e9
  refine hS _ _ (zcal_s (SP := zKsp l true zi r) _ ?_) (zorc_s _ ?_) _ _ _ _ _ e9
  · exact trivial
  · exact ⟨zap3_s (P := fun xs h => GO 4 (zfl [some (111, none), some (0, none), some (0, none), none] xs).1 (zfs [] (zfl [some (111, none), some (0, none), some (0, none), none] xs).2) h) (fun x0 x1 x2 h hr => s_Gr_leastPlace_4 hS k204 x0 x1 x2 h hr), trivial⟩
set_option maxRecDepth 100000 in
set_option maxHeartbeats 0 in
theorem s_Gr_lanesUnderMask_34 {l : Launch} {zi : Nat → zinfo} {r : zRes} {GO : Nat → List (Option zV) → List zV → zH → Prop} (hS : zSg l true zi (zget (999, 0, 0, 0) zc_Gr_lanesUnderMask) (zcut zu_Gr_lanesUnderMask) zin (fun _ _ => none) r GO) (k204 : ∀ (x0 x1 : Int) (h : zH) (k : (Int → zH → Option zRes)) (t : (Nat → zH → Option zRes)), Gr_placeIn x0 x1 h k = some r → zKsp l true zi r 204 [x0, x1] h k t) (k205 : ∀ (x0 : Int) (h : zH) (k : (Int → zH → Option zRes)) (t : (Nat → zH → Option zRes)), Gr_leastPlace x0 h k = some r → zKsp l true zi r 205 [x0] h k t) {r9 : Int → Int → Int → Int → zH → Option zRes} (h9 : ∀ (x0 x1 x2 x3 : Int) (h : zH), r9 x0 x1 x2 x3 h = some r → GO 9 [some (111, x0), some (0, x1), some (0, x2), some (0, x3)] [] h) (a0 a1 a2 a3 : Int) (h : zH) (hr : Gr_lanesUnderMask_34 zin r9 a0 a1 a2 a3 h = some r) : GO 34 [some (111, a0), some (0, a1), some (0, a2), some (0, a3)] [] h := by
  have e9 := Eq.trans (Eq.symm (qe_Gr_lanesUnderMask_34 zin r9 a0 a1 a2 a3 h)) hr
  generalize (400 : Nat) = f9 at e9
  refine hS _ _ (zcal_s (SP := zKsp l true zi r) _ ?_) (zorc_s _ ?_) _ _ _ _ _ e9
  · exact trivial
  · exact ⟨zap4_s (P := fun xs h => GO 9 (zfl [some (111, none), some (0, none), some (0, none), some (0, none)] xs).1 (zfs [] (zfl [some (111, none), some (0, none), some (0, none), some (0, none)] xs).2) h) h9, trivial⟩
set_option maxRecDepth 100000 in
set_option maxHeartbeats 0 in
theorem s_Gr_lanesUnderMask_9b {l : Launch} {zi : Nat → zinfo} {r : zRes} {GO : Nat → List (Option zV) → List zV → zH → Prop} (hS : zSg l true zi (zget (999, 0, 0, 0) zc_Gr_lanesUnderMask) (zcut zu_Gr_lanesUnderMask) zin (fun _ _ => none) r GO) (k204 : ∀ (x0 x1 : Int) (h : zH) (k : (Int → zH → Option zRes)) (t : (Nat → zH → Option zRes)), Gr_placeIn x0 x1 h k = some r → zKsp l true zi r 204 [x0, x1] h k t) (k205 : ∀ (x0 : Int) (h : zH) (k : (Int → zH → Option zRes)) (t : (Nat → zH → Option zRes)), Gr_leastPlace x0 h k = some r → zKsp l true zi r 205 [x0] h k t) {r9 : Int → Int → Int → Int → zH → Option zRes} (h9 : ∀ (x0 x1 x2 x3 : Int) (h : zH), r9 x0 x1 x2 x3 h = some r → GO 9 [some (111, x0), some (0, x1), some (0, x2), some (0, x3)] [] h) (a0 a1 a2 a3 : Int) (h : zH) (hr : Gr_lanesUnderMask_9b zin r9 a0 a1 a2 a3 h = some r) : GO 9 [some (111, a0), some (0, a1), some (0, a2), some (0, a3)] [] h := by
  have e9 := Eq.trans (Eq.symm (qe_Gr_lanesUnderMask_9b zin r9 a0 a1 a2 a3 h)) hr
  generalize (400 : Nat) = f9 at e9
  refine hS _ _ (zcal_s (SP := zKsp l true zi r) _ ?_) (zorc_s _ ?_) _ _ _ _ _ e9
  · exact ⟨zca2_s (SP := fun xs h k t => zKsp l true zi r 204 (zfc [none, none] xs) h k t) k204, trivial⟩
  · exact ⟨zap4_s (P := fun xs h => GO 34 (zfl [some (111, none), some (0, none), some (0, none), some (0, none)] xs).1 (zfs [] (zfl [some (111, none), some (0, none), some (0, none), some (0, none)] xs).2) h) (fun x0 x1 x2 x3 h hr => s_Gr_lanesUnderMask_34 hS k204 k205 h9 x0 x1 x2 x3 h hr), trivial⟩
set_option maxRecDepth 100000 in
set_option maxHeartbeats 0 in
theorem s_Gr_lanesUnderMask_9 {l : Launch} {zi : Nat → zinfo} {r : zRes} {GO : Nat → List (Option zV) → List zV → zH → Prop} (hS : zSg l true zi (zget (999, 0, 0, 0) zc_Gr_lanesUnderMask) (zcut zu_Gr_lanesUnderMask) zin (fun _ _ => none) r GO) (k204 : ∀ (x0 x1 : Int) (h : zH) (k : (Int → zH → Option zRes)) (t : (Nat → zH → Option zRes)), Gr_placeIn x0 x1 h k = some r → zKsp l true zi r 204 [x0, x1] h k t) (k205 : ∀ (x0 : Int) (h : zH) (k : (Int → zH → Option zRes)) (t : (Nat → zH → Option zRes)), Gr_leastPlace x0 h k = some r → zKsp l true zi r 205 [x0] h k t) (a0 a1 a2 a3 : Int) (h : zH) (hr : Gr_lanesUnderMask_9 zin a0 a1 a2 a3 h = some r) : GO 9 [some (111, a0), some (0, a1), some (0, a2), some (0, a3)] [] h := zit4_s (P := fun x0 x1 x2 x3 h => GO 9 [some (111, x0), some (0, x1), some (0, x2), some (0, x3)] [] h) (fun rr hh a0 a1 a2 a3 h hr => s_Gr_lanesUnderMask_9b hS k204 k205 hh a0 a1 a2 a3 h hr) zN a0 a1 a2 a3 h hr
set_option maxRecDepth 100000 in
set_option maxHeartbeats 0 in
theorem s_Gr_lanesUnderMask {l : Launch} {zi : Nat → zinfo} {r : zRes} {GO : Nat → List (Option zV) → List zV → zH → Prop} (hS : zSg l true zi (zget (999, 0, 0, 0) zc_Gr_lanesUnderMask) (zcut zu_Gr_lanesUnderMask) zin (fun _ _ => none) r GO) (k204 : ∀ (x0 x1 : Int) (h : zH) (k : (Int → zH → Option zRes)) (t : (Nat → zH → Option zRes)), Gr_placeIn x0 x1 h k = some r → zKsp l true zi r 204 [x0, x1] h k t) (k205 : ∀ (x0 : Int) (h : zH) (k : (Int → zH → Option zRes)) (t : (Nat → zH → Option zRes)), Gr_leastPlace x0 h k = some r → zKsp l true zi r 205 [x0] h k t) (a0 : Int) (h : zH) (hr : Gr_lanesUnderMask a0 h zin = some r) : GO 0 [some (111, a0), none, none, none] [] h := by
  have e9 := Eq.trans (Eq.symm (qe_Gr_lanesUnderMask zin a0 h)) hr
  generalize (400 : Nat) = f9 at e9
  refine hS _ _ (zcal_s (SP := zKsp l true zi r) _ ?_) (zorc_s _ ?_) _ _ _ _ _ e9
  · exact ⟨zca1_s (SP := fun xs h k t => zKsp l true zi r 205 (zfc [none] xs) h k t) k205, trivial⟩
  · exact ⟨zap4_s (P := fun xs h => GO 9 (zfl [some (111, none), some (0, none), some (0, none), some (0, none)] xs).1 (zfs [] (zfl [some (111, none), some (0, none), some (0, none), some (0, none)] xs).2) h) (fun x0 x1 x2 x3 h hr => s_Gr_lanesUnderMask_9 hS k204 k205 x0 x1 x2 x3 h hr), trivial⟩
set_option maxRecDepth 100000 in
set_option maxHeartbeats 0 in
theorem s_Ke_instructionAt_24 {l : Launch} {zi : Nat → zinfo} {r : zRes} {GO : Nat → List (Option zV) → List zV → zH → Prop} (hS : zSg l true zi (zget (999, 0, 0, 0) zc_Ke_instructionAt) (zcut zu_Ke_instructionAt) zin (fun _ _ => none) r GO) (k54 : ∀ (x0 x1 x2 : Int) (h : zH) (k : (Int → zH → Option zRes)) (t : (Nat → zH → Option zRes)), X_isWithin x0 x1 x2 h k = some r → zKsp l true zi r 54 [x0, x1, x2] h k t) (t0 : Int) (h : zH) (hr : Ke_instructionAt_24 zin t0 h = some r) : GO 24 [none, none] [(108, t0)] h := by
  have e9 := Eq.trans (Eq.symm (qe_Ke_instructionAt_24 zin t0 h)) hr
  generalize (400 : Nat) = f9 at e9
  refine hS _ _ (zcal_s (SP := zKsp l true zi r) _ ?_) (zorc_s _ ?_) _ _ _ _ _ e9
  · exact trivial
  · exact trivial
set_option maxRecDepth 100000 in
set_option maxHeartbeats 0 in
theorem s_Ke_instructionAt {l : Launch} {zi : Nat → zinfo} {r : zRes} {GO : Nat → List (Option zV) → List zV → zH → Prop} (hS : zSg l true zi (zget (999, 0, 0, 0) zc_Ke_instructionAt) (zcut zu_Ke_instructionAt) zin (fun _ _ => none) r GO) (k54 : ∀ (x0 x1 x2 : Int) (h : zH) (k : (Int → zH → Option zRes)) (t : (Nat → zH → Option zRes)), X_isWithin x0 x1 x2 h k = some r → zKsp l true zi r 54 [x0, x1, x2] h k t) (a0 a1 : Int) (h : zH) (hr : Ke_instructionAt a0 a1 h zin = some r) : GO 0 [some (107, a0), some (0, a1)] [] h := by
  have e9 := Eq.trans (Eq.symm (qe_Ke_instructionAt zin a0 a1 h)) hr
  generalize (400 : Nat) = f9 at e9
  refine hS _ _ (zcal_s (SP := zKsp l true zi r) _ ?_) (zorc_s _ ?_) _ _ _ _ _ e9
  · exact ⟨zca3_s (SP := fun xs h k t => zKsp l true zi r 54 (zfc [none, none, none] xs) h k t) k54, trivial⟩
  · exact ⟨zap1_s (P := fun xs h => GO 24 (zfl [none, none] xs).1 (zfs [(108, none)] (zfl [none, none] xs).2) h) (fun x0 h hr => s_Ke_instructionAt_24 hS k54 x0 h hr), trivial⟩
set_option maxRecDepth 100000 in
set_option maxHeartbeats 0 in
theorem s_Th_goOn_88 {l : Launch} {zi : Nat → zinfo} {r : zRes} {GO : Nat → List (Option zV) → List zV → zH → Prop} (hS : zSg l true zi (zget (999, 0, 0, 0) zc_Th_goOn) (zcut zu_Th_goOn) zin (fun _ _ => none) r GO) (k258 : ∀ (x0 x1 : Int) (h : zH) (k : (Int → zH → Option zRes)) (t : (Nat → zH → Option zRes)), Th_at x0 x1 h k = some r → zKsp l true zi r 258 [x0, x1] h k t) (k262 : ∀ (x0 x1 x2 : Int) (h : zH) (k : (Int → zH → Option zRes)) (t : (Nat → zH → Option zRes)), Th_goTo x0 x1 x2 h k = some r → zKsp l true zi r 262 [x0, x1, x2] h k t) (h : zH) (hr : Th_goOn_88 zin h = some r) : GO 88 [none, none, none] [] h := by
  have e9 := Eq.trans (Eq.symm (qe_Th_goOn_88 zin h)) hr
  generalize (400 : Nat) = f9 at e9
  refine hS _ _ (zcal_s (SP := zKsp l true zi r) _ ?_) (zorc_s _ ?_) _ _ _ _ _ e9
  · exact trivial
  · exact trivial
set_option maxRecDepth 100000 in
set_option maxHeartbeats 0 in
theorem s_Th_goOn_65 {l : Launch} {zi : Nat → zinfo} {r : zRes} {GO : Nat → List (Option zV) → List zV → zH → Prop} (hS : zSg l true zi (zget (999, 0, 0, 0) zc_Th_goOn) (zcut zu_Th_goOn) zin (fun _ _ => none) r GO) (k258 : ∀ (x0 x1 : Int) (h : zH) (k : (Int → zH → Option zRes)) (t : (Nat → zH → Option zRes)), Th_at x0 x1 h k = some r → zKsp l true zi r 258 [x0, x1] h k t) (k262 : ∀ (x0 x1 x2 : Int) (h : zH) (k : (Int → zH → Option zRes)) (t : (Nat → zH → Option zRes)), Th_goTo x0 x1 x2 h k = some r → zKsp l true zi r 262 [x0, x1, x2] h k t) (a0 a1 a2 : Int) (h : zH) (hr : Th_goOn_65 zin a0 a1 a2 h = some r) : GO 65 [some (106, a0), some (108, a1), some (0, a2)] [] h := by
  have e9 := Eq.trans (Eq.symm (qe_Th_goOn_65 zin a0 a1 a2 h)) hr
  generalize (400 : Nat) = f9 at e9
  refine hS _ _ (zcal_s (SP := zKsp l true zi r) _ ?_) (zorc_s _ ?_) _ _ _ _ _ e9
  · exact ⟨zca3_s (SP := fun xs h k t => zKsp l true zi r 262 (zfc [none, none, none] xs) h k t) k262, trivial⟩
  · exact ⟨zap0_s (P := fun xs h => GO 88 (zfl [none, none, none] xs).1 (zfs [] (zfl [none, none, none] xs).2) h) (fun  h hr => s_Th_goOn_88 hS k258 k262  h hr), trivial⟩
set_option maxRecDepth 100000 in
set_option maxHeartbeats 0 in
theorem s_Th_goOn_77 {l : Launch} {zi : Nat → zinfo} {r : zRes} {GO : Nat → List (Option zV) → List zV → zH → Prop} (hS : zSg l true zi (zget (999, 0, 0, 0) zc_Th_goOn) (zcut zu_Th_goOn) zin (fun _ _ => none) r GO) (k258 : ∀ (x0 x1 : Int) (h : zH) (k : (Int → zH → Option zRes)) (t : (Nat → zH → Option zRes)), Th_at x0 x1 h k = some r → zKsp l true zi r 258 [x0, x1] h k t) (k262 : ∀ (x0 x1 x2 : Int) (h : zH) (k : (Int → zH → Option zRes)) (t : (Nat → zH → Option zRes)), Th_goTo x0 x1 x2 h k = some r → zKsp l true zi r 262 [x0, x1, x2] h k t) (a0 a2 : Int) (h : zH) (hr : Th_goOn_77 zin a0 a2 h = some r) : GO 77 [some (106, a0), none, some (0, a2)] [] h := by
  have e9 := Eq.trans (Eq.symm (qe_Th_goOn_77 zin a0 a2 h)) hr
  generalize (400 : Nat) = f9 at e9
  refine hS _ _ (zcal_s (SP := zKsp l true zi r) _ ?_) (zorc_s _ ?_) _ _ _ _ _ e9
  · exact ⟨zca3_s (SP := fun xs h k t => zKsp l true zi r 262 (zfc [none, none, none] xs) h k t) k262, trivial⟩
  · exact ⟨zap0_s (P := fun xs h => GO 88 (zfl [none, none, none] xs).1 (zfs [] (zfl [none, none, none] xs).2) h) (fun  h hr => s_Th_goOn_88 hS k258 k262  h hr), trivial⟩
set_option maxRecDepth 100000 in
set_option maxHeartbeats 0 in
theorem s_Th_goOn {l : Launch} {zi : Nat → zinfo} {r : zRes} {GO : Nat → List (Option zV) → List zV → zH → Prop} (hS : zSg l true zi (zget (999, 0, 0, 0) zc_Th_goOn) (zcut zu_Th_goOn) zin (fun _ _ => none) r GO) (k258 : ∀ (x0 x1 : Int) (h : zH) (k : (Int → zH → Option zRes)) (t : (Nat → zH → Option zRes)), Th_at x0 x1 h k = some r → zKsp l true zi r 258 [x0, x1] h k t) (k262 : ∀ (x0 x1 x2 : Int) (h : zH) (k : (Int → zH → Option zRes)) (t : (Nat → zH → Option zRes)), Th_goTo x0 x1 x2 h k = some r → zKsp l true zi r 262 [x0, x1, x2] h k t) (a0 a1 a2 : Int) (h : zH) (hr : Th_goOn a0 a1 a2 h zin = some r) : GO 0 [some (106, a0), some (108, a1), some (0, a2)] [] h := by
  have e9 := Eq.trans (Eq.symm (qe_Th_goOn zin a0 a1 a2 h)) hr
  generalize (400 : Nat) = f9 at e9
  refine hS _ _ (zcal_s (SP := zKsp l true zi r) _ ?_) (zorc_s _ ?_) _ _ _ _ _ e9
  · exact ⟨zca2_s (SP := fun xs h k t => zKsp l true zi r 258 (zfc [none, none] xs) h k t) k258, trivial⟩
  · exact ⟨zap3_s (P := fun xs h => GO 65 (zfl [some (106, none), some (108, none), some (0, none)] xs).1 (zfs [] (zfl [some (106, none), some (108, none), some (0, none)] xs).2) h) (fun x0 x1 x2 h hr => s_Th_goOn_65 hS k258 k262 x0 x1 x2 h hr), ⟨zap2_s (P := fun xs h => GO 77 (zfl [some (106, none), none, some (0, none)] xs).1 (zfs [] (zfl [some (106, none), none, some (0, none)] xs).2) h) (fun x0 x1 h hr => s_Th_goOn_77 hS k258 k262 x0 x1 h hr), ⟨zap0_s (P := fun xs h => GO 88 (zfl [none, none, none] xs).1 (zfs [] (zfl [none, none, none] xs).2) h) (fun  h hr => s_Th_goOn_88 hS k258 k262  h hr), trivial⟩⟩⟩
set_option maxRecDepth 100000 in
set_option maxHeartbeats 0 in
theorem s_Co_carryOut_160 {l : Launch} {zi : Nat → zinfo} {r : zRes} {GO : Nat → List (Option zV) → List zV → zH → Prop} (hS : zSg l true zi (zget (999, 0, 0, 0) zc_Co_carryOut) (zcut zu_Co_carryOut) zin (fun _ _ => none) r GO) (k56 : ∀ (x0 x1 : Int) (h : zH) (k : (Int → zH → Option zRes)) (t : (Nat → zH → Option zRes)), X_isIn x0 x1 h k = some r → zKsp l true zi r 56 [x0, x1] h k t) (k187 : ∀ (x0 x1 x2 : Int) (h : zH) (k : (Int → zH → Option zRes)) (t : (Nat → zH → Option zRes)), Co_lookAhead x0 x1 x2 h k = some r → zKsp l true zi r 187 [x0, x1, x2] h k t) (k188 : ∀ (x0 x1 x2 x3 x4 : Int) (h : zH) (k : (Int → zH → Option zRes)) (t : (Nat → zH → Option zRes)), Co_carryLane x0 x1 x2 x3 x4 h k = some r → zKsp l true zi r 188 [x0, x1, x2, x3, x4] h k t) (k192 : ∀ (x0 x1 x2 : Int) (h : zH) (k : (Int → zH → Option zRes)) (t : (Nat → zH → Option zRes)), Co_countedDelay x0 x1 x2 h k = some r → zKsp l true zi r 192 [x0, x1, x2] h k t) (k200 : ∀ (x0 x1 x2 x3 x4 : Int) (h : zH) (k : (Int → zH → Option zRes)) (t : (Nat → zH → Option zRes)), Co_fail x0 x1 x2 x3 x4 h k = some r → zKsp l true zi r 200 [x0, x1, x2, x3, x4] h k t) (k203 : ∀ (x0 x1 : Int) (h : zH) (k : (Int → zH → Option zRes)) (t : (Nat → zH → Option zRes)), Gr_threadIn x0 x1 h k = some r → zKsp l true zi r 203 [x0, x1] h k t) (k205 : ∀ (x0 : Int) (h : zH) (k : (Int → zH → Option zRes)) (t : (Nat → zH → Option zRes)), Gr_leastPlace x0 h k = some r → zKsp l true zi r 205 [x0] h k t) (k206 : ∀ (x0 : Int) (h : zH) (k : (Int → zH → Option zRes)) (t : (Nat → zH → Option zRes)), Gr_lanesUnderMask x0 h k = some r → zKsp l true zi r 206 [x0] h k t) (k224 : ∀ (x0 x1 : Int) (h : zH) (k : (Int → zH → Option zRes)) (t : (Nat → zH → Option zRes)), Ke_instructionAt x0 x1 h k = some r → zKsp l true zi r 224 [x0, x1] h k t) (k261 : ∀ (x0 x1 x2 : Int) (h : zH) (k : (Int → zH → Option zRes)) (t : (Nat → zH → Option zRes)), Th_goOn x0 x1 x2 h k = some r → zKsp l true zi r 261 [x0, x1, x2] h k t) {r63 : Int → Int → Int → Int → Int → Int → Int → zH → Option zRes} (h63 : ∀ (x0 x1 x2 x3 x4 x5 x6 : Int) (h : zH), r63 x0 x1 x2 x3 x4 x5 x6 h = some r → GO 63 [some (102, x0), some (103, x1), some (111, x2), some (0, x3), some (107, x4), some (108, x5), some (0, x6), none, none] [] h) (a0 a1 a2 a3 a4 a5 a6 : Int) (h : zH) (hr : Co_carryOut_160 zin r63 a0 a1 a2 a3 a4 a5 a6 h = some r) : GO 160 [some (102, a0), some (103, a1), some (111, a2), some (0, a3), some (107, a4), some (108, a5), some (0, a6), none, none] [] h := by
  have e9 := Eq.trans (Eq.symm (qe_Co_carryOut_160 zin r63 a0 a1 a2 a3 a4 a5 a6 h)) hr
  generalize (400 : Nat) = f9 at e9
  refine hS _ _ (zcal_s (SP := zKsp l true zi r) _ ?_) (zorc_s _ ?_) _ _ _ _ _ e9
  · exact trivial
  · exact ⟨zap7_s (P := fun xs h => GO 63 (zfl [some (102, none), some (103, none), some (111, none), some (0, none), some (107, none), some (108, none), some (0, none), none, none] xs).1 (zfs [] (zfl [some (102, none), some (103, none), some (111, none), some (0, none), some (107, none), some (108, none), some (0, none), none, none] xs).2) h) h63, trivial⟩
set_option maxRecDepth 100000 in
set_option maxHeartbeats 0 in
theorem s_Co_carryOut_63b {l : Launch} {zi : Nat → zinfo} {r : zRes} {GO : Nat → List (Option zV) → List zV → zH → Prop} (hS : zSg l true zi (zget (999, 0, 0, 0) zc_Co_carryOut) (zcut zu_Co_carryOut) zin (fun _ _ => none) r GO) (k56 : ∀ (x0 x1 : Int) (h : zH) (k : (Int → zH → Option zRes)) (t : (Nat → zH → Option zRes)), X_isIn x0 x1 h k = some r → zKsp l true zi r 56 [x0, x1] h k t) (k187 : ∀ (x0 x1 x2 : Int) (h : zH) (k : (Int → zH → Option zRes)) (t : (Nat → zH → Option zRes)), Co_lookAhead x0 x1 x2 h k = some r → zKsp l true zi r 187 [x0, x1, x2] h k t) (k188 : ∀ (x0 x1 x2 x3 x4 : Int) (h : zH) (k : (Int → zH → Option zRes)) (t : (Nat → zH → Option zRes)), Co_carryLane x0 x1 x2 x3 x4 h k = some r → zKsp l true zi r 188 [x0, x1, x2, x3, x4] h k t) (k192 : ∀ (x0 x1 x2 : Int) (h : zH) (k : (Int → zH → Option zRes)) (t : (Nat → zH → Option zRes)), Co_countedDelay x0 x1 x2 h k = some r → zKsp l true zi r 192 [x0, x1, x2] h k t) (k200 : ∀ (x0 x1 x2 x3 x4 : Int) (h : zH) (k : (Int → zH → Option zRes)) (t : (Nat → zH → Option zRes)), Co_fail x0 x1 x2 x3 x4 h k = some r → zKsp l true zi r 200 [x0, x1, x2, x3, x4] h k t) (k203 : ∀ (x0 x1 : Int) (h : zH) (k : (Int → zH → Option zRes)) (t : (Nat → zH → Option zRes)), Gr_threadIn x0 x1 h k = some r → zKsp l true zi r 203 [x0, x1] h k t) (k205 : ∀ (x0 : Int) (h : zH) (k : (Int → zH → Option zRes)) (t : (Nat → zH → Option zRes)), Gr_leastPlace x0 h k = some r → zKsp l true zi r 205 [x0] h k t) (k206 : ∀ (x0 : Int) (h : zH) (k : (Int → zH → Option zRes)) (t : (Nat → zH → Option zRes)), Gr_lanesUnderMask x0 h k = some r → zKsp l true zi r 206 [x0] h k t) (k224 : ∀ (x0 x1 : Int) (h : zH) (k : (Int → zH → Option zRes)) (t : (Nat → zH → Option zRes)), Ke_instructionAt x0 x1 h k = some r → zKsp l true zi r 224 [x0, x1] h k t) (k261 : ∀ (x0 x1 x2 : Int) (h : zH) (k : (Int → zH → Option zRes)) (t : (Nat → zH → Option zRes)), Th_goOn x0 x1 x2 h k = some r → zKsp l true zi r 261 [x0, x1, x2] h k t) {r63 : Int → Int → Int → Int → Int → Int → Int → zH → Option zRes} (h63 : ∀ (x0 x1 x2 x3 x4 x5 x6 : Int) (h : zH), r63 x0 x1 x2 x3 x4 x5 x6 h = some r → GO 63 [some (102, x0), some (103, x1), some (111, x2), some (0, x3), some (107, x4), some (108, x5), some (0, x6), none, none] [] h) (a0 a1 a2 a3 a4 a5 a6 : Int) (h : zH) (hr : Co_carryOut_63b zin r63 a0 a1 a2 a3 a4 a5 a6 h = some r) : GO 63 [some (102, a0), some (103, a1), some (111, a2), some (0, a3), some (107, a4), some (108, a5), some (0, a6), none, none] [] h := by
  have e9 := Eq.trans (Eq.symm (qe_Co_carryOut_63b zin r63 a0 a1 a2 a3 a4 a5 a6 h)) hr
  generalize (400 : Nat) = f9 at e9
  refine hS _ _ (zcal_s (SP := zKsp l true zi r) _ ?_) (zorc_s _ ?_) _ _ _ _ _ e9
  · exact ⟨zca2_s (SP := fun xs h k t => zKsp l true zi r 56 (zfc [none, none] xs) h k t) k56, ⟨zca5_s (SP := fun xs h k t => zKsp l true zi r 188 (zfc [none, none, none, none, none] xs) h k t) k188, ⟨zca3_s (SP := fun xs h k t => zKsp l true zi r 192 (zfc [none, none, none] xs) h k t) k192, ⟨zca5_s (SP := fun xs h k t => zKsp l true zi r 200 (zfc [none, none, none, none, none] xs) h k t) k200, ⟨zca2_s (SP := fun xs h k t => zKsp l true zi r 203 (zfc [none, none] xs) h k t) k203, ⟨zca3_s (SP := fun xs h k t => zKsp l true zi r 261 (zfc [none, none, none] xs) h k t) k261, trivial⟩⟩⟩⟩⟩⟩
  · exact ⟨zap7_s (P := fun xs h => GO 160 (zfl [some (102, none), some (103, none), some (111, none), some (0, none), some (107, none), some (108, none), some (0, none), none, none] xs).1 (zfs [] (zfl [some (102, none), some (103, none), some (111, none), some (0, none), some (107, none), some (108, none), some (0, none), none, none] xs).2) h) (fun x0 x1 x2 x3 x4 x5 x6 h hr => s_Co_carryOut_160 hS k56 k187 k188 k192 k200 k203 k205 k206 k224 k261 h63 x0 x1 x2 x3 x4 x5 x6 h hr), trivial⟩
set_option maxRecDepth 100000 in
set_option maxHeartbeats 0 in
theorem s_Co_carryOut_63 {l : Launch} {zi : Nat → zinfo} {r : zRes} {GO : Nat → List (Option zV) → List zV → zH → Prop} (hS : zSg l true zi (zget (999, 0, 0, 0) zc_Co_carryOut) (zcut zu_Co_carryOut) zin (fun _ _ => none) r GO) (k56 : ∀ (x0 x1 : Int) (h : zH) (k : (Int → zH → Option zRes)) (t : (Nat → zH → Option zRes)), X_isIn x0 x1 h k = some r → zKsp l true zi r 56 [x0, x1] h k t) (k187 : ∀ (x0 x1 x2 : Int) (h : zH) (k : (Int → zH → Option zRes)) (t : (Nat → zH → Option zRes)), Co_lookAhead x0 x1 x2 h k = some r → zKsp l true zi r 187 [x0, x1, x2] h k t) (k188 : ∀ (x0 x1 x2 x3 x4 : Int) (h : zH) (k : (Int → zH → Option zRes)) (t : (Nat → zH → Option zRes)), Co_carryLane x0 x1 x2 x3 x4 h k = some r → zKsp l true zi r 188 [x0, x1, x2, x3, x4] h k t) (k192 : ∀ (x0 x1 x2 : Int) (h : zH) (k : (Int → zH → Option zRes)) (t : (Nat → zH → Option zRes)), Co_countedDelay x0 x1 x2 h k = some r → zKsp l true zi r 192 [x0, x1, x2] h k t) (k200 : ∀ (x0 x1 x2 x3 x4 : Int) (h : zH) (k : (Int → zH → Option zRes)) (t : (Nat → zH → Option zRes)), Co_fail x0 x1 x2 x3 x4 h k = some r → zKsp l true zi r 200 [x0, x1, x2, x3, x4] h k t) (k203 : ∀ (x0 x1 : Int) (h : zH) (k : (Int → zH → Option zRes)) (t : (Nat → zH → Option zRes)), Gr_threadIn x0 x1 h k = some r → zKsp l true zi r 203 [x0, x1] h k t) (k205 : ∀ (x0 : Int) (h : zH) (k : (Int → zH → Option zRes)) (t : (Nat → zH → Option zRes)), Gr_leastPlace x0 h k = some r → zKsp l true zi r 205 [x0] h k t) (k206 : ∀ (x0 : Int) (h : zH) (k : (Int → zH → Option zRes)) (t : (Nat → zH → Option zRes)), Gr_lanesUnderMask x0 h k = some r → zKsp l true zi r 206 [x0] h k t) (k224 : ∀ (x0 x1 : Int) (h : zH) (k : (Int → zH → Option zRes)) (t : (Nat → zH → Option zRes)), Ke_instructionAt x0 x1 h k = some r → zKsp l true zi r 224 [x0, x1] h k t) (k261 : ∀ (x0 x1 x2 : Int) (h : zH) (k : (Int → zH → Option zRes)) (t : (Nat → zH → Option zRes)), Th_goOn x0 x1 x2 h k = some r → zKsp l true zi r 261 [x0, x1, x2] h k t) (a0 a1 a2 a3 a4 a5 a6 : Int) (h : zH) (hr : Co_carryOut_63 zin a0 a1 a2 a3 a4 a5 a6 h = some r) : GO 63 [some (102, a0), some (103, a1), some (111, a2), some (0, a3), some (107, a4), some (108, a5), some (0, a6), none, none] [] h := zit7_s (P := fun x0 x1 x2 x3 x4 x5 x6 h => GO 63 [some (102, x0), some (103, x1), some (111, x2), some (0, x3), some (107, x4), some (108, x5), some (0, x6), none, none] [] h) (fun rr hh a0 a1 a2 a3 a4 a5 a6 h hr => s_Co_carryOut_63b hS k56 k187 k188 k192 k200 k203 k205 k206 k224 k261 hh a0 a1 a2 a3 a4 a5 a6 h hr) zN a0 a1 a2 a3 a4 a5 a6 h hr
set_option maxRecDepth 100000 in
set_option maxHeartbeats 0 in
theorem s_Co_carryOut {l : Launch} {zi : Nat → zinfo} {r : zRes} {GO : Nat → List (Option zV) → List zV → zH → Prop} (hS : zSg l true zi (zget (999, 0, 0, 0) zc_Co_carryOut) (zcut zu_Co_carryOut) zin (fun _ _ => none) r GO) (k56 : ∀ (x0 x1 : Int) (h : zH) (k : (Int → zH → Option zRes)) (t : (Nat → zH → Option zRes)), X_isIn x0 x1 h k = some r → zKsp l true zi r 56 [x0, x1] h k t) (k187 : ∀ (x0 x1 x2 : Int) (h : zH) (k : (Int → zH → Option zRes)) (t : (Nat → zH → Option zRes)), Co_lookAhead x0 x1 x2 h k = some r → zKsp l true zi r 187 [x0, x1, x2] h k t) (k188 : ∀ (x0 x1 x2 x3 x4 : Int) (h : zH) (k : (Int → zH → Option zRes)) (t : (Nat → zH → Option zRes)), Co_carryLane x0 x1 x2 x3 x4 h k = some r → zKsp l true zi r 188 [x0, x1, x2, x3, x4] h k t) (k192 : ∀ (x0 x1 x2 : Int) (h : zH) (k : (Int → zH → Option zRes)) (t : (Nat → zH → Option zRes)), Co_countedDelay x0 x1 x2 h k = some r → zKsp l true zi r 192 [x0, x1, x2] h k t) (k200 : ∀ (x0 x1 x2 x3 x4 : Int) (h : zH) (k : (Int → zH → Option zRes)) (t : (Nat → zH → Option zRes)), Co_fail x0 x1 x2 x3 x4 h k = some r → zKsp l true zi r 200 [x0, x1, x2, x3, x4] h k t) (k203 : ∀ (x0 x1 : Int) (h : zH) (k : (Int → zH → Option zRes)) (t : (Nat → zH → Option zRes)), Gr_threadIn x0 x1 h k = some r → zKsp l true zi r 203 [x0, x1] h k t) (k205 : ∀ (x0 : Int) (h : zH) (k : (Int → zH → Option zRes)) (t : (Nat → zH → Option zRes)), Gr_leastPlace x0 h k = some r → zKsp l true zi r 205 [x0] h k t) (k206 : ∀ (x0 : Int) (h : zH) (k : (Int → zH → Option zRes)) (t : (Nat → zH → Option zRes)), Gr_lanesUnderMask x0 h k = some r → zKsp l true zi r 206 [x0] h k t) (k224 : ∀ (x0 x1 : Int) (h : zH) (k : (Int → zH → Option zRes)) (t : (Nat → zH → Option zRes)), Ke_instructionAt x0 x1 h k = some r → zKsp l true zi r 224 [x0, x1] h k t) (k261 : ∀ (x0 x1 x2 : Int) (h : zH) (k : (Int → zH → Option zRes)) (t : (Nat → zH → Option zRes)), Th_goOn x0 x1 x2 h k = some r → zKsp l true zi r 261 [x0, x1, x2] h k t) (a0 a1 a2 : Int) (h : zH) (hr : Co_carryOut a0 a1 a2 h zin = some r) : GO 0 [some (102, a0), some (103, a1), some (111, a2), none, none, none, none, none, none] [] h := by
  have e9 := Eq.trans (Eq.symm (qe_Co_carryOut zin a0 a1 a2 h)) hr
  generalize (400 : Nat) = f9 at e9
  refine hS _ _ (zcal_s (SP := zKsp l true zi r) _ ?_) (zorc_s _ ?_) _ _ _ _ _ e9
  · exact ⟨zca3_s (SP := fun xs h k t => zKsp l true zi r 187 (zfc [none, none, none] xs) h k t) k187, ⟨zca1_s (SP := fun xs h k t => zKsp l true zi r 205 (zfc [none] xs) h k t) k205, ⟨zca1_s (SP := fun xs h k t => zKsp l true zi r 206 (zfc [none] xs) h k t) k206, ⟨zca2_s (SP := fun xs h k t => zKsp l true zi r 224 (zfc [none, none] xs) h k t) k224, trivial⟩⟩⟩⟩
  · exact ⟨zap7_s (P := fun xs h => GO 63 (zfl [some (102, none), some (103, none), some (111, none), some (0, none), some (107, none), some (108, none), some (0, none), none, none] xs).1 (zfs [] (zfl [some (102, none), some (103, none), some (111, none), some (0, none), some (107, none), some (108, none), some (0, none), none, none] xs).2) h) (fun x0 x1 x2 x3 x4 x5 x6 h hr => s_Co_carryOut_63 hS k56 k187 k188 k192 k200 k203 k205 k206 k224 k261 x0 x1 x2 x3 x4 x5 x6 h hr), trivial⟩
set_option maxRecDepth 100000 in
set_option maxHeartbeats 0 in
theorem s_Bl_isAllWaiting_35 {l : Launch} {zi : Nat → zinfo} {r : zRes} {GO : Nat → List (Option zV) → List zV → zH → Prop} (hS : zSg l true zi (zget (999, 0, 0, 0) zc_Bl_isAllWaiting) (zcut zu_Bl_isAllWaiting) zin (fun _ _ => none) r GO) (k263 : ∀ (x0 x1 : Int) (h : zH) (k : (Int → zH → Option zRes)) (t : (Nat → zH → Option zRes)), Th_isAnyRunning x0 x1 h k = some r → zKsp l true zi r 263 [x0, x1] h k t) (k265 : ∀ (x0 x1 : Int) (h : zH) (k : (Int → zH → Option zRes)) (t : (Nat → zH → Option zRes)), Th_lowestOfWaiting_36 x0 x1 h k = some r → zKsp l true zi r 265 [x0, x1] h k t) (t0 : Int) (h : zH) (hr : Bl_isAllWaiting_35 zin t0 h = some r) : GO 35 [none] [(0, t0)] h := by
  have e9 := Eq.trans (Eq.symm (qe_Bl_isAllWaiting_35 zin t0 h)) hr
  generalize (400 : Nat) = f9 at e9
  refine hS _ _ (zcal_s (SP := zKsp l true zi r) _ ?_) (zorc_s _ ?_) _ _ _ _ _ e9
  · exact trivial
  · exact trivial
set_option maxRecDepth 100000 in
set_option maxHeartbeats 0 in
theorem s_Bl_isAllWaiting_34 {l : Launch} {zi : Nat → zinfo} {r : zRes} {GO : Nat → List (Option zV) → List zV → zH → Prop} (hS : zSg l true zi (zget (999, 0, 0, 0) zc_Bl_isAllWaiting) (zcut zu_Bl_isAllWaiting) zin (fun _ _ => none) r GO) (k263 : ∀ (x0 x1 : Int) (h : zH) (k : (Int → zH → Option zRes)) (t : (Nat → zH → Option zRes)), Th_isAnyRunning x0 x1 h k = some r → zKsp l true zi r 263 [x0, x1] h k t) (k265 : ∀ (x0 x1 : Int) (h : zH) (k : (Int → zH → Option zRes)) (t : (Nat → zH → Option zRes)), Th_lowestOfWaiting_36 x0 x1 h k = some r → zKsp l true zi r 265 [x0, x1] h k t) (h : zH) (hr : Bl_isAllWaiting_34 zin h = some r) : GO 34 [none] [] h := by
  have e9 := Eq.trans (Eq.symm (qe_Bl_isAllWaiting_34 zin h)) hr
  generalize (400 : Nat) = f9 at e9
  refine hS _ _ (zcal_s (SP := zKsp l true zi r) _ ?_) (zorc_s _ ?_) _ _ _ _ _ e9
  · exact trivial
  · exact ⟨zap1_s (P := fun xs h => GO 35 (zfl [none] xs).1 (zfs [(0, none)] (zfl [none] xs).2) h) (fun x0 h hr => s_Bl_isAllWaiting_35 hS k263 k265 x0 h hr), trivial⟩
set_option maxRecDepth 100000 in
set_option maxHeartbeats 0 in
theorem s_Bl_isAllWaiting {l : Launch} {zi : Nat → zinfo} {r : zRes} {GO : Nat → List (Option zV) → List zV → zH → Prop} (hS : zSg l true zi (zget (999, 0, 0, 0) zc_Bl_isAllWaiting) (zcut zu_Bl_isAllWaiting) zin (fun _ _ => none) r GO) (k263 : ∀ (x0 x1 : Int) (h : zH) (k : (Int → zH → Option zRes)) (t : (Nat → zH → Option zRes)), Th_isAnyRunning x0 x1 h k = some r → zKsp l true zi r 263 [x0, x1] h k t) (k265 : ∀ (x0 x1 : Int) (h : zH) (k : (Int → zH → Option zRes)) (t : (Nat → zH → Option zRes)), Th_lowestOfWaiting_36 x0 x1 h k = some r → zKsp l true zi r 265 [x0, x1] h k t) (a0 : Int) (h : zH) (hr : Bl_isAllWaiting a0 h zin = some r) : GO 0 [some (110, a0)] [] h := by
  have e9 := Eq.trans (Eq.symm (qe_Bl_isAllWaiting zin a0 h)) hr
  generalize (400 : Nat) = f9 at e9
  refine hS _ _ (zcal_s (SP := zKsp l true zi r) _ ?_) (zorc_s _ ?_) _ _ _ _ _ e9
  · exact ⟨zca2_s (SP := fun xs h k t => zKsp l true zi r 263 (zfc [none, none] xs) h k t) k263, ⟨zca2_s (SP := fun xs h k t => zKsp l true zi r 265 (zfc [none, none] xs) h k t) k265, trivial⟩⟩
  · exact ⟨zap0_s (P := fun xs h => GO 34 (zfl [none] xs).1 (zfs [] (zfl [none] xs).2) h) (fun  h hr => s_Bl_isAllWaiting_34 hS k263 k265  h hr), ⟨zap1_s (P := fun xs h => GO 35 (zfl [none] xs).1 (zfs [(0, none)] (zfl [none] xs).2) h) (fun x0 h hr => s_Bl_isAllWaiting_35 hS k263 k265 x0 h hr), trivial⟩⟩
set_option maxRecDepth 100000 in
set_option maxHeartbeats 0 in
theorem s_Th_isEnded_14 {l : Launch} {zi : Nat → zinfo} {r : zRes} {GO : Nat → List (Option zV) → List zV → zH → Prop} (hS : zSg l true zi (zget (999, 0, 0, 0) zc_Th_isEnded) (zcut zu_Th_isEnded) zin (fun _ _ => none) r GO) (t0 : Int) (h : zH) (hr : Th_isEnded_14 zin t0 h = some r) : GO 14 [none] [(0, t0)] h := by
  have e9 := Eq.trans (Eq.symm (qe_Th_isEnded_14 zin t0 h)) hr
  generalize (400 : Nat) = f9 at e9
  refine hS _ _ (zcal_s (SP := zKsp l true zi r) _ ?_) (zorc_s _ ?_) _ _ _ _ _ e9
  · exact trivial
  · exact trivial
set_option maxRecDepth 100000 in
set_option maxHeartbeats 0 in
theorem s_Th_isEnded {l : Launch} {zi : Nat → zinfo} {r : zRes} {GO : Nat → List (Option zV) → List zV → zH → Prop} (hS : zSg l true zi (zget (999, 0, 0, 0) zc_Th_isEnded) (zcut zu_Th_isEnded) zin (fun _ _ => none) r GO) (a0 : Int) (h : zH) (hr : Th_isEnded a0 h zin = some r) : GO 0 [some (106, a0)] [] h := by
  have e9 := Eq.trans (Eq.symm (qe_Th_isEnded zin a0 h)) hr
  generalize (400 : Nat) = f9 at e9
  refine hS _ _ (zcal_s (SP := zKsp l true zi r) _ ?_) (zorc_s _ ?_) _ _ _ _ _ e9
  · exact trivial
  · exact ⟨zap1_s (P := fun xs h => GO 14 (zfl [none] xs).1 (zfs [(0, none)] (zfl [none] xs).2) h) (fun x0 h hr => s_Th_isEnded_14 hS x0 h hr), trivial⟩
set_option maxRecDepth 100000 in
set_option maxHeartbeats 0 in
theorem s_Gr_hasEnded_26 {l : Launch} {zi : Nat → zinfo} {r : zRes} {GO : Nat → List (Option zV) → List zV → zH → Prop} (hS : zSg l true zi (zget (999, 0, 0, 0) zc_Gr_hasEnded) (zcut zu_Gr_hasEnded) zin (fun _ _ => none) r GO) (k203 : ∀ (x0 x1 : Int) (h : zH) (k : (Int → zH → Option zRes)) (t : (Nat → zH → Option zRes)), Gr_threadIn x0 x1 h k = some r → zKsp l true zi r 203 [x0, x1] h k t) (k257 : ∀ (x0 : Int) (h : zH) (k : (Int → zH → Option zRes)) (t : (Nat → zH → Option zRes)), Th_isEnded x0 h k = some r → zKsp l true zi r 257 [x0] h k t) {r2 : Int → Int → zH → Option zRes} (h2 : ∀ (x0 x1 : Int) (h : zH), r2 x0 x1 h = some r → GO 2 [some (111, x0), some (0, x1), none] [] h) (a0 a1 : Int) (h : zH) (hr : Gr_hasEnded_26 zin r2 a0 a1 h = some r) : GO 26 [some (111, a0), some (0, a1), none] [] h := by
  have e9 := Eq.trans (Eq.symm (qe_Gr_hasEnded_26 zin r2 a0 a1 h)) hr
  generalize (400 : Nat) = f9 at e9
  refine hS _ _ (zcal_s (SP := zKsp l true zi r) _ ?_) (zorc_s _ ?_) _ _ _ _ _ e9
  · exact trivial
  · exact ⟨zap2_s (P := fun xs h => GO 2 (zfl [some (111, none), some (0, none), none] xs).1 (zfs [] (zfl [some (111, none), some (0, none), none] xs).2) h) h2, trivial⟩
set_option maxRecDepth 100000 in
set_option maxHeartbeats 0 in
theorem s_Gr_hasEnded_2b {l : Launch} {zi : Nat → zinfo} {r : zRes} {GO : Nat → List (Option zV) → List zV → zH → Prop} (hS : zSg l true zi (zget (999, 0, 0, 0) zc_Gr_hasEnded) (zcut zu_Gr_hasEnded) zin (fun _ _ => none) r GO) (k203 : ∀ (x0 x1 : Int) (h : zH) (k : (Int → zH → Option zRes)) (t : (Nat → zH → Option zRes)), Gr_threadIn x0 x1 h k = some r → zKsp l true zi r 203 [x0, x1] h k t) (k257 : ∀ (x0 : Int) (h : zH) (k : (Int → zH → Option zRes)) (t : (Nat → zH → Option zRes)), Th_isEnded x0 h k = some r → zKsp l true zi r 257 [x0] h k t) {r2 : Int → Int → zH → Option zRes} (h2 : ∀ (x0 x1 : Int) (h : zH), r2 x0 x1 h = some r → GO 2 [some (111, x0), some (0, x1), none] [] h) (a0 a1 : Int) (h : zH) (hr : Gr_hasEnded_2b zin r2 a0 a1 h = some r) : GO 2 [some (111, a0), some (0, a1), none] [] h := by
  have e9 := Eq.trans (Eq.symm (qe_Gr_hasEnded_2b zin r2 a0 a1 h)) hr
  generalize (400 : Nat) = f9 at e9
  refine hS _ _ (zcal_s (SP := zKsp l true zi r) _ ?_) (zorc_s _ ?_) _ _ _ _ _ e9
  · exact ⟨zca2_s (SP := fun xs h k t => zKsp l true zi r 203 (zfc [none, none] xs) h k t) k203, ⟨zca1_s (SP := fun xs h k t => zKsp l true zi r 257 (zfc [none] xs) h k t) k257, trivial⟩⟩
  · exact ⟨zap2_s (P := fun xs h => GO 26 (zfl [some (111, none), some (0, none), none] xs).1 (zfs [] (zfl [some (111, none), some (0, none), none] xs).2) h) (fun x0 x1 h hr => s_Gr_hasEnded_26 hS k203 k257 h2 x0 x1 h hr), trivial⟩
set_option maxRecDepth 100000 in
set_option maxHeartbeats 0 in
theorem s_Gr_hasEnded_2 {l : Launch} {zi : Nat → zinfo} {r : zRes} {GO : Nat → List (Option zV) → List zV → zH → Prop} (hS : zSg l true zi (zget (999, 0, 0, 0) zc_Gr_hasEnded) (zcut zu_Gr_hasEnded) zin (fun _ _ => none) r GO) (k203 : ∀ (x0 x1 : Int) (h : zH) (k : (Int → zH → Option zRes)) (t : (Nat → zH → Option zRes)), Gr_threadIn x0 x1 h k = some r → zKsp l true zi r 203 [x0, x1] h k t) (k257 : ∀ (x0 : Int) (h : zH) (k : (Int → zH → Option zRes)) (t : (Nat → zH → Option zRes)), Th_isEnded x0 h k = some r → zKsp l true zi r 257 [x0] h k t) (a0 a1 : Int) (h : zH) (hr : Gr_hasEnded_2 zin a0 a1 h = some r) : GO 2 [some (111, a0), some (0, a1), none] [] h := zit2_s (P := fun x0 x1 h => GO 2 [some (111, x0), some (0, x1), none] [] h) (fun rr hh a0 a1 h hr => s_Gr_hasEnded_2b hS k203 k257 hh a0 a1 h hr) zN a0 a1 h hr
set_option maxRecDepth 100000 in
set_option maxHeartbeats 0 in
theorem s_Gr_hasEnded {l : Launch} {zi : Nat → zinfo} {r : zRes} {GO : Nat → List (Option zV) → List zV → zH → Prop} (hS : zSg l true zi (zget (999, 0, 0, 0) zc_Gr_hasEnded) (zcut zu_Gr_hasEnded) zin (fun _ _ => none) r GO) (k203 : ∀ (x0 x1 : Int) (h : zH) (k : (Int → zH → Option zRes)) (t : (Nat → zH → Option zRes)), Gr_threadIn x0 x1 h k = some r → zKsp l true zi r 203 [x0, x1] h k t) (k257 : ∀ (x0 : Int) (h : zH) (k : (Int → zH → Option zRes)) (t : (Nat → zH → Option zRes)), Th_isEnded x0 h k = some r → zKsp l true zi r 257 [x0] h k t) (a0 : Int) (h : zH) (hr : Gr_hasEnded a0 h zin = some r) : GO 0 [some (111, a0), none, none] [] h := by
  have e9 := Eq.trans (Eq.symm (qe_Gr_hasEnded zin a0 h)) hr
  generalize (400 : Nat) = f9 at e9
  refine hS _ _ (zcal_s (SP := zKsp l true zi r) _ ?_) (zorc_s _ ?_) _ _ _ _ _ e9
  · exact trivial
  · exact ⟨zap2_s (P := fun xs h => GO 2 (zfl [some (111, none), some (0, none), none] xs).1 (zfs [] (zfl [some (111, none), some (0, none), none] xs).2) h) (fun x0 x1 h hr => s_Gr_hasEnded_2 hS k203 k257 x0 x1 h hr), trivial⟩
set_option maxRecDepth 100000 in
set_option maxHeartbeats 0 in
theorem s_Bl_writeEndedGroups_34 {l : Launch} {zi : Nat → zinfo} {r : zRes} {GO : Nat → List (Option zV) → List zV → zH → Prop} (hS : zSg l true zi (zget (999, 0, 0, 0) zc_Bl_writeEndedGroups) (zcut zu_Bl_writeEndedGroups) zin (fun _ _ => none) r GO) (k209 : ∀ (x0 : Int) (h : zH) (k : (Int → zH → Option zRes)) (t : (Nat → zH → Option zRes)), Gr_hasEnded x0 h k = some r → zKsp l true zi r 209 [x0] h k t) (k217 : ∀ (x0 x1 : Int) (h : zH) (k : (Int → zH → Option zRes)) (t : (Nat → zH → Option zRes)), Gr_writeAll x0 x1 h k = some r → zKsp l true zi r 217 [x0, x1] h k t) {r2 : Int → Int → Int → zH → Option zRes} (h2 : ∀ (x0 x1 x2 : Int) (h : zH), r2 x0 x1 x2 h = some r → GO 2 [some (110, x0), some (122, x1), some (0, x2)] [] h) (a0 a1 a2 : Int) (h : zH) (hr : Bl_writeEndedGroups_34 zin r2 a0 a1 a2 h = some r) : GO 34 [some (110, a0), some (122, a1), some (0, a2)] [] h := by
  have e9 := Eq.trans (Eq.symm (qe_Bl_writeEndedGroups_34 zin r2 a0 a1 a2 h)) hr
  generalize (400 : Nat) = f9 at e9
  refine hS _ _ (zcal_s (SP := zKsp l true zi r) _ ?_) (zorc_s _ ?_) _ _ _ _ _ e9
  · exact trivial
  · exact ⟨zap3_s (P := fun xs h => GO 2 (zfl [some (110, none), some (122, none), some (0, none)] xs).1 (zfs [] (zfl [some (110, none), some (122, none), some (0, none)] xs).2) h) h2, trivial⟩
set_option maxRecDepth 100000 in
set_option maxHeartbeats 0 in
theorem s_Bl_writeEndedGroups_2b {l : Launch} {zi : Nat → zinfo} {r : zRes} {GO : Nat → List (Option zV) → List zV → zH → Prop} (hS : zSg l true zi (zget (999, 0, 0, 0) zc_Bl_writeEndedGroups) (zcut zu_Bl_writeEndedGroups) zin (fun _ _ => none) r GO) (k209 : ∀ (x0 : Int) (h : zH) (k : (Int → zH → Option zRes)) (t : (Nat → zH → Option zRes)), Gr_hasEnded x0 h k = some r → zKsp l true zi r 209 [x0] h k t) (k217 : ∀ (x0 x1 : Int) (h : zH) (k : (Int → zH → Option zRes)) (t : (Nat → zH → Option zRes)), Gr_writeAll x0 x1 h k = some r → zKsp l true zi r 217 [x0, x1] h k t) {r2 : Int → Int → Int → zH → Option zRes} (h2 : ∀ (x0 x1 x2 : Int) (h : zH), r2 x0 x1 x2 h = some r → GO 2 [some (110, x0), some (122, x1), some (0, x2)] [] h) (a0 a1 a2 : Int) (h : zH) (hr : Bl_writeEndedGroups_2b zin r2 a0 a1 a2 h = some r) : GO 2 [some (110, a0), some (122, a1), some (0, a2)] [] h := by
  have e9 := Eq.trans (Eq.symm (qe_Bl_writeEndedGroups_2b zin r2 a0 a1 a2 h)) hr
  generalize (400 : Nat) = f9 at e9
  refine hS _ _ (zcal_s (SP := zKsp l true zi r) _ ?_) (zorc_s _ ?_) _ _ _ _ _ e9
  · exact ⟨zca1_s (SP := fun xs h k t => zKsp l true zi r 209 (zfc [none] xs) h k t) k209, ⟨zca2_s (SP := fun xs h k t => zKsp l true zi r 217 (zfc [none, none] xs) h k t) k217, trivial⟩⟩
  · exact ⟨zap3_s (P := fun xs h => GO 34 (zfl [some (110, none), some (122, none), some (0, none)] xs).1 (zfs [] (zfl [some (110, none), some (122, none), some (0, none)] xs).2) h) (fun x0 x1 x2 h hr => s_Bl_writeEndedGroups_34 hS k209 k217 h2 x0 x1 x2 h hr), trivial⟩
set_option maxRecDepth 100000 in
set_option maxHeartbeats 0 in
theorem s_Bl_writeEndedGroups_2 {l : Launch} {zi : Nat → zinfo} {r : zRes} {GO : Nat → List (Option zV) → List zV → zH → Prop} (hS : zSg l true zi (zget (999, 0, 0, 0) zc_Bl_writeEndedGroups) (zcut zu_Bl_writeEndedGroups) zin (fun _ _ => none) r GO) (k209 : ∀ (x0 : Int) (h : zH) (k : (Int → zH → Option zRes)) (t : (Nat → zH → Option zRes)), Gr_hasEnded x0 h k = some r → zKsp l true zi r 209 [x0] h k t) (k217 : ∀ (x0 x1 : Int) (h : zH) (k : (Int → zH → Option zRes)) (t : (Nat → zH → Option zRes)), Gr_writeAll x0 x1 h k = some r → zKsp l true zi r 217 [x0, x1] h k t) (a0 a1 a2 : Int) (h : zH) (hr : Bl_writeEndedGroups_2 zin a0 a1 a2 h = some r) : GO 2 [some (110, a0), some (122, a1), some (0, a2)] [] h := zit3_s (P := fun x0 x1 x2 h => GO 2 [some (110, x0), some (122, x1), some (0, x2)] [] h) (fun rr hh a0 a1 a2 h hr => s_Bl_writeEndedGroups_2b hS k209 k217 hh a0 a1 a2 h hr) zN a0 a1 a2 h hr
set_option maxRecDepth 100000 in
set_option maxHeartbeats 0 in
theorem s_Bl_writeEndedGroups {l : Launch} {zi : Nat → zinfo} {r : zRes} {GO : Nat → List (Option zV) → List zV → zH → Prop} (hS : zSg l true zi (zget (999, 0, 0, 0) zc_Bl_writeEndedGroups) (zcut zu_Bl_writeEndedGroups) zin (fun _ _ => none) r GO) (k209 : ∀ (x0 : Int) (h : zH) (k : (Int → zH → Option zRes)) (t : (Nat → zH → Option zRes)), Gr_hasEnded x0 h k = some r → zKsp l true zi r 209 [x0] h k t) (k217 : ∀ (x0 x1 : Int) (h : zH) (k : (Int → zH → Option zRes)) (t : (Nat → zH → Option zRes)), Gr_writeAll x0 x1 h k = some r → zKsp l true zi r 217 [x0, x1] h k t) (a0 a1 : Int) (h : zH) (hr : Bl_writeEndedGroups a0 a1 h zin = some r) : GO 0 [some (110, a0), some (122, a1), none] [] h := by
  have e9 := Eq.trans (Eq.symm (qe_Bl_writeEndedGroups zin a0 a1 h)) hr
  generalize (400 : Nat) = f9 at e9
  refine hS _ _ (zcal_s (SP := zKsp l true zi r) _ ?_) (zorc_s _ ?_) _ _ _ _ _ e9
  · exact trivial
  · exact ⟨zap3_s (P := fun xs h => GO 2 (zfl [some (110, none), some (122, none), some (0, none)] xs).1 (zfs [] (zfl [some (110, none), some (122, none), some (0, none)] xs).2) h) (fun x0 x1 x2 h hr => s_Bl_writeEndedGroups_2 hS k209 k217 x0 x1 x2 h hr), trivial⟩
set_option maxRecDepth 100000 in
set_option maxHeartbeats 0 in
theorem s_Bl_lowestWaiting {l : Launch} {zi : Nat → zinfo} {r : zRes} {GO : Nat → List (Option zV) → List zV → zH → Prop} (hS : zSg l true zi (zget (999, 0, 0, 0) zc_Bl_lowestWaiting) (zcut zu_Bl_lowestWaiting) zin (fun _ _ => none) r GO) (k265 : ∀ (x0 x1 : Int) (h : zH) (k : (Int → zH → Option zRes)) (t : (Nat → zH → Option zRes)), Th_lowestOfWaiting_36 x0 x1 h k = some r → zKsp l true zi r 265 [x0, x1] h k t) (a0 : Int) (h : zH) (hr : Bl_lowestWaiting a0 h zin = some r) : GO 0 [some (110, a0)] [] h := by
  have e9 := Eq.trans (Eq.symm (qe_Bl_lowestWaiting zin a0 h)) hr
  generalize (400 : Nat) = f9 at e9
  refine hS _ _ (zcal_s (SP := zKsp l true zi r) _ ?_) (zorc_s _ ?_) _ _ _ _ _ e9
  · exact ⟨zca2_s (SP := fun xs h k t => zKsp l true zi r 265 (zfc [none, none] xs) h k t) k265, trivial⟩
  · exact trivial
set_option maxRecDepth 100000 in
set_option maxHeartbeats 0 in
theorem s_Th_release_36_39 {l : Launch} {zi : Nat → zinfo} {r : zRes} {GO : Nat → List (Option zV) → List zV → zH → Prop} (hS : zSg l true zi (zget (999, 0, 0, 0) zc_Th_release_36) (zcut zu_Th_release_36) zin (fun _ _ => none) r GO) (k256 : ∀ (x0 : Int) (h : zH) (k : (Int → zH → Option zRes)) (t : (Nat → zH → Option zRes)), Th_isWaiting x0 h k = some r → zKsp l true zi r 256 [x0] h k t) (k262 : ∀ (x0 x1 x2 : Int) (h : zH) (k : (Int → zH → Option zRes)) (t : (Nat → zH → Option zRes)), Th_goTo x0 x1 x2 h k = some r → zKsp l true zi r 262 [x0, x1, x2] h k t) {r3 : Int → Int → Int → Int → Int → zH → Option zRes} (h3 : ∀ (x0 x1 x2 x3 x4 : Int) (h : zH), r3 x0 x1 x2 x3 x4 h = some r → GO 3 [some (136, x0), some (0, x1), some (0, x2), some (0, x3), some (0, x4)] [] h) (a0 a1 a2 a3 a4 : Int) (h : zH) (hr : Th_release_36_39 zin r3 a0 a1 a2 a3 a4 h = some r) : GO 39 [some (136, a0), some (0, a1), some (0, a2), some (0, a3), some (0, a4)] [] h := by
  have e9 := Eq.trans (Eq.symm (qe_Th_release_36_39 zin r3 a0 a1 a2 a3 a4 h)) hr
  generalize (400 : Nat) = f9 at e9
  refine hS _ _ (zcal_s (SP := zKsp l true zi r) _ ?_) (zorc_s _ ?_) _ _ _ _ _ e9
  · exact trivial
  · exact ⟨zap5_s (P := fun xs h => GO 3 (zfl [some (136, none), some (0, none), some (0, none), some (0, none), some (0, none)] xs).1 (zfs [] (zfl [some (136, none), some (0, none), some (0, none), some (0, none), some (0, none)] xs).2) h) h3, trivial⟩
set_option maxRecDepth 100000 in
set_option maxHeartbeats 0 in
theorem s_Th_release_36_91 {l : Launch} {zi : Nat → zinfo} {r : zRes} {GO : Nat → List (Option zV) → List zV → zH → Prop} (hS : zSg l true zi (zget (999, 0, 0, 0) zc_Th_release_36) (zcut zu_Th_release_36) zin (fun _ _ => none) r GO) (k256 : ∀ (x0 : Int) (h : zH) (k : (Int → zH → Option zRes)) (t : (Nat → zH → Option zRes)), Th_isWaiting x0 h k = some r → zKsp l true zi r 256 [x0] h k t) (k262 : ∀ (x0 x1 x2 : Int) (h : zH) (k : (Int → zH → Option zRes)) (t : (Nat → zH → Option zRes)), Th_goTo x0 x1 x2 h k = some r → zKsp l true zi r 262 [x0, x1, x2] h k t) {r48 : Int → Int → Int → Int → Int → zH → Option zRes} (h48 : ∀ (x0 x1 x2 x3 x4 : Int) (h : zH), r48 x0 x1 x2 x3 x4 h = some r → GO 48 [some (136, x0), some (0, x1), some (0, x2), some (0, x3), some (0, x4)] [] h) (a0 a1 a2 a3 a4 : Int) (h : zH) (hr : Th_release_36_91 zin r48 a0 a1 a2 a3 a4 h = some r) : GO 91 [some (136, a0), some (0, a1), some (0, a2), some (0, a3), some (0, a4)] [] h := by
  have e9 := Eq.trans (Eq.symm (qe_Th_release_36_91 zin r48 a0 a1 a2 a3 a4 h)) hr
  generalize (400 : Nat) = f9 at e9
  refine hS _ _ (zcal_s (SP := zKsp l true zi r) _ ?_) (zorc_s _ ?_) _ _ _ _ _ e9
  · exact trivial
  · exact ⟨zap5_s (P := fun xs h => GO 48 (zfl [some (136, none), some (0, none), some (0, none), some (0, none), some (0, none)] xs).1 (zfs [] (zfl [some (136, none), some (0, none), some (0, none), some (0, none), some (0, none)] xs).2) h) h48, trivial⟩
set_option maxRecDepth 100000 in
set_option maxHeartbeats 0 in
theorem s_Th_release_36_97 {l : Launch} {zi : Nat → zinfo} {r : zRes} {GO : Nat → List (Option zV) → List zV → zH → Prop} (hS : zSg l true zi (zget (999, 0, 0, 0) zc_Th_release_36) (zcut zu_Th_release_36) zin (fun _ _ => none) r GO) (k256 : ∀ (x0 : Int) (h : zH) (k : (Int → zH → Option zRes)) (t : (Nat → zH → Option zRes)), Th_isWaiting x0 h k = some r → zKsp l true zi r 256 [x0] h k t) (k262 : ∀ (x0 x1 x2 : Int) (h : zH) (k : (Int → zH → Option zRes)) (t : (Nat → zH → Option zRes)), Th_goTo x0 x1 x2 h k = some r → zKsp l true zi r 262 [x0, x1, x2] h k t) (h : zH) (hr : Th_release_36_97 zin h = some r) : GO 97 [none, none, none, none, none] [] h := by
  have e9 := Eq.trans (Eq.symm (qe_Th_release_36_97 zin h)) hr
  generalize (400 : Nat) = f9 at e9
  refine hS _ _ (zcal_s (SP := zKsp l true zi r) _ ?_) (zorc_s _ ?_) _ _ _ _ _ e9
  · exact trivial
  · exact trivial
set_option maxRecDepth 100000 in
set_option maxHeartbeats 0 in
theorem s_Th_release_36_48b {l : Launch} {zi : Nat → zinfo} {r : zRes} {GO : Nat → List (Option zV) → List zV → zH → Prop} (hS : zSg l true zi (zget (999, 0, 0, 0) zc_Th_release_36) (zcut zu_Th_release_36) zin (fun _ _ => none) r GO) (k256 : ∀ (x0 : Int) (h : zH) (k : (Int → zH → Option zRes)) (t : (Nat → zH → Option zRes)), Th_isWaiting x0 h k = some r → zKsp l true zi r 256 [x0] h k t) (k262 : ∀ (x0 x1 x2 : Int) (h : zH) (k : (Int → zH → Option zRes)) (t : (Nat → zH → Option zRes)), Th_goTo x0 x1 x2 h k = some r → zKsp l true zi r 262 [x0, x1, x2] h k t) {r48 : Int → Int → Int → Int → Int → zH → Option zRes} (h48 : ∀ (x0 x1 x2 x3 x4 : Int) (h : zH), r48 x0 x1 x2 x3 x4 h = some r → GO 48 [some (136, x0), some (0, x1), some (0, x2), some (0, x3), some (0, x4)] [] h) (a0 a1 a2 a3 a4 : Int) (h : zH) (hr : Th_release_36_48b zin r48 a0 a1 a2 a3 a4 h = some r) : GO 48 [some (136, a0), some (0, a1), some (0, a2), some (0, a3), some (0, a4)] [] h := by
  have e9 := Eq.trans (Eq.symm (qe_Th_release_36_48b zin r48 a0 a1 a2 a3 a4 h)) hr
  generalize (400 : Nat) = f9 at e9
  refine hS _ _ (zcal_s (SP := zKsp l true zi r) _ ?_) (zorc_s _ ?_) _ _ _ _ _ e9
  · exact ⟨zca1_s (SP := fun xs h k t => zKsp l true zi r 256 (zfc [none] xs) h k t) k256, ⟨zca3_s (SP := fun xs h k t => zKsp l true zi r 262 (zfc [none, none, none] xs) h k t) k262, trivial⟩⟩
  · exact ⟨zap5_s (P := fun xs h => GO 91 (zfl [some (136, none), some (0, none), some (0, none), some (0, none), some (0, none)] xs).1 (zfs [] (zfl [some (136, none), some (0, none), some (0, none), some (0, none), some (0, none)] xs).2) h) (fun x0 x1 x2 x3 x4 h hr => s_Th_release_36_91 hS k256 k262 h48 x0 x1 x2 x3 x4 h hr), ⟨zap0_s (P := fun xs h => GO 97 (zfl [none, none, none, none, none] xs).1 (zfs [] (zfl [none, none, none, none, none] xs).2) h) (fun  h hr => s_Th_release_36_97 hS k256 k262  h hr), trivial⟩⟩
set_option maxRecDepth 100000 in
set_option maxHeartbeats 0 in
theorem s_Th_release_36_48 {l : Launch} {zi : Nat → zinfo} {r : zRes} {GO : Nat → List (Option zV) → List zV → zH → Prop} (hS : zSg l true zi (zget (999, 0, 0, 0) zc_Th_release_36) (zcut zu_Th_release_36) zin (fun _ _ => none) r GO) (k256 : ∀ (x0 : Int) (h : zH) (k : (Int → zH → Option zRes)) (t : (Nat → zH → Option zRes)), Th_isWaiting x0 h k = some r → zKsp l true zi r 256 [x0] h k t) (k262 : ∀ (x0 x1 x2 : Int) (h : zH) (k : (Int → zH → Option zRes)) (t : (Nat → zH → Option zRes)), Th_goTo x0 x1 x2 h k = some r → zKsp l true zi r 262 [x0, x1, x2] h k t) (a0 a1 a2 a3 a4 : Int) (h : zH) (hr : Th_release_36_48 zin a0 a1 a2 a3 a4 h = some r) : GO 48 [some (136, a0), some (0, a1), some (0, a2), some (0, a3), some (0, a4)] [] h := zit5_s (P := fun x0 x1 x2 x3 x4 h => GO 48 [some (136, x0), some (0, x1), some (0, x2), some (0, x3), some (0, x4)] [] h) (fun rr hh a0 a1 a2 a3 a4 h hr => s_Th_release_36_48b hS k256 k262 hh a0 a1 a2 a3 a4 h hr) zN a0 a1 a2 a3 a4 h hr
set_option maxRecDepth 100000 in
set_option maxHeartbeats 0 in
theorem s_Th_release_36_45 {l : Launch} {zi : Nat → zinfo} {r : zRes} {GO : Nat → List (Option zV) → List zV → zH → Prop} (hS : zSg l true zi (zget (999, 0, 0, 0) zc_Th_release_36) (zcut zu_Th_release_36) zin (fun _ _ => none) r GO) (k256 : ∀ (x0 : Int) (h : zH) (k : (Int → zH → Option zRes)) (t : (Nat → zH → Option zRes)), Th_isWaiting x0 h k = some r → zKsp l true zi r 256 [x0] h k t) (k262 : ∀ (x0 x1 x2 : Int) (h : zH) (k : (Int → zH → Option zRes)) (t : (Nat → zH → Option zRes)), Th_goTo x0 x1 x2 h k = some r → zKsp l true zi r 262 [x0, x1, x2] h k t) (a0 a1 a2 a3 : Int) (h : zH) (hr : Th_release_36_45 zin a0 a1 a2 a3 h = some r) : GO 45 [some (136, a0), some (0, a1), some (0, a2), some (0, a3), none] [] h := by
  have e9 := Eq.trans (Eq.symm (qe_Th_release_36_45 zin a0 a1 a2 a3 h)) hr
  generalize (400 : Nat) = f9 at e9
  refine hS _ _ (zcal_s (SP := zKsp l true zi r) _ ?_) (zorc_s _ ?_) _ _ _ _ _ e9
  · exact trivial
  · exact ⟨zap5_s (P := fun xs h => GO 48 (zfl [some (136, none), some (0, none), some (0, none), some (0, none), some (0, none)] xs).1 (zfs [] (zfl [some (136, none), some (0, none), some (0, none), some (0, none), some (0, none)] xs).2) h) (fun x0 x1 x2 x3 x4 h hr => s_Th_release_36_48 hS k256 k262 x0 x1 x2 x3 x4 h hr), trivial⟩
set_option maxRecDepth 100000 in
set_option maxHeartbeats 0 in
theorem s_Th_release_36_3b {l : Launch} {zi : Nat → zinfo} {r : zRes} {GO : Nat → List (Option zV) → List zV → zH → Prop} (hS : zSg l true zi (zget (999, 0, 0, 0) zc_Th_release_36) (zcut zu_Th_release_36) zin (fun _ _ => none) r GO) (k256 : ∀ (x0 : Int) (h : zH) (k : (Int → zH → Option zRes)) (t : (Nat → zH → Option zRes)), Th_isWaiting x0 h k = some r → zKsp l true zi r 256 [x0] h k t) (k262 : ∀ (x0 x1 x2 : Int) (h : zH) (k : (Int → zH → Option zRes)) (t : (Nat → zH → Option zRes)), Th_goTo x0 x1 x2 h k = some r → zKsp l true zi r 262 [x0, x1, x2] h k t) {r3 : Int → Int → Int → Int → Int → zH → Option zRes} (h3 : ∀ (x0 x1 x2 x3 x4 : Int) (h : zH), r3 x0 x1 x2 x3 x4 h = some r → GO 3 [some (136, x0), some (0, x1), some (0, x2), some (0, x3), some (0, x4)] [] h) (a0 a1 a2 a3 a4 : Int) (h : zH) (hr : Th_release_36_3b zin r3 a0 a1 a2 a3 a4 h = some r) : GO 3 [some (136, a0), some (0, a1), some (0, a2), some (0, a3), some (0, a4)] [] h := by
  have e9 := Eq.trans (Eq.symm (qe_Th_release_36_3b zin r3 a0 a1 a2 a3 a4 h)) hr
  generalize (400 : Nat) = f9 at e9
  refine hS _ _ (zcal_s (SP := zKsp l true zi r) _ ?_) (zorc_s _ ?_) _ _ _ _ _ e9
  · exact ⟨zca1_s (SP := fun xs h k t => zKsp l true zi r 256 (zfc [none] xs) h k t) k256, trivial⟩
  · exact ⟨zap5_s (P := fun xs h => GO 39 (zfl [some (136, none), some (0, none), some (0, none), some (0, none), some (0, none)] xs).1 (zfs [] (zfl [some (136, none), some (0, none), some (0, none), some (0, none), some (0, none)] xs).2) h) (fun x0 x1 x2 x3 x4 h hr => s_Th_release_36_39 hS k256 k262 h3 x0 x1 x2 x3 x4 h hr), ⟨zap4_s (P := fun xs h => GO 45 (zfl [some (136, none), some (0, none), some (0, none), some (0, none), none] xs).1 (zfs [] (zfl [some (136, none), some (0, none), some (0, none), some (0, none), none] xs).2) h) (fun x0 x1 x2 x3 h hr => s_Th_release_36_45 hS k256 k262 x0 x1 x2 x3 h hr), trivial⟩⟩
set_option maxRecDepth 100000 in
set_option maxHeartbeats 0 in
theorem s_Th_release_36_3 {l : Launch} {zi : Nat → zinfo} {r : zRes} {GO : Nat → List (Option zV) → List zV → zH → Prop} (hS : zSg l true zi (zget (999, 0, 0, 0) zc_Th_release_36) (zcut zu_Th_release_36) zin (fun _ _ => none) r GO) (k256 : ∀ (x0 : Int) (h : zH) (k : (Int → zH → Option zRes)) (t : (Nat → zH → Option zRes)), Th_isWaiting x0 h k = some r → zKsp l true zi r 256 [x0] h k t) (k262 : ∀ (x0 x1 x2 : Int) (h : zH) (k : (Int → zH → Option zRes)) (t : (Nat → zH → Option zRes)), Th_goTo x0 x1 x2 h k = some r → zKsp l true zi r 262 [x0, x1, x2] h k t) (a0 a1 a2 a3 a4 : Int) (h : zH) (hr : Th_release_36_3 zin a0 a1 a2 a3 a4 h = some r) : GO 3 [some (136, a0), some (0, a1), some (0, a2), some (0, a3), some (0, a4)] [] h := zit5_s (P := fun x0 x1 x2 x3 x4 h => GO 3 [some (136, x0), some (0, x1), some (0, x2), some (0, x3), some (0, x4)] [] h) (fun rr hh a0 a1 a2 a3 a4 h hr => s_Th_release_36_3b hS k256 k262 hh a0 a1 a2 a3 a4 h hr) zN a0 a1 a2 a3 a4 h hr
set_option maxRecDepth 100000 in
set_option maxHeartbeats 0 in
theorem s_Th_release_36 {l : Launch} {zi : Nat → zinfo} {r : zRes} {GO : Nat → List (Option zV) → List zV → zH → Prop} (hS : zSg l true zi (zget (999, 0, 0, 0) zc_Th_release_36) (zcut zu_Th_release_36) zin (fun _ _ => none) r GO) (k256 : ∀ (x0 : Int) (h : zH) (k : (Int → zH → Option zRes)) (t : (Nat → zH → Option zRes)), Th_isWaiting x0 h k = some r → zKsp l true zi r 256 [x0] h k t) (k262 : ∀ (x0 x1 x2 : Int) (h : zH) (k : (Int → zH → Option zRes)) (t : (Nat → zH → Option zRes)), Th_goTo x0 x1 x2 h k = some r → zKsp l true zi r 262 [x0, x1, x2] h k t) (a0 a1 a2 a3 : Int) (h : zH) (hr : Th_release_36 a0 a1 a2 a3 h zin = some r) : GO 0 [some (136, a0), some (0, a1), some (0, a2), some (0, a3), none] [] h := by
  have e9 := Eq.trans (Eq.symm (qe_Th_release_36 zin a0 a1 a2 a3 h)) hr
  generalize (400 : Nat) = f9 at e9
  refine hS _ _ (zcal_s (SP := zKsp l true zi r) _ ?_) (zorc_s _ ?_) _ _ _ _ _ e9
  · exact trivial
  · exact ⟨zap5_s (P := fun xs h => GO 3 (zfl [some (136, none), some (0, none), some (0, none), some (0, none), some (0, none)] xs).1 (zfs [] (zfl [some (136, none), some (0, none), some (0, none), some (0, none), some (0, none)] xs).2) h) (fun x0 x1 x2 x3 x4 h hr => s_Th_release_36_3 hS k256 k262 x0 x1 x2 x3 x4 h hr), trivial⟩
set_option maxRecDepth 100000 in
set_option maxHeartbeats 0 in
theorem s_Bl_passBarrier {l : Launch} {zi : Nat → zinfo} {r : zRes} {GO : Nat → List (Option zV) → List zV → zH → Prop} (hS : zSg l true zi (zget (999, 0, 0, 0) zc_Bl_passBarrier) (zcut zu_Bl_passBarrier) zin (fun _ _ => none) r GO) (k7 : ∀ (x0 x1 : Int) (h : zH) (k : (Int → zH → Option zRes)) (t : (Nat → zH → Option zRes)), Ar_fill_39 x0 x1 h k = some r → zKsp l true zi r 7 [x0, x1] h k t) (k8 : ∀ (x0 x1 : Int) (h : zH) (k : (Int → zH → Option zRes)) (t : (Nat → zH → Option zRes)), Ar_fill_40 x0 x1 h k = some r → zKsp l true zi r 8 [x0, x1] h k t) (k267 : ∀ (x0 x1 x2 x3 : Int) (h : zH) (k : (Int → zH → Option zRes)) (t : (Nat → zH → Option zRes)), Th_release_36 x0 x1 x2 x3 h k = some r → zKsp l true zi r 267 [x0, x1, x2, x3] h k t) (a0 a1 : Int) (h : zH) (hr : Bl_passBarrier a0 a1 h zin = some r) : GO 0 [some (110, a0), some (0, a1)] [] h := by
  have e9 := Eq.trans (Eq.symm (qe_Bl_passBarrier zin a0 a1 h)) hr
  generalize (400 : Nat) = f9 at e9
  refine hS _ _ (zcal_s (SP := zKsp l true zi r) _ ?_) (zorc_s _ ?_) _ _ _ _ _ e9
  · exact ⟨zca2_s (SP := fun xs h k t => zKsp l true zi r 7 (zfc [none, none] xs) h k t) k7, ⟨zca2_s (SP := fun xs h k t => zKsp l true zi r 8 (zfc [none, none] xs) h k t) k8, ⟨zca4_s (SP := fun xs h k t => zKsp l true zi r 267 (zfc [none, none, none, none] xs) h k t) k267, trivial⟩⟩⟩
  · exact trivial
set_option maxRecDepth 100000 in
set_option maxHeartbeats 0 in
theorem s_Co_lookAtBarrier_52 {l : Launch} {zi : Nat → zinfo} {r : zRes} {GO : Nat → List (Option zV) → List zV → zH → Prop} (hS : zSg l true zi (zget (999, 0, 0, 0) zc_Co_lookAtBarrier) (zcut zu_Co_lookAtBarrier) zin (fun _ _ => none) r GO) (k174 : ∀ (x0 : Int) (h : zH) (k : (Int → zH → Option zRes)) (t : (Nat → zH → Option zRes)), Bl_lowestWaiting x0 h k = some r → zKsp l true zi r 174 [x0] h k t) (k175 : ∀ (x0 x1 : Int) (h : zH) (k : (Int → zH → Option zRes)) (t : (Nat → zH → Option zRes)), Bl_passBarrier x0 x1 h k = some r → zKsp l true zi r 175 [x0, x1] h k t) (k200 : ∀ (x0 x1 x2 x3 x4 : Int) (h : zH) (k : (Int → zH → Option zRes)) (t : (Nat → zH → Option zRes)), Co_fail x0 x1 x2 x3 x4 h k = some r → zKsp l true zi r 200 [x0, x1, x2, x3, x4] h k t) (h : zH) (hr : Co_lookAtBarrier_52 zin h = some r) : GO 52 [none, none, none] [] h := by
  have e9 := Eq.trans (Eq.symm (qe_Co_lookAtBarrier_52 zin h)) hr
  generalize (400 : Nat) = f9 at e9
  refine hS _ _ (zcal_s (SP := zKsp l true zi r) _ ?_) (zorc_s _ ?_) _ _ _ _ _ e9
  · exact trivial
  · exact trivial
set_option maxRecDepth 100000 in
set_option maxHeartbeats 0 in
theorem s_Co_lookAtBarrier {l : Launch} {zi : Nat → zinfo} {r : zRes} {GO : Nat → List (Option zV) → List zV → zH → Prop} (hS : zSg l true zi (zget (999, 0, 0, 0) zc_Co_lookAtBarrier) (zcut zu_Co_lookAtBarrier) zin (fun _ _ => none) r GO) (k174 : ∀ (x0 : Int) (h : zH) (k : (Int → zH → Option zRes)) (t : (Nat → zH → Option zRes)), Bl_lowestWaiting x0 h k = some r → zKsp l true zi r 174 [x0] h k t) (k175 : ∀ (x0 x1 : Int) (h : zH) (k : (Int → zH → Option zRes)) (t : (Nat → zH → Option zRes)), Bl_passBarrier x0 x1 h k = some r → zKsp l true zi r 175 [x0, x1] h k t) (k200 : ∀ (x0 x1 x2 x3 x4 : Int) (h : zH) (k : (Int → zH → Option zRes)) (t : (Nat → zH → Option zRes)), Co_fail x0 x1 x2 x3 x4 h k = some r → zKsp l true zi r 200 [x0, x1, x2, x3, x4] h k t) (a0 a1 : Int) (h : zH) (hr : Co_lookAtBarrier a0 a1 h zin = some r) : GO 0 [some (102, a0), some (110, a1), none] [] h := by
  have e9 := Eq.trans (Eq.symm (qe_Co_lookAtBarrier zin a0 a1 h)) hr
  generalize (400 : Nat) = f9 at e9
  refine hS _ _ (zcal_s (SP := zKsp l true zi r) _ ?_) (zorc_s _ ?_) _ _ _ _ _ e9
  · exact ⟨zca1_s (SP := fun xs h k t => zKsp l true zi r 174 (zfc [none] xs) h k t) k174, ⟨zca2_s (SP := fun xs h k t => zKsp l true zi r 175 (zfc [none, none] xs) h k t) k175, ⟨zca5_s (SP := fun xs h k t => zKsp l true zi r 200 (zfc [none, none, none, none, none] xs) h k t) k200, trivial⟩⟩⟩
  · exact ⟨zap0_s (P := fun xs h => GO 52 (zfl [none, none, none] xs).1 (zfs [] (zfl [none, none, none] xs).2) h) (fun  h hr => s_Co_lookAtBarrier_52 hS k174 k175 k200  h hr), trivial⟩
set_option maxRecDepth 100000 in
set_option maxHeartbeats 0 in
theorem s_Co_settle_20 {l : Launch} {zi : Nat → zinfo} {r : zRes} {GO : Nat → List (Option zV) → List zV → zH → Prop} (hS : zSg l true zi (zget (999, 0, 0, 0) zc_Co_settle) (zcut zu_Co_settle) zin (fun _ _ => none) r GO) (k173 : ∀ (x0 : Int) (h : zH) (k : (Int → zH → Option zRes)) (t : (Nat → zH → Option zRes)), Bl_isAllWaiting x0 h k = some r → zKsp l true zi r 173 [x0] h k t) (k178 : ∀ (x0 x1 : Int) (h : zH) (k : (Int → zH → Option zRes)) (t : (Nat → zH → Option zRes)), Bl_writeEndedGroups x0 x1 h k = some r → zKsp l true zi r 178 [x0, x1] h k t) (k198 : ∀ (x0 x1 : Int) (h : zH) (k : (Int → zH → Option zRes)) (t : (Nat → zH → Option zRes)), Co_lookAtBarrier x0 x1 h k = some r → zKsp l true zi r 198 [x0, x1] h k t) (k199 : ∀ (x0 x1 : Int) (h : zH) (k : (Int → zH → Option zRes)) (t : (Nat → zH → Option zRes)), Co_endIfEnded x0 x1 h k = some r → zKsp l true zi r 199 [x0, x1] h k t) (a0 a1 : Int) (h : zH) (hr : Co_settle_20 zin a0 a1 h = some r) : GO 20 [some (102, a0), some (110, a1)] [] h := by
  have e9 := Eq.trans (Eq.symm (qe_Co_settle_20 zin a0 a1 h)) hr
  generalize (400 : Nat) = f9 at e9
  refine hS _ _ (zcal_s (SP := zKsp l true zi r) _ ?_) (zorc_s _ ?_) _ _ _ _ _ e9
  · exact ⟨zca2_s (SP := fun xs h k t => zKsp l true zi r 199 (zfc [none, none] xs) h k t) k199, trivial⟩
  · exact trivial
set_option maxRecDepth 100000 in
set_option maxHeartbeats 0 in
theorem s_Co_settle {l : Launch} {zi : Nat → zinfo} {r : zRes} {GO : Nat → List (Option zV) → List zV → zH → Prop} (hS : zSg l true zi (zget (999, 0, 0, 0) zc_Co_settle) (zcut zu_Co_settle) zin (fun _ _ => none) r GO) (k173 : ∀ (x0 : Int) (h : zH) (k : (Int → zH → Option zRes)) (t : (Nat → zH → Option zRes)), Bl_isAllWaiting x0 h k = some r → zKsp l true zi r 173 [x0] h k t) (k178 : ∀ (x0 x1 : Int) (h : zH) (k : (Int → zH → Option zRes)) (t : (Nat → zH → Option zRes)), Bl_writeEndedGroups x0 x1 h k = some r → zKsp l true zi r 178 [x0, x1] h k t) (k198 : ∀ (x0 x1 : Int) (h : zH) (k : (Int → zH → Option zRes)) (t : (Nat → zH → Option zRes)), Co_lookAtBarrier x0 x1 h k = some r → zKsp l true zi r 198 [x0, x1] h k t) (k199 : ∀ (x0 x1 : Int) (h : zH) (k : (Int → zH → Option zRes)) (t : (Nat → zH → Option zRes)), Co_endIfEnded x0 x1 h k = some r → zKsp l true zi r 199 [x0, x1] h k t) (a0 a1 : Int) (h : zH) (hr : Co_settle a0 a1 h zin = some r) : GO 0 [some (102, a0), some (110, a1)] [] h := by
  have e9 := Eq.trans (Eq.symm (qe_Co_settle zin a0 a1 h)) hr
  generalize (400 : Nat) = f9 at e9
  refine hS _ _ (zcal_s (SP := zKsp l true zi r) _ ?_) (zorc_s _ ?_) _ _ _ _ _ e9
  · exact ⟨zca1_s (SP := fun xs h k t => zKsp l true zi r 173 (zfc [none] xs) h k t) k173, ⟨zca2_s (SP := fun xs h k t => zKsp l true zi r 178 (zfc [none, none] xs) h k t) k178, ⟨zca2_s (SP := fun xs h k t => zKsp l true zi r 198 (zfc [none, none] xs) h k t) k198, trivial⟩⟩⟩
  · exact ⟨zap2_s (P := fun xs h => GO 20 (zfl [some (102, none), some (110, none)] xs).1 (zfs [] (zfl [some (102, none), some (110, none)] xs).2) h) (fun x0 x1 h hr => s_Co_settle_20 hS k173 k178 k198 k199 x0 x1 h hr), trivial⟩
set_option maxRecDepth 100000 in
set_option maxHeartbeats 0 in
theorem s_La_isSpoiled_23 {l : Launch} {zi : Nat → zinfo} {r : zRes} {GO : Nat → List (Option zV) → List zV → zH → Prop} (hS : zSg l true zi (zget (999, 0, 0, 0) zc_La_isSpoiled) (zcut zu_La_isSpoiled) zin (fun _ _ => none) r GO) (t0 : Int) (h : zH) (hr : La_isSpoiled_23 zin t0 h = some r) : GO 23 [none] [(0, t0)] h := by
  have e9 := Eq.trans (Eq.symm (qe_La_isSpoiled_23 zin t0 h)) hr
  generalize (400 : Nat) = f9 at e9
  refine hS _ _ (zcal_s (SP := zKsp l true zi r) _ ?_) (zorc_s _ ?_) _ _ _ _ _ e9
  · exact trivial
  · exact trivial
set_option maxRecDepth 100000 in
set_option maxHeartbeats 0 in
theorem s_La_isSpoiled_18 {l : Launch} {zi : Nat → zinfo} {r : zRes} {GO : Nat → List (Option zV) → List zV → zH → Prop} (hS : zSg l true zi (zget (999, 0, 0, 0) zc_La_isSpoiled) (zcut zu_La_isSpoiled) zin (fun _ _ => none) r GO) (h : zH) (hr : La_isSpoiled_18 zin h = some r) : GO 18 [none] [] h := by
  have e9 := Eq.trans (Eq.symm (qe_La_isSpoiled_18 zin h)) hr
  generalize (400 : Nat) = f9 at e9
  refine hS _ _ (zcal_s (SP := zKsp l true zi r) _ ?_) (zorc_s _ ?_) _ _ _ _ _ e9
  · exact trivial
  · exact ⟨zap1_s (P := fun xs h => GO 23 (zfl [none] xs).1 (zfs [(0, none)] (zfl [none] xs).2) h) (fun x0 h hr => s_La_isSpoiled_23 hS x0 h hr), trivial⟩
set_option maxRecDepth 100000 in
set_option maxHeartbeats 0 in
theorem s_La_isSpoiled {l : Launch} {zi : Nat → zinfo} {r : zRes} {GO : Nat → List (Option zV) → List zV → zH → Prop} (hS : zSg l true zi (zget (999, 0, 0, 0) zc_La_isSpoiled) (zcut zu_La_isSpoiled) zin (fun _ _ => none) r GO) (a0 : Int) (h : zH) (hr : La_isSpoiled a0 h zin = some r) : GO 0 [some (109, a0)] [] h := by
  have e9 := Eq.trans (Eq.symm (qe_La_isSpoiled zin a0 h)) hr
  generalize (400 : Nat) = f9 at e9
  refine hS _ _ (zcal_s (SP := zKsp l true zi r) _ ?_) (zorc_s _ ?_) _ _ _ _ _ e9
  · exact trivial
  · exact ⟨zap0_s (P := fun xs h => GO 18 (zfl [none] xs).1 (zfs [] (zfl [none] xs).2) h) (fun  h hr => s_La_isSpoiled_18 hS  h hr), ⟨zap1_s (P := fun xs h => GO 23 (zfl [none] xs).1 (zfs [(0, none)] (zfl [none] xs).2) h) (fun x0 h hr => s_La_isSpoiled_23 hS x0 h hr), trivial⟩⟩
set_option maxRecDepth 100000 in
set_option maxHeartbeats 0 in
theorem s_Le_decide_66 {l : Launch} {zi : Nat → zinfo} {r : zRes} {GO : Nat → List (Option zV) → List zV → zH → Prop} (hS : zSg l true zi (zget (999, 0, 0, 0) zc_Le_decide) (zcut zu_Le_decide) zin (fun _ _ => none) r GO) (k231 : ∀ (x0 : Int) (h : zH) (k : (Int → zH → Option zRes)) (t : (Nat → zH → Option zRes)), La_isOver x0 h k = some r → zKsp l true zi r 231 [x0] h k t) (k232 : ∀ (x0 : Int) (h : zH) (k : (Int → zH → Option zRes)) (t : (Nat → zH → Option zRes)), La_isSpoiled x0 h k = some r → zKsp l true zi r 232 [x0] h k t) (h : zH) (hr : Le_decide_66 zin h = some r) : GO 66 [none] [] h := by
  have e9 := Eq.trans (Eq.symm (qe_Le_decide_66 zin h)) hr
  generalize (400 : Nat) = f9 at e9
  refine hS _ _ (zcal_s (SP := zKsp l true zi r) _ ?_) (zorc_s _ ?_) _ _ _ _ _ e9
  · exact trivial
  · exact trivial
set_option maxRecDepth 100000 in
set_option maxHeartbeats 0 in
theorem s_Le_decide_34 {l : Launch} {zi : Nat → zinfo} {r : zRes} {GO : Nat → List (Option zV) → List zV → zH → Prop} (hS : zSg l true zi (zget (999, 0, 0, 0) zc_Le_decide) (zcut zu_Le_decide) zin (fun _ _ => none) r GO) (k231 : ∀ (x0 : Int) (h : zH) (k : (Int → zH → Option zRes)) (t : (Nat → zH → Option zRes)), La_isOver x0 h k = some r → zKsp l true zi r 231 [x0] h k t) (k232 : ∀ (x0 : Int) (h : zH) (k : (Int → zH → Option zRes)) (t : (Nat → zH → Option zRes)), La_isSpoiled x0 h k = some r → zKsp l true zi r 232 [x0] h k t) (a0 : Int) (h : zH) (hr : Le_decide_34 zin a0 h = some r) : GO 34 [some (109, a0)] [] h := by
  have e9 := Eq.trans (Eq.symm (qe_Le_decide_34 zin a0 h)) hr
  generalize (400 : Nat) = f9 at e9
  refine hS _ _ (zcal_s (SP := zKsp l true zi r) _ ?_) (zorc_s _ ?_) _ _ _ _ _ e9
  · exact trivial
  · exact ⟨zap0_s (P := fun xs h => GO 66 (zfl [none] xs).1 (zfs [] (zfl [none] xs).2) h) (fun  h hr => s_Le_decide_66 hS k231 k232  h hr), trivial⟩
set_option maxRecDepth 100000 in
set_option maxHeartbeats 0 in
theorem s_Le_decide_60 {l : Launch} {zi : Nat → zinfo} {r : zRes} {GO : Nat → List (Option zV) → List zV → zH → Prop} (hS : zSg l true zi (zget (999, 0, 0, 0) zc_Le_decide) (zcut zu_Le_decide) zin (fun _ _ => none) r GO) (k231 : ∀ (x0 : Int) (h : zH) (k : (Int → zH → Option zRes)) (t : (Nat → zH → Option zRes)), La_isOver x0 h k = some r → zKsp l true zi r 231 [x0] h k t) (k232 : ∀ (x0 : Int) (h : zH) (k : (Int → zH → Option zRes)) (t : (Nat → zH → Option zRes)), La_isSpoiled x0 h k = some r → zKsp l true zi r 232 [x0] h k t) (a0 : Int) (h : zH) (hr : Le_decide_60 zin a0 h = some r) : GO 60 [some (109, a0)] [] h := by
  have e9 := Eq.trans (Eq.symm (qe_Le_decide_60 zin a0 h)) hr
  generalize (400 : Nat) = f9 at e9
  refine hS _ _ (zcal_s (SP := zKsp l true zi r) _ ?_) (zorc_s _ ?_) _ _ _ _ _ e9
  · exact trivial
  · exact ⟨zap0_s (P := fun xs h => GO 66 (zfl [none] xs).1 (zfs [] (zfl [none] xs).2) h) (fun  h hr => s_Le_decide_66 hS k231 k232  h hr), trivial⟩
set_option maxRecDepth 100000 in
set_option maxHeartbeats 0 in
theorem s_Le_decide_43 {l : Launch} {zi : Nat → zinfo} {r : zRes} {GO : Nat → List (Option zV) → List zV → zH → Prop} (hS : zSg l true zi (zget (999, 0, 0, 0) zc_Le_decide) (zcut zu_Le_decide) zin (fun _ _ => none) r GO) (k231 : ∀ (x0 : Int) (h : zH) (k : (Int → zH → Option zRes)) (t : (Nat → zH → Option zRes)), La_isOver x0 h k = some r → zKsp l true zi r 231 [x0] h k t) (k232 : ∀ (x0 : Int) (h : zH) (k : (Int → zH → Option zRes)) (t : (Nat → zH → Option zRes)), La_isSpoiled x0 h k = some r → zKsp l true zi r 232 [x0] h k t) (a0 : Int) (h : zH) (hr : Le_decide_43 zin a0 h = some r) : GO 43 [some (109, a0)] [] h := by
  have e9 := Eq.trans (Eq.symm (qe_Le_decide_43 zin a0 h)) hr
  generalize (400 : Nat) = f9 at e9
  refine hS _ _ (zcal_s (SP := zKsp l true zi r) _ ?_) (zorc_s _ ?_) _ _ _ _ _ e9
  · exact ⟨zca1_s (SP := fun xs h k t => zKsp l true zi r 231 (zfc [none] xs) h k t) k231, trivial⟩
  · exact ⟨zap1_s (P := fun xs h => GO 60 (zfl [some (109, none)] xs).1 (zfs [] (zfl [some (109, none)] xs).2) h) (fun x0 h hr => s_Le_decide_60 hS k231 k232 x0 h hr), ⟨zap0_s (P := fun xs h => GO 66 (zfl [none] xs).1 (zfs [] (zfl [none] xs).2) h) (fun  h hr => s_Le_decide_66 hS k231 k232  h hr), trivial⟩⟩
set_option maxRecDepth 100000 in
set_option maxHeartbeats 0 in
theorem s_Le_decide_17 {l : Launch} {zi : Nat → zinfo} {r : zRes} {GO : Nat → List (Option zV) → List zV → zH → Prop} (hS : zSg l true zi (zget (999, 0, 0, 0) zc_Le_decide) (zcut zu_Le_decide) zin (fun _ _ => none) r GO) (k231 : ∀ (x0 : Int) (h : zH) (k : (Int → zH → Option zRes)) (t : (Nat → zH → Option zRes)), La_isOver x0 h k = some r → zKsp l true zi r 231 [x0] h k t) (k232 : ∀ (x0 : Int) (h : zH) (k : (Int → zH → Option zRes)) (t : (Nat → zH → Option zRes)), La_isSpoiled x0 h k = some r → zKsp l true zi r 232 [x0] h k t) (a0 : Int) (h : zH) (hr : Le_decide_17 zin a0 h = some r) : GO 17 [some (109, a0)] [] h := by
  have e9 := Eq.trans (Eq.symm (qe_Le_decide_17 zin a0 h)) hr
  generalize (400 : Nat) = f9 at e9
  refine hS _ _ (zcal_s (SP := zKsp l true zi r) _ ?_) (zorc_s _ ?_) _ _ _ _ _ e9
  · exact ⟨zca1_s (SP := fun xs h k t => zKsp l true zi r 232 (zfc [none] xs) h k t) k232, trivial⟩
  · exact ⟨zap1_s (P := fun xs h => GO 34 (zfl [some (109, none)] xs).1 (zfs [] (zfl [some (109, none)] xs).2) h) (fun x0 h hr => s_Le_decide_34 hS k231 k232 x0 h hr), ⟨zap1_s (P := fun xs h => GO 43 (zfl [some (109, none)] xs).1 (zfs [] (zfl [some (109, none)] xs).2) h) (fun x0 h hr => s_Le_decide_43 hS k231 k232 x0 h hr), trivial⟩⟩
set_option maxRecDepth 100000 in
set_option maxHeartbeats 0 in
theorem s_Le_decide {l : Launch} {zi : Nat → zinfo} {r : zRes} {GO : Nat → List (Option zV) → List zV → zH → Prop} (hS : zSg l true zi (zget (999, 0, 0, 0) zc_Le_decide) (zcut zu_Le_decide) zin (fun _ _ => none) r GO) (k231 : ∀ (x0 : Int) (h : zH) (k : (Int → zH → Option zRes)) (t : (Nat → zH → Option zRes)), La_isOver x0 h k = some r → zKsp l true zi r 231 [x0] h k t) (k232 : ∀ (x0 : Int) (h : zH) (k : (Int → zH → Option zRes)) (t : (Nat → zH → Option zRes)), La_isSpoiled x0 h k = some r → zKsp l true zi r 232 [x0] h k t) (a0 : Int) (h : zH) (hr : Le_decide a0 h zin = some r) : GO 0 [some (109, a0)] [] h := by
  have e9 := Eq.trans (Eq.symm (qe_Le_decide zin a0 h)) hr
  generalize (400 : Nat) = f9 at e9
  refine hS _ _ (zcal_s (SP := zKsp l true zi r) _ ?_) (zorc_s _ ?_) _ _ _ _ _ e9
  · exact ⟨zca1_s (SP := fun xs h k t => zKsp l true zi r 232 (zfc [none] xs) h k t) k232, trivial⟩
  · exact ⟨zap1_s (P := fun xs h => GO 17 (zfl [some (109, none)] xs).1 (zfs [] (zfl [some (109, none)] xs).2) h) (fun x0 h hr => s_Le_decide_17 hS k231 k232 x0 h hr), ⟨zap1_s (P := fun xs h => GO 34 (zfl [some (109, none)] xs).1 (zfs [] (zfl [some (109, none)] xs).2) h) (fun x0 h hr => s_Le_decide_34 hS k231 k232 x0 h hr), trivial⟩⟩
set_option maxRecDepth 100000 in
set_option maxHeartbeats 0 in
theorem s_Le_startIn_56 {l : Launch} {zi : Nat → zinfo} {r : zRes} {GO : Nat → List (Option zV) → List zV → zH → Prop} (hS : zSg l true zi (zget (999, 0, 0, 0) zc_Le_startIn) (zcut zu_Le_startIn) zin (fun _ _ => none) r GO) (k231 : ∀ (x0 : Int) (h : zH) (k : (Int → zH → Option zRes)) (t : (Nat → zH → Option zRes)), La_isOver x0 h k = some r → zKsp l true zi r 231 [x0] h k t) (k250 : ∀ (x0 : Int) (h : zH) (k : (Int → zH → Option zRes)) (t : (Nat → zH → Option zRes)), Le_decide x0 h k = some r → zKsp l true zi r 250 [x0] h k t) {r2 : Int → Int → Int → zH → Option zRes} (h2 : ∀ (x0 x1 x2 : Int) (h : zH), r2 x0 x1 x2 h = some r → GO 2 [some (101, x0), some (0, x1), some (0, x2), none] [] h) (a0 a1 a2 : Int) (h : zH) (hr : Le_startIn_56 zin r2 a0 a1 a2 h = some r) : GO 56 [some (101, a0), some (0, a1), some (0, a2), none] [] h := by
  have e9 := Eq.trans (Eq.symm (qe_Le_startIn_56 zin r2 a0 a1 a2 h)) hr
  generalize (400 : Nat) = f9 at e9
  refine hS _ _ (zcal_s (SP := zKsp l true zi r) _ ?_) (zorc_s _ ?_) _ _ _ _ _ e9
  · exact trivial
  · exact ⟨zap3_s (P := fun xs h => GO 2 (zfl [some (101, none), some (0, none), some (0, none), none] xs).1 (zfs [] (zfl [some (101, none), some (0, none), some (0, none), none] xs).2) h) h2, trivial⟩
set_option maxRecDepth 100000 in
set_option maxHeartbeats 0 in
theorem s_Le_startIn_48 {l : Launch} {zi : Nat → zinfo} {r : zRes} {GO : Nat → List (Option zV) → List zV → zH → Prop} (hS : zSg l true zi (zget (999, 0, 0, 0) zc_Le_startIn) (zcut zu_Le_startIn) zin (fun _ _ => none) r GO) (k231 : ∀ (x0 : Int) (h : zH) (k : (Int → zH → Option zRes)) (t : (Nat → zH → Option zRes)), La_isOver x0 h k = some r → zKsp l true zi r 231 [x0] h k t) (k250 : ∀ (x0 : Int) (h : zH) (k : (Int → zH → Option zRes)) (t : (Nat → zH → Option zRes)), Le_decide x0 h k = some r → zKsp l true zi r 250 [x0] h k t) {r2 : Int → Int → Int → zH → Option zRes} (h2 : ∀ (x0 x1 x2 : Int) (h : zH), r2 x0 x1 x2 h = some r → GO 2 [some (101, x0), some (0, x1), some (0, x2), none] [] h) (a0 a1 a2 a3 : Int) (h : zH) (hr : Le_startIn_48 zin r2 a0 a1 a2 a3 h = some r) : GO 48 [some (101, a0), some (0, a1), some (0, a2), some (109, a3)] [] h := by
  have e9 := Eq.trans (Eq.symm (qe_Le_startIn_48 zin r2 a0 a1 a2 a3 h)) hr
  generalize (400 : Nat) = f9 at e9
  refine hS _ _ (zcal_s (SP := zKsp l true zi r) _ ?_) (zorc_s _ ?_) _ _ _ _ _ e9
  · exact ⟨zca1_s (SP := fun xs h k t => zKsp l true zi r 231 (zfc [none] xs) h k t) k231, trivial⟩
  · exact ⟨zap3_s (P := fun xs h => GO 56 (zfl [some (101, none), some (0, none), some (0, none), none] xs).1 (zfs [] (zfl [some (101, none), some (0, none), some (0, none), none] xs).2) h) (fun x0 x1 x2 h hr => s_Le_startIn_56 hS k231 k250 h2 x0 x1 x2 h hr), trivial⟩
set_option maxRecDepth 100000 in
set_option maxHeartbeats 0 in
theorem s_Le_startIn_2b {l : Launch} {zi : Nat → zinfo} {r : zRes} {GO : Nat → List (Option zV) → List zV → zH → Prop} (hS : zSg l true zi (zget (999, 0, 0, 0) zc_Le_startIn) (zcut zu_Le_startIn) zin (fun _ _ => none) r GO) (k231 : ∀ (x0 : Int) (h : zH) (k : (Int → zH → Option zRes)) (t : (Nat → zH → Option zRes)), La_isOver x0 h k = some r → zKsp l true zi r 231 [x0] h k t) (k250 : ∀ (x0 : Int) (h : zH) (k : (Int → zH → Option zRes)) (t : (Nat → zH → Option zRes)), Le_decide x0 h k = some r → zKsp l true zi r 250 [x0] h k t) {r2 : Int → Int → Int → zH → Option zRes} (h2 : ∀ (x0 x1 x2 : Int) (h : zH), r2 x0 x1 x2 h = some r → GO 2 [some (101, x0), some (0, x1), some (0, x2), none] [] h) (a0 a1 a2 : Int) (h : zH) (hr : Le_startIn_2b zin r2 a0 a1 a2 h = some r) : GO 2 [some (101, a0), some (0, a1), some (0, a2), none] [] h := by
  have e9 := Eq.trans (Eq.symm (qe_Le_startIn_2b zin r2 a0 a1 a2 h)) hr
  generalize (400 : Nat) = f9 at e9
  refine hS _ _ (zcal_s (SP := zKsp l true zi r) _ ?_) (zorc_s _ ?_) _ _ _ _ _ e9
  · exact ⟨zca1_s (SP := fun xs h k t => zKsp l true zi r 231 (zfc [none] xs) h k t) k231, ⟨zca1_s (SP := fun xs h k t => zKsp l true zi r 250 (zfc [none] xs) h k t) k250, trivial⟩⟩
  · exact ⟨zap4_s (P := fun xs h => GO 48 (zfl [some (101, none), some (0, none), some (0, none), some (109, none)] xs).1 (zfs [] (zfl [some (101, none), some (0, none), some (0, none), some (109, none)] xs).2) h) (fun x0 x1 x2 x3 h hr => s_Le_startIn_48 hS k231 k250 h2 x0 x1 x2 x3 h hr), ⟨zap3_s (P := fun xs h => GO 56 (zfl [some (101, none), some (0, none), some (0, none), none] xs).1 (zfs [] (zfl [some (101, none), some (0, none), some (0, none), none] xs).2) h) (fun x0 x1 x2 h hr => s_Le_startIn_56 hS k231 k250 h2 x0 x1 x2 h hr), trivial⟩⟩
set_option maxRecDepth 100000 in
set_option maxHeartbeats 0 in
theorem s_Le_startIn_2 {l : Launch} {zi : Nat → zinfo} {r : zRes} {GO : Nat → List (Option zV) → List zV → zH → Prop} (hS : zSg l true zi (zget (999, 0, 0, 0) zc_Le_startIn) (zcut zu_Le_startIn) zin (fun _ _ => none) r GO) (k231 : ∀ (x0 : Int) (h : zH) (k : (Int → zH → Option zRes)) (t : (Nat → zH → Option zRes)), La_isOver x0 h k = some r → zKsp l true zi r 231 [x0] h k t) (k250 : ∀ (x0 : Int) (h : zH) (k : (Int → zH → Option zRes)) (t : (Nat → zH → Option zRes)), Le_decide x0 h k = some r → zKsp l true zi r 250 [x0] h k t) (a0 a1 a2 : Int) (h : zH) (hr : Le_startIn_2 zin a0 a1 a2 h = some r) : GO 2 [some (101, a0), some (0, a1), some (0, a2), none] [] h := zit3_s (P := fun x0 x1 x2 h => GO 2 [some (101, x0), some (0, x1), some (0, x2), none] [] h) (fun rr hh a0 a1 a2 h hr => s_Le_startIn_2b hS k231 k250 hh a0 a1 a2 h hr) zN a0 a1 a2 h hr
set_option maxRecDepth 100000 in
set_option maxHeartbeats 0 in
theorem s_Le_startIn {l : Launch} {zi : Nat → zinfo} {r : zRes} {GO : Nat → List (Option zV) → List zV → zH → Prop} (hS : zSg l true zi (zget (999, 0, 0, 0) zc_Le_startIn) (zcut zu_Le_startIn) zin (fun _ _ => none) r GO) (k231 : ∀ (x0 : Int) (h : zH) (k : (Int → zH → Option zRes)) (t : (Nat → zH → Option zRes)), La_isOver x0 h k = some r → zKsp l true zi r 231 [x0] h k t) (k250 : ∀ (x0 : Int) (h : zH) (k : (Int → zH → Option zRes)) (t : (Nat → zH → Option zRes)), Le_decide x0 h k = some r → zKsp l true zi r 250 [x0] h k t) (a0 a1 : Int) (h : zH) (hr : Le_startIn a0 a1 h zin = some r) : GO 0 [some (101, a0), some (0, a1), none, none] [] h := by
  have e9 := Eq.trans (Eq.symm (qe_Le_startIn zin a0 a1 h)) hr
  generalize (400 : Nat) = f9 at e9
  refine hS _ _ (zcal_s (SP := zKsp l true zi r) _ ?_) (zorc_s _ ?_) _ _ _ _ _ e9
  · exact trivial
  · exact ⟨zap3_s (P := fun xs h => GO 2 (zfl [some (101, none), some (0, none), some (0, none), none] xs).1 (zfs [] (zfl [some (101, none), some (0, none), some (0, none), none] xs).2) h) (fun x0 x1 x2 h hr => s_Le_startIn_2 hS k231 k250 x0 x1 x2 h hr), trivial⟩
set_option maxRecDepth 100000 in
set_option maxHeartbeats 0 in
theorem s_Le_startQueued_65 {l : Launch} {zi : Nat → zinfo} {r : zRes} {GO : Nat → List (Option zV) → List zV → zH → Prop} (hS : zSg l true zi (zget (999, 0, 0, 0) zc_Le_startQueued) (zcut zu_Le_startQueued) zin (fun _ _ => none) r GO) (k249 : ∀ (x0 x1 : Int) (h : zH) (k : (Int → zH → Option zRes)) (t : (Nat → zH → Option zRes)), Le_startIn x0 x1 h k = some r → zKsp l true zi r 249 [x0, x1] h k t) {r20 : Int → Int → zH → Option zRes} (h20 : ∀ (x0 x1 : Int) (h : zH), r20 x0 x1 h = some r → GO 20 [some (101, x0), some (0, x1)] [] h) (a0 a1 : Int) (h : zH) (hr : Le_startQueued_65 zin r20 a0 a1 h = some r) : GO 65 [some (101, a0), some (0, a1)] [] h := by
  have e9 := Eq.trans (Eq.symm (qe_Le_startQueued_65 zin r20 a0 a1 h)) hr
  generalize (400 : Nat) = f9 at e9
  refine hS _ _ (zcal_s (SP := zKsp l true zi r) _ ?_) (zorc_s _ ?_) _ _ _ _ _ e9
  · exact trivial
  · exact ⟨zap2_s (P := fun xs h => GO 20 (zfl [some (101, none), some (0, none)] xs).1 (zfs [] (zfl [some (101, none), some (0, none)] xs).2) h) h20, trivial⟩
set_option maxRecDepth 100000 in
set_option maxHeartbeats 0 in
theorem s_Le_startQueued_20b {l : Launch} {zi : Nat → zinfo} {r : zRes} {GO : Nat → List (Option zV) → List zV → zH → Prop} (hS : zSg l true zi (zget (999, 0, 0, 0) zc_Le_startQueued) (zcut zu_Le_startQueued) zin (fun _ _ => none) r GO) (k249 : ∀ (x0 x1 : Int) (h : zH) (k : (Int → zH → Option zRes)) (t : (Nat → zH → Option zRes)), Le_startIn x0 x1 h k = some r → zKsp l true zi r 249 [x0, x1] h k t) {r20 : Int → Int → zH → Option zRes} (h20 : ∀ (x0 x1 : Int) (h : zH), r20 x0 x1 h = some r → GO 20 [some (101, x0), some (0, x1)] [] h) (a0 a1 : Int) (h : zH) (hr : Le_startQueued_20b zin r20 a0 a1 h = some r) : GO 20 [some (101, a0), some (0, a1)] [] h := by
  have e9 := Eq.trans (Eq.symm (qe_Le_startQueued_20b zin r20 a0 a1 h)) hr
  generalize (400 : Nat) = f9 at e9
  refine hS _ _ (zcal_s (SP := zKsp l true zi r) _ ?_) (zorc_s _ ?_) _ _ _ _ _ e9
  · exact trivial
  · exact ⟨zap2_s (P := fun xs h => GO 65 (zfl [some (101, none), some (0, none)] xs).1 (zfs [] (zfl [some (101, none), some (0, none)] xs).2) h) (fun x0 x1 h hr => s_Le_startQueued_65 hS k249 h20 x0 x1 h hr), trivial⟩
set_option maxRecDepth 100000 in
set_option maxHeartbeats 0 in
theorem s_Le_startQueued_20 {l : Launch} {zi : Nat → zinfo} {r : zRes} {GO : Nat → List (Option zV) → List zV → zH → Prop} (hS : zSg l true zi (zget (999, 0, 0, 0) zc_Le_startQueued) (zcut zu_Le_startQueued) zin (fun _ _ => none) r GO) (k249 : ∀ (x0 x1 : Int) (h : zH) (k : (Int → zH → Option zRes)) (t : (Nat → zH → Option zRes)), Le_startIn x0 x1 h k = some r → zKsp l true zi r 249 [x0, x1] h k t) (a0 a1 : Int) (h : zH) (hr : Le_startQueued_20 zin a0 a1 h = some r) : GO 20 [some (101, a0), some (0, a1)] [] h := zit2_s (P := fun x0 x1 h => GO 20 [some (101, x0), some (0, x1)] [] h) (fun rr hh a0 a1 h hr => s_Le_startQueued_20b hS k249 hh a0 a1 h hr) zN a0 a1 h hr
set_option maxRecDepth 100000 in
set_option maxHeartbeats 0 in
theorem s_Le_startQueued_2b {l : Launch} {zi : Nat → zinfo} {r : zRes} {GO : Nat → List (Option zV) → List zV → zH → Prop} (hS : zSg l true zi (zget (999, 0, 0, 0) zc_Le_startQueued) (zcut zu_Le_startQueued) zin (fun _ _ => none) r GO) (k249 : ∀ (x0 x1 : Int) (h : zH) (k : (Int → zH → Option zRes)) (t : (Nat → zH → Option zRes)), Le_startIn x0 x1 h k = some r → zKsp l true zi r 249 [x0, x1] h k t) {r2 : Int → Int → zH → Option zRes} (h2 : ∀ (x0 x1 : Int) (h : zH), r2 x0 x1 h = some r → GO 2 [some (101, x0), some (0, x1)] [] h) (a0 a1 : Int) (h : zH) (hr : Le_startQueued_2b zin r2 a0 a1 h = some r) : GO 2 [some (101, a0), some (0, a1)] [] h := by
  have e9 := Eq.trans (Eq.symm (qe_Le_startQueued_2b zin r2 a0 a1 h)) hr
  generalize (400 : Nat) = f9 at e9
  refine hS _ _ (zcal_s (SP := zKsp l true zi r) _ ?_) (zorc_s _ ?_) _ _ _ _ _ e9
  · exact ⟨zca2_s (SP := fun xs h k t => zKsp l true zi r 249 (zfc [none, none] xs) h k t) k249, trivial⟩
  · exact ⟨zap2_s (P := fun xs h => GO 2 (zfl [some (101, none), some (0, none)] xs).1 (zfs [] (zfl [some (101, none), some (0, none)] xs).2) h) h2, ⟨zap2_s (P := fun xs h => GO 20 (zfl [some (101, none), some (0, none)] xs).1 (zfs [] (zfl [some (101, none), some (0, none)] xs).2) h) (fun x0 x1 h hr => s_Le_startQueued_20 hS k249 x0 x1 h hr), trivial⟩⟩
set_option maxRecDepth 100000 in
set_option maxHeartbeats 0 in
theorem s_Le_startQueued_2 {l : Launch} {zi : Nat → zinfo} {r : zRes} {GO : Nat → List (Option zV) → List zV → zH → Prop} (hS : zSg l true zi (zget (999, 0, 0, 0) zc_Le_startQueued) (zcut zu_Le_startQueued) zin (fun _ _ => none) r GO) (k249 : ∀ (x0 x1 : Int) (h : zH) (k : (Int → zH → Option zRes)) (t : (Nat → zH → Option zRes)), Le_startIn x0 x1 h k = some r → zKsp l true zi r 249 [x0, x1] h k t) (a0 a1 : Int) (h : zH) (hr : Le_startQueued_2 zin a0 a1 h = some r) : GO 2 [some (101, a0), some (0, a1)] [] h := zit2_s (P := fun x0 x1 h => GO 2 [some (101, x0), some (0, x1)] [] h) (fun rr hh a0 a1 h hr => s_Le_startQueued_2b hS k249 hh a0 a1 h hr) zN a0 a1 h hr
set_option maxRecDepth 100000 in
set_option maxHeartbeats 0 in
theorem s_Le_startQueued {l : Launch} {zi : Nat → zinfo} {r : zRes} {GO : Nat → List (Option zV) → List zV → zH → Prop} (hS : zSg l true zi (zget (999, 0, 0, 0) zc_Le_startQueued) (zcut zu_Le_startQueued) zin (fun _ _ => none) r GO) (k249 : ∀ (x0 x1 : Int) (h : zH) (k : (Int → zH → Option zRes)) (t : (Nat → zH → Option zRes)), Le_startIn x0 x1 h k = some r → zKsp l true zi r 249 [x0, x1] h k t) (a0 : Int) (h : zH) (hr : Le_startQueued a0 h zin = some r) : GO 0 [some (101, a0), none] [] h := by
  have e9 := Eq.trans (Eq.symm (qe_Le_startQueued zin a0 h)) hr
  generalize (400 : Nat) = f9 at e9
  refine hS _ _ (zcal_s (SP := zKsp l true zi r) _ ?_) (zorc_s _ ?_) _ _ _ _ _ e9
  · exact trivial
  · exact ⟨zap2_s (P := fun xs h => GO 2 (zfl [some (101, none), some (0, none)] xs).1 (zfs [] (zfl [some (101, none), some (0, none)] xs).2) h) (fun x0 x1 h hr => s_Le_startQueued_2 hS k249 x0 x1 h hr), trivial⟩
set_option maxRecDepth 100000 in
set_option maxHeartbeats 0 in
theorem s_Gr_canAct_21 {l : Launch} {zi : Nat → zinfo} {r : zRes} {GO : Nat → List (Option zV) → List zV → zH → Prop} (hS : zSg l true zi (zget (999, 0, 0, 0) zc_Gr_canAct) (zcut zu_Gr_canAct) zin (fun _ _ => none) r GO) (k205 : ∀ (x0 : Int) (h : zH) (k : (Int → zH → Option zRes)) (t : (Nat → zH → Option zRes)), Gr_leastPlace x0 h k = some r → zKsp l true zi r 205 [x0] h k t) (t0 : Int) (h : zH) (hr : Gr_canAct_21 zin t0 h = some r) : GO 21 [none, none] [(0, t0)] h := by
  have e9 := Eq.trans (Eq.symm (qe_Gr_canAct_21 zin t0 h)) hr
  generalize (400 : Nat) = f9 at e9
  refine hS _ _ (zcal_s (SP := zKsp l true zi r) _ ?_) (zorc_s _ ?_) _ _ _ _ _ e9
  · exact trivial
  · exact trivial
set_option maxRecDepth 100000 in
set_option maxHeartbeats 0 in
theorem s_Gr_canAct_20 {l : Launch} {zi : Nat → zinfo} {r : zRes} {GO : Nat → List (Option zV) → List zV → zH → Prop} (hS : zSg l true zi (zget (999, 0, 0, 0) zc_Gr_canAct) (zcut zu_Gr_canAct) zin (fun _ _ => none) r GO) (k205 : ∀ (x0 : Int) (h : zH) (k : (Int → zH → Option zRes)) (t : (Nat → zH → Option zRes)), Gr_leastPlace x0 h k = some r → zKsp l true zi r 205 [x0] h k t) (h : zH) (hr : Gr_canAct_20 zin h = some r) : GO 20 [none, none] [] h := by
  have e9 := Eq.trans (Eq.symm (qe_Gr_canAct_20 zin h)) hr
  generalize (400 : Nat) = f9 at e9
  refine hS _ _ (zcal_s (SP := zKsp l true zi r) _ ?_) (zorc_s _ ?_) _ _ _ _ _ e9
  · exact trivial
  · exact ⟨zap1_s (P := fun xs h => GO 21 (zfl [none, none] xs).1 (zfs [(0, none)] (zfl [none, none] xs).2) h) (fun x0 h hr => s_Gr_canAct_21 hS k205 x0 h hr), trivial⟩
set_option maxRecDepth 100000 in
set_option maxHeartbeats 0 in
theorem s_Gr_canAct {l : Launch} {zi : Nat → zinfo} {r : zRes} {GO : Nat → List (Option zV) → List zV → zH → Prop} (hS : zSg l true zi (zget (999, 0, 0, 0) zc_Gr_canAct) (zcut zu_Gr_canAct) zin (fun _ _ => none) r GO) (k205 : ∀ (x0 : Int) (h : zH) (k : (Int → zH → Option zRes)) (t : (Nat → zH → Option zRes)), Gr_leastPlace x0 h k = some r → zKsp l true zi r 205 [x0] h k t) (a0 a1 : Int) (h : zH) (hr : Gr_canAct a0 a1 h zin = some r) : GO 0 [some (111, a0), some (0, a1)] [] h := by
  have e9 := Eq.trans (Eq.symm (qe_Gr_canAct zin a0 a1 h)) hr
  generalize (400 : Nat) = f9 at e9
  refine hS _ _ (zcal_s (SP := zKsp l true zi r) _ ?_) (zorc_s _ ?_) _ _ _ _ _ e9
  · exact ⟨zca1_s (SP := fun xs h k t => zKsp l true zi r 205 (zfc [none] xs) h k t) k205, trivial⟩
  · exact ⟨zap0_s (P := fun xs h => GO 20 (zfl [none, none] xs).1 (zfs [] (zfl [none, none] xs).2) h) (fun  h hr => s_Gr_canAct_20 hS k205  h hr), ⟨zap1_s (P := fun xs h => GO 21 (zfl [none, none] xs).1 (zfs [(0, none)] (zfl [none, none] xs).2) h) (fun x0 h hr => s_Gr_canAct_21 hS k205 x0 h hr), trivial⟩⟩
set_option maxRecDepth 100000 in
set_option maxHeartbeats 0 in
theorem s_Un_indexOfLast_2b {l : Launch} {zi : Nat → zinfo} {r : zRes} {GO : Nat → List (Option zV) → List zV → zH → Prop} (hS : zSg l true zi (zget (999, 0, 0, 0) zc_Un_indexOfLast) (zcut zu_Un_indexOfLast) zin (fun _ _ => none) r GO) {r2 : Int → Int → zH → Option zRes} (h2 : ∀ (x0 x1 : Int) (h : zH), r2 x0 x1 h = some r → GO 2 [some (103, x0), some (0, x1)] [] h) (a0 a1 : Int) (h : zH) (hr : Un_indexOfLast_2b zin r2 a0 a1 h = some r) : GO 2 [some (103, a0), some (0, a1)] [] h := by
  have e9 := Eq.trans (Eq.symm (qe_Un_indexOfLast_2b zin r2 a0 a1 h)) hr
  generalize (400 : Nat) = f9 at e9
  refine hS _ _ (zcal_s (SP := zKsp l true zi r) _ ?_) (zorc_s _ ?_) _ _ _ _ _ e9
  · exact trivial
  · exact ⟨zap2_s (P := fun xs h => GO 2 (zfl [some (103, none), some (0, none)] xs).1 (zfs [] (zfl [some (103, none), some (0, none)] xs).2) h) h2, trivial⟩
set_option maxRecDepth 100000 in
set_option maxHeartbeats 0 in
theorem s_Un_indexOfLast_2 {l : Launch} {zi : Nat → zinfo} {r : zRes} {GO : Nat → List (Option zV) → List zV → zH → Prop} (hS : zSg l true zi (zget (999, 0, 0, 0) zc_Un_indexOfLast) (zcut zu_Un_indexOfLast) zin (fun _ _ => none) r GO) (a0 a1 : Int) (h : zH) (hr : Un_indexOfLast_2 zin a0 a1 h = some r) : GO 2 [some (103, a0), some (0, a1)] [] h := zit2_s (P := fun x0 x1 h => GO 2 [some (103, x0), some (0, x1)] [] h) (fun rr hh a0 a1 h hr => s_Un_indexOfLast_2b hS hh a0 a1 h hr) zN a0 a1 h hr
set_option maxRecDepth 100000 in
set_option maxHeartbeats 0 in
theorem s_Un_indexOfLast {l : Launch} {zi : Nat → zinfo} {r : zRes} {GO : Nat → List (Option zV) → List zV → zH → Prop} (hS : zSg l true zi (zget (999, 0, 0, 0) zc_Un_indexOfLast) (zcut zu_Un_indexOfLast) zin (fun _ _ => none) r GO) (a0 : Int) (h : zH) (hr : Un_indexOfLast a0 h zin = some r) : GO 0 [some (103, a0), none] [] h := by
  have e9 := Eq.trans (Eq.symm (qe_Un_indexOfLast zin a0 h)) hr
  generalize (400 : Nat) = f9 at e9
  refine hS _ _ (zcal_s (SP := zKsp l true zi r) _ ?_) (zorc_s _ ?_) _ _ _ _ _ e9
  · exact trivial
  · exact ⟨zap2_s (P := fun xs h => GO 2 (zfl [some (103, none), some (0, none)] xs).1 (zfs [] (zfl [some (103, none), some (0, none)] xs).2) h) (fun x0 x1 h hr => s_Un_indexOfLast_2 hS x0 x1 h hr), trivial⟩
set_option maxRecDepth 100000 in
set_option maxHeartbeats 0 in
theorem s_Un_choose_56 {l : Launch} {zi : Nat → zinfo} {r : zRes} {GO : Nat → List (Option zV) → List zV → zH → Prop} (hS : zSg l true zi (zget (999, 0, 0, 0) zc_Un_choose) (zcut zu_Un_choose) zin (fun _ _ => none) r GO) (k210 : ∀ (x0 x1 : Int) (h : zH) (k : (Int → zH → Option zRes)) (t : (Nat → zH → Option zRes)), Gr_canAct x0 x1 h k = some r → zKsp l true zi r 210 [x0, x1] h k t) (k286 : ∀ (x0 : Int) (h : zH) (k : (Int → zH → Option zRes)) (t : (Nat → zH → Option zRes)), Un_indexOfLast x0 h k = some r → zKsp l true zi r 286 [x0] h k t) {r20 : Int → Int → Int → Int → Int → zH → Option zRes} (h20 : ∀ (x0 x1 x2 x3 x4 : Int) (h : zH), r20 x0 x1 x2 x3 x4 h = some r → GO 20 [some (103, x0), some (0, x1), some (0, x2), some (0, x3), some (0, x4), none] [] h) (a0 a1 a2 a3 a4 t0 : Int) (h : zH) (hr : Un_choose_56 zin r20 a0 a1 a2 a3 a4 t0 h = some r) : GO 56 [some (103, a0), some (0, a1), some (0, a2), some (0, a3), some (0, a4), none] [(0, t0)] h := by
  have e9 := Eq.trans (Eq.symm (qe_Un_choose_56 zin r20 a0 a1 a2 a3 a4 t0 h)) hr
  generalize (400 : Nat) = f9 at e9
  refine hS _ _ (zcal_s (SP := zKsp l true zi r) _ ?_) (zorc_s _ ?_) _ _ _ _ _ e9
  · exact ⟨zca2_s (SP := fun xs h k t => zKsp l true zi r 210 (zfc [none, none] xs) h k t) k210, trivial⟩
  · exact ⟨zap5_s (P := fun xs h => GO 20 (zfl [some (103, none), some (0, none), some (0, none), some (0, none), some (0, none), none] xs).1 (zfs [] (zfl [some (103, none), some (0, none), some (0, none), some (0, none), some (0, none), none] xs).2) h) h20, trivial⟩
set_option maxRecDepth 100000 in
set_option maxHeartbeats 0 in
theorem s_Un_choose_20b {l : Launch} {zi : Nat → zinfo} {r : zRes} {GO : Nat → List (Option zV) → List zV → zH → Prop} (hS : zSg l true zi (zget (999, 0, 0, 0) zc_Un_choose) (zcut zu_Un_choose) zin (fun _ _ => none) r GO) (k210 : ∀ (x0 x1 : Int) (h : zH) (k : (Int → zH → Option zRes)) (t : (Nat → zH → Option zRes)), Gr_canAct x0 x1 h k = some r → zKsp l true zi r 210 [x0, x1] h k t) (k286 : ∀ (x0 : Int) (h : zH) (k : (Int → zH → Option zRes)) (t : (Nat → zH → Option zRes)), Un_indexOfLast x0 h k = some r → zKsp l true zi r 286 [x0] h k t) {r20 : Int → Int → Int → Int → Int → zH → Option zRes} (h20 : ∀ (x0 x1 x2 x3 x4 : Int) (h : zH), r20 x0 x1 x2 x3 x4 h = some r → GO 20 [some (103, x0), some (0, x1), some (0, x2), some (0, x3), some (0, x4), none] [] h) (a0 a1 a2 a3 a4 : Int) (h : zH) (hr : Un_choose_20b zin r20 a0 a1 a2 a3 a4 h = some r) : GO 20 [some (103, a0), some (0, a1), some (0, a2), some (0, a3), some (0, a4), none] [] h := by
  have e9 := Eq.trans (Eq.symm (qe_Un_choose_20b zin r20 a0 a1 a2 a3 a4 h)) hr
  generalize (400 : Nat) = f9 at e9
  refine hS _ _ (zcal_s (SP := zKsp l true zi r) _ ?_) (zorc_s _ ?_) _ _ _ _ _ e9
  · exact trivial
  · exact ⟨zap6_s (P := fun xs h => GO 56 (zfl [some (103, none), some (0, none), some (0, none), some (0, none), some (0, none), none] xs).1 (zfs [(0, none)] (zfl [some (103, none), some (0, none), some (0, none), some (0, none), some (0, none), none] xs).2) h) (fun x0 x1 x2 x3 x4 x5 h hr => s_Un_choose_56 hS k210 k286 h20 x0 x1 x2 x3 x4 x5 h hr), trivial⟩
set_option maxRecDepth 100000 in
set_option maxHeartbeats 0 in
theorem s_Un_choose_20 {l : Launch} {zi : Nat → zinfo} {r : zRes} {GO : Nat → List (Option zV) → List zV → zH → Prop} (hS : zSg l true zi (zget (999, 0, 0, 0) zc_Un_choose) (zcut zu_Un_choose) zin (fun _ _ => none) r GO) (k210 : ∀ (x0 x1 : Int) (h : zH) (k : (Int → zH → Option zRes)) (t : (Nat → zH → Option zRes)), Gr_canAct x0 x1 h k = some r → zKsp l true zi r 210 [x0, x1] h k t) (k286 : ∀ (x0 : Int) (h : zH) (k : (Int → zH → Option zRes)) (t : (Nat → zH → Option zRes)), Un_indexOfLast x0 h k = some r → zKsp l true zi r 286 [x0] h k t) (a0 a1 a2 a3 a4 : Int) (h : zH) (hr : Un_choose_20 zin a0 a1 a2 a3 a4 h = some r) : GO 20 [some (103, a0), some (0, a1), some (0, a2), some (0, a3), some (0, a4), none] [] h := zit5_s (P := fun x0 x1 x2 x3 x4 h => GO 20 [some (103, x0), some (0, x1), some (0, x2), some (0, x3), some (0, x4), none] [] h) (fun rr hh a0 a1 a2 a3 a4 h hr => s_Un_choose_20b hS k210 k286 hh a0 a1 a2 a3 a4 h hr) zN a0 a1 a2 a3 a4 h hr
set_option maxRecDepth 100000 in
set_option maxHeartbeats 0 in
theorem s_Un_choose_16 {l : Launch} {zi : Nat → zinfo} {r : zRes} {GO : Nat → List (Option zV) → List zV → zH → Prop} (hS : zSg l true zi (zget (999, 0, 0, 0) zc_Un_choose) (zcut zu_Un_choose) zin (fun _ _ => none) r GO) (k210 : ∀ (x0 x1 : Int) (h : zH) (k : (Int → zH → Option zRes)) (t : (Nat → zH → Option zRes)), Gr_canAct x0 x1 h k = some r → zKsp l true zi r 210 [x0, x1] h k t) (k286 : ∀ (x0 : Int) (h : zH) (k : (Int → zH → Option zRes)) (t : (Nat → zH → Option zRes)), Un_indexOfLast x0 h k = some r → zKsp l true zi r 286 [x0] h k t) (a0 a1 a2 t0 : Int) (h : zH) (hr : Un_choose_16 zin a0 a1 a2 t0 h = some r) : GO 16 [some (103, a0), some (0, a1), some (0, a2), none, none, none] [(0, t0)] h := by
  have e9 := Eq.trans (Eq.symm (qe_Un_choose_16 zin a0 a1 a2 t0 h)) hr
  generalize (400 : Nat) = f9 at e9
  refine hS _ _ (zcal_s (SP := zKsp l true zi r) _ ?_) (zorc_s _ ?_) _ _ _ _ _ e9
  · exact trivial
  · exact ⟨zap5_s (P := fun xs h => GO 20 (zfl [some (103, none), some (0, none), some (0, none), some (0, none), some (0, none), none] xs).1 (zfs [] (zfl [some (103, none), some (0, none), some (0, none), some (0, none), some (0, none), none] xs).2) h) (fun x0 x1 x2 x3 x4 h hr => s_Un_choose_20 hS k210 k286 x0 x1 x2 x3 x4 h hr), trivial⟩
set_option maxRecDepth 100000 in
set_option maxHeartbeats 0 in
theorem s_Un_choose {l : Launch} {zi : Nat → zinfo} {r : zRes} {GO : Nat → List (Option zV) → List zV → zH → Prop} (hS : zSg l true zi (zget (999, 0, 0, 0) zc_Un_choose) (zcut zu_Un_choose) zin (fun _ _ => none) r GO) (k210 : ∀ (x0 x1 : Int) (h : zH) (k : (Int → zH → Option zRes)) (t : (Nat → zH → Option zRes)), Gr_canAct x0 x1 h k = some r → zKsp l true zi r 210 [x0, x1] h k t) (k286 : ∀ (x0 : Int) (h : zH) (k : (Int → zH → Option zRes)) (t : (Nat → zH → Option zRes)), Un_indexOfLast x0 h k = some r → zKsp l true zi r 286 [x0] h k t) (a0 a1 a2 : Int) (h : zH) (hr : Un_choose a0 a1 a2 h zin = some r) : GO 0 [some (103, a0), some (0, a1), some (0, a2), none, none, none] [] h := by
  have e9 := Eq.trans (Eq.symm (qe_Un_choose zin a0 a1 a2 h)) hr
  generalize (400 : Nat) = f9 at e9
  refine hS _ _ (zcal_s (SP := zKsp l true zi r) _ ?_) (zorc_s _ ?_) _ _ _ _ _ e9
  · exact ⟨zca1_s (SP := fun xs h k t => zKsp l true zi r 286 (zfc [none] xs) h k t) k286, trivial⟩
  · exact ⟨zap4_s (P := fun xs h => GO 16 (zfl [some (103, none), some (0, none), some (0, none), none, none, none] xs).1 (zfs [(0, none)] (zfl [some (103, none), some (0, none), some (0, none), none, none, none] xs).2) h) (fun x0 x1 x2 x3 h hr => s_Un_choose_16 hS k210 k286 x0 x1 x2 x3 h hr), trivial⟩
set_option maxRecDepth 100000 in
set_option maxHeartbeats 0 in
theorem s_Co_letCycleCome_66 {l : Launch} {zi : Nat → zinfo} {r : zRes} {GO : Nat → List (Option zV) → List zV → zH → Prop} (hS : zSg l true zi (zget (999, 0, 0, 0) zc_Co_letCycleCome) (zcut zu_Co_letCycleCome) zin (fun _ _ => none) r GO) (k181 : ∀ (x0 : Int) (h : zH) (k : (Int → zH → Option zRes)) (t : (Nat → zH → Option zRes)), Co_moveCopies x0 h k = some r → zKsp l true zi r 181 [x0] h k t) (k182 : ∀ (x0 : Int) (h : zH) (k : (Int → zH → Option zRes)) (t : (Nat → zH → Option zRes)), Co_giveBlocks x0 h k = some r → zKsp l true zi r 182 [x0] h k t) (k185 : ∀ (x0 : Int) (h : zH) (k : (Int → zH → Option zRes)) (t : (Nat → zH → Option zRes)), Co_writeFirstOfBuffers x0 h k = some r → zKsp l true zi r 185 [x0] h k t) (k186 : ∀ (x0 x1 x2 : Int) (h : zH) (k : (Int → zH → Option zRes)) (t : (Nat → zH → Option zRes)), Co_carryOut x0 x1 x2 h k = some r → zKsp l true zi r 186 [x0, x1, x2] h k t) (k197 : ∀ (x0 x1 : Int) (h : zH) (k : (Int → zH → Option zRes)) (t : (Nat → zH → Option zRes)), Co_settle x0 x1 h k = some r → zKsp l true zi r 197 [x0, x1] h k t) (k248 : ∀ (x0 : Int) (h : zH) (k : (Int → zH → Option zRes)) (t : (Nat → zH → Option zRes)), Le_startQueued x0 h k = some r → zKsp l true zi r 248 [x0] h k t) (k285 : ∀ (x0 x1 x2 : Int) (h : zH) (k : (Int → zH → Option zRes)) (t : (Nat → zH → Option zRes)), Un_choose x0 x1 x2 h k = some r → zKsp l true zi r 285 [x0, x1, x2] h k t) {r17 : Int → Int → zH → Option zRes} (h17 : ∀ (x0 x1 : Int) (h : zH), r17 x0 x1 h = some r → GO 17 [some (102, x0), some (0, x1), none] [] h) (a0 a1 : Int) (h : zH) (hr : Co_letCycleCome_66 zin r17 a0 a1 h = some r) : GO 66 [some (102, a0), some (0, a1), none] [] h := by
  have e9 := Eq.trans (Eq.symm (qe_Co_letCycleCome_66 zin r17 a0 a1 h)) hr
  generalize (400 : Nat) = f9 at e9
  refine hS _ _ (zcal_s (SP := zKsp l true zi r) _ ?_) (zorc_s _ ?_) _ _ _ _ _ e9
  · exact trivial
  · exact ⟨zap2_s (P := fun xs h => GO 17 (zfl [some (102, none), some (0, none), none] xs).1 (zfs [] (zfl [some (102, none), some (0, none), none] xs).2) h) h17, trivial⟩
set_option maxRecDepth 100000 in
set_option maxHeartbeats 0 in
theorem s_Co_letCycleCome_86 {l : Launch} {zi : Nat → zinfo} {r : zRes} {GO : Nat → List (Option zV) → List zV → zH → Prop} (hS : zSg l true zi (zget (999, 0, 0, 0) zc_Co_letCycleCome) (zcut zu_Co_letCycleCome) zin (fun _ _ => none) r GO) (k181 : ∀ (x0 : Int) (h : zH) (k : (Int → zH → Option zRes)) (t : (Nat → zH → Option zRes)), Co_moveCopies x0 h k = some r → zKsp l true zi r 181 [x0] h k t) (k182 : ∀ (x0 : Int) (h : zH) (k : (Int → zH → Option zRes)) (t : (Nat → zH → Option zRes)), Co_giveBlocks x0 h k = some r → zKsp l true zi r 182 [x0] h k t) (k185 : ∀ (x0 : Int) (h : zH) (k : (Int → zH → Option zRes)) (t : (Nat → zH → Option zRes)), Co_writeFirstOfBuffers x0 h k = some r → zKsp l true zi r 185 [x0] h k t) (k186 : ∀ (x0 x1 x2 : Int) (h : zH) (k : (Int → zH → Option zRes)) (t : (Nat → zH → Option zRes)), Co_carryOut x0 x1 x2 h k = some r → zKsp l true zi r 186 [x0, x1, x2] h k t) (k197 : ∀ (x0 x1 : Int) (h : zH) (k : (Int → zH → Option zRes)) (t : (Nat → zH → Option zRes)), Co_settle x0 x1 h k = some r → zKsp l true zi r 197 [x0, x1] h k t) (k248 : ∀ (x0 : Int) (h : zH) (k : (Int → zH → Option zRes)) (t : (Nat → zH → Option zRes)), Le_startQueued x0 h k = some r → zKsp l true zi r 248 [x0] h k t) (k285 : ∀ (x0 x1 x2 : Int) (h : zH) (k : (Int → zH → Option zRes)) (t : (Nat → zH → Option zRes)), Un_choose x0 x1 x2 h k = some r → zKsp l true zi r 285 [x0, x1, x2] h k t) (a0 : Int) (h : zH) (hr : Co_letCycleCome_86 zin a0 h = some r) : GO 86 [some (102, a0), none, none] [] h := by
  have e9 := Eq.trans (Eq.symm (qe_Co_letCycleCome_86 zin a0 h)) hr
  generalize (400 : Nat) = f9 at e9
  refine hS _ _ (zcal_s (SP := zKsp l true zi r) _ ?_) (zorc_s _ ?_) _ _ _ _ _ e9
  · exact trivial
  · exact trivial
set_option maxRecDepth 100000 in
set_option maxHeartbeats 0 in
theorem s_Co_letCycleCome_17b {l : Launch} {zi : Nat → zinfo} {r : zRes} {GO : Nat → List (Option zV) → List zV → zH → Prop} (hS : zSg l true zi (zget (999, 0, 0, 0) zc_Co_letCycleCome) (zcut zu_Co_letCycleCome) zin (fun _ _ => none) r GO) (k181 : ∀ (x0 : Int) (h : zH) (k : (Int → zH → Option zRes)) (t : (Nat → zH → Option zRes)), Co_moveCopies x0 h k = some r → zKsp l true zi r 181 [x0] h k t) (k182 : ∀ (x0 : Int) (h : zH) (k : (Int → zH → Option zRes)) (t : (Nat → zH → Option zRes)), Co_giveBlocks x0 h k = some r → zKsp l true zi r 182 [x0] h k t) (k185 : ∀ (x0 : Int) (h : zH) (k : (Int → zH → Option zRes)) (t : (Nat → zH → Option zRes)), Co_writeFirstOfBuffers x0 h k = some r → zKsp l true zi r 185 [x0] h k t) (k186 : ∀ (x0 x1 x2 : Int) (h : zH) (k : (Int → zH → Option zRes)) (t : (Nat → zH → Option zRes)), Co_carryOut x0 x1 x2 h k = some r → zKsp l true zi r 186 [x0, x1, x2] h k t) (k197 : ∀ (x0 x1 : Int) (h : zH) (k : (Int → zH → Option zRes)) (t : (Nat → zH → Option zRes)), Co_settle x0 x1 h k = some r → zKsp l true zi r 197 [x0, x1] h k t) (k248 : ∀ (x0 : Int) (h : zH) (k : (Int → zH → Option zRes)) (t : (Nat → zH → Option zRes)), Le_startQueued x0 h k = some r → zKsp l true zi r 248 [x0] h k t) (k285 : ∀ (x0 x1 x2 : Int) (h : zH) (k : (Int → zH → Option zRes)) (t : (Nat → zH → Option zRes)), Un_choose x0 x1 x2 h k = some r → zKsp l true zi r 285 [x0, x1, x2] h k t) {r17 : Int → Int → zH → Option zRes} (h17 : ∀ (x0 x1 : Int) (h : zH), r17 x0 x1 h = some r → GO 17 [some (102, x0), some (0, x1), none] [] h) (a0 a1 : Int) (h : zH) (hr : Co_letCycleCome_17b zin r17 a0 a1 h = some r) : GO 17 [some (102, a0), some (0, a1), none] [] h := by
  have e9 := Eq.trans (Eq.symm (qe_Co_letCycleCome_17b zin r17 a0 a1 h)) hr
  generalize (400 : Nat) = f9 at e9
  refine hS _ _ (zcal_s (SP := zKsp l true zi r) _ ?_) (zorc_s _ ?_) _ _ _ _ _ e9
  · exact ⟨zca1_s (SP := fun xs h k t => zKsp l true zi r 185 (zfc [none] xs) h k t) k185, ⟨zca3_s (SP := fun xs h k t => zKsp l true zi r 186 (zfc [none, none, none] xs) h k t) k186, ⟨zca2_s (SP := fun xs h k t => zKsp l true zi r 197 (zfc [none, none] xs) h k t) k197, ⟨zca3_s (SP := fun xs h k t => zKsp l true zi r 285 (zfc [none, none, none] xs) h k t) k285, trivial⟩⟩⟩⟩
  · exact ⟨zap2_s (P := fun xs h => GO 66 (zfl [some (102, none), some (0, none), none] xs).1 (zfs [] (zfl [some (102, none), some (0, none), none] xs).2) h) (fun x0 x1 h hr => s_Co_letCycleCome_66 hS k181 k182 k185 k186 k197 k248 k285 h17 x0 x1 h hr), ⟨zap1_s (P := fun xs h => GO 86 (zfl [some (102, none), none, none] xs).1 (zfs [] (zfl [some (102, none), none, none] xs).2) h) (fun x0 h hr => s_Co_letCycleCome_86 hS k181 k182 k185 k186 k197 k248 k285 x0 h hr), trivial⟩⟩
set_option maxRecDepth 100000 in
set_option maxHeartbeats 0 in
theorem s_Co_letCycleCome_17 {l : Launch} {zi : Nat → zinfo} {r : zRes} {GO : Nat → List (Option zV) → List zV → zH → Prop} (hS : zSg l true zi (zget (999, 0, 0, 0) zc_Co_letCycleCome) (zcut zu_Co_letCycleCome) zin (fun _ _ => none) r GO) (k181 : ∀ (x0 : Int) (h : zH) (k : (Int → zH → Option zRes)) (t : (Nat → zH → Option zRes)), Co_moveCopies x0 h k = some r → zKsp l true zi r 181 [x0] h k t) (k182 : ∀ (x0 : Int) (h : zH) (k : (Int → zH → Option zRes)) (t : (Nat → zH → Option zRes)), Co_giveBlocks x0 h k = some r → zKsp l true zi r 182 [x0] h k t) (k185 : ∀ (x0 : Int) (h : zH) (k : (Int → zH → Option zRes)) (t : (Nat → zH → Option zRes)), Co_writeFirstOfBuffers x0 h k = some r → zKsp l true zi r 185 [x0] h k t) (k186 : ∀ (x0 x1 x2 : Int) (h : zH) (k : (Int → zH → Option zRes)) (t : (Nat → zH → Option zRes)), Co_carryOut x0 x1 x2 h k = some r → zKsp l true zi r 186 [x0, x1, x2] h k t) (k197 : ∀ (x0 x1 : Int) (h : zH) (k : (Int → zH → Option zRes)) (t : (Nat → zH → Option zRes)), Co_settle x0 x1 h k = some r → zKsp l true zi r 197 [x0, x1] h k t) (k248 : ∀ (x0 : Int) (h : zH) (k : (Int → zH → Option zRes)) (t : (Nat → zH → Option zRes)), Le_startQueued x0 h k = some r → zKsp l true zi r 248 [x0] h k t) (k285 : ∀ (x0 x1 x2 : Int) (h : zH) (k : (Int → zH → Option zRes)) (t : (Nat → zH → Option zRes)), Un_choose x0 x1 x2 h k = some r → zKsp l true zi r 285 [x0, x1, x2] h k t) (a0 a1 : Int) (h : zH) (hr : Co_letCycleCome_17 zin a0 a1 h = some r) : GO 17 [some (102, a0), some (0, a1), none] [] h := zit2_s (P := fun x0 x1 h => GO 17 [some (102, x0), some (0, x1), none] [] h) (fun rr hh a0 a1 h hr => s_Co_letCycleCome_17b hS k181 k182 k185 k186 k197 k248 k285 hh a0 a1 h hr) zN a0 a1 h hr
set_option maxRecDepth 100000 in
set_option maxHeartbeats 0 in
theorem s_Co_letCycleCome {l : Launch} {zi : Nat → zinfo} {r : zRes} {GO : Nat → List (Option zV) → List zV → zH → Prop} (hS : zSg l true zi (zget (999, 0, 0, 0) zc_Co_letCycleCome) (zcut zu_Co_letCycleCome) zin (fun _ _ => none) r GO) (k181 : ∀ (x0 : Int) (h : zH) (k : (Int → zH → Option zRes)) (t : (Nat → zH → Option zRes)), Co_moveCopies x0 h k = some r → zKsp l true zi r 181 [x0] h k t) (k182 : ∀ (x0 : Int) (h : zH) (k : (Int → zH → Option zRes)) (t : (Nat → zH → Option zRes)), Co_giveBlocks x0 h k = some r → zKsp l true zi r 182 [x0] h k t) (k185 : ∀ (x0 : Int) (h : zH) (k : (Int → zH → Option zRes)) (t : (Nat → zH → Option zRes)), Co_writeFirstOfBuffers x0 h k = some r → zKsp l true zi r 185 [x0] h k t) (k186 : ∀ (x0 x1 x2 : Int) (h : zH) (k : (Int → zH → Option zRes)) (t : (Nat → zH → Option zRes)), Co_carryOut x0 x1 x2 h k = some r → zKsp l true zi r 186 [x0, x1, x2] h k t) (k197 : ∀ (x0 x1 : Int) (h : zH) (k : (Int → zH → Option zRes)) (t : (Nat → zH → Option zRes)), Co_settle x0 x1 h k = some r → zKsp l true zi r 197 [x0, x1] h k t) (k248 : ∀ (x0 : Int) (h : zH) (k : (Int → zH → Option zRes)) (t : (Nat → zH → Option zRes)), Le_startQueued x0 h k = some r → zKsp l true zi r 248 [x0] h k t) (k285 : ∀ (x0 x1 x2 : Int) (h : zH) (k : (Int → zH → Option zRes)) (t : (Nat → zH → Option zRes)), Un_choose x0 x1 x2 h k = some r → zKsp l true zi r 285 [x0, x1, x2] h k t) (a0 : Int) (h : zH) (hr : Co_letCycleCome a0 h zin = some r) : GO 0 [some (102, a0), none, none] [] h := by
  have e9 := Eq.trans (Eq.symm (qe_Co_letCycleCome zin a0 h)) hr
  generalize (400 : Nat) = f9 at e9
  refine hS _ _ (zcal_s (SP := zKsp l true zi r) _ ?_) (zorc_s _ ?_) _ _ _ _ _ e9
  · exact ⟨zca1_s (SP := fun xs h k t => zKsp l true zi r 181 (zfc [none] xs) h k t) k181, ⟨zca1_s (SP := fun xs h k t => zKsp l true zi r 182 (zfc [none] xs) h k t) k182, ⟨zca1_s (SP := fun xs h k t => zKsp l true zi r 248 (zfc [none] xs) h k t) k248, trivial⟩⟩⟩
  · exact ⟨zap2_s (P := fun xs h => GO 17 (zfl [some (102, none), some (0, none), none] xs).1 (zfs [] (zfl [some (102, none), some (0, none), none] xs).2) h) (fun x0 x1 h hr => s_Co_letCycleCome_17 hS k181 k182 k185 k186 k197 k248 k285 x0 x1 h hr), trivial⟩
set_option maxRecDepth 100000 in
set_option maxHeartbeats 0 in
theorem s_X_step_32b {l : Launch} {zi : Nat → zinfo} {r : zRes} {GO : Nat → List (Option zV) → List zV → zH → Prop} (hS : zSg l true zi (zget (999, 0, 0, 0) zc_X_step) (zcut zu_X_step) zin zth r GO) (k54 : ∀ (x0 x1 x2 : Int) (h : zH) (k : (Int → zH → Option zRes)) (t : (Nat → zH → Option zRes)), X_isWithin x0 x1 x2 h k = some r → zKsp l true zi r 54 [x0, x1, x2] h k t) (k180 : ∀ (x0 : Int) (h : zH) (k : (Int → zH → Option zRes)) (t : (Nat → zH → Option zRes)), Co_letCycleCome x0 h k = some r → zKsp l true zi r 180 [x0] h k t) {r32 : Int → Int → Int → Int → zH → Option zRes} (h32 : ∀ (x0 x1 x2 x3 : Int) (h : zH), r32 x0 x1 x2 x3 h = some r → GO 32 [some (100, x0), some (0, x1), some (1, x2), none, some (0, x3)] [] h) (a0 a1 a2 a4 : Int) (h : zH) (hr : X_step_32b zin zth r32 a0 a1 a2 a4 h = some r) : GO 32 [some (100, a0), some (0, a1), some (1, a2), none, some (0, a4)] [] h := by
  have e9 := Eq.trans (Eq.symm (qe_X_step_32b zin zth r32 a0 a1 a2 a4 h)) hr
  generalize (400 : Nat) = f9 at e9
  refine hS _ _ (zcal_s (SP := zKsp l true zi r) _ ?_) (zorc_s _ ?_) _ _ _ _ _ e9
  · exact ⟨zca1_s (SP := fun xs h k t => zKsp l true zi r 180 (zfc [none] xs) h k t) k180, trivial⟩
  · exact ⟨zap4_s (P := fun xs h => GO 32 (zfl [some (100, none), some (0, none), some (1, none), none, some (0, none)] xs).1 (zfs [] (zfl [some (100, none), some (0, none), some (1, none), none, some (0, none)] xs).2) h) h32, trivial⟩
set_option maxRecDepth 100000 in
set_option maxHeartbeats 0 in
theorem s_X_step_32 {l : Launch} {zi : Nat → zinfo} {r : zRes} {GO : Nat → List (Option zV) → List zV → zH → Prop} (hS : zSg l true zi (zget (999, 0, 0, 0) zc_X_step) (zcut zu_X_step) zin zth r GO) (k54 : ∀ (x0 x1 x2 : Int) (h : zH) (k : (Int → zH → Option zRes)) (t : (Nat → zH → Option zRes)), X_isWithin x0 x1 x2 h k = some r → zKsp l true zi r 54 [x0, x1, x2] h k t) (k180 : ∀ (x0 : Int) (h : zH) (k : (Int → zH → Option zRes)) (t : (Nat → zH → Option zRes)), Co_letCycleCome x0 h k = some r → zKsp l true zi r 180 [x0] h k t) (a0 a1 a2 a4 : Int) (h : zH) (hr : X_step_32 zin zth a0 a1 a2 a4 h = some r) : GO 32 [some (100, a0), some (0, a1), some (1, a2), none, some (0, a4)] [] h := zit4_s (P := fun x0 x1 x2 x3 h => GO 32 [some (100, x0), some (0, x1), some (1, x2), none, some (0, x3)] [] h) (fun rr hh a0 a1 a2 a4 h hr => s_X_step_32b hS k54 k180 hh a0 a1 a2 a4 h hr) zN a0 a1 a2 a4 h hr
set_option maxRecDepth 100000 in
set_option maxHeartbeats 0 in
theorem s_X_step {l : Launch} {zi : Nat → zinfo} {r : zRes} {GO : Nat → List (Option zV) → List zV → zH → Prop} (hS : zSg l true zi (zget (999, 0, 0, 0) zc_X_step) (zcut zu_X_step) zin zth r GO) (k54 : ∀ (x0 x1 x2 : Int) (h : zH) (k : (Int → zH → Option zRes)) (t : (Nat → zH → Option zRes)), X_isWithin x0 x1 x2 h k = some r → zKsp l true zi r 54 [x0, x1, x2] h k t) (k180 : ∀ (x0 : Int) (h : zH) (k : (Int → zH → Option zRes)) (t : (Nat → zH → Option zRes)), Co_letCycleCome x0 h k = some r → zKsp l true zi r 180 [x0] h k t) (a0 a1 : Int) (h : zH) (hr : X_step a0 a1 h zth zin = some r) : GO 0 [some (100, a0), some (0, a1), none, none, none] [] h := by
  have e9 := Eq.trans (Eq.symm (qe_X_step zin zth a0 a1 h)) hr
  generalize (400 : Nat) = f9 at e9
  refine hS _ _ (zcal_s (SP := zKsp l true zi r) _ ?_) (zorc_s _ ?_) _ _ _ _ _ e9
  · exact ⟨zca3_s (SP := fun xs h k t => zKsp l true zi r 54 (zfc [none, none, none] xs) h k t) k54, trivial⟩
  · exact ⟨zap4_s (P := fun xs h => GO 32 (zfl [some (100, none), some (0, none), some (1, none), none, some (0, none)] xs).1 (zfs [] (zfl [some (100, none), some (0, none), some (1, none), none, some (0, none)] xs).2) h) (fun x0 x1 x2 x3 h hr => s_X_step_32 hS k54 k180 x0 x1 x2 x3 h hr), trivial⟩
set_option maxRecDepth 100000 in
set_option maxHeartbeats 0 in
theorem s_Le_isAllOver_2b {l : Launch} {zi : Nat → zinfo} {r : zRes} {GO : Nat → List (Option zV) → List zV → zH → Prop} (hS : zSg l true zi (zget (999, 0, 0, 0) zc_Le_isAllOver) (zcut zu_Le_isAllOver) zin (fun _ _ => none) r GO) (k231 : ∀ (x0 : Int) (h : zH) (k : (Int → zH → Option zRes)) (t : (Nat → zH → Option zRes)), La_isOver x0 h k = some r → zKsp l true zi r 231 [x0] h k t) {r2 : Int → Int → zH → Option zRes} (h2 : ∀ (x0 x1 : Int) (h : zH), r2 x0 x1 h = some r → GO 2 [some (101, x0), some (0, x1)] [] h) (a0 a1 : Int) (h : zH) (hr : Le_isAllOver_2b zin r2 a0 a1 h = some r) : GO 2 [some (101, a0), some (0, a1)] [] h := by
  have e9 := Eq.trans (Eq.symm (qe_Le_isAllOver_2b zin r2 a0 a1 h)) hr
  generalize (400 : Nat) = f9 at e9
  refine hS _ _ (zcal_s (SP := zKsp l true zi r) _ ?_) (zorc_s _ ?_) _ _ _ _ _ e9
  · exact ⟨zca1_s (SP := fun xs h k t => zKsp l true zi r 231 (zfc [none] xs) h k t) k231, trivial⟩
  · exact ⟨zap2_s (P := fun xs h => GO 2 (zfl [some (101, none), some (0, none)] xs).1 (zfs [] (zfl [some (101, none), some (0, none)] xs).2) h) h2, trivial⟩
set_option maxRecDepth 100000 in
set_option maxHeartbeats 0 in
theorem s_Le_isAllOver_2 {l : Launch} {zi : Nat → zinfo} {r : zRes} {GO : Nat → List (Option zV) → List zV → zH → Prop} (hS : zSg l true zi (zget (999, 0, 0, 0) zc_Le_isAllOver) (zcut zu_Le_isAllOver) zin (fun _ _ => none) r GO) (k231 : ∀ (x0 : Int) (h : zH) (k : (Int → zH → Option zRes)) (t : (Nat → zH → Option zRes)), La_isOver x0 h k = some r → zKsp l true zi r 231 [x0] h k t) (a0 a1 : Int) (h : zH) (hr : Le_isAllOver_2 zin a0 a1 h = some r) : GO 2 [some (101, a0), some (0, a1)] [] h := zit2_s (P := fun x0 x1 h => GO 2 [some (101, x0), some (0, x1)] [] h) (fun rr hh a0 a1 h hr => s_Le_isAllOver_2b hS k231 hh a0 a1 h hr) zN a0 a1 h hr
set_option maxRecDepth 100000 in
set_option maxHeartbeats 0 in
theorem s_Le_isAllOver {l : Launch} {zi : Nat → zinfo} {r : zRes} {GO : Nat → List (Option zV) → List zV → zH → Prop} (hS : zSg l true zi (zget (999, 0, 0, 0) zc_Le_isAllOver) (zcut zu_Le_isAllOver) zin (fun _ _ => none) r GO) (k231 : ∀ (x0 : Int) (h : zH) (k : (Int → zH → Option zRes)) (t : (Nat → zH → Option zRes)), La_isOver x0 h k = some r → zKsp l true zi r 231 [x0] h k t) (a0 : Int) (h : zH) (hr : Le_isAllOver a0 h zin = some r) : GO 0 [some (101, a0), none] [] h := by
  have e9 := Eq.trans (Eq.symm (qe_Le_isAllOver zin a0 h)) hr
  generalize (400 : Nat) = f9 at e9
  refine hS _ _ (zcal_s (SP := zKsp l true zi r) _ ?_) (zorc_s _ ?_) _ _ _ _ _ e9
  · exact trivial
  · exact ⟨zap2_s (P := fun xs h => GO 2 (zfl [some (101, none), some (0, none)] xs).1 (zfs [] (zfl [some (101, none), some (0, none)] xs).2) h) (fun x0 x1 h hr => s_Le_isAllOver_2 hS k231 x0 x1 h hr), trivial⟩
set_option maxRecDepth 100000 in
set_option maxHeartbeats 0 in
theorem s_X_run_49 {l : Launch} {zi : Nat → zinfo} {r : zRes} {GO : Nat → List (Option zV) → List zV → zH → Prop} (hS : zSg l true zi (zget (999, 0, 0, 0) zc_X_run) (zcut zu_X_run) zin zth r GO) (k54 : ∀ (x0 x1 x2 : Int) (h : zH) (k : (Int → zH → Option zRes)) (t : (Nat → zH → Option zRes)), X_isWithin x0 x1 x2 h k = some r → zKsp l true zi r 54 [x0, x1, x2] h k t) (k180 : ∀ (x0 : Int) (h : zH) (k : (Int → zH → Option zRes)) (t : (Nat → zH → Option zRes)), Co_letCycleCome x0 h k = some r → zKsp l true zi r 180 [x0] h k t) (k247 : ∀ (x0 : Int) (h : zH) (k : (Int → zH → Option zRes)) (t : (Nat → zH → Option zRes)), Le_isAllOver x0 h k = some r → zKsp l true zi r 247 [x0] h k t) (a2 : Int) (h : zH) (hr : X_run_49 zin zth a2 h = some r) : GO 49 [none, none, some (0, a2)] [] h := by
  have e9 := Eq.trans (Eq.symm (qe_X_run_49 zin zth a2 h)) hr
  generalize (400 : Nat) = f9 at e9
  refine hS _ _ (zcal_s (SP := zKsp l true zi r) _ ?_) (zorc_s _ ?_) _ _ _ _ _ e9
  · exact trivial
  · exact trivial
set_option maxRecDepth 100000 in
set_option maxHeartbeats 0 in
theorem s_X_run_21b {l : Launch} {zi : Nat → zinfo} {r : zRes} {GO : Nat → List (Option zV) → List zV → zH → Prop} (hS : zSg l true zi (zget (999, 0, 0, 0) zc_X_run) (zcut zu_X_run) zin zth r GO) (k54 : ∀ (x0 x1 x2 : Int) (h : zH) (k : (Int → zH → Option zRes)) (t : (Nat → zH → Option zRes)), X_isWithin x0 x1 x2 h k = some r → zKsp l true zi r 54 [x0, x1, x2] h k t) (k180 : ∀ (x0 : Int) (h : zH) (k : (Int → zH → Option zRes)) (t : (Nat → zH → Option zRes)), Co_letCycleCome x0 h k = some r → zKsp l true zi r 180 [x0] h k t) (k247 : ∀ (x0 : Int) (h : zH) (k : (Int → zH → Option zRes)) (t : (Nat → zH → Option zRes)), Le_isAllOver x0 h k = some r → zKsp l true zi r 247 [x0] h k t) {r21 : Int → Int → Int → zH → Option zRes} (h21 : ∀ (x0 x1 x2 : Int) (h : zH), r21 x0 x1 x2 h = some r → GO 21 [some (100, x0), some (0, x1), some (0, x2)] [] h) (a0 a1 a2 : Int) (h : zH) (hr : X_run_21b zin zth r21 a0 a1 a2 h = some r) : GO 21 [some (100, a0), some (0, a1), some (0, a2)] [] h := by
  have e9 := Eq.trans (Eq.symm (qe_X_run_21b zin zth r21 a0 a1 a2 h)) hr
  generalize (400 : Nat) = f9 at e9
  refine hS _ _ (zcal_s (SP := zKsp l true zi r) _ ?_) (zorc_s _ ?_) _ _ _ _ _ e9
  · exact ⟨zca1_s (SP := fun xs h k t => zKsp l true zi r 180 (zfc [none] xs) h k t) k180, ⟨zca1_s (SP := fun xs h k t => zKsp l true zi r 247 (zfc [none] xs) h k t) k247, trivial⟩⟩
  · exact ⟨zap3_s (P := fun xs h => GO 21 (zfl [some (100, none), some (0, none), some (0, none)] xs).1 (zfs [] (zfl [some (100, none), some (0, none), some (0, none)] xs).2) h) h21, ⟨zap1_s (P := fun xs h => GO 49 (zfl [none, none, some (0, none)] xs).1 (zfs [] (zfl [none, none, some (0, none)] xs).2) h) (fun x0 h hr => s_X_run_49 hS k54 k180 k247 x0 h hr), trivial⟩⟩
set_option maxRecDepth 100000 in
set_option maxHeartbeats 0 in
theorem s_X_run_21 {l : Launch} {zi : Nat → zinfo} {r : zRes} {GO : Nat → List (Option zV) → List zV → zH → Prop} (hS : zSg l true zi (zget (999, 0, 0, 0) zc_X_run) (zcut zu_X_run) zin zth r GO) (k54 : ∀ (x0 x1 x2 : Int) (h : zH) (k : (Int → zH → Option zRes)) (t : (Nat → zH → Option zRes)), X_isWithin x0 x1 x2 h k = some r → zKsp l true zi r 54 [x0, x1, x2] h k t) (k180 : ∀ (x0 : Int) (h : zH) (k : (Int → zH → Option zRes)) (t : (Nat → zH → Option zRes)), Co_letCycleCome x0 h k = some r → zKsp l true zi r 180 [x0] h k t) (k247 : ∀ (x0 : Int) (h : zH) (k : (Int → zH → Option zRes)) (t : (Nat → zH → Option zRes)), Le_isAllOver x0 h k = some r → zKsp l true zi r 247 [x0] h k t) (a0 a1 a2 : Int) (h : zH) (hr : X_run_21 zin zth a0 a1 a2 h = some r) : GO 21 [some (100, a0), some (0, a1), some (0, a2)] [] h := zit3_s (P := fun x0 x1 x2 h => GO 21 [some (100, x0), some (0, x1), some (0, x2)] [] h) (fun rr hh a0 a1 a2 h hr => s_X_run_21b hS k54 k180 k247 hh a0 a1 a2 h hr) zN a0 a1 a2 h hr
set_option maxRecDepth 100000 in
set_option maxHeartbeats 0 in
theorem s_X_run {l : Launch} {zi : Nat → zinfo} {r : zRes} {GO : Nat → List (Option zV) → List zV → zH → Prop} (hS : zSg l true zi (zget (999, 0, 0, 0) zc_X_run) (zcut zu_X_run) zin zth r GO) (k54 : ∀ (x0 x1 x2 : Int) (h : zH) (k : (Int → zH → Option zRes)) (t : (Nat → zH → Option zRes)), X_isWithin x0 x1 x2 h k = some r → zKsp l true zi r 54 [x0, x1, x2] h k t) (k180 : ∀ (x0 : Int) (h : zH) (k : (Int → zH → Option zRes)) (t : (Nat → zH → Option zRes)), Co_letCycleCome x0 h k = some r → zKsp l true zi r 180 [x0] h k t) (k247 : ∀ (x0 : Int) (h : zH) (k : (Int → zH → Option zRes)) (t : (Nat → zH → Option zRes)), Le_isAllOver x0 h k = some r → zKsp l true zi r 247 [x0] h k t) (a0 a1 : Int) (h : zH) (hr : X_run a0 a1 h zth zin = some r) : GO 0 [some (100, a0), some (0, a1), none] [] h := by
  have e9 := Eq.trans (Eq.symm (qe_X_run zin zth a0 a1 h)) hr
  generalize (400 : Nat) = f9 at e9
  refine hS _ _ (zcal_s (SP := zKsp l true zi r) _ ?_) (zorc_s _ ?_) _ _ _ _ _ e9
  · exact ⟨zca3_s (SP := fun xs h k t => zKsp l true zi r 54 (zfc [none, none, none] xs) h k t) k54, trivial⟩
  · exact ⟨zap3_s (P := fun xs h => GO 21 (zfl [some (100, none), some (0, none), some (0, none)] xs).1 (zfs [] (zfl [some (100, none), some (0, none), some (0, none)] xs).2) h) (fun x0 x1 x2 h hr => s_X_run_21 hS k54 k180 k247 x0 x1 x2 h hr), trivial⟩
set_option maxRecDepth 100000 in
set_option maxHeartbeats 0 in
theorem s_X_setOrder_26 {l : Launch} {zi : Nat → zinfo} {r : zRes} {GO : Nat → List (Option zV) → List zV → zH → Prop} (hS : zSg l true zi (zget (999, 0, 0, 0) zc_X_setOrder) (zcut zu_X_setOrder) zin zth r GO) (a0 a1 : Int) (h : zH) (hr : X_setOrder_26 zin zth a0 a1 h = some r) : GO 26 [some (100, a0), some (0, a1), none] [] h := by
  have e9 := Eq.trans (Eq.symm (qe_X_setOrder_26 zin zth a0 a1 h)) hr
  generalize (400 : Nat) = f9 at e9
  refine hS _ _ (zcal_s (SP := zKsp l true zi r) _ ?_) (zorc_s _ ?_) _ _ _ _ _ e9
  · exact trivial
  · exact trivial
set_option maxRecDepth 100000 in
set_option maxHeartbeats 0 in
theorem s_X_setOrder {l : Launch} {zi : Nat → zinfo} {r : zRes} {GO : Nat → List (Option zV) → List zV → zH → Prop} (hS : zSg l true zi (zget (999, 0, 0, 0) zc_X_setOrder) (zcut zu_X_setOrder) zin zth r GO) (a0 a1 : Int) (h : zH) (hr : X_setOrder a0 a1 h zth zin = some r) : GO 0 [some (100, a0), some (0, a1), none] [] h := by
  have e9 := Eq.trans (Eq.symm (qe_X_setOrder zin zth a0 a1 h)) hr
  generalize (400 : Nat) = f9 at e9
  refine hS _ _ (zcal_s (SP := zKsp l true zi r) _ ?_) (zorc_s _ ?_) _ _ _ _ _ e9
  · exact trivial
  · exact ⟨zap2_s (P := fun xs h => GO 26 (zfl [some (100, none), some (0, none), none] xs).1 (zfs [] (zfl [some (100, none), some (0, none), none] xs).2) h) (fun x0 x1 h hr => s_X_setOrder_26 hS x0 x1 h hr), trivial⟩
set_option maxRecDepth 100000 in
set_option maxHeartbeats 0 in
theorem s_X_cycle {l : Launch} {zi : Nat → zinfo} {r : zRes} {GO : Nat → List (Option zV) → List zV → zH → Prop} (hS : zSg l true zi (zget (999, 0, 0, 0) zc_X_cycle) (zcut zu_X_cycle) zin (fun _ _ => none) r GO) (a0 : Int) (h : zH) (hr : X_cycle a0 h zin = some r) : GO 0 [some (100, a0)] [] h := by
  have e9 := Eq.trans (Eq.symm (qe_X_cycle zin a0 h)) hr
  generalize (400 : Nat) = f9 at e9
  refine hS _ _ (zcal_s (SP := zKsp l true zi r) _ ?_) (zorc_s _ ?_) _ _ _ _ _ e9
  · exact trivial
  · exact trivial
set_option maxRecDepth 100000 in
set_option maxHeartbeats 0 in
theorem s_X_unitAt {l : Launch} {zi : Nat → zinfo} {r : zRes} {GO : Nat → List (Option zV) → List zV → zH → Prop} (hS : zSg l true zi (zget (999, 0, 0, 0) zc_X_unitAt) (zcut zu_X_unitAt) zin zth r GO) (k54 : ∀ (x0 x1 x2 : Int) (h : zH) (k : (Int → zH → Option zRes)) (t : (Nat → zH → Option zRes)), X_isWithin x0 x1 x2 h k = some r → zKsp l true zi r 54 [x0, x1, x2] h k t) (a0 a1 : Int) (h : zH) (hr : X_unitAt a0 a1 h zth zin = some r) : GO 0 [some (100, a0), some (0, a1)] [] h := by
  have e9 := Eq.trans (Eq.symm (qe_X_unitAt zin zth a0 a1 h)) hr
  generalize (400 : Nat) = f9 at e9
  refine hS _ _ (zcal_s (SP := zKsp l true zi r) _ ?_) (zorc_s _ ?_) _ _ _ _ _ e9
  · exact ⟨zca3_s (SP := fun xs h k t => zKsp l true zi r 54 (zfc [none, none, none] xs) h k t) k54, trivial⟩
  · exact trivial
set_option maxRecDepth 100000 in
set_option maxHeartbeats 0 in
theorem s_X_groups {l : Launch} {zi : Nat → zinfo} {r : zRes} {GO : Nat → List (Option zV) → List zV → zH → Prop} (hS : zSg l true zi (zget (999, 0, 0, 0) zc_X_groups) (zcut zu_X_groups) zin zth r GO) (k50 : ∀ (x0 x1 : Int) (h : zH) (k : (Int → zH → Option zRes)) (t : (Nat → zH → Option zRes)), X_unitAt x0 x1 h t k = some r → zKsp l true zi r 50 [x0, x1] h k t) (a0 a1 : Int) (h : zH) (hr : X_groups a0 a1 h zth zin = some r) : GO 0 [some (100, a0), some (0, a1)] [] h := by
  have e9 := Eq.trans (Eq.symm (qe_X_groups zin zth a0 a1 h)) hr
  generalize (400 : Nat) = f9 at e9
  refine hS _ _ (zcal_s (SP := zKsp l true zi r) _ ?_) (zorc_s _ ?_) _ _ _ _ _ e9
  · exact ⟨zcx2_s (SP := fun xs h k t => zKsp l true zi r 50 (zfc [none, none] xs) h k t) k50, trivial⟩
  · exact trivial
set_option maxRecDepth 100000 in
set_option maxHeartbeats 0 in
theorem s_Un_groupOf_24 {l : Launch} {zi : Nat → zinfo} {r : zRes} {GO : Nat → List (Option zV) → List zV → zH → Prop} (hS : zSg l true zi (zget (999, 0, 0, 0) zc_Un_groupOf) (zcut zu_Un_groupOf) zin (fun _ _ => none) r GO) (k54 : ∀ (x0 x1 x2 : Int) (h : zH) (k : (Int → zH → Option zRes)) (t : (Nat → zH → Option zRes)), X_isWithin x0 x1 x2 h k = some r → zKsp l true zi r 54 [x0, x1, x2] h k t) (t0 : Int) (h : zH) (hr : Un_groupOf_24 zin t0 h = some r) : GO 24 [none, none] [(111, t0)] h := by
  have e9 := Eq.trans (Eq.symm (qe_Un_groupOf_24 zin t0 h)) hr
  generalize (400 : Nat) = f9 at e9
  refine hS _ _ (zcal_s (SP := zKsp l true zi r) _ ?_) (zorc_s _ ?_) _ _ _ _ _ e9
  · exact trivial
  · exact trivial
set_option maxRecDepth 100000 in
set_option maxHeartbeats 0 in
theorem s_Un_groupOf {l : Launch} {zi : Nat → zinfo} {r : zRes} {GO : Nat → List (Option zV) → List zV → zH → Prop} (hS : zSg l true zi (zget (999, 0, 0, 0) zc_Un_groupOf) (zcut zu_Un_groupOf) zin (fun _ _ => none) r GO) (k54 : ∀ (x0 x1 x2 : Int) (h : zH) (k : (Int → zH → Option zRes)) (t : (Nat → zH → Option zRes)), X_isWithin x0 x1 x2 h k = some r → zKsp l true zi r 54 [x0, x1, x2] h k t) (a0 a1 : Int) (h : zH) (hr : Un_groupOf a0 a1 h zin = some r) : GO 0 [some (103, a0), some (0, a1)] [] h := by
  have e9 := Eq.trans (Eq.symm (qe_Un_groupOf zin a0 a1 h)) hr
  generalize (400 : Nat) = f9 at e9
  refine hS _ _ (zcal_s (SP := zKsp l true zi r) _ ?_) (zorc_s _ ?_) _ _ _ _ _ e9
  · exact ⟨zca3_s (SP := fun xs h k t => zKsp l true zi r 54 (zfc [none, none, none] xs) h k t) k54, trivial⟩
  · exact ⟨zap1_s (P := fun xs h => GO 24 (zfl [none, none] xs).1 (zfs [(111, none)] (zfl [none, none] xs).2) h) (fun x0 h hr => s_Un_groupOf_24 hS k54 x0 h hr), trivial⟩
set_option maxRecDepth 100000 in
set_option maxHeartbeats 0 in
theorem s_X_groupAt {l : Launch} {zi : Nat → zinfo} {r : zRes} {GO : Nat → List (Option zV) → List zV → zH → Prop} (hS : zSg l true zi (zget (999, 0, 0, 0) zc_X_groupAt) (zcut zu_X_groupAt) zin zth r GO) (k50 : ∀ (x0 x1 : Int) (h : zH) (k : (Int → zH → Option zRes)) (t : (Nat → zH → Option zRes)), X_unitAt x0 x1 h t k = some r → zKsp l true zi r 50 [x0, x1] h k t) (k277 : ∀ (x0 x1 : Int) (h : zH) (k : (Int → zH → Option zRes)) (t : (Nat → zH → Option zRes)), Un_groupOf x0 x1 h k = some r → zKsp l true zi r 277 [x0, x1] h k t) (a0 a1 a2 : Int) (h : zH) (hr : X_groupAt a0 a1 a2 h zth zin = some r) : GO 0 [some (100, a0), some (0, a1), some (0, a2), none] [] h := by
  have e9 := Eq.trans (Eq.symm (qe_X_groupAt zin zth a0 a1 a2 h)) hr
  generalize (400 : Nat) = f9 at e9
  refine hS _ _ (zcal_s (SP := zKsp l true zi r) _ ?_) (zorc_s _ ?_) _ _ _ _ _ e9
  · exact ⟨zcx2_s (SP := fun xs h k t => zKsp l true zi r 50 (zfc [none, none] xs) h k t) k50, ⟨zca2_s (SP := fun xs h k t => zKsp l true zi r 277 (zfc [none, none] xs) h k t) k277, trivial⟩⟩
  · exact trivial
set_option maxRecDepth 100000 in
set_option maxHeartbeats 0 in
theorem s_X_threadAt {l : Launch} {zi : Nat → zinfo} {r : zRes} {GO : Nat → List (Option zV) → List zV → zH → Prop} (hS : zSg l true zi (zget (999, 0, 0, 0) zc_X_threadAt) (zcut zu_X_threadAt) zin zth r GO) (k51 : ∀ (x0 x1 x2 : Int) (h : zH) (k : (Int → zH → Option zRes)) (t : (Nat → zH → Option zRes)), X_groupAt x0 x1 x2 h t k = some r → zKsp l true zi r 51 [x0, x1, x2] h k t) (a0 a1 a2 : Int) (h : zH) (hr : X_threadAt a0 a1 a2 h zth zin = some r) : GO 0 [some (100, a0), some (0, a1), some (0, a2), none] [] h := by
  have e9 := Eq.trans (Eq.symm (qe_X_threadAt zin zth a0 a1 a2 h)) hr
  generalize (400 : Nat) = f9 at e9
  refine hS _ _ (zcal_s (SP := zKsp l true zi r) _ ?_) (zorc_s _ ?_) _ _ _ _ _ e9
  · exact ⟨zcx3_s (SP := fun xs h k t => zKsp l true zi r 51 (zfc [none, none, none] xs) h k t) k51, trivial⟩
  · exact trivial
set_option maxRecDepth 100000 in
set_option maxHeartbeats 0 in
theorem s_X_place {l : Launch} {zi : Nat → zinfo} {r : zRes} {GO : Nat → List (Option zV) → List zV → zH → Prop} (hS : zSg l true zi (zget (999, 0, 0, 0) zc_X_place) (zcut zu_X_place) zin zth r GO) (k51 : ∀ (x0 x1 x2 : Int) (h : zH) (k : (Int → zH → Option zRes)) (t : (Nat → zH → Option zRes)), X_groupAt x0 x1 x2 h t k = some r → zKsp l true zi r 51 [x0, x1, x2] h k t) (k205 : ∀ (x0 : Int) (h : zH) (k : (Int → zH → Option zRes)) (t : (Nat → zH → Option zRes)), Gr_leastPlace x0 h k = some r → zKsp l true zi r 205 [x0] h k t) (a0 a1 a2 : Int) (h : zH) (hr : X_place a0 a1 a2 h zth zin = some r) : GO 0 [some (100, a0), some (0, a1), some (0, a2), none] [] h := by
  have e9 := Eq.trans (Eq.symm (qe_X_place zin zth a0 a1 a2 h)) hr
  generalize (400 : Nat) = f9 at e9
  refine hS _ _ (zcal_s (SP := zKsp l true zi r) _ ?_) (zorc_s _ ?_) _ _ _ _ _ e9
  · exact ⟨zcx3_s (SP := fun xs h k t => zKsp l true zi r 51 (zfc [none, none, none] xs) h k t) k51, ⟨zca1_s (SP := fun xs h k t => zKsp l true zi r 205 (zfc [none] xs) h k t) k205, trivial⟩⟩
  · exact trivial
set_option maxRecDepth 100000 in
set_option maxHeartbeats 0 in
theorem s_X_mask {l : Launch} {zi : Nat → zinfo} {r : zRes} {GO : Nat → List (Option zV) → List zV → zH → Prop} (hS : zSg l true zi (zget (999, 0, 0, 0) zc_X_mask) (zcut zu_X_mask) zin zth r GO) (k51 : ∀ (x0 x1 x2 : Int) (h : zH) (k : (Int → zH → Option zRes)) (t : (Nat → zH → Option zRes)), X_groupAt x0 x1 x2 h t k = some r → zKsp l true zi r 51 [x0, x1, x2] h k t) (k206 : ∀ (x0 : Int) (h : zH) (k : (Int → zH → Option zRes)) (t : (Nat → zH → Option zRes)), Gr_lanesUnderMask x0 h k = some r → zKsp l true zi r 206 [x0] h k t) (a0 a1 a2 : Int) (h : zH) (hr : X_mask a0 a1 a2 h zth zin = some r) : GO 0 [some (100, a0), some (0, a1), some (0, a2)] [] h := by
  have e9 := Eq.trans (Eq.symm (qe_X_mask zin zth a0 a1 a2 h)) hr
  generalize (400 : Nat) = f9 at e9
  refine hS _ _ (zcal_s (SP := zKsp l true zi r) _ ?_) (zorc_s _ ?_) _ _ _ _ _ e9
  · exact ⟨zcx3_s (SP := fun xs h k t => zKsp l true zi r 51 (zfc [none, none, none] xs) h k t) k51, ⟨zca1_s (SP := fun xs h k t => zKsp l true zi r 206 (zfc [none] xs) h k t) k206, trivial⟩⟩
  · exact trivial
set_option maxRecDepth 100000 in
set_option maxHeartbeats 0 in
theorem s_Gr_isPlaceOfLower_2b {l : Launch} {zi : Nat → zinfo} {r : zRes} {GO : Nat → List (Option zV) → List zV → zH → Prop} (hS : zSg l true zi (zget (999, 0, 0, 0) zc_Gr_isPlaceOfLower) (zcut zu_Gr_isPlaceOfLower) zin (fun _ _ => none) r GO) (k204 : ∀ (x0 x1 : Int) (h : zH) (k : (Int → zH → Option zRes)) (t : (Nat → zH → Option zRes)), Gr_placeIn x0 x1 h k = some r → zKsp l true zi r 204 [x0, x1] h k t) {r2 : Int → Int → Int → zH → Option zRes} (h2 : ∀ (x0 x1 x2 : Int) (h : zH), r2 x0 x1 x2 h = some r → GO 2 [some (111, x0), some (0, x1), some (0, x2)] [] h) (a0 a1 a2 : Int) (h : zH) (hr : Gr_isPlaceOfLower_2b zin r2 a0 a1 a2 h = some r) : GO 2 [some (111, a0), some (0, a1), some (0, a2)] [] h := by
  have e9 := Eq.trans (Eq.symm (qe_Gr_isPlaceOfLower_2b zin r2 a0 a1 a2 h)) hr
  generalize (400 : Nat) = f9 at e9
  refine hS _ _ (zcal_s (SP := zKsp l true zi r) _ ?_) (zorc_s _ ?_) _ _ _ _ _ e9
  · exact ⟨zca2_s (SP := fun xs h k t => zKsp l true zi r 204 (zfc [none, none] xs) h k t) k204, trivial⟩
  · exact ⟨zap3_s (P := fun xs h => GO 2 (zfl [some (111, none), some (0, none), some (0, none)] xs).1 (zfs [] (zfl [some (111, none), some (0, none), some (0, none)] xs).2) h) h2, trivial⟩
set_option maxRecDepth 100000 in
set_option maxHeartbeats 0 in
theorem s_Gr_isPlaceOfLower_2 {l : Launch} {zi : Nat → zinfo} {r : zRes} {GO : Nat → List (Option zV) → List zV → zH → Prop} (hS : zSg l true zi (zget (999, 0, 0, 0) zc_Gr_isPlaceOfLower) (zcut zu_Gr_isPlaceOfLower) zin (fun _ _ => none) r GO) (k204 : ∀ (x0 x1 : Int) (h : zH) (k : (Int → zH → Option zRes)) (t : (Nat → zH → Option zRes)), Gr_placeIn x0 x1 h k = some r → zKsp l true zi r 204 [x0, x1] h k t) (a0 a1 a2 : Int) (h : zH) (hr : Gr_isPlaceOfLower_2 zin a0 a1 a2 h = some r) : GO 2 [some (111, a0), some (0, a1), some (0, a2)] [] h := zit3_s (P := fun x0 x1 x2 h => GO 2 [some (111, x0), some (0, x1), some (0, x2)] [] h) (fun rr hh a0 a1 a2 h hr => s_Gr_isPlaceOfLower_2b hS k204 hh a0 a1 a2 h hr) zN a0 a1 a2 h hr
set_option maxRecDepth 100000 in
set_option maxHeartbeats 0 in
theorem s_Gr_isPlaceOfLower {l : Launch} {zi : Nat → zinfo} {r : zRes} {GO : Nat → List (Option zV) → List zV → zH → Prop} (hS : zSg l true zi (zget (999, 0, 0, 0) zc_Gr_isPlaceOfLower) (zcut zu_Gr_isPlaceOfLower) zin (fun _ _ => none) r GO) (k204 : ∀ (x0 x1 : Int) (h : zH) (k : (Int → zH → Option zRes)) (t : (Nat → zH → Option zRes)), Gr_placeIn x0 x1 h k = some r → zKsp l true zi r 204 [x0, x1] h k t) (a0 a1 : Int) (h : zH) (hr : Gr_isPlaceOfLower a0 a1 h zin = some r) : GO 0 [some (111, a0), some (0, a1), none] [] h := by
  have e9 := Eq.trans (Eq.symm (qe_Gr_isPlaceOfLower zin a0 a1 h)) hr
  generalize (400 : Nat) = f9 at e9
  refine hS _ _ (zcal_s (SP := zKsp l true zi r) _ ?_) (zorc_s _ ?_) _ _ _ _ _ e9
  · exact trivial
  · exact ⟨zap3_s (P := fun xs h => GO 2 (zfl [some (111, none), some (0, none), some (0, none)] xs).1 (zfs [] (zfl [some (111, none), some (0, none), some (0, none)] xs).2) h) (fun x0 x1 x2 h hr => s_Gr_isPlaceOfLower_2 hS k204 x0 x1 x2 h hr), trivial⟩
set_option maxRecDepth 100000 in
set_option maxHeartbeats 0 in
theorem s_Gr_differentPlaces_29 {l : Launch} {zi : Nat → zinfo} {r : zRes} {GO : Nat → List (Option zV) → List zV → zH → Prop} (hS : zSg l true zi (zget (999, 0, 0, 0) zc_Gr_differentPlaces) (zcut zu_Gr_differentPlaces) zin (fun _ _ => none) r GO) (k204 : ∀ (x0 x1 : Int) (h : zH) (k : (Int → zH → Option zRes)) (t : (Nat → zH → Option zRes)), Gr_placeIn x0 x1 h k = some r → zKsp l true zi r 204 [x0, x1] h k t) (k208 : ∀ (x0 x1 : Int) (h : zH) (k : (Int → zH → Option zRes)) (t : (Nat → zH → Option zRes)), Gr_isPlaceOfLower x0 x1 h k = some r → zKsp l true zi r 208 [x0, x1] h k t) {r4 : Int → Int → Int → zH → Option zRes} (h4 : ∀ (x0 x1 x2 : Int) (h : zH), r4 x0 x1 x2 h = some r → GO 4 [some (111, x0), some (0, x1), some (0, x2)] [] h) (a0 a1 a2 : Int) (h : zH) (hr : Gr_differentPlaces_29 zin r4 a0 a1 a2 h = some r) : GO 29 [some (111, a0), some (0, a1), some (0, a2)] [] h := by
  have e9 := Eq.trans (Eq.symm (qe_Gr_differentPlaces_29 zin r4 a0 a1 a2 h)) hr
  generalize (400 : Nat) = f9 at e9
  refine hS _ _ (zcal_s (SP := zKsp l true zi r) _ ?_) (zorc_s _ ?_) _ _ _ _ _ e9
  · exact trivial
  · exact ⟨zap3_s (P := fun xs h => GO 4 (zfl [some (111, none), some (0, none), some (0, none)] xs).1 (zfs [] (zfl [some (111, none), some (0, none), some (0, none)] xs).2) h) h4, trivial⟩
set_option maxRecDepth 100000 in
set_option maxHeartbeats 0 in
theorem s_Gr_differentPlaces_4b {l : Launch} {zi : Nat → zinfo} {r : zRes} {GO : Nat → List (Option zV) → List zV → zH → Prop} (hS : zSg l true zi (zget (999, 0, 0, 0) zc_Gr_differentPlaces) (zcut zu_Gr_differentPlaces) zin (fun _ _ => none) r GO) (k204 : ∀ (x0 x1 : Int) (h : zH) (k : (Int → zH → Option zRes)) (t : (Nat → zH → Option zRes)), Gr_placeIn x0 x1 h k = some r → zKsp l true zi r 204 [x0, x1] h k t) (k208 : ∀ (x0 x1 : Int) (h : zH) (k : (Int → zH → Option zRes)) (t : (Nat → zH → Option zRes)), Gr_isPlaceOfLower x0 x1 h k = some r → zKsp l true zi r 208 [x0, x1] h k t) {r4 : Int → Int → Int → zH → Option zRes} (h4 : ∀ (x0 x1 x2 : Int) (h : zH), r4 x0 x1 x2 h = some r → GO 4 [some (111, x0), some (0, x1), some (0, x2)] [] h) (a0 a1 a2 : Int) (h : zH) (hr : Gr_differentPlaces_4b zin r4 a0 a1 a2 h = some r) : GO 4 [some (111, a0), some (0, a1), some (0, a2)] [] h := by
  have e9 := Eq.trans (Eq.symm (qe_Gr_differentPlaces_4b zin r4 a0 a1 a2 h)) hr
  generalize (400 : Nat) = f9 at e9
  refine hS _ _ (zcal_s (SP := zKsp l true zi r) _ ?_) (zorc_s _ ?_) _ _ _ _ _ e9
  · exact ⟨zca2_s (SP := fun xs h k t => zKsp l true zi r 204 (zfc [none, none] xs) h k t) k204, ⟨zca2_s (SP := fun xs h k t => zKsp l true zi r 208 (zfc [none, none] xs) h k t) k208, trivial⟩⟩
  · exact ⟨zap3_s (P := fun xs h => GO 29 (zfl [some (111, none), some (0, none), some (0, none)] xs).1 (zfs [] (zfl [some (111, none), some (0, none), some (0, none)] xs).2) h) (fun x0 x1 x2 h hr => s_Gr_differentPlaces_29 hS k204 k208 h4 x0 x1 x2 h hr), trivial⟩
set_option maxRecDepth 100000 in
set_option maxHeartbeats 0 in
theorem s_Gr_differentPlaces_4 {l : Launch} {zi : Nat → zinfo} {r : zRes} {GO : Nat → List (Option zV) → List zV → zH → Prop} (hS : zSg l true zi (zget (999, 0, 0, 0) zc_Gr_differentPlaces) (zcut zu_Gr_differentPlaces) zin (fun _ _ => none) r GO) (k204 : ∀ (x0 x1 : Int) (h : zH) (k : (Int → zH → Option zRes)) (t : (Nat → zH → Option zRes)), Gr_placeIn x0 x1 h k = some r → zKsp l true zi r 204 [x0, x1] h k t) (k208 : ∀ (x0 x1 : Int) (h : zH) (k : (Int → zH → Option zRes)) (t : (Nat → zH → Option zRes)), Gr_isPlaceOfLower x0 x1 h k = some r → zKsp l true zi r 208 [x0, x1] h k t) (a0 a1 a2 : Int) (h : zH) (hr : Gr_differentPlaces_4 zin a0 a1 a2 h = some r) : GO 4 [some (111, a0), some (0, a1), some (0, a2)] [] h := zit3_s (P := fun x0 x1 x2 h => GO 4 [some (111, x0), some (0, x1), some (0, x2)] [] h) (fun rr hh a0 a1 a2 h hr => s_Gr_differentPlaces_4b hS k204 k208 hh a0 a1 a2 h hr) zN a0 a1 a2 h hr
set_option maxRecDepth 100000 in
set_option maxHeartbeats 0 in
theorem s_Gr_differentPlaces {l : Launch} {zi : Nat → zinfo} {r : zRes} {GO : Nat → List (Option zV) → List zV → zH → Prop} (hS : zSg l true zi (zget (999, 0, 0, 0) zc_Gr_differentPlaces) (zcut zu_Gr_differentPlaces) zin (fun _ _ => none) r GO) (k204 : ∀ (x0 x1 : Int) (h : zH) (k : (Int → zH → Option zRes)) (t : (Nat → zH → Option zRes)), Gr_placeIn x0 x1 h k = some r → zKsp l true zi r 204 [x0, x1] h k t) (k208 : ∀ (x0 x1 : Int) (h : zH) (k : (Int → zH → Option zRes)) (t : (Nat → zH → Option zRes)), Gr_isPlaceOfLower x0 x1 h k = some r → zKsp l true zi r 208 [x0, x1] h k t) (a0 : Int) (h : zH) (hr : Gr_differentPlaces a0 h zin = some r) : GO 0 [some (111, a0), none, none] [] h := by
  have e9 := Eq.trans (Eq.symm (qe_Gr_differentPlaces zin a0 h)) hr
  generalize (400 : Nat) = f9 at e9
  refine hS _ _ (zcal_s (SP := zKsp l true zi r) _ ?_) (zorc_s _ ?_) _ _ _ _ _ e9
  · exact trivial
  · exact ⟨zap3_s (P := fun xs h => GO 4 (zfl [some (111, none), some (0, none), some (0, none)] xs).1 (zfs [] (zfl [some (111, none), some (0, none), some (0, none)] xs).2) h) (fun x0 x1 x2 h hr => s_Gr_differentPlaces_4 hS k204 k208 x0 x1 x2 h hr), trivial⟩
set_option maxRecDepth 100000 in
set_option maxHeartbeats 0 in
theorem s_X_places {l : Launch} {zi : Nat → zinfo} {r : zRes} {GO : Nat → List (Option zV) → List zV → zH → Prop} (hS : zSg l true zi (zget (999, 0, 0, 0) zc_X_places) (zcut zu_X_places) zin zth r GO) (k51 : ∀ (x0 x1 x2 : Int) (h : zH) (k : (Int → zH → Option zRes)) (t : (Nat → zH → Option zRes)), X_groupAt x0 x1 x2 h t k = some r → zKsp l true zi r 51 [x0, x1, x2] h k t) (k207 : ∀ (x0 : Int) (h : zH) (k : (Int → zH → Option zRes)) (t : (Nat → zH → Option zRes)), Gr_differentPlaces x0 h k = some r → zKsp l true zi r 207 [x0] h k t) (a0 a1 a2 : Int) (h : zH) (hr : X_places a0 a1 a2 h zth zin = some r) : GO 0 [some (100, a0), some (0, a1), some (0, a2)] [] h := by
  have e9 := Eq.trans (Eq.symm (qe_X_places zin zth a0 a1 a2 h)) hr
  generalize (400 : Nat) = f9 at e9
  refine hS _ _ (zcal_s (SP := zKsp l true zi r) _ ?_) (zorc_s _ ?_) _ _ _ _ _ e9
  · exact ⟨zcx3_s (SP := fun xs h k t => zKsp l true zi r 51 (zfc [none, none, none] xs) h k t) k51, ⟨zca1_s (SP := fun xs h k t => zKsp l true zi r 207 (zfc [none] xs) h k t) k207, trivial⟩⟩
  · exact trivial
set_option maxRecDepth 100000 in
set_option maxHeartbeats 0 in
theorem s_Gr_whyIdle_22 {l : Launch} {zi : Nat → zinfo} {r : zRes} {GO : Nat → List (Option zV) → List zV → zH → Prop} (hS : zSg l true zi (zget (999, 0, 0, 0) zc_Gr_whyIdle) (zcut zu_Gr_whyIdle) zin (fun _ _ => none) r GO) (k205 : ∀ (x0 : Int) (h : zH) (k : (Int → zH → Option zRes)) (t : (Nat → zH → Option zRes)), Gr_leastPlace x0 h k = some r → zKsp l true zi r 205 [x0] h k t) (k209 : ∀ (x0 : Int) (h : zH) (k : (Int → zH → Option zRes)) (t : (Nat → zH → Option zRes)), Gr_hasEnded x0 h k = some r → zKsp l true zi r 209 [x0] h k t) (t0 : Int) (h : zH) (hr : Gr_whyIdle_22 zin t0 h = some r) : GO 22 [none, none] [(0, t0)] h := by
  have e9 := Eq.trans (Eq.symm (qe_Gr_whyIdle_22 zin t0 h)) hr
  generalize (400 : Nat) = f9 at e9
  refine hS _ _ (zcal_s (SP := zKsp l true zi r) _ ?_) (zorc_s _ ?_) _ _ _ _ _ e9
  · exact trivial
  · exact trivial
set_option maxRecDepth 100000 in
set_option maxHeartbeats 0 in
theorem s_Gr_whyIdle_38 {l : Launch} {zi : Nat → zinfo} {r : zRes} {GO : Nat → List (Option zV) → List zV → zH → Prop} (hS : zSg l true zi (zget (999, 0, 0, 0) zc_Gr_whyIdle) (zcut zu_Gr_whyIdle) zin (fun _ _ => none) r GO) (k205 : ∀ (x0 : Int) (h : zH) (k : (Int → zH → Option zRes)) (t : (Nat → zH → Option zRes)), Gr_leastPlace x0 h k = some r → zKsp l true zi r 205 [x0] h k t) (k209 : ∀ (x0 : Int) (h : zH) (k : (Int → zH → Option zRes)) (t : (Nat → zH → Option zRes)), Gr_hasEnded x0 h k = some r → zKsp l true zi r 209 [x0] h k t) (t0 : Int) (h : zH) (hr : Gr_whyIdle_38 zin t0 h = some r) : GO 38 [none, none] [(0, t0)] h := by
  have e9 := Eq.trans (Eq.symm (qe_Gr_whyIdle_38 zin t0 h)) hr
  generalize (400 : Nat) = f9 at e9
  refine hS _ _ (zcal_s (SP := zKsp l true zi r) _ ?_) (zorc_s _ ?_) _ _ _ _ _ e9
  · exact trivial
  · exact trivial
set_option maxRecDepth 100000 in
set_option maxHeartbeats 0 in
theorem s_Gr_whyIdle {l : Launch} {zi : Nat → zinfo} {r : zRes} {GO : Nat → List (Option zV) → List zV → zH → Prop} (hS : zSg l true zi (zget (999, 0, 0, 0) zc_Gr_whyIdle) (zcut zu_Gr_whyIdle) zin (fun _ _ => none) r GO) (k205 : ∀ (x0 : Int) (h : zH) (k : (Int → zH → Option zRes)) (t : (Nat → zH → Option zRes)), Gr_leastPlace x0 h k = some r → zKsp l true zi r 205 [x0] h k t) (k209 : ∀ (x0 : Int) (h : zH) (k : (Int → zH → Option zRes)) (t : (Nat → zH → Option zRes)), Gr_hasEnded x0 h k = some r → zKsp l true zi r 209 [x0] h k t) (a0 a1 : Int) (h : zH) (hr : Gr_whyIdle a0 a1 h zin = some r) : GO 0 [some (111, a0), some (0, a1)] [] h := by
  have e9 := Eq.trans (Eq.symm (qe_Gr_whyIdle zin a0 a1 h)) hr
  generalize (400 : Nat) = f9 at e9
  refine hS _ _ (zcal_s (SP := zKsp l true zi r) _ ?_) (zorc_s _ ?_) _ _ _ _ _ e9
  · exact ⟨zca1_s (SP := fun xs h k t => zKsp l true zi r 205 (zfc [none] xs) h k t) k205, ⟨zca1_s (SP := fun xs h k t => zKsp l true zi r 209 (zfc [none] xs) h k t) k209, trivial⟩⟩
  · exact ⟨zap1_s (P := fun xs h => GO 22 (zfl [none, none] xs).1 (zfs [(0, none)] (zfl [none, none] xs).2) h) (fun x0 h hr => s_Gr_whyIdle_22 hS k205 k209 x0 h hr), ⟨zap1_s (P := fun xs h => GO 38 (zfl [none, none] xs).1 (zfs [(0, none)] (zfl [none, none] xs).2) h) (fun x0 h hr => s_Gr_whyIdle_38 hS k205 k209 x0 h hr), trivial⟩⟩
set_option maxRecDepth 100000 in
set_option maxHeartbeats 0 in
theorem s_X_reason {l : Launch} {zi : Nat → zinfo} {r : zRes} {GO : Nat → List (Option zV) → List zV → zH → Prop} (hS : zSg l true zi (zget (999, 0, 0, 0) zc_X_reason) (zcut zu_X_reason) zin zth r GO) (k51 : ∀ (x0 x1 x2 : Int) (h : zH) (k : (Int → zH → Option zRes)) (t : (Nat → zH → Option zRes)), X_groupAt x0 x1 x2 h t k = some r → zKsp l true zi r 51 [x0, x1, x2] h k t) (k211 : ∀ (x0 x1 : Int) (h : zH) (k : (Int → zH → Option zRes)) (t : (Nat → zH → Option zRes)), Gr_whyIdle x0 x1 h k = some r → zKsp l true zi r 211 [x0, x1] h k t) (a0 a1 a2 : Int) (h : zH) (hr : X_reason a0 a1 a2 h zth zin = some r) : GO 0 [some (100, a0), some (0, a1), some (0, a2)] [] h := by
  have e9 := Eq.trans (Eq.symm (qe_X_reason zin zth a0 a1 a2 h)) hr
  generalize (400 : Nat) = f9 at e9
  refine hS _ _ (zcal_s (SP := zKsp l true zi r) _ ?_) (zorc_s _ ?_) _ _ _ _ _ e9
  · exact ⟨zcx3_s (SP := fun xs h k t => zKsp l true zi r 51 (zfc [none, none, none] xs) h k t) k51, ⟨zca2_s (SP := fun xs h k t => zKsp l true zi r 211 (zfc [none, none] xs) h k t) k211, trivial⟩⟩
  · exact trivial
set_option maxRecDepth 100000 in
set_option maxHeartbeats 0 in
theorem s_X_register_40 {l : Launch} {zi : Nat → zinfo} {r : zRes} {GO : Nat → List (Option zV) → List zV → zH → Prop} (hS : zSg l true zi (zget (999, 0, 0, 0) zc_X_register) (zcut zu_X_register) zin zth r GO) (k51 : ∀ (x0 x1 x2 : Int) (h : zH) (k : (Int → zH → Option zRes)) (t : (Nat → zH → Option zRes)), X_groupAt x0 x1 x2 h t k = some r → zKsp l true zi r 51 [x0, x1, x2] h k t) (k203 : ∀ (x0 x1 : Int) (h : zH) (k : (Int → zH → Option zRes)) (t : (Nat → zH → Option zRes)), Gr_threadIn x0 x1 h k = some r → zKsp l true zi r 203 [x0, x1] h k t) (k225 : ∀ (x0 x1 : Int) (h : zH) (k : (Int → zH → Option zRes)) (t : (Nat → zH → Option zRes)), Ke_hasRegister x0 x1 h k = some r → zKsp l true zi r 225 [x0, x1] h k t) (k258 : ∀ (x0 x1 : Int) (h : zH) (k : (Int → zH → Option zRes)) (t : (Nat → zH → Option zRes)), Th_at x0 x1 h k = some r → zKsp l true zi r 258 [x0, x1] h k t) (h : zH) (hr : X_register_40 zin zth h = some r) : GO 40 [none, none, none, none, none, none, none] [] h := by
  have e9 := Eq.trans (Eq.symm (qe_X_register_40 zin zth h)) hr
  generalize (400 : Nat) = f9 at e9
  refine hS _ _ (zcal_s (SP := zKsp l true zi r) _ ?_) (zorc_s _ ?_) _ _ _ _ _ e9
  · exact trivial
  · exact trivial
set_option maxRecDepth 100000 in
set_option maxHeartbeats 0 in
theorem s_X_register {l : Launch} {zi : Nat → zinfo} {r : zRes} {GO : Nat → List (Option zV) → List zV → zH → Prop} (hS : zSg l true zi (zget (999, 0, 0, 0) zc_X_register) (zcut zu_X_register) zin zth r GO) (k51 : ∀ (x0 x1 x2 : Int) (h : zH) (k : (Int → zH → Option zRes)) (t : (Nat → zH → Option zRes)), X_groupAt x0 x1 x2 h t k = some r → zKsp l true zi r 51 [x0, x1, x2] h k t) (k203 : ∀ (x0 x1 : Int) (h : zH) (k : (Int → zH → Option zRes)) (t : (Nat → zH → Option zRes)), Gr_threadIn x0 x1 h k = some r → zKsp l true zi r 203 [x0, x1] h k t) (k225 : ∀ (x0 x1 : Int) (h : zH) (k : (Int → zH → Option zRes)) (t : (Nat → zH → Option zRes)), Ke_hasRegister x0 x1 h k = some r → zKsp l true zi r 225 [x0, x1] h k t) (k258 : ∀ (x0 x1 : Int) (h : zH) (k : (Int → zH → Option zRes)) (t : (Nat → zH → Option zRes)), Th_at x0 x1 h k = some r → zKsp l true zi r 258 [x0, x1] h k t) (a0 a1 a2 a3 a4 : Int) (h : zH) (hr : X_register a0 a1 a2 a3 a4 h zth zin = some r) : GO 0 [some (100, a0), some (0, a1), some (0, a2), some (0, a3), some (0, a4), none, none] [] h := by
  have e9 := Eq.trans (Eq.symm (qe_X_register zin zth a0 a1 a2 a3 a4 h)) hr
  generalize (400 : Nat) = f9 at e9
  refine hS _ _ (zcal_s (SP := zKsp l true zi r) _ ?_) (zorc_s _ ?_) _ _ _ _ _ e9
  · exact ⟨zcx3_s (SP := fun xs h k t => zKsp l true zi r 51 (zfc [none, none, none] xs) h k t) k51, ⟨zca2_s (SP := fun xs h k t => zKsp l true zi r 203 (zfc [none, none] xs) h k t) k203, ⟨zca2_s (SP := fun xs h k t => zKsp l true zi r 225 (zfc [none, none] xs) h k t) k225, ⟨zca2_s (SP := fun xs h k t => zKsp l true zi r 258 (zfc [none, none] xs) h k t) k258, trivial⟩⟩⟩⟩
  · exact ⟨zap0_s (P := fun xs h => GO 40 (zfl [none, none, none, none, none, none, none] xs).1 (zfs [] (zfl [none, none, none, none, none, none, none] xs).2) h) (fun  h hr => s_X_register_40 hS k51 k203 k225 k258  h hr), trivial⟩
