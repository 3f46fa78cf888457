set_option maxRecDepth 100000 in
set_option maxHeartbeats 0 in
theorem s_Th_set_20 {l : Launch} {zi : Nat → zinfo} {r : zRes} {GO : Nat → List (Option zV) → List zV → zH → Prop} (hS : zSg l true zi (zget (999, 0, 0, 0) zc_Th_set) (zcut zu_Th_set) zin (fun _ _ => none) r GO) (h : zH) (hr : Th_set_20 zin h = some r) : GO 20 [none, none, none] [] h := by
  have e9 := Eq.trans (Eq.symm (qe_Th_set_20 zin h)) hr
  generalize (400 : Nat) = f9 at e9
  refine hS _ _ (zcal_s (SP := zKsp l true zi r) _ ?_) (zorc_s _ ?_) _ _ _ _ _ e9
  · exact trivial
  · exact trivial
set_option maxRecDepth 100000 in
set_option maxHeartbeats 0 in
theorem s_Th_set {l : Launch} {zi : Nat → zinfo} {r : zRes} {GO : Nat → List (Option zV) → List zV → zH → Prop} (hS : zSg l true zi (zget (999, 0, 0, 0) zc_Th_set) (zcut zu_Th_set) zin (fun _ _ => none) r GO) (a0 a1 a2 : Int) (h : zH) (hr : Th_set a0 a1 a2 h zin = some r) : GO 0 [some (106, a0), some (0, a1), some (0, a2)] [] h := by
  have e9 := Eq.trans (Eq.symm (qe_Th_set zin a0 a1 a2 h)) hr
  generalize (400 : Nat) = f9 at e9
  refine hS _ _ (zcal_s (SP := zKsp l true zi r) _ ?_) (zorc_s _ ?_) _ _ _ _ _ e9
  · exact trivial
  · exact ⟨zap0_s (P := fun xs h => GO 20 (zfl [none, none, none] xs).1 (zfs [] (zfl [none, none, none] xs).2) h) (fun  h hr => s_Th_set_20 hS  h hr), trivial⟩
set_option maxRecDepth 100000 in
set_option maxHeartbeats 0 in
theorem s_X_exchange_22_36 {l : Launch} {zi : Nat → zinfo} {r : zRes} {GO : Nat → List (Option zV) → List zV → zH → Prop} (hS : zSg l true zi (zget (999, 0, 0, 0) zc_X_exchange_22) (zcut zu_X_exchange_22) zin (fun _ _ => none) r GO) (k258 : ∀ (x0 x1 : Int) (h : zH) (k : (Int → zH → Option zRes)) (t : (Nat → zH → Option zRes)), Th_at x0 x1 h k = some r → zKsp l true zi r 258 [x0, x1] h k t) (k259 : ∀ (x0 x1 x2 : Int) (h : zH) (k : (Int → zH → Option zRes)) (t : (Nat → zH → Option zRes)), Th_set x0 x1 x2 h k = some r → zKsp l true zi r 259 [x0, x1, x2] h k t) (a2 a3 a4 t0 t1 t2 : Int) (h : zH) (hr : X_exchange_22_36 zin a2 a3 a4 t0 t1 t2 h = some r) : GO 36 [none, none, some (106, a2), some (108, a3), some (0, a4), none] [(0, t0), (0, t1), (122, t2)] h := by
  have e9 := Eq.trans (Eq.symm (qe_X_exchange_22_36 zin a2 a3 a4 t0 t1 t2 h)) hr
  generalize (400 : Nat) = f9 at e9
  refine hS _ _ (zcal_s (SP := zKsp l true zi r) _ ?_) (zorc_s _ ?_) _ _ _ _ _ e9
  · exact ⟨zca3_s (SP := fun xs h k t => zKsp l true zi r 259 (zfc [none, none, none] xs) h k t) k259, trivial⟩
  · exact trivial
set_option maxRecDepth 100000 in
set_option maxHeartbeats 0 in
theorem s_X_exchange_22 {l : Launch} {zi : Nat → zinfo} {r : zRes} {GO : Nat → List (Option zV) → List zV → zH → Prop} (hS : zSg l true zi (zget (999, 0, 0, 0) zc_X_exchange_22) (zcut zu_X_exchange_22) zin (fun _ _ => none) r GO) (k258 : ∀ (x0 x1 : Int) (h : zH) (k : (Int → zH → Option zRes)) (t : (Nat → zH → Option zRes)), Th_at x0 x1 h k = some r → zKsp l true zi r 258 [x0, x1] h k t) (k259 : ∀ (x0 x1 x2 : Int) (h : zH) (k : (Int → zH → Option zRes)) (t : (Nat → zH → Option zRes)), Th_set x0 x1 x2 h k = some r → zKsp l true zi r 259 [x0, x1, x2] h k t) (a0 a1 a2 a3 : Int) (h : zH) (hr : X_exchange_22 a0 a1 a2 a3 h zin = some r) : GO 0 [some (122, a0), some (0, a1), some (106, a2), some (108, a3), none, none] [] h := by
  have e9 := Eq.trans (Eq.symm (qe_X_exchange_22 zin a0 a1 a2 a3 h)) hr
  generalize (400 : Nat) = f9 at e9
  refine hS _ _ (zcal_s (SP := zKsp l true zi r) _ ?_) (zorc_s _ ?_) _ _ _ _ _ e9
  · exact ⟨zca2_s (SP := fun xs h k t => zKsp l true zi r 258 (zfc [none, none] xs) h k t) k258, trivial⟩
  · exact ⟨zap6_s (P := fun xs h => GO 36 (zfl [none, none, some (106, none), some (108, none), some (0, none), none] xs).1 (zfs [(0, none), (0, none), (122, none)] (zfl [none, none, some (106, none), some (108, none), some (0, none), none] xs).2) h) (fun x0 x1 x2 x3 x4 x5 h hr => s_X_exchange_22_36 hS k258 k259 x0 x1 x2 x3 x4 x5 h hr), trivial⟩
set_option maxRecDepth 100000 in
set_option maxHeartbeats 0 in
theorem s_X_isClash_32 {l : Launch} {zi : Nat → zinfo} {r : zRes} {GO : Nat → List (Option zV) → List zV → zH → Prop} (hS : zSg l true zi (zget (999, 0, 0, 0) zc_X_isClash) (zcut zu_X_isClash) zin (fun _ _ => none) r GO) (t0 : Int) (h : zH) (hr : X_isClash_32 zin t0 h = some r) : GO 32 [none, none, none, none] [(0, t0)] h := by
  have e9 := Eq.trans (Eq.symm (qe_X_isClash_32 zin t0 h)) hr
  generalize (400 : Nat) = f9 at e9
  refine hS _ _ (zcal_s (SP := zKsp l true zi r) _ ?_) (zorc_s _ ?_) _ _ _ _ _ e9
  · exact trivial
  · exact trivial
set_option maxRecDepth 100000 in
set_option maxHeartbeats 0 in
theorem s_X_isClash_16 {l : Launch} {zi : Nat → zinfo} {r : zRes} {GO : Nat → List (Option zV) → List zV → zH → Prop} (hS : zSg l true zi (zget (999, 0, 0, 0) zc_X_isClash) (zcut zu_X_isClash) zin (fun _ _ => none) r GO) (a1 t0 : Int) (h : zH) (hr : X_isClash_16 zin a1 t0 h = some r) : GO 16 [none, some (0, a1), none, none] [(0, t0)] h := by
  have e9 := Eq.trans (Eq.symm (qe_X_isClash_16 zin a1 t0 h)) hr
  generalize (400 : Nat) = f9 at e9
  refine hS _ _ (zcal_s (SP := zKsp l true zi r) _ ?_) (zorc_s _ ?_) _ _ _ _ _ e9
  · exact trivial
  · exact ⟨zap1_s (P := fun xs h => GO 32 (zfl [none, none, none, none] xs).1 (zfs [(0, none)] (zfl [none, none, none, none] xs).2) h) (fun x0 h hr => s_X_isClash_32 hS x0 h hr), trivial⟩
set_option maxRecDepth 100000 in
set_option maxHeartbeats 0 in
theorem s_X_isClash {l : Launch} {zi : Nat → zinfo} {r : zRes} {GO : Nat → List (Option zV) → List zV → zH → Prop} (hS : zSg l true zi (zget (999, 0, 0, 0) zc_X_isClash) (zcut zu_X_isClash) zin (fun _ _ => none) r GO) (a0 a1 a2 : Int) (h : zH) (hr : X_isClash a0 a1 a2 h zin = some r) : GO 0 [some (0, a0), some (0, a1), some (0, a2), none] [] h := by
  have e9 := Eq.trans (Eq.symm (qe_X_isClash zin a0 a1 a2 h)) hr
  generalize (400 : Nat) = f9 at e9
  refine hS _ _ (zcal_s (SP := zKsp l true zi r) _ ?_) (zorc_s _ ?_) _ _ _ _ _ e9
  · exact trivial
  · exact ⟨zap2_s (P := fun xs h => GO 16 (zfl [none, some (0, none), none, none] xs).1 (zfs [(0, none)] (zfl [none, some (0, none), none, none] xs).2) h) (fun x0 x1 h hr => s_X_isClash_16 hS x0 x1 h hr), trivial⟩
set_option maxRecDepth 100000 in
set_option maxHeartbeats 0 in
theorem s_X_withTouch_22 {l : Launch} {zi : Nat → zinfo} {r : zRes} {GO : Nat → List (Option zV) → List zV → zH → Prop} (hS : zSg l true zi (zget (999, 0, 0, 0) zc_X_withTouch) (zcut zu_X_withTouch) zin (fun _ _ => none) r GO) (t0 : Int) (h : zH) (hr : X_withTouch_22 zin t0 h = some r) : GO 22 [none, none, none, none] [(0, t0)] h := by
  have e9 := Eq.trans (Eq.symm (qe_X_withTouch_22 zin t0 h)) hr
  generalize (400 : Nat) = f9 at e9
  refine hS _ _ (zcal_s (SP := zKsp l true zi r) _ ?_) (zorc_s _ ?_) _ _ _ _ _ e9
  · exact trivial
  · exact trivial
set_option maxRecDepth 100000 in
set_option maxHeartbeats 0 in
theorem s_X_withTouch {l : Launch} {zi : Nat → zinfo} {r : zRes} {GO : Nat → List (Option zV) → List zV → zH → Prop} (hS : zSg l true zi (zget (999, 0, 0, 0) zc_X_withTouch) (zcut zu_X_withTouch) zin (fun _ _ => none) r GO) (a0 a1 a2 : Int) (h : zH) (hr : X_withTouch a0 a1 a2 h zin = some r) : GO 0 [some (0, a0), some (0, a1), some (0, a2), none] [] h := by
  have e9 := Eq.trans (Eq.symm (qe_X_withTouch zin a0 a1 a2 h)) hr
  generalize (400 : Nat) = f9 at e9
  refine hS _ _ (zcal_s (SP := zKsp l true zi r) _ ?_) (zorc_s _ ?_) _ _ _ _ _ e9
  · exact trivial
  · exact ⟨zap1_s (P := fun xs h => GO 22 (zfl [none, none, none, none] xs).1 (zfs [(0, none)] (zfl [none, none, none, none] xs).2) h) (fun x0 h hr => s_X_withTouch_22 hS x0 h hr), trivial⟩
set_option maxRecDepth 100000 in
set_option maxHeartbeats 0 in
theorem s_La_markRace_26 {l : Launch} {zi : Nat → zinfo} {r : zRes} {GO : Nat → List (Option zV) → List zV → zH → Prop} (hS : zSg l true zi (zget (999, 0, 0, 0) zc_La_markRace) (zcut zu_La_markRace) zin (fun _ _ => none) r GO) (h : zH) (hr : La_markRace_26 zin h = some r) : GO 26 [none, none] [] h := by
  have e9 := Eq.trans (Eq.symm (qe_La_markRace_26 zin h)) hr
  generalize (400 : Nat) = f9 at e9
  refine hS _ _ (zcal_s (SP := zKsp l true zi r) _ ?_) (zorc_s _ ?_) _ _ _ _ _ e9
  · exact trivial
  · exact trivial
set_option maxRecDepth 100000 in
set_option maxHeartbeats 0 in
theorem s_La_markRace {l : Launch} {zi : Nat → zinfo} {r : zRes} {GO : Nat → List (Option zV) → List zV → zH → Prop} (hS : zSg l true zi (zget (999, 0, 0, 0) zc_La_markRace) (zcut zu_La_markRace) zin (fun _ _ => none) r GO) (a0 a1 : Int) (h : zH) (hr : La_markRace a0 a1 h zin = some r) : GO 0 [some (109, a0), some (0, a1)] [] h := by
  have e9 := Eq.trans (Eq.symm (qe_La_markRace zin a0 a1 h)) hr
  generalize (400 : Nat) = f9 at e9
  refine hS _ _ (zcal_s (SP := zKsp l true zi r) _ ?_) (zorc_s _ ?_) _ _ _ _ _ e9
  · exact trivial
  · exact ⟨zap0_s (P := fun xs h => GO 26 (zfl [none, none] xs).1 (zfs [] (zfl [none, none] xs).2) h) (fun  h hr => s_La_markRace_26 hS  h hr), trivial⟩
set_option maxRecDepth 100000 in
set_option maxHeartbeats 0 in
theorem s_Bl_touchGlobal_42 {l : Launch} {zi : Nat → zinfo} {r : zRes} {GO : Nat → List (Option zV) → List zV → zH → Prop} (hS : zSg l true zi (zget (999, 0, 0, 0) zc_Bl_touchGlobal) (zcut zu_Bl_touchGlobal) zin (fun _ _ => none) r GO) (k58 : ∀ (x0 x1 x2 : Int) (h : zH) (k : (Int → zH → Option zRes)) (t : (Nat → zH → Option zRes)), X_isClash x0 x1 x2 h k = some r → zKsp l true zi r 58 [x0, x1, x2] h k t) (k59 : ∀ (x0 x1 x2 : Int) (h : zH) (k : (Int → zH → Option zRes)) (t : (Nat → zH → Option zRes)), X_withTouch x0 x1 x2 h k = some r → zKsp l true zi r 59 [x0, x1, x2] h k t) (k238 : ∀ (x0 x1 : Int) (h : zH) (k : (Int → zH → Option zRes)) (t : (Nat → zH → Option zRes)), La_markRace x0 x1 h k = some r → zKsp l true zi r 238 [x0, x1] h k t) (a0 a1 a2 a3 : Int) (h : zH) (hr : Bl_touchGlobal_42 zin a0 a1 a2 a3 h = some r) : GO 42 [some (110, a0), some (0, a1), some (0, a2), some (0, a3)] [] h := by
  have e9 := Eq.trans (Eq.symm (qe_Bl_touchGlobal_42 zin a0 a1 a2 a3 h)) hr
  generalize (400 : Nat) = f9 at e9
  refine hS _ _ (zcal_s (SP := zKsp l true zi r) _ ?_) (zorc_s _ ?_) _ _ _ _ _ e9
  · exact ⟨zca3_s (SP := fun xs h k t => zKsp l true zi r 59 (zfc [none, none, none] xs) h k t) k59, trivial⟩
  · exact trivial
set_option maxRecDepth 100000 in
set_option maxHeartbeats 0 in
theorem s_Bl_touchGlobal_34 {l : Launch} {zi : Nat → zinfo} {r : zRes} {GO : Nat → List (Option zV) → List zV → zH → Prop} (hS : zSg l true zi (zget (999, 0, 0, 0) zc_Bl_touchGlobal) (zcut zu_Bl_touchGlobal) zin (fun _ _ => none) r GO) (k58 : ∀ (x0 x1 x2 : Int) (h : zH) (k : (Int → zH → Option zRes)) (t : (Nat → zH → Option zRes)), X_isClash x0 x1 x2 h k = some r → zKsp l true zi r 58 [x0, x1, x2] h k t) (k59 : ∀ (x0 x1 x2 : Int) (h : zH) (k : (Int → zH → Option zRes)) (t : (Nat → zH → Option zRes)), X_withTouch x0 x1 x2 h k = some r → zKsp l true zi r 59 [x0, x1, x2] h k t) (k238 : ∀ (x0 x1 : Int) (h : zH) (k : (Int → zH → Option zRes)) (t : (Nat → zH → Option zRes)), La_markRace x0 x1 h k = some r → zKsp l true zi r 238 [x0, x1] h k t) (a0 a1 a2 a3 : Int) (h : zH) (hr : Bl_touchGlobal_34 zin a0 a1 a2 a3 h = some r) : GO 34 [some (110, a0), some (0, a1), some (0, a2), some (0, a3)] [] h := by
  have e9 := Eq.trans (Eq.symm (qe_Bl_touchGlobal_34 zin a0 a1 a2 a3 h)) hr
  generalize (400 : Nat) = f9 at e9
  refine hS _ _ (zcal_s (SP := zKsp l true zi r) _ ?_) (zorc_s _ ?_) _ _ _ _ _ e9
  · exact ⟨zca2_s (SP := fun xs h k t => zKsp l true zi r 238 (zfc [none, none] xs) h k t) k238, trivial⟩
  · exact ⟨zap4_s (P := fun xs h => GO 42 (zfl [some (110, none), some (0, none), some (0, none), some (0, none)] xs).1 (zfs [] (zfl [some (110, none), some (0, none), some (0, none), some (0, none)] xs).2) h) (fun x0 x1 x2 x3 h hr => s_Bl_touchGlobal_42 hS k58 k59 k238 x0 x1 x2 x3 h hr), trivial⟩
set_option maxRecDepth 100000 in
set_option maxHeartbeats 0 in
theorem s_Bl_touchGlobal {l : Launch} {zi : Nat → zinfo} {r : zRes} {GO : Nat → List (Option zV) → List zV → zH → Prop} (hS : zSg l true zi (zget (999, 0, 0, 0) zc_Bl_touchGlobal) (zcut zu_Bl_touchGlobal) zin (fun _ _ => none) r GO) (k58 : ∀ (x0 x1 x2 : Int) (h : zH) (k : (Int → zH → Option zRes)) (t : (Nat → zH → Option zRes)), X_isClash x0 x1 x2 h k = some r → zKsp l true zi r 58 [x0, x1, x2] h k t) (k59 : ∀ (x0 x1 x2 : Int) (h : zH) (k : (Int → zH → Option zRes)) (t : (Nat → zH → Option zRes)), X_withTouch x0 x1 x2 h k = some r → zKsp l true zi r 59 [x0, x1, x2] h k t) (k238 : ∀ (x0 x1 : Int) (h : zH) (k : (Int → zH → Option zRes)) (t : (Nat → zH → Option zRes)), La_markRace x0 x1 h k = some r → zKsp l true zi r 238 [x0, x1] h k t) (a0 a1 a2 a3 : Int) (h : zH) (hr : Bl_touchGlobal a0 a1 a2 a3 h zin = some r) : GO 0 [some (110, a0), some (0, a1), some (0, a2), some (0, a3)] [] h := by
  have e9 := Eq.trans (Eq.symm (qe_Bl_touchGlobal zin a0 a1 a2 a3 h)) hr
  generalize (400 : Nat) = f9 at e9
  refine hS _ _ (zcal_s (SP := zKsp l true zi r) _ ?_) (zorc_s _ ?_) _ _ _ _ _ e9
  · exact ⟨zca3_s (SP := fun xs h k t => zKsp l true zi r 58 (zfc [none, none, none] xs) h k t) k58, trivial⟩
  · exact ⟨zap4_s (P := fun xs h => GO 34 (zfl [some (110, none), some (0, none), some (0, none), some (0, none)] xs).1 (zfs [] (zfl [some (110, none), some (0, none), some (0, none), some (0, none)] xs).2) h) (fun x0 x1 x2 x3 h hr => s_Bl_touchGlobal_34 hS k58 k59 k238 x0 x1 x2 x3 h hr), ⟨zap4_s (P := fun xs h => GO 42 (zfl [some (110, none), some (0, none), some (0, none), some (0, none)] xs).1 (zfs [] (zfl [some (110, none), some (0, none), some (0, none), some (0, none)] xs).2) h) (fun x0 x1 x2 x3 h hr => s_Bl_touchGlobal_42 hS k58 k59 k238 x0 x1 x2 x3 h hr), trivial⟩⟩
set_option maxRecDepth 100000 in
set_option maxHeartbeats 0 in
theorem s_Gr_isBufferFull_13 {l : Launch} {zi : Nat → zinfo} {r : zRes} {GO : Nat → List (Option zV) → List zV → zH → Prop} (hS : zSg l true zi (zget (999, 0, 0, 0) zc_Gr_isBufferFull) (zcut zu_Gr_isBufferFull) zin (fun _ _ => none) r GO) (t0 : Int) (h : zH) (hr : Gr_isBufferFull_13 zin t0 h = some r) : GO 13 [none] [(0, t0)] h := by
  have e9 := Eq.trans (Eq.symm (qe_Gr_isBufferFull_13 zin t0 h)) hr
  generalize (400 : Nat) = f9 at e9
  refine hS _ _ (zcal_s (SP := zKsp l true zi r) _ ?_) (zorc_s _ ?_) _ _ _ _ _ e9
  · exact trivial
  · exact trivial
set_option maxRecDepth 100000 in
set_option maxHeartbeats 0 in
theorem s_Gr_isBufferFull {l : Launch} {zi : Nat → zinfo} {r : zRes} {GO : Nat → List (Option zV) → List zV → zH → Prop} (hS : zSg l true zi (zget (999, 0, 0, 0) zc_Gr_isBufferFull) (zcut zu_Gr_isBufferFull) zin (fun _ _ => none) r GO) (a0 : Int) (h : zH) (hr : Gr_isBufferFull a0 h zin = some r) : GO 0 [some (111, a0)] [] h := by
  have e9 := Eq.trans (Eq.symm (qe_Gr_isBufferFull zin a0 h)) hr
  generalize (400 : Nat) = f9 at e9
  refine hS _ _ (zcal_s (SP := zKsp l true zi r) _ ?_) (zorc_s _ ?_) _ _ _ _ _ e9
  · exact trivial
  · exact ⟨zap1_s (P := fun xs h => GO 13 (zfl [none] xs).1 (zfs [(0, none)] (zfl [none] xs).2) h) (fun x0 h hr => s_Gr_isBufferFull_13 hS x0 h hr), trivial⟩
set_option maxRecDepth 100000 in
set_option maxHeartbeats 0 in
theorem s_Gr_putWrite_37 {l : Launch} {zi : Nat → zinfo} {r : zRes} {GO : Nat → List (Option zV) → List zV → zH → Prop} (hS : zSg l true zi (zget (999, 0, 0, 0) zc_Gr_putWrite) (zcut zu_Gr_putWrite) zin (fun _ _ => none) r GO) (k212 : ∀ (x0 : Int) (h : zH) (k : (Int → zH → Option zRes)) (t : (Nat → zH → Option zRes)), Gr_isBufferFull x0 h k = some r → zKsp l true zi r 212 [x0] h k t) (h : zH) (hr : Gr_putWrite_37 zin h = some r) : GO 37 [none, none, none] [] h := by
  have e9 := Eq.trans (Eq.symm (qe_Gr_putWrite_37 zin h)) hr
  generalize (400 : Nat) = f9 at e9
  refine hS _ _ (zcal_s (SP := zKsp l true zi r) _ ?_) (zorc_s _ ?_) _ _ _ _ _ e9
  · exact trivial
  · exact trivial
set_option maxRecDepth 100000 in
set_option maxHeartbeats 0 in
theorem s_Gr_putWrite {l : Launch} {zi : Nat → zinfo} {r : zRes} {GO : Nat → List (Option zV) → List zV → zH → Prop} (hS : zSg l true zi (zget (999, 0, 0, 0) zc_Gr_putWrite) (zcut zu_Gr_putWrite) zin (fun _ _ => none) r GO) (k212 : ∀ (x0 : Int) (h : zH) (k : (Int → zH → Option zRes)) (t : (Nat → zH → Option zRes)), Gr_isBufferFull x0 h k = some r → zKsp l true zi r 212 [x0] h k t) (a0 a1 a2 : Int) (h : zH) (hr : Gr_putWrite a0 a1 a2 h zin = some r) : GO 0 [some (111, a0), some (0, a1), some (0, a2)] [] h := by
  have e9 := Eq.trans (Eq.symm (qe_Gr_putWrite zin a0 a1 a2 h)) hr
  generalize (400 : Nat) = f9 at e9
  refine hS _ _ (zcal_s (SP := zKsp l true zi r) _ ?_) (zorc_s _ ?_) _ _ _ _ _ e9
  · exact ⟨zca1_s (SP := fun xs h k t => zKsp l true zi r 212 (zfc [none] xs) h k t) k212, trivial⟩
  · exact ⟨zap0_s (P := fun xs h => GO 37 (zfl [none, none, none] xs).1 (zfs [] (zfl [none, none, none] xs).2) h) (fun  h hr => s_Gr_putWrite_37 hS k212  h hr), trivial⟩
set_option maxRecDepth 100000 in
set_option maxHeartbeats 0 in
theorem s_Gr_seenIn_7b {l : Launch} {zi : Nat → zinfo} {r : zRes} {GO : Nat → List (Option zV) → List zV → zH → Prop} (hS : zSg l true zi (zget (999, 0, 0, 0) zc_Gr_seenIn) (zcut zu_Gr_seenIn) zin (fun _ _ => none) r GO) {r7 : Int → Int → Int → Int → zH → Option zRes} (h7 : ∀ (x0 x1 x2 x3 : Int) (h : zH), r7 x0 x1 x2 x3 h = some r → GO 7 [some (111, x0), some (0, x1), some (122, x2), some (0, x3)] [] h) (a0 a1 a2 a3 : Int) (h : zH) (hr : Gr_seenIn_7b zin r7 a0 a1 a2 a3 h = some r) : GO 7 [some (111, a0), some (0, a1), some (122, a2), some (0, a3)] [] h := by
  have e9 := Eq.trans (Eq.symm (qe_Gr_seenIn_7b zin r7 a0 a1 a2 a3 h)) hr
  generalize (400 : Nat) = f9 at e9
  refine hS _ _ (zcal_s (SP := zKsp l true zi r) _ ?_) (zorc_s _ ?_) _ _ _ _ _ e9
  · exact trivial
  · exact ⟨zap4_s (P := fun xs h => GO 7 (zfl [some (111, none), some (0, none), some (122, none), some (0, none)] xs).1 (zfs [] (zfl [some (111, none), some (0, none), some (122, none), some (0, none)] xs).2) h) h7, trivial⟩
set_option maxRecDepth 100000 in
set_option maxHeartbeats 0 in
theorem s_Gr_seenIn_7 {l : Launch} {zi : Nat → zinfo} {r : zRes} {GO : Nat → List (Option zV) → List zV → zH → Prop} (hS : zSg l true zi (zget (999, 0, 0, 0) zc_Gr_seenIn) (zcut zu_Gr_seenIn) zin (fun _ _ => none) r GO) (a0 a1 a2 a3 : Int) (h : zH) (hr : Gr_seenIn_7 zin a0 a1 a2 a3 h = some r) : GO 7 [some (111, a0), some (0, a1), some (122, a2), some (0, a3)] [] h := zit4_s (P := fun x0 x1 x2 x3 h => GO 7 [some (111, x0), some (0, x1), some (122, x2), some (0, x3)] [] h) (fun rr hh a0 a1 a2 a3 h hr => s_Gr_seenIn_7b hS hh a0 a1 a2 a3 h hr) zN a0 a1 a2 a3 h hr
set_option maxRecDepth 100000 in
set_option maxHeartbeats 0 in
theorem s_Gr_seenIn {l : Launch} {zi : Nat → zinfo} {r : zRes} {GO : Nat → List (Option zV) → List zV → zH → Prop} (hS : zSg l true zi (zget (999, 0, 0, 0) zc_Gr_seenIn) (zcut zu_Gr_seenIn) zin (fun _ _ => none) r GO) (a0 a1 a2 : Int) (h : zH) (hr : Gr_seenIn a0 a1 a2 h zin = some r) : GO 0 [some (111, a0), some (0, a1), some (122, a2), none] [] h := by
  have e9 := Eq.trans (Eq.symm (qe_Gr_seenIn zin a0 a1 a2 h)) hr
  generalize (400 : Nat) = f9 at e9
  refine hS _ _ (zcal_s (SP := zKsp l true zi r) _ ?_) (zorc_s _ ?_) _ _ _ _ _ e9
  · exact trivial
  · exact ⟨zap4_s (P := fun xs h => GO 7 (zfl [some (111, none), some (0, none), some (122, none), some (0, none)] xs).1 (zfs [] (zfl [some (111, none), some (0, none), some (122, none), some (0, none)] xs).2) h) (fun x0 x1 x2 x3 h hr => s_Gr_seenIn_7 hS x0 x1 x2 x3 h hr), trivial⟩
set_option maxRecDepth 100000 in
set_option maxHeartbeats 0 in
theorem s_Co_carryGlobal_131 {l : Launch} {zi : Nat → zinfo} {r : zRes} {GO : Nat → List (Option zV) → List zV → zH → Prop} (hS : zSg l true zi (zget (999, 0, 0, 0) zc_Co_carryGlobal) (zcut zu_Co_carryGlobal) zin (fun _ _ => none) r GO) (k55 : ∀ (x0 : Int) (h : zH) (k : (Int → zH → Option zRes)) (t : (Nat → zH → Option zRes)), X_isCell x0 h k = some r → zKsp l true zi r 55 [x0] h k t) (k60 : ∀ (x0 x1 x2 x3 : Int) (h : zH) (k : (Int → zH → Option zRes)) (t : (Nat → zH → Option zRes)), X_exchange_22 x0 x1 x2 x3 h k = some r → zKsp l true zi r 60 [x0, x1, x2, x3] h k t) (k176 : ∀ (x0 x1 x2 x3 : Int) (h : zH) (k : (Int → zH → Option zRes)) (t : (Nat → zH → Option zRes)), Bl_touchGlobal x0 x1 x2 x3 h k = some r → zKsp l true zi r 176 [x0, x1, x2, x3] h k t) (k212 : ∀ (x0 : Int) (h : zH) (k : (Int → zH → Option zRes)) (t : (Nat → zH → Option zRes)), Gr_isBufferFull x0 h k = some r → zKsp l true zi r 212 [x0] h k t) (k214 : ∀ (x0 x1 x2 : Int) (h : zH) (k : (Int → zH → Option zRes)) (t : (Nat → zH → Option zRes)), Gr_putWrite x0 x1 x2 h k = some r → zKsp l true zi r 214 [x0, x1, x2] h k t) (k215 : ∀ (x0 x1 x2 : Int) (h : zH) (k : (Int → zH → Option zRes)) (t : (Nat → zH → Option zRes)), Gr_seenIn x0 x1 x2 h k = some r → zKsp l true zi r 215 [x0, x1, x2] h k t) (k216 : ∀ (x0 x1 : Int) (h : zH) (k : (Int → zH → Option zRes)) (t : (Nat → zH → Option zRes)), Gr_writeFirst x0 x1 h k = some r → zKsp l true zi r 216 [x0, x1] h k t) (k258 : ∀ (x0 x1 : Int) (h : zH) (k : (Int → zH → Option zRes)) (t : (Nat → zH → Option zRes)), Th_at x0 x1 h k = some r → zKsp l true zi r 258 [x0, x1] h k t) (k259 : ∀ (x0 x1 x2 : Int) (h : zH) (k : (Int → zH → Option zRes)) (t : (Nat → zH → Option zRes)), Th_set x0 x1 x2 h k = some r → zKsp l true zi r 259 [x0, x1, x2] h k t) (h : zH) (hr : Co_carryGlobal_131 zin h = some r) : GO 131 [none, none, none, none, none] [] h := by
  have e9 := Eq.trans (Eq.symm (qe_Co_carryGlobal_131 zin h)) hr
  generalize (400 : Nat) = f9 at e9
  refine hS _ _ (zcal_s (SP := zKsp l true zi r) _ ?_) (zorc_s _ ?_) _ _ _ _ _ e9
  · exact trivial
  · exact trivial
set_option maxRecDepth 100000 in
set_option maxHeartbeats 0 in
theorem s_Co_carryGlobal_103 {l : Launch} {zi : Nat → zinfo} {r : zRes} {GO : Nat → List (Option zV) → List zV → zH → Prop} (hS : zSg l true zi (zget (999, 0, 0, 0) zc_Co_carryGlobal) (zcut zu_Co_carryGlobal) zin (fun _ _ => none) r GO) (k55 : ∀ (x0 : Int) (h : zH) (k : (Int → zH → Option zRes)) (t : (Nat → zH → Option zRes)), X_isCell x0 h k = some r → zKsp l true zi r 55 [x0] h k t) (k60 : ∀ (x0 x1 x2 x3 : Int) (h : zH) (k : (Int → zH → Option zRes)) (t : (Nat → zH → Option zRes)), X_exchange_22 x0 x1 x2 x3 h k = some r → zKsp l true zi r 60 [x0, x1, x2, x3] h k t) (k176 : ∀ (x0 x1 x2 x3 : Int) (h : zH) (k : (Int → zH → Option zRes)) (t : (Nat → zH → Option zRes)), Bl_touchGlobal x0 x1 x2 x3 h k = some r → zKsp l true zi r 176 [x0, x1, x2, x3] h k t) (k212 : ∀ (x0 : Int) (h : zH) (k : (Int → zH → Option zRes)) (t : (Nat → zH → Option zRes)), Gr_isBufferFull x0 h k = some r → zKsp l true zi r 212 [x0] h k t) (k214 : ∀ (x0 x1 x2 : Int) (h : zH) (k : (Int → zH → Option zRes)) (t : (Nat → zH → Option zRes)), Gr_putWrite x0 x1 x2 h k = some r → zKsp l true zi r 214 [x0, x1, x2] h k t) (k215 : ∀ (x0 x1 x2 : Int) (h : zH) (k : (Int → zH → Option zRes)) (t : (Nat → zH → Option zRes)), Gr_seenIn x0 x1 x2 h k = some r → zKsp l true zi r 215 [x0, x1, x2] h k t) (k216 : ∀ (x0 x1 : Int) (h : zH) (k : (Int → zH → Option zRes)) (t : (Nat → zH → Option zRes)), Gr_writeFirst x0 x1 h k = some r → zKsp l true zi r 216 [x0, x1] h k t) (k258 : ∀ (x0 x1 : Int) (h : zH) (k : (Int → zH → Option zRes)) (t : (Nat → zH → Option zRes)), Th_at x0 x1 h k = some r → zKsp l true zi r 258 [x0, x1] h k t) (k259 : ∀ (x0 x1 x2 : Int) (h : zH) (k : (Int → zH → Option zRes)) (t : (Nat → zH → Option zRes)), Th_set x0 x1 x2 h k = some r → zKsp l true zi r 259 [x0, x1, x2] h k t) (a1 a2 a3 a4 : Int) (h : zH) (hr : Co_carryGlobal_103 zin a1 a2 a3 a4 h = some r) : GO 103 [none, some (111, a1), some (0, a2), some (106, a3), some (108, a4)] [] h := by
  have e9 := Eq.trans (Eq.symm (qe_Co_carryGlobal_103 zin a1 a2 a3 a4 h)) hr
  generalize (400 : Nat) = f9 at e9
  refine hS _ _ (zcal_s (SP := zKsp l true zi r) _ ?_) (zorc_s _ ?_) _ _ _ _ _ e9
  · exact ⟨zca3_s (SP := fun xs h k t => zKsp l true zi r 214 (zfc [none, none, none] xs) h k t) k214, ⟨zca2_s (SP := fun xs h k t => zKsp l true zi r 258 (zfc [none, none] xs) h k t) k258, trivial⟩⟩
  · exact ⟨zap0_s (P := fun xs h => GO 131 (zfl [none, none, none, none, none] xs).1 (zfs [] (zfl [none, none, none, none, none] xs).2) h) (fun  h hr => s_Co_carryGlobal_131 hS k55 k60 k176 k212 k214 k215 k216 k258 k259  h hr), trivial⟩
set_option maxRecDepth 100000 in
set_option maxHeartbeats 0 in
theorem s_Co_carryGlobal_34 {l : Launch} {zi : Nat → zinfo} {r : zRes} {GO : Nat → List (Option zV) → List zV → zH → Prop} (hS : zSg l true zi (zget (999, 0, 0, 0) zc_Co_carryGlobal) (zcut zu_Co_carryGlobal) zin (fun _ _ => none) r GO) (k55 : ∀ (x0 : Int) (h : zH) (k : (Int → zH → Option zRes)) (t : (Nat → zH → Option zRes)), X_isCell x0 h k = some r → zKsp l true zi r 55 [x0] h k t) (k60 : ∀ (x0 x1 x2 x3 : Int) (h : zH) (k : (Int → zH → Option zRes)) (t : (Nat → zH → Option zRes)), X_exchange_22 x0 x1 x2 x3 h k = some r → zKsp l true zi r 60 [x0, x1, x2, x3] h k t) (k176 : ∀ (x0 x1 x2 x3 : Int) (h : zH) (k : (Int → zH → Option zRes)) (t : (Nat → zH → Option zRes)), Bl_touchGlobal x0 x1 x2 x3 h k = some r → zKsp l true zi r 176 [x0, x1, x2, x3] h k t) (k212 : ∀ (x0 : Int) (h : zH) (k : (Int → zH → Option zRes)) (t : (Nat → zH → Option zRes)), Gr_isBufferFull x0 h k = some r → zKsp l true zi r 212 [x0] h k t) (k214 : ∀ (x0 x1 x2 : Int) (h : zH) (k : (Int → zH → Option zRes)) (t : (Nat → zH → Option zRes)), Gr_putWrite x0 x1 x2 h k = some r → zKsp l true zi r 214 [x0, x1, x2] h k t) (k215 : ∀ (x0 x1 x2 : Int) (h : zH) (k : (Int → zH → Option zRes)) (t : (Nat → zH → Option zRes)), Gr_seenIn x0 x1 x2 h k = some r → zKsp l true zi r 215 [x0, x1, x2] h k t) (k216 : ∀ (x0 x1 : Int) (h : zH) (k : (Int → zH → Option zRes)) (t : (Nat → zH → Option zRes)), Gr_writeFirst x0 x1 h k = some r → zKsp l true zi r 216 [x0, x1] h k t) (k258 : ∀ (x0 x1 : Int) (h : zH) (k : (Int → zH → Option zRes)) (t : (Nat → zH → Option zRes)), Th_at x0 x1 h k = some r → zKsp l true zi r 258 [x0, x1] h k t) (k259 : ∀ (x0 x1 x2 : Int) (h : zH) (k : (Int → zH → Option zRes)) (t : (Nat → zH → Option zRes)), Th_set x0 x1 x2 h k = some r → zKsp l true zi r 259 [x0, x1, x2] h k t) (a0 a1 a2 a3 a4 t0 t1 t2 t3 : Int) (h : zH) (hr : Co_carryGlobal_34 zin a0 a1 a2 a3 a4 t0 t1 t2 t3 h = some r) : GO 34 [some (102, a0), some (111, a1), some (0, a2), some (106, a3), some (108, a4)] [(0, t0), (0, t1), (0, t2), (110, t3)] h := by
  have e9 := Eq.trans (Eq.symm (qe_Co_carryGlobal_34 zin a0 a1 a2 a3 a4 t0 t1 t2 t3 h)) hr
  generalize (400 : Nat) = f9 at e9
  refine hS _ _ (zcal_s (SP := zKsp l true zi r) _ ?_) (zorc_s _ ?_) _ _ _ _ _ e9
  · exact ⟨zca4_s (SP := fun xs h k t => zKsp l true zi r 60 (zfc [none, none, none, none] xs) h k t) k60, ⟨zca4_s (SP := fun xs h k t => zKsp l true zi r 176 (zfc [none, none, none, none] xs) h k t) k176, ⟨zca1_s (SP := fun xs h k t => zKsp l true zi r 212 (zfc [none] xs) h k t) k212, ⟨zca3_s (SP := fun xs h k t => zKsp l true zi r 215 (zfc [none, none, none] xs) h k t) k215, ⟨zca2_s (SP := fun xs h k t => zKsp l true zi r 216 (zfc [none, none] xs) h k t) k216, ⟨zca3_s (SP := fun xs h k t => zKsp l true zi r 259 (zfc [none, none, none] xs) h k t) k259, trivial⟩⟩⟩⟩⟩⟩
  · exact ⟨zap4_s (P := fun xs h => GO 103 (zfl [none, some (111, none), some (0, none), some (106, none), some (108, none)] xs).1 (zfs [] (zfl [none, some (111, none), some (0, none), some (106, none), some (108, none)] xs).2) h) (fun x0 x1 x2 x3 h hr => s_Co_carryGlobal_103 hS k55 k60 k176 k212 k214 k215 k216 k258 k259 x0 x1 x2 x3 h hr), ⟨zap0_s (P := fun xs h => GO 131 (zfl [none, none, none, none, none] xs).1 (zfs [] (zfl [none, none, none, none, none] xs).2) h) (fun  h hr => s_Co_carryGlobal_131 hS k55 k60 k176 k212 k214 k215 k216 k258 k259  h hr), trivial⟩⟩
set_option maxRecDepth 100000 in
set_option maxHeartbeats 0 in
theorem s_Co_carryGlobal {l : Launch} {zi : Nat → zinfo} {r : zRes} {GO : Nat → List (Option zV) → List zV → zH → Prop} (hS : zSg l true zi (zget (999, 0, 0, 0) zc_Co_carryGlobal) (zcut zu_Co_carryGlobal) zin (fun _ _ => none) r GO) (k55 : ∀ (x0 : Int) (h : zH) (k : (Int → zH → Option zRes)) (t : (Nat → zH → Option zRes)), X_isCell x0 h k = some r → zKsp l true zi r 55 [x0] h k t) (k60 : ∀ (x0 x1 x2 x3 : Int) (h : zH) (k : (Int → zH → Option zRes)) (t : (Nat → zH → Option zRes)), X_exchange_22 x0 x1 x2 x3 h k = some r → zKsp l true zi r 60 [x0, x1, x2, x3] h k t) (k176 : ∀ (x0 x1 x2 x3 : Int) (h : zH) (k : (Int → zH → Option zRes)) (t : (Nat → zH → Option zRes)), Bl_touchGlobal x0 x1 x2 x3 h k = some r → zKsp l true zi r 176 [x0, x1, x2, x3] h k t) (k212 : ∀ (x0 : Int) (h : zH) (k : (Int → zH → Option zRes)) (t : (Nat → zH → Option zRes)), Gr_isBufferFull x0 h k = some r → zKsp l true zi r 212 [x0] h k t) (k214 : ∀ (x0 x1 x2 : Int) (h : zH) (k : (Int → zH → Option zRes)) (t : (Nat → zH → Option zRes)), Gr_putWrite x0 x1 x2 h k = some r → zKsp l true zi r 214 [x0, x1, x2] h k t) (k215 : ∀ (x0 x1 x2 : Int) (h : zH) (k : (Int → zH → Option zRes)) (t : (Nat → zH → Option zRes)), Gr_seenIn x0 x1 x2 h k = some r → zKsp l true zi r 215 [x0, x1, x2] h k t) (k216 : ∀ (x0 x1 : Int) (h : zH) (k : (Int → zH → Option zRes)) (t : (Nat → zH → Option zRes)), Gr_writeFirst x0 x1 h k = some r → zKsp l true zi r 216 [x0, x1] h k t) (k258 : ∀ (x0 x1 : Int) (h : zH) (k : (Int → zH → Option zRes)) (t : (Nat → zH → Option zRes)), Th_at x0 x1 h k = some r → zKsp l true zi r 258 [x0, x1] h k t) (k259 : ∀ (x0 x1 x2 : Int) (h : zH) (k : (Int → zH → Option zRes)) (t : (Nat → zH → Option zRes)), Th_set x0 x1 x2 h k = some r → zKsp l true zi r 259 [x0, x1, x2] h k t) (a0 a1 a2 a3 a4 : Int) (h : zH) (hr : Co_carryGlobal a0 a1 a2 a3 a4 h zin = some r) : GO 0 [some (102, a0), some (111, a1), some (0, a2), some (106, a3), some (108, a4)] [] h := by
  have e9 := Eq.trans (Eq.symm (qe_Co_carryGlobal zin a0 a1 a2 a3 a4 h)) hr
  generalize (400 : Nat) = f9 at e9
  refine hS _ _ (zcal_s (SP := zKsp l true zi r) _ ?_) (zorc_s _ ?_) _ _ _ _ _ e9
  · exact ⟨zca1_s (SP := fun xs h k t => zKsp l true zi r 55 (zfc [none] xs) h k t) k55, trivial⟩
  · exact ⟨zap9_s (P := fun xs h => GO 34 (zfl [some (102, none), some (111, none), some (0, none), some (106, none), some (108, none)] xs).1 (zfs [(0, none), (0, none), (0, none), (110, none)] (zfl [some (102, none), some (111, none), some (0, none), some (106, none), some (108, none)] xs).2) h) (fun x0 x1 x2 x3 x4 x5 x6 x7 x8 h hr => s_Co_carryGlobal_34 hS k55 k60 k176 k212 k214 k215 k216 k258 k259 x0 x1 x2 x3 x4 x5 x6 x7 x8 h hr), trivial⟩
set_option maxRecDepth 100000 in
set_option maxHeartbeats 0 in
theorem s_Bl_hasShared {l : Launch} {zi : Nat → zinfo} {r : zRes} {GO : Nat → List (Option zV) → List zV → zH → Prop} (hS : zSg l true zi (zget (999, 0, 0, 0) zc_Bl_hasShared) (zcut zu_Bl_hasShared) zin (fun _ _ => none) r GO) (k54 : ∀ (x0 x1 x2 : Int) (h : zH) (k : (Int → zH → Option zRes)) (t : (Nat → zH → Option zRes)), X_isWithin x0 x1 x2 h k = some r → zKsp l true zi r 54 [x0, x1, x2] h k t) (a0 a1 : Int) (h : zH) (hr : Bl_hasShared a0 a1 h zin = some r) : GO 0 [some (110, a0), some (0, a1)] [] h := by
  have e9 := Eq.trans (Eq.symm (qe_Bl_hasShared zin a0 a1 h)) hr
  generalize (400 : Nat) = f9 at e9
  refine hS _ _ (zcal_s (SP := zKsp l true zi r) _ ?_) (zorc_s _ ?_) _ _ _ _ _ e9
  · exact ⟨zca3_s (SP := fun xs h k t => zKsp l true zi r 54 (zfc [none, none, none] xs) h k t) k54, trivial⟩
  · exact trivial
set_option maxRecDepth 100000 in
set_option maxHeartbeats 0 in
theorem s_Bl_touchShared_43 {l : Launch} {zi : Nat → zinfo} {r : zRes} {GO : Nat → List (Option zV) → List zV → zH → Prop} (hS : zSg l true zi (zget (999, 0, 0, 0) zc_Bl_touchShared) (zcut zu_Bl_touchShared) zin (fun _ _ => none) r GO) (k58 : ∀ (x0 x1 x2 : Int) (h : zH) (k : (Int → zH → Option zRes)) (t : (Nat → zH → Option zRes)), X_isClash x0 x1 x2 h k = some r → zKsp l true zi r 58 [x0, x1, x2] h k t) (k59 : ∀ (x0 x1 x2 : Int) (h : zH) (k : (Int → zH → Option zRes)) (t : (Nat → zH → Option zRes)), X_withTouch x0 x1 x2 h k = some r → zKsp l true zi r 59 [x0, x1, x2] h k t) (a0 a1 a2 a3 : Int) (h : zH) (hr : Bl_touchShared_43 zin a0 a1 a2 a3 h = some r) : GO 43 [some (110, a0), some (0, a1), some (0, a2), some (0, a3)] [] h := by
  have e9 := Eq.trans (Eq.symm (qe_Bl_touchShared_43 zin a0 a1 a2 a3 h)) hr
  generalize (400 : Nat) = f9 at e9
  refine hS _ _ (zcal_s (SP := zKsp l true zi r) _ ?_) (zorc_s _ ?_) _ _ _ _ _ e9
  · exact ⟨zca3_s (SP := fun xs h k t => zKsp l true zi r 59 (zfc [none, none, none] xs) h k t) k59, trivial⟩
  · exact trivial
set_option maxRecDepth 100000 in
set_option maxHeartbeats 0 in
theorem s_Bl_touchShared {l : Launch} {zi : Nat → zinfo} {r : zRes} {GO : Nat → List (Option zV) → List zV → zH → Prop} (hS : zSg l true zi (zget (999, 0, 0, 0) zc_Bl_touchShared) (zcut zu_Bl_touchShared) zin (fun _ _ => none) r GO) (k58 : ∀ (x0 x1 x2 : Int) (h : zH) (k : (Int → zH → Option zRes)) (t : (Nat → zH → Option zRes)), X_isClash x0 x1 x2 h k = some r → zKsp l true zi r 58 [x0, x1, x2] h k t) (k59 : ∀ (x0 x1 x2 : Int) (h : zH) (k : (Int → zH → Option zRes)) (t : (Nat → zH → Option zRes)), X_withTouch x0 x1 x2 h k = some r → zKsp l true zi r 59 [x0, x1, x2] h k t) (a0 a1 a2 a3 : Int) (h : zH) (hr : Bl_touchShared a0 a1 a2 a3 h zin = some r) : GO 0 [some (110, a0), some (0, a1), some (0, a2), some (0, a3)] [] h := by
  have e9 := Eq.trans (Eq.symm (qe_Bl_touchShared zin a0 a1 a2 a3 h)) hr
  generalize (400 : Nat) = f9 at e9
  refine hS _ _ (zcal_s (SP := zKsp l true zi r) _ ?_) (zorc_s _ ?_) _ _ _ _ _ e9
  · exact ⟨zca3_s (SP := fun xs h k t => zKsp l true zi r 58 (zfc [none, none, none] xs) h k t) k58, trivial⟩
  · exact ⟨zap4_s (P := fun xs h => GO 43 (zfl [some (110, none), some (0, none), some (0, none), some (0, none)] xs).1 (zfs [] (zfl [some (110, none), some (0, none), some (0, none), some (0, none)] xs).2) h) (fun x0 x1 x2 x3 h hr => s_Bl_touchShared_43 hS k58 k59 x0 x1 x2 x3 h hr), trivial⟩
set_option maxRecDepth 100000 in
set_option maxHeartbeats 0 in
theorem s_Co_carryShared_74 {l : Launch} {zi : Nat → zinfo} {r : zRes} {GO : Nat → List (Option zV) → List zV → zH → Prop} (hS : zSg l true zi (zget (999, 0, 0, 0) zc_Co_carryShared) (zcut zu_Co_carryShared) zin (fun _ _ => none) r GO) (k171 : ∀ (x0 x1 : Int) (h : zH) (k : (Int → zH → Option zRes)) (t : (Nat → zH → Option zRes)), Bl_hasShared x0 x1 h k = some r → zKsp l true zi r 171 [x0, x1] h k t) (k177 : ∀ (x0 x1 x2 x3 : Int) (h : zH) (k : (Int → zH → Option zRes)) (t : (Nat → zH → Option zRes)), Bl_touchShared x0 x1 x2 x3 h k = some r → zKsp l true zi r 177 [x0, x1, x2, x3] h k t) (k258 : ∀ (x0 x1 : Int) (h : zH) (k : (Int → zH → Option zRes)) (t : (Nat → zH → Option zRes)), Th_at x0 x1 h k = some r → zKsp l true zi r 258 [x0, x1] h k t) (k259 : ∀ (x0 x1 x2 : Int) (h : zH) (k : (Int → zH → Option zRes)) (t : (Nat → zH → Option zRes)), Th_set x0 x1 x2 h k = some r → zKsp l true zi r 259 [x0, x1, x2] h k t) (h : zH) (hr : Co_carryShared_74 zin h = some r) : GO 74 [none, none, none, none] [] h := by
  have e9 := Eq.trans (Eq.symm (qe_Co_carryShared_74 zin h)) hr
  generalize (400 : Nat) = f9 at e9
  refine hS _ _ (zcal_s (SP := zKsp l true zi r) _ ?_) (zorc_s _ ?_) _ _ _ _ _ e9
  · exact trivial
  · exact trivial
set_option maxRecDepth 100000 in
set_option maxHeartbeats 0 in
theorem s_Co_carryShared_31 {l : Launch} {zi : Nat → zinfo} {r : zRes} {GO : Nat → List (Option zV) → List zV → zH → Prop} (hS : zSg l true zi (zget (999, 0, 0, 0) zc_Co_carryShared) (zcut zu_Co_carryShared) zin (fun _ _ => none) r GO) (k171 : ∀ (x0 x1 : Int) (h : zH) (k : (Int → zH → Option zRes)) (t : (Nat → zH → Option zRes)), Bl_hasShared x0 x1 h k = some r → zKsp l true zi r 171 [x0, x1] h k t) (k177 : ∀ (x0 x1 x2 x3 : Int) (h : zH) (k : (Int → zH → Option zRes)) (t : (Nat → zH → Option zRes)), Bl_touchShared x0 x1 x2 x3 h k = some r → zKsp l true zi r 177 [x0, x1, x2, x3] h k t) (k258 : ∀ (x0 x1 : Int) (h : zH) (k : (Int → zH → Option zRes)) (t : (Nat → zH → Option zRes)), Th_at x0 x1 h k = some r → zKsp l true zi r 258 [x0, x1] h k t) (k259 : ∀ (x0 x1 x2 : Int) (h : zH) (k : (Int → zH → Option zRes)) (t : (Nat → zH → Option zRes)), Th_set x0 x1 x2 h k = some r → zKsp l true zi r 259 [x0, x1, x2] h k t) (a0 a1 a2 a3 t0 t1 t2 t3 : Int) (h : zH) (hr : Co_carryShared_31 zin a0 a1 a2 a3 t0 t1 t2 t3 h = some r) : GO 31 [some (110, a0), some (0, a1), some (106, a2), some (108, a3)] [(0, t0), (0, t1), (0, t2), (110, t3)] h := by
  have e9 := Eq.trans (Eq.symm (qe_Co_carryShared_31 zin a0 a1 a2 a3 t0 t1 t2 t3 h)) hr
  generalize (400 : Nat) = f9 at e9
  refine hS _ _ (zcal_s (SP := zKsp l true zi r) _ ?_) (zorc_s _ ?_) _ _ _ _ _ e9
  · exact ⟨zca4_s (SP := fun xs h k t => zKsp l true zi r 177 (zfc [none, none, none, none] xs) h k t) k177, ⟨zca2_s (SP := fun xs h k t => zKsp l true zi r 258 (zfc [none, none] xs) h k t) k258, ⟨zca3_s (SP := fun xs h k t => zKsp l true zi r 259 (zfc [none, none, none] xs) h k t) k259, trivial⟩⟩⟩
  · exact ⟨zap0_s (P := fun xs h => GO 74 (zfl [none, none, none, none] xs).1 (zfs [] (zfl [none, none, none, none] xs).2) h) (fun  h hr => s_Co_carryShared_74 hS k171 k177 k258 k259  h hr), trivial⟩
set_option maxRecDepth 100000 in
set_option maxHeartbeats 0 in
theorem s_Co_carryShared {l : Launch} {zi : Nat → zinfo} {r : zRes} {GO : Nat → List (Option zV) → List zV → zH → Prop} (hS : zSg l true zi (zget (999, 0, 0, 0) zc_Co_carryShared) (zcut zu_Co_carryShared) zin (fun _ _ => none) r GO) (k171 : ∀ (x0 x1 : Int) (h : zH) (k : (Int → zH → Option zRes)) (t : (Nat → zH → Option zRes)), Bl_hasShared x0 x1 h k = some r → zKsp l true zi r 171 [x0, x1] h k t) (k177 : ∀ (x0 x1 x2 x3 : Int) (h : zH) (k : (Int → zH → Option zRes)) (t : (Nat → zH → Option zRes)), Bl_touchShared x0 x1 x2 x3 h k = some r → zKsp l true zi r 177 [x0, x1, x2, x3] h k t) (k258 : ∀ (x0 x1 : Int) (h : zH) (k : (Int → zH → Option zRes)) (t : (Nat → zH → Option zRes)), Th_at x0 x1 h k = some r → zKsp l true zi r 258 [x0, x1] h k t) (k259 : ∀ (x0 x1 x2 : Int) (h : zH) (k : (Int → zH → Option zRes)) (t : (Nat → zH → Option zRes)), Th_set x0 x1 x2 h k = some r → zKsp l true zi r 259 [x0, x1, x2] h k t) (a0 a1 a2 a3 : Int) (h : zH) (hr : Co_carryShared a0 a1 a2 a3 h zin = some r) : GO 0 [some (110, a0), some (0, a1), some (106, a2), some (108, a3)] [] h := by
  have e9 := Eq.trans (Eq.symm (qe_Co_carryShared zin a0 a1 a2 a3 h)) hr
  generalize (400 : Nat) = f9 at e9
  refine hS _ _ (zcal_s (SP := zKsp l true zi r) _ ?_) (zorc_s _ ?_) _ _ _ _ _ e9
  · exact ⟨zca2_s (SP := fun xs h k t => zKsp l true zi r 171 (zfc [none, none] xs) h k t) k171, trivial⟩
  · exact ⟨zap8_s (P := fun xs h => GO 31 (zfl [some (110, none), some (0, none), some (106, none), some (108, none)] xs).1 (zfs [(0, none), (0, none), (0, none), (110, none)] (zfl [some (110, none), some (0, none), some (106, none), some (108, none)] xs).2) h) (fun x0 x1 x2 x3 x4 x5 x6 x7 h hr => s_Co_carryShared_31 hS k171 k177 k258 k259 x0 x1 x2 x3 x4 x5 x6 x7 h hr), trivial⟩
set_option maxRecDepth 100000 in
set_option maxHeartbeats 0 in
theorem s_La_depth_28 {l : Launch} {zi : Nat → zinfo} {r : zRes} {GO : Nat → List (Option zV) → List zV → zH → Prop} (hS : zSg l true zi (zget (999, 0, 0, 0) zc_La_depth) (zcut zu_La_depth) zin (fun _ _ => none) r GO) (a1 : Int) (h : zH) (hr : La_depth_28 zin a1 h = some r) : GO 28 [none, some (0, a1), none] [] h := by
  have e9 := Eq.trans (Eq.symm (qe_La_depth_28 zin a1 h)) hr
  generalize (400 : Nat) = f9 at e9
  refine hS _ _ (zcal_s (SP := zKsp l true zi r) _ ?_) (zorc_s _ ?_) _ _ _ _ _ e9
  · exact trivial
  · exact trivial
set_option maxRecDepth 100000 in
set_option maxHeartbeats 0 in
theorem s_La_depth_7b {l : Launch} {zi : Nat → zinfo} {r : zRes} {GO : Nat → List (Option zV) → List zV → zH → Prop} (hS : zSg l true zi (zget (999, 0, 0, 0) zc_La_depth) (zcut zu_La_depth) zin (fun _ _ => none) r GO) {r7 : Int → Int → zH → Option zRes} (h7 : ∀ (x0 x1 : Int) (h : zH), r7 x0 x1 h = some r → GO 7 [none, some (0, x0), some (109, x1)] [] h) (a1 a2 : Int) (h : zH) (hr : La_depth_7b zin r7 a1 a2 h = some r) : GO 7 [none, some (0, a1), some (109, a2)] [] h := by
  have e9 := Eq.trans (Eq.symm (qe_La_depth_7b zin r7 a1 a2 h)) hr
  generalize (400 : Nat) = f9 at e9
  refine hS _ _ (zcal_s (SP := zKsp l true zi r) _ ?_) (zorc_s _ ?_) _ _ _ _ _ e9
  · exact trivial
  · exact ⟨zap2_s (P := fun xs h => GO 7 (zfl [none, some (0, none), some (109, none)] xs).1 (zfs [] (zfl [none, some (0, none), some (109, none)] xs).2) h) h7, ⟨zap1_s (P := fun xs h => GO 28 (zfl [none, some (0, none), none] xs).1 (zfs [] (zfl [none, some (0, none), none] xs).2) h) (fun x0 h hr => s_La_depth_28 hS x0 h hr), trivial⟩⟩
set_option maxRecDepth 100000 in
set_option maxHeartbeats 0 in
theorem s_La_depth_7 {l : Launch} {zi : Nat → zinfo} {r : zRes} {GO : Nat → List (Option zV) → List zV → zH → Prop} (hS : zSg l true zi (zget (999, 0, 0, 0) zc_La_depth) (zcut zu_La_depth) zin (fun _ _ => none) r GO) (a1 a2 : Int) (h : zH) (hr : La_depth_7 zin a1 a2 h = some r) : GO 7 [none, some (0, a1), some (109, a2)] [] h := zit2_s (P := fun x0 x1 h => GO 7 [none, some (0, x0), some (109, x1)] [] h) (fun rr hh a1 a2 h hr => s_La_depth_7b hS hh a1 a2 h hr) zN a1 a2 h hr
set_option maxRecDepth 100000 in
set_option maxHeartbeats 0 in
theorem s_La_depth {l : Launch} {zi : Nat → zinfo} {r : zRes} {GO : Nat → List (Option zV) → List zV → zH → Prop} (hS : zSg l true zi (zget (999, 0, 0, 0) zc_La_depth) (zcut zu_La_depth) zin (fun _ _ => none) r GO) (a0 : Int) (h : zH) (hr : La_depth a0 h zin = some r) : GO 0 [some (109, a0), none, none] [] h := by
  have e9 := Eq.trans (Eq.symm (qe_La_depth zin a0 h)) hr
  generalize (400 : Nat) = f9 at e9
  refine hS _ _ (zcal_s (SP := zKsp l true zi r) _ ?_) (zorc_s _ ?_) _ _ _ _ _ e9
  · exact trivial
  · exact ⟨zap2_s (P := fun xs h => GO 7 (zfl [none, some (0, none), some (109, none)] xs).1 (zfs [] (zfl [none, some (0, none), some (109, none)] xs).2) h) (fun x0 x1 h hr => s_La_depth_7 hS x0 x1 h hr), trivial⟩
set_option maxRecDepth 100000 in
set_option maxHeartbeats 0 in
theorem s_Le_launchChild_38 {l : Launch} {zi : Nat → zinfo} {r : zRes} {GO : Nat → List (Option zV) → List zV → zH → Prop} (hS : zSg l true zi (zget (999, 0, 0, 0) zc_Le_launchChild) (zcut zu_Le_launchChild) zin (fun _ _ => none) r GO) (k227 : ∀ (x0 x1 : Int) (h : zH) (k : (Int → zH → Option zRes)) (t : (Nat → zH → Option zRes)), Ke_blocksInUnit x0 x1 h k = some r → zKsp l true zi r 227 [x0, x1] h k t) (k228 : ∀ (x0 x1 x2 x3 x4 x5 : Int) (h : zH) (k : (Int → zH → Option zRes)) (t : (Nat → zH → Option zRes)), La_init x0 x1 x2 x3 x4 x5 h k = some r → zKsp l true zi r 228 [x0, x1, x2, x3, x4, x5] h k t) (k229 : ∀ (x0 x1 x2 x3 : Int) (h : zH) (k : (Int → zH → Option zRes)) (t : (Nat → zH → Option zRes)), La_useKernel x0 x1 x2 x3 h k = some r → zKsp l true zi r 229 [x0, x1, x2, x3] h k t) (k236 : ∀ (x0 : Int) (h : zH) (k : (Int → zH → Option zRes)) (t : (Nat → zH → Option zRes)), La_depth x0 h k = some r → zKsp l true zi r 236 [x0] h k t) (k240 : ∀ (x0 x1 : Int) (h : zH) (k : (Int → zH → Option zRes)) (t : (Nat → zH → Option zRes)), Le_kernelOf x0 x1 h k = some r → zKsp l true zi r 240 [x0, x1] h k t) (k244 : ∀ (x0 x1 : Int) (h : zH) (k : (Int → zH → Option zRes)) (t : (Nat → zH → Option zRes)), Le_enter x0 x1 h k = some r → zKsp l true zi r 244 [x0, x1] h k t) (h : zH) (hr : Le_launchChild_38 zin h = some r) : GO 38 [none, none, none, none, none] [] h := by
  have e9 := Eq.trans (Eq.symm (qe_Le_launchChild_38 zin h)) hr
  generalize (400 : Nat) = f9 at e9
  refine hS _ _ (zcal_s (SP := zKsp l true zi r) _ ?_) (zorc_s _ ?_) _ _ _ _ _ e9
  · exact trivial
  · exact trivial
set_option maxRecDepth 100000 in
set_option maxHeartbeats 0 in
theorem s_Le_launchChild {l : Launch} {zi : Nat → zinfo} {r : zRes} {GO : Nat → List (Option zV) → List zV → zH → Prop} (hS : zSg l true zi (zget (999, 0, 0, 0) zc_Le_launchChild) (zcut zu_Le_launchChild) zin (fun _ _ => none) r GO) (k227 : ∀ (x0 x1 : Int) (h : zH) (k : (Int → zH → Option zRes)) (t : (Nat → zH → Option zRes)), Ke_blocksInUnit x0 x1 h k = some r → zKsp l true zi r 227 [x0, x1] h k t) (k228 : ∀ (x0 x1 x2 x3 x4 x5 : Int) (h : zH) (k : (Int → zH → Option zRes)) (t : (Nat → zH → Option zRes)), La_init x0 x1 x2 x3 x4 x5 h k = some r → zKsp l true zi r 228 [x0, x1, x2, x3, x4, x5] h k t) (k229 : ∀ (x0 x1 x2 x3 : Int) (h : zH) (k : (Int → zH → Option zRes)) (t : (Nat → zH → Option zRes)), La_useKernel x0 x1 x2 x3 h k = some r → zKsp l true zi r 229 [x0, x1, x2, x3] h k t) (k236 : ∀ (x0 : Int) (h : zH) (k : (Int → zH → Option zRes)) (t : (Nat → zH → Option zRes)), La_depth x0 h k = some r → zKsp l true zi r 236 [x0] h k t) (k240 : ∀ (x0 x1 : Int) (h : zH) (k : (Int → zH → Option zRes)) (t : (Nat → zH → Option zRes)), Le_kernelOf x0 x1 h k = some r → zKsp l true zi r 240 [x0, x1] h k t) (k244 : ∀ (x0 x1 : Int) (h : zH) (k : (Int → zH → Option zRes)) (t : (Nat → zH → Option zRes)), Le_enter x0 x1 h k = some r → zKsp l true zi r 244 [x0, x1] h k t) (a0 a1 a2 a3 : Int) (h : zH) (hr : Le_launchChild a0 a1 a2 a3 h zin = some r) : GO 0 [some (101, a0), some (109, a1), some (0, a2), some (0, a3), none] [] h := by
  have e9 := Eq.trans (Eq.symm (qe_Le_launchChild zin a0 a1 a2 a3 h)) hr
  generalize (400 : Nat) = f9 at e9
  refine hS _ _ (zcal_s (SP := zKsp l true zi r) _ ?_) (zorc_s _ ?_) _ _ _ _ _ e9
  · exact ⟨zca2_s (SP := fun xs h k t => zKsp l true zi r 227 (zfc [none, none] xs) h k t) k227, ⟨zca6_s (SP := fun xs h k t => zKsp l true zi r 228 (zfc [none, none, none, none, none, none] xs) h k t) k228, ⟨zca4_s (SP := fun xs h k t => zKsp l true zi r 229 (zfc [none, none, none, none] xs) h k t) k229, ⟨zca1_s (SP := fun xs h k t => zKsp l true zi r 236 (zfc [none] xs) h k t) k236, ⟨zca2_s (SP := fun xs h k t => zKsp l true zi r 240 (zfc [none, none] xs) h k t) k240, ⟨zca2_s (SP := fun xs h k t => zKsp l true zi r 244 (zfc [none, none] xs) h k t) k244, trivial⟩⟩⟩⟩⟩⟩
  · exact ⟨zap0_s (P := fun xs h => GO 38 (zfl [none, none, none, none, none] xs).1 (zfs [] (zfl [none, none, none, none, none] xs).2) h) (fun  h hr => s_Le_launchChild_38 hS k227 k228 k229 k236 k240 k244  h hr), trivial⟩
set_option maxRecDepth 100000 in
set_option maxHeartbeats 0 in
theorem s_Co_carryChild_55 {l : Launch} {zi : Nat → zinfo} {r : zRes} {GO : Nat → List (Option zV) → List zV → zH → Prop} (hS : zSg l true zi (zget (999, 0, 0, 0) zc_Co_carryChild) (zcut zu_Co_carryChild) zin (fun _ _ => none) r GO) (k246 : ∀ (x0 x1 x2 x3 : Int) (h : zH) (k : (Int → zH → Option zRes)) (t : (Nat → zH → Option zRes)), Le_launchChild x0 x1 x2 x3 h k = some r → zKsp l true zi r 246 [x0, x1, x2, x3] h k t) (k258 : ∀ (x0 x1 : Int) (h : zH) (k : (Int → zH → Option zRes)) (t : (Nat → zH → Option zRes)), Th_at x0 x1 h k = some r → zKsp l true zi r 258 [x0, x1] h k t) (k259 : ∀ (x0 x1 x2 : Int) (h : zH) (k : (Int → zH → Option zRes)) (t : (Nat → zH → Option zRes)), Th_set x0 x1 x2 h k = some r → zKsp l true zi r 259 [x0, x1, x2] h k t) (t0 t1 t2 : Int) (h : zH) (hr : Co_carryChild_55 zin t0 t1 t2 h = some r) : GO 55 [none, none, none, none, none] [(0, t0), (0, t1), (106, t2)] h := by
  have e9 := Eq.trans (Eq.symm (qe_Co_carryChild_55 zin t0 t1 t2 h)) hr
  generalize (400 : Nat) = f9 at e9
  refine hS _ _ (zcal_s (SP := zKsp l true zi r) _ ?_) (zorc_s _ ?_) _ _ _ _ _ e9
  · exact ⟨zca3_s (SP := fun xs h k t => zKsp l true zi r 259 (zfc [none, none, none] xs) h k t) k259, trivial⟩
  · exact trivial
set_option maxRecDepth 100000 in
set_option maxHeartbeats 0 in
theorem s_Co_carryChild_40 {l : Launch} {zi : Nat → zinfo} {r : zRes} {GO : Nat → List (Option zV) → List zV → zH → Prop} (hS : zSg l true zi (zget (999, 0, 0, 0) zc_Co_carryChild) (zcut zu_Co_carryChild) zin (fun _ _ => none) r GO) (k246 : ∀ (x0 x1 x2 x3 : Int) (h : zH) (k : (Int → zH → Option zRes)) (t : (Nat → zH → Option zRes)), Le_launchChild x0 x1 x2 x3 h k = some r → zKsp l true zi r 246 [x0, x1, x2, x3] h k t) (k258 : ∀ (x0 x1 : Int) (h : zH) (k : (Int → zH → Option zRes)) (t : (Nat → zH → Option zRes)), Th_at x0 x1 h k = some r → zKsp l true zi r 258 [x0, x1] h k t) (k259 : ∀ (x0 x1 x2 : Int) (h : zH) (k : (Int → zH → Option zRes)) (t : (Nat → zH → Option zRes)), Th_set x0 x1 x2 h k = some r → zKsp l true zi r 259 [x0, x1, x2] h k t) (a2 a3 a4 : Int) (h : zH) (hr : Co_carryChild_40 zin a2 a3 a4 h = some r) : GO 40 [none, none, some (106, a2), some (108, a3), some (0, a4)] [] h := by
  have e9 := Eq.trans (Eq.symm (qe_Co_carryChild_40 zin a2 a3 a4 h)) hr
  generalize (400 : Nat) = f9 at e9
  refine hS _ _ (zcal_s (SP := zKsp l true zi r) _ ?_) (zorc_s _ ?_) _ _ _ _ _ e9
  · exact trivial
  · exact ⟨zap3_s (P := fun xs h => GO 55 (zfl [none, none, none, none, none] xs).1 (zfs [(0, none), (0, none), (106, none)] (zfl [none, none, none, none, none] xs).2) h) (fun x0 x1 x2 h hr => s_Co_carryChild_55 hS k246 k258 k259 x0 x1 x2 h hr), trivial⟩
set_option maxRecDepth 100000 in
set_option maxHeartbeats 0 in
theorem s_Co_carryChild {l : Launch} {zi : Nat → zinfo} {r : zRes} {GO : Nat → List (Option zV) → List zV → zH → Prop} (hS : zSg l true zi (zget (999, 0, 0, 0) zc_Co_carryChild) (zcut zu_Co_carryChild) zin (fun _ _ => none) r GO) (k246 : ∀ (x0 x1 x2 x3 : Int) (h : zH) (k : (Int → zH → Option zRes)) (t : (Nat → zH → Option zRes)), Le_launchChild x0 x1 x2 x3 h k = some r → zKsp l true zi r 246 [x0, x1, x2, x3] h k t) (k258 : ∀ (x0 x1 : Int) (h : zH) (k : (Int → zH → Option zRes)) (t : (Nat → zH → Option zRes)), Th_at x0 x1 h k = some r → zKsp l true zi r 258 [x0, x1] h k t) (k259 : ∀ (x0 x1 x2 : Int) (h : zH) (k : (Int → zH → Option zRes)) (t : (Nat → zH → Option zRes)), Th_set x0 x1 x2 h k = some r → zKsp l true zi r 259 [x0, x1, x2] h k t) (a0 a1 a2 a3 : Int) (h : zH) (hr : Co_carryChild a0 a1 a2 a3 h zin = some r) : GO 0 [some (102, a0), some (109, a1), some (106, a2), some (108, a3), none] [] h := by
  have e9 := Eq.trans (Eq.symm (qe_Co_carryChild zin a0 a1 a2 a3 h)) hr
  generalize (400 : Nat) = f9 at e9
  refine hS _ _ (zcal_s (SP := zKsp l true zi r) _ ?_) (zorc_s _ ?_) _ _ _ _ _ e9
  · exact ⟨zca4_s (SP := fun xs h k t => zKsp l true zi r 246 (zfc [none, none, none, none] xs) h k t) k246, ⟨zca2_s (SP := fun xs h k t => zKsp l true zi r 258 (zfc [none, none] xs) h k t) k258, trivial⟩⟩
  · exact ⟨zap3_s (P := fun xs h => GO 40 (zfl [none, none, some (106, none), some (108, none), some (0, none)] xs).1 (zfs [] (zfl [none, none, some (106, none), some (108, none), some (0, none)] xs).2) h) (fun x0 x1 x2 h hr => s_Co_carryChild_40 hS k246 k258 k259 x0 x1 x2 h hr), trivial⟩
set_option maxRecDepth 100000 in
set_option maxHeartbeats 0 in
theorem s_Th_reckon_304 {l : Launch} {zi : Nat → zinfo} {r : zRes} {GO : Nat → List (Option zV) → List zV → zH → Prop} (hS : zSg l true zi (zget (999, 0, 0, 0) zc_Th_reckon) (zcut zu_Th_reckon) zin (fun _ _ => none) r GO) (k258 : ∀ (x0 x1 : Int) (h : zH) (k : (Int → zH → Option zRes)) (t : (Nat → zH → Option zRes)), Th_at x0 x1 h k = some r → zKsp l true zi r 258 [x0, x1] h k t) (k259 : ∀ (x0 x1 x2 : Int) (h : zH) (k : (Int → zH → Option zRes)) (t : (Nat → zH → Option zRes)), Th_set x0 x1 x2 h k = some r → zKsp l true zi r 259 [x0, x1, x2] h k t) (h : zH) (hr : Th_reckon_304 zin h = some r) : GO 304 [none, none] [] h := by
  have e9 := Eq.trans (Eq.symm (qe_Th_reckon_304 zin h)) hr
  generalize (400 : Nat) = f9 at e9
  refine hS _ _ (zcal_s (SP := zKsp l true zi r) _ ?_) (zorc_s _ ?_) _ _ _ _ _ e9
  · exact trivial
  · exact trivial
set_option maxRecDepth 100000 in
set_option maxHeartbeats 0 in
theorem s_Th_reckon_216 {l : Launch} {zi : Nat → zinfo} {r : zRes} {GO : Nat → List (Option zV) → List zV → zH → Prop} (hS : zSg l true zi (zget (999, 0, 0, 0) zc_Th_reckon) (zcut zu_Th_reckon) zin (fun _ _ => none) r GO) (k258 : ∀ (x0 x1 : Int) (h : zH) (k : (Int → zH → Option zRes)) (t : (Nat → zH → Option zRes)), Th_at x0 x1 h k = some r → zKsp l true zi r 258 [x0, x1] h k t) (k259 : ∀ (x0 x1 x2 : Int) (h : zH) (k : (Int → zH → Option zRes)) (t : (Nat → zH → Option zRes)), Th_set x0 x1 x2 h k = some r → zKsp l true zi r 259 [x0, x1, x2] h k t) (t0 t1 t2 : Int) (h : zH) (hr : Th_reckon_216 zin t0 t1 t2 h = some r) : GO 216 [none, none] [(0, t0), (0, t1), (106, t2)] h := by
  have e9 := Eq.trans (Eq.symm (qe_Th_reckon_216 zin t0 t1 t2 h)) hr
  generalize (400 : Nat) = f9 at e9
  refine hS _ _ (zcal_s (SP := zKsp l true zi r) _ ?_) (zorc_s _ ?_) _ _ _ _ _ e9
  · exact ⟨zca3_s (SP := fun xs h k t => zKsp l true zi r 259 (zfc [none, none, none] xs) h k t) k259, trivial⟩
  · exact ⟨zap0_s (P := fun xs h => GO 304 (zfl [none, none] xs).1 (zfs [] (zfl [none, none] xs).2) h) (fun  h hr => s_Th_reckon_304 hS k258 k259  h hr), trivial⟩
set_option maxRecDepth 100000 in
set_option maxHeartbeats 0 in
theorem s_Th_reckon_251 {l : Launch} {zi : Nat → zinfo} {r : zRes} {GO : Nat → List (Option zV) → List zV → zH → Prop} (hS : zSg l true zi (zget (999, 0, 0, 0) zc_Th_reckon) (zcut zu_Th_reckon) zin (fun _ _ => none) r GO) (k258 : ∀ (x0 x1 : Int) (h : zH) (k : (Int → zH → Option zRes)) (t : (Nat → zH → Option zRes)), Th_at x0 x1 h k = some r → zKsp l true zi r 258 [x0, x1] h k t) (k259 : ∀ (x0 x1 x2 : Int) (h : zH) (k : (Int → zH → Option zRes)) (t : (Nat → zH → Option zRes)), Th_set x0 x1 x2 h k = some r → zKsp l true zi r 259 [x0, x1, x2] h k t) (t0 t1 t2 : Int) (h : zH) (hr : Th_reckon_251 zin t0 t1 t2 h = some r) : GO 251 [none, none] [(0, t0), (0, t1), (106, t2)] h := by
  have e9 := Eq.trans (Eq.symm (qe_Th_reckon_251 zin t0 t1 t2 h)) hr
  generalize (400 : Nat) = f9 at e9
  refine hS _ _ (zcal_s (SP := zKsp l true zi r) _ ?_) (zorc_s _ ?_) _ _ _ _ _ e9
  · exact ⟨zca3_s (SP := fun xs h k t => zKsp l true zi r 259 (zfc [none, none, none] xs) h k t) k259, trivial⟩
  · exact ⟨zap0_s (P := fun xs h => GO 304 (zfl [none, none] xs).1 (zfs [] (zfl [none, none] xs).2) h) (fun  h hr => s_Th_reckon_304 hS k258 k259  h hr), trivial⟩
set_option maxRecDepth 100000 in
set_option maxHeartbeats 0 in
theorem s_Th_reckon {l : Launch} {zi : Nat → zinfo} {r : zRes} {GO : Nat → List (Option zV) → List zV → zH → Prop} (hS : zSg l true zi (zget (999, 0, 0, 0) zc_Th_reckon) (zcut zu_Th_reckon) zin (fun _ _ => none) r GO) (k258 : ∀ (x0 x1 : Int) (h : zH) (k : (Int → zH → Option zRes)) (t : (Nat → zH → Option zRes)), Th_at x0 x1 h k = some r → zKsp l true zi r 258 [x0, x1] h k t) (k259 : ∀ (x0 x1 x2 : Int) (h : zH) (k : (Int → zH → Option zRes)) (t : (Nat → zH → Option zRes)), Th_set x0 x1 x2 h k = some r → zKsp l true zi r 259 [x0, x1, x2] h k t) (a0 a1 : Int) (h : zH) (hr : Th_reckon a0 a1 h zin = some r) : GO 0 [some (106, a0), some (108, a1)] [] h := by
  have e9 := Eq.trans (Eq.symm (qe_Th_reckon zin a0 a1 h)) hr
  generalize (400 : Nat) = f9 at e9
  refine hS _ _ (zcal_s (SP := zKsp l true zi r) _ ?_) (zorc_s _ ?_) _ _ _ _ _ e9
  · exact ⟨zca2_s (SP := fun xs h k t => zKsp l true zi r 258 (zfc [none, none] xs) h k t) k258, ⟨zca3_s (SP := fun xs h k t => zKsp l true zi r 259 (zfc [none, none, none] xs) h k t) k259, trivial⟩⟩
  · exact ⟨zap3_s (P := fun xs h => GO 216 (zfl [none, none] xs).1 (zfs [(0, none), (0, none), (106, none)] (zfl [none, none] xs).2) h) (fun x0 x1 x2 h hr => s_Th_reckon_216 hS k258 k259 x0 x1 x2 h hr), ⟨zap3_s (P := fun xs h => GO 251 (zfl [none, none] xs).1 (zfs [(0, none), (0, none), (106, none)] (zfl [none, none] xs).2) h) (fun x0 x1 x2 h hr => s_Th_reckon_251 hS k258 k259 x0 x1 x2 h hr), ⟨zap0_s (P := fun xs h => GO 304 (zfl [none, none] xs).1 (zfs [] (zfl [none, none] xs).2) h) (fun  h hr => s_Th_reckon_304 hS k258 k259  h hr), trivial⟩⟩⟩
set_option maxRecDepth 100000 in
set_option maxHeartbeats 0 in
theorem s_Co_carryLane_171 {l : Launch} {zi : Nat → zinfo} {r : zRes} {GO : Nat → List (Option zV) → List zV → zH → Prop} (hS : zSg l true zi (zget (999, 0, 0, 0) zc_Co_carryLane) (zcut zu_Co_carryLane) zin (fun _ _ => none) r GO) (k1 : ∀ (x0 x1 : Int) (h : zH) (k : (Int → zH → Option zRes)) (t : (Nat → zH → Option zRes)), Ma_floorMod x0 x1 h k = some r → zKsp l true zi r 1 [x0, x1] h k t) (k56 : ∀ (x0 x1 : Int) (h : zH) (k : (Int → zH → Option zRes)) (t : (Nat → zH → Option zRes)), X_isIn x0 x1 h k = some r → zKsp l true zi r 56 [x0, x1] h k t) (k189 : ∀ (x0 x1 x2 x3 x4 : Int) (h : zH) (k : (Int → zH → Option zRes)) (t : (Nat → zH → Option zRes)), Co_carryGlobal x0 x1 x2 x3 x4 h k = some r → zKsp l true zi r 189 [x0, x1, x2, x3, x4] h k t) (k190 : ∀ (x0 x1 x2 x3 : Int) (h : zH) (k : (Int → zH → Option zRes)) (t : (Nat → zH → Option zRes)), Co_carryShared x0 x1 x2 x3 h k = some r → zKsp l true zi r 190 [x0, x1, x2, x3] h k t) (k191 : ∀ (x0 x1 x2 x3 : Int) (h : zH) (k : (Int → zH → Option zRes)) (t : (Nat → zH → Option zRes)), Co_carryChild x0 x1 x2 x3 h k = some r → zKsp l true zi r 191 [x0, x1, x2, x3] h k t) (k219 : ∀ (x0 x1 : Int) (h : zH) (k : (Int → zH → Option zRes)) (t : (Nat → zH → Option zRes)), In_isOneOf x0 x1 h k = some r → zKsp l true zi r 219 [x0, x1] h k t) (k258 : ∀ (x0 x1 : Int) (h : zH) (k : (Int → zH → Option zRes)) (t : (Nat → zH → Option zRes)), Th_at x0 x1 h k = some r → zKsp l true zi r 258 [x0, x1] h k t) (k259 : ∀ (x0 x1 x2 : Int) (h : zH) (k : (Int → zH → Option zRes)) (t : (Nat → zH → Option zRes)), Th_set x0 x1 x2 h k = some r → zKsp l true zi r 259 [x0, x1, x2] h k t) (k260 : ∀ (x0 x1 : Int) (h : zH) (k : (Int → zH → Option zRes)) (t : (Nat → zH → Option zRes)), Th_reckon x0 x1 h k = some r → zKsp l true zi r 260 [x0, x1] h k t) (h : zH) (hr : Co_carryLane_171 zin h = some r) : GO 171 [none, none, none, none, none, none] [] h := by
  have e9 := Eq.trans (Eq.symm (qe_Co_carryLane_171 zin h)) hr
  generalize (400 : Nat) = f9 at e9
  refine hS _ _ (zcal_s (SP := zKsp l true zi r) _ ?_) (zorc_s _ ?_) _ _ _ _ _ e9
  · exact trivial
  · exact trivial
set_option maxRecDepth 100000 in
set_option maxHeartbeats 0 in
theorem s_Co_carryLane_131 {l : Launch} {zi : Nat → zinfo} {r : zRes} {GO : Nat → List (Option zV) → List zV → zH → Prop} (hS : zSg l true zi (zget (999, 0, 0, 0) zc_Co_carryLane) (zcut zu_Co_carryLane) zin (fun _ _ => none) r GO) (k1 : ∀ (x0 x1 : Int) (h : zH) (k : (Int → zH → Option zRes)) (t : (Nat → zH → Option zRes)), Ma_floorMod x0 x1 h k = some r → zKsp l true zi r 1 [x0, x1] h k t) (k56 : ∀ (x0 x1 : Int) (h : zH) (k : (Int → zH → Option zRes)) (t : (Nat → zH → Option zRes)), X_isIn x0 x1 h k = some r → zKsp l true zi r 56 [x0, x1] h k t) (k189 : ∀ (x0 x1 x2 x3 x4 : Int) (h : zH) (k : (Int → zH → Option zRes)) (t : (Nat → zH → Option zRes)), Co_carryGlobal x0 x1 x2 x3 x4 h k = some r → zKsp l true zi r 189 [x0, x1, x2, x3, x4] h k t) (k190 : ∀ (x0 x1 x2 x3 : Int) (h : zH) (k : (Int → zH → Option zRes)) (t : (Nat → zH → Option zRes)), Co_carryShared x0 x1 x2 x3 h k = some r → zKsp l true zi r 190 [x0, x1, x2, x3] h k t) (k191 : ∀ (x0 x1 x2 x3 : Int) (h : zH) (k : (Int → zH → Option zRes)) (t : (Nat → zH → Option zRes)), Co_carryChild x0 x1 x2 x3 h k = some r → zKsp l true zi r 191 [x0, x1, x2, x3] h k t) (k219 : ∀ (x0 x1 : Int) (h : zH) (k : (Int → zH → Option zRes)) (t : (Nat → zH → Option zRes)), In_isOneOf x0 x1 h k = some r → zKsp l true zi r 219 [x0, x1] h k t) (k258 : ∀ (x0 x1 : Int) (h : zH) (k : (Int → zH → Option zRes)) (t : (Nat → zH → Option zRes)), Th_at x0 x1 h k = some r → zKsp l true zi r 258 [x0, x1] h k t) (k259 : ∀ (x0 x1 x2 : Int) (h : zH) (k : (Int → zH → Option zRes)) (t : (Nat → zH → Option zRes)), Th_set x0 x1 x2 h k = some r → zKsp l true zi r 259 [x0, x1, x2] h k t) (k260 : ∀ (x0 x1 : Int) (h : zH) (k : (Int → zH → Option zRes)) (t : (Nat → zH → Option zRes)), Th_reckon x0 x1 h k = some r → zKsp l true zi r 260 [x0, x1] h k t) (t0 t1 t2 t3 : Int) (h : zH) (hr : Co_carryLane_131 zin t0 t1 t2 t3 h = some r) : GO 131 [none, none, none, none, none, none] [(0, t0), (125, t1), (0, t2), (106, t3)] h := by
  have e9 := Eq.trans (Eq.symm (qe_Co_carryLane_131 zin t0 t1 t2 t3 h)) hr
  generalize (400 : Nat) = f9 at e9
  refine hS _ _ (zcal_s (SP := zKsp l true zi r) _ ?_) (zorc_s _ ?_) _ _ _ _ _ e9
  · exact ⟨zca3_s (SP := fun xs h k t => zKsp l true zi r 259 (zfc [none, none, none] xs) h k t) k259, trivial⟩
  · exact ⟨zap0_s (P := fun xs h => GO 171 (zfl [none, none, none, none, none, none] xs).1 (zfs [] (zfl [none, none, none, none, none, none] xs).2) h) (fun  h hr => s_Co_carryLane_171 hS k1 k56 k189 k190 k191 k219 k258 k259 k260  h hr), trivial⟩
set_option maxRecDepth 100000 in
set_option maxHeartbeats 0 in
theorem s_Co_carryLane {l : Launch} {zi : Nat → zinfo} {r : zRes} {GO : Nat → List (Option zV) → List zV → zH → Prop} (hS : zSg l true zi (zget (999, 0, 0, 0) zc_Co_carryLane) (zcut zu_Co_carryLane) zin (fun _ _ => none) r GO) (k1 : ∀ (x0 x1 : Int) (h : zH) (k : (Int → zH → Option zRes)) (t : (Nat → zH → Option zRes)), Ma_floorMod x0 x1 h k = some r → zKsp l true zi r 1 [x0, x1] h k t) (k56 : ∀ (x0 x1 : Int) (h : zH) (k : (Int → zH → Option zRes)) (t : (Nat → zH → Option zRes)), X_isIn x0 x1 h k = some r → zKsp l true zi r 56 [x0, x1] h k t) (k189 : ∀ (x0 x1 x2 x3 x4 : Int) (h : zH) (k : (Int → zH → Option zRes)) (t : (Nat → zH → Option zRes)), Co_carryGlobal x0 x1 x2 x3 x4 h k = some r → zKsp l true zi r 189 [x0, x1, x2, x3, x4] h k t) (k190 : ∀ (x0 x1 x2 x3 : Int) (h : zH) (k : (Int → zH → Option zRes)) (t : (Nat → zH → Option zRes)), Co_carryShared x0 x1 x2 x3 h k = some r → zKsp l true zi r 190 [x0, x1, x2, x3] h k t) (k191 : ∀ (x0 x1 x2 x3 : Int) (h : zH) (k : (Int → zH → Option zRes)) (t : (Nat → zH → Option zRes)), Co_carryChild x0 x1 x2 x3 h k = some r → zKsp l true zi r 191 [x0, x1, x2, x3] h k t) (k219 : ∀ (x0 x1 : Int) (h : zH) (k : (Int → zH → Option zRes)) (t : (Nat → zH → Option zRes)), In_isOneOf x0 x1 h k = some r → zKsp l true zi r 219 [x0, x1] h k t) (k258 : ∀ (x0 x1 : Int) (h : zH) (k : (Int → zH → Option zRes)) (t : (Nat → zH → Option zRes)), Th_at x0 x1 h k = some r → zKsp l true zi r 258 [x0, x1] h k t) (k259 : ∀ (x0 x1 x2 : Int) (h : zH) (k : (Int → zH → Option zRes)) (t : (Nat → zH → Option zRes)), Th_set x0 x1 x2 h k = some r → zKsp l true zi r 259 [x0, x1, x2] h k t) (k260 : ∀ (x0 x1 : Int) (h : zH) (k : (Int → zH → Option zRes)) (t : (Nat → zH → Option zRes)), Th_reckon x0 x1 h k = some r → zKsp l true zi r 260 [x0, x1] h k t) (a0 a1 a2 a3 a4 : Int) (h : zH) (hr : Co_carryLane a0 a1 a2 a3 a4 h zin = some r) : GO 0 [some (102, a0), some (111, a1), some (0, a2), some (106, a3), some (108, a4), none] [] h := by
  have e9 := Eq.trans (Eq.symm (qe_Co_carryLane zin a0 a1 a2 a3 a4 h)) hr
  generalize (400 : Nat) = f9 at e9
  refine hS _ _ (zcal_s (SP := zKsp l true zi r) _ ?_) (zorc_s _ ?_) _ _ _ _ _ e9
  · exact ⟨zca2_s (SP := fun xs h k t => zKsp l true zi r 1 (zfc [none, none] xs) h k t) k1, ⟨zca2_s (SP := fun xs h k t => zKsp l true zi r 56 (zfc [none, none] xs) h k t) k56, ⟨zca5_s (SP := fun xs h k t => zKsp l true zi r 189 (zfc [none, none, none, none, none] xs) h k t) k189, ⟨zca4_s (SP := fun xs h k t => zKsp l true zi r 190 (zfc [none, none, none, none] xs) h k t) k190, ⟨zca4_s (SP := fun xs h k t => zKsp l true zi r 191 (zfc [none, none, none, none] xs) h k t) k191, ⟨zca2_s (SP := fun xs h k t => zKsp l true zi r 219 (zfc [none, none] xs) h k t) k219, ⟨zca2_s (SP := fun xs h k t => zKsp l true zi r 258 (zfc [none, none] xs) h k t) k258, ⟨zca3_s (SP := fun xs h k t => zKsp l true zi r 259 (zfc [none, none, none] xs) h k t) k259, ⟨zca2_s (SP := fun xs h k t => zKsp l true zi r 260 (zfc [none, none] xs) h k t) k260, trivial⟩⟩⟩⟩⟩⟩⟩⟩⟩
  · exact ⟨zap4_s (P := fun xs h => GO 131 (zfl [none, none, none, none, none, none] xs).1 (zfs [(0, none), (125, none), (0, none), (106, none)] (zfl [none, none, none, none, none, none] xs).2) h) (fun x0 x1 x2 x3 h hr => s_Co_carryLane_131 hS k1 k56 k189 k190 k191 k219 k258 k259 k260 x0 x1 x2 x3 h hr), ⟨zap0_s (P := fun xs h => GO 171 (zfl [none, none, none, none, none, none] xs).1 (zfs [] (zfl [none, none, none, none, none, none] xs).2) h) (fun  h hr => s_Co_carryLane_171 hS k1 k56 k189 k190 k191 k219 k258 k259 k260  h hr), trivial⟩⟩
set_option maxRecDepth 100000 in
set_option maxHeartbeats 0 in
theorem s_Co_isNamedFirst_39 {l : Launch} {zi : Nat → zinfo} {r : zRes} {GO : Nat → List (Option zV) → List zV → zH → Prop} (hS : zSg l true zi (zget (999, 0, 0, 0) zc_Co_isNamedFirst) (zcut zu_Co_isNamedFirst) zin (fun _ _ => none) r GO) (k56 : ∀ (x0 x1 : Int) (h : zH) (k : (Int → zH → Option zRes)) (t : (Nat → zH → Option zRes)), X_isIn x0 x1 h k = some r → zKsp l true zi r 56 [x0, x1] h k t) {r2 : Int → Int → Int → Int → zH → Option zRes} (h2 : ∀ (x0 x1 x2 x3 : Int) (h : zH), r2 x0 x1 x2 x3 h = some r → GO 2 [some (102, x0), some (0, x1), some (0, x2), some (0, x3)] [] h) (a0 a1 a2 a3 : Int) (h : zH) (hr : Co_isNamedFirst_39 zin r2 a0 a1 a2 a3 h = some r) : GO 39 [some (102, a0), some (0, a1), some (0, a2), some (0, a3)] [] h := by
  have e9 := Eq.trans (Eq.symm (qe_Co_isNamedFirst_39 zin r2 a0 a1 a2 a3 h)) hr
  generalize (400 : Nat) = f9 at e9
  refine hS _ _ (zcal_s (SP := zKsp l true zi r) _ ?_) (zorc_s _ ?_) _ _ _ _ _ e9
  · exact trivial
  · exact ⟨zap4_s (P := fun xs h => GO 2 (zfl [some (102, none), some (0, none), some (0, none), some (0, none)] xs).1 (zfs [] (zfl [some (102, none), some (0, none), some (0, none), some (0, none)] xs).2) h) h2, trivial⟩
set_option maxRecDepth 100000 in
set_option maxHeartbeats 0 in
theorem s_Co_isNamedFirst_2b {l : Launch} {zi : Nat → zinfo} {r : zRes} {GO : Nat → List (Option zV) → List zV → zH → Prop} (hS : zSg l true zi (zget (999, 0, 0, 0) zc_Co_isNamedFirst) (zcut zu_Co_isNamedFirst) zin (fun _ _ => none) r GO) (k56 : ∀ (x0 x1 : Int) (h : zH) (k : (Int → zH → Option zRes)) (t : (Nat → zH → Option zRes)), X_isIn x0 x1 h k = some r → zKsp l true zi r 56 [x0, x1] h k t) {r2 : Int → Int → Int → Int → zH → Option zRes} (h2 : ∀ (x0 x1 x2 x3 : Int) (h : zH), r2 x0 x1 x2 x3 h = some r → GO 2 [some (102, x0), some (0, x1), some (0, x2), some (0, x3)] [] h) (a0 a1 a2 a3 : Int) (h : zH) (hr : Co_isNamedFirst_2b zin r2 a0 a1 a2 a3 h = some r) : GO 2 [some (102, a0), some (0, a1), some (0, a2), some (0, a3)] [] h := by
  have e9 := Eq.trans (Eq.symm (qe_Co_isNamedFirst_2b zin r2 a0 a1 a2 a3 h)) hr
  generalize (400 : Nat) = f9 at e9
  refine hS _ _ (zcal_s (SP := zKsp l true zi r) _ ?_) (zorc_s _ ?_) _ _ _ _ _ e9
  · exact ⟨zca2_s (SP := fun xs h k t => zKsp l true zi r 56 (zfc [none, none] xs) h k t) k56, trivial⟩
  · exact ⟨zap4_s (P := fun xs h => GO 39 (zfl [some (102, none), some (0, none), some (0, none), some (0, none)] xs).1 (zfs [] (zfl [some (102, none), some (0, none), some (0, none), some (0, none)] xs).2) h) (fun x0 x1 x2 x3 h hr => s_Co_isNamedFirst_39 hS k56 h2 x0 x1 x2 x3 h hr), trivial⟩
set_option maxRecDepth 100000 in
set_option maxHeartbeats 0 in
theorem s_Co_isNamedFirst_2 {l : Launch} {zi : Nat → zinfo} {r : zRes} {GO : Nat → List (Option zV) → List zV → zH → Prop} (hS : zSg l true zi (zget (999, 0, 0, 0) zc_Co_isNamedFirst) (zcut zu_Co_isNamedFirst) zin (fun _ _ => none) r GO) (k56 : ∀ (x0 x1 : Int) (h : zH) (k : (Int → zH → Option zRes)) (t : (Nat → zH → Option zRes)), X_isIn x0 x1 h k = some r → zKsp l true zi r 56 [x0, x1] h k t) (a0 a1 a2 a3 : Int) (h : zH) (hr : Co_isNamedFirst_2 zin a0 a1 a2 a3 h = some r) : GO 2 [some (102, a0), some (0, a1), some (0, a2), some (0, a3)] [] h := zit4_s (P := fun x0 x1 x2 x3 h => GO 2 [some (102, x0), some (0, x1), some (0, x2), some (0, x3)] [] h) (fun rr hh a0 a1 a2 a3 h hr => s_Co_isNamedFirst_2b hS k56 hh a0 a1 a2 a3 h hr) zN a0 a1 a2 a3 h hr
set_option maxRecDepth 100000 in
set_option maxHeartbeats 0 in
theorem s_Co_isNamedFirst {l : Launch} {zi : Nat → zinfo} {r : zRes} {GO : Nat → List (Option zV) → List zV → zH → Prop} (hS : zSg l true zi (zget (999, 0, 0, 0) zc_Co_isNamedFirst) (zcut zu_Co_isNamedFirst) zin (fun _ _ => none) r GO) (k56 : ∀ (x0 x1 : Int) (h : zH) (k : (Int → zH → Option zRes)) (t : (Nat → zH → Option zRes)), X_isIn x0 x1 h k = some r → zKsp l true zi r 56 [x0, x1] h k t) (a0 a1 a2 : Int) (h : zH) (hr : Co_isNamedFirst a0 a1 a2 h zin = some r) : GO 0 [some (102, a0), some (0, a1), some (0, a2), none] [] h := by
  have e9 := Eq.trans (Eq.symm (qe_Co_isNamedFirst zin a0 a1 a2 h)) hr
  generalize (400 : Nat) = f9 at e9
  refine hS _ _ (zcal_s (SP := zKsp l true zi r) _ ?_) (zorc_s _ ?_) _ _ _ _ _ e9
  · exact trivial
  · exact ⟨zap4_s (P := fun xs h => GO 2 (zfl [some (102, none), some (0, none), some (0, none), some (0, none)] xs).1 (zfs [] (zfl [some (102, none), some (0, none), some (0, none), some (0, none)] xs).2) h) (fun x0 x1 x2 x3 h hr => s_Co_isNamedFirst_2 hS k56 x0 x1 x2 x3 h hr), trivial⟩
set_option maxRecDepth 100000 in
set_option maxHeartbeats 0 in
theorem s_Co_bankDelay_48 {l : Launch} {zi : Nat → zinfo} {r : zRes} {GO : Nat → List (Option zV) → List zV → zH → Prop} (hS : zSg l true zi (zget (999, 0, 0, 0) zc_Co_bankDelay) (zcut zu_Co_bankDelay) zin (fun _ _ => none) r GO) (k1 : ∀ (x0 x1 : Int) (h : zH) (k : (Int → zH → Option zRes)) (t : (Nat → zH → Option zRes)), Ma_floorMod x0 x1 h k = some r → zKsp l true zi r 1 [x0, x1] h k t) (k2 : ∀ (x0 x1 : Int) (h : zH) (k : (Int → zH → Option zRes)) (t : (Nat → zH → Option zRes)), Ma_max x0 x1 h k = some r → zKsp l true zi r 2 [x0, x1] h k t) (k196 : ∀ (x0 x1 x2 : Int) (h : zH) (k : (Int → zH → Option zRes)) (t : (Nat → zH → Option zRes)), Co_isNamedFirst x0 x1 x2 h k = some r → zKsp l true zi r 196 [x0, x1, x2] h k t) {r4 : Int → Int → Int → zH → Option zRes} (h4 : ∀ (x0 x1 x2 : Int) (h : zH), r4 x0 x1 x2 h = some r → GO 4 [some (102, x0), some (0, x1), some (0, x2), none, none] [] h) {r14 : Int → Int → Int → Int → Int → zH → Option zRes} (h14 : ∀ (x0 x1 x2 x3 x4 : Int) (h : zH), r14 x0 x1 x2 x3 x4 h = some r → GO 14 [some (102, x0), some (0, x1), some (0, x2), some (0, x3), some (0, x4)] [] h) (a0 a1 a2 a3 a4 : Int) (h : zH) (hr : Co_bankDelay_48 zin r4 r14 a0 a1 a2 a3 a4 h = some r) : GO 48 [some (102, a0), some (0, a1), some (0, a2), some (0, a3), some (0, a4)] [] h := by
  have e9 := Eq.trans (Eq.symm (qe_Co_bankDelay_48 zin r4 r14 a0 a1 a2 a3 a4 h)) hr
  generalize (400 : Nat) = f9 at e9
  refine hS _ _ (zcal_s (SP := zKsp l true zi r) _ ?_) (zorc_s _ ?_) _ _ _ _ _ e9
  · exact trivial
  · exact ⟨zap5_s (P := fun xs h => GO 14 (zfl [some (102, none), some (0, none), some (0, none), some (0, none), some (0, none)] xs).1 (zfs [] (zfl [some (102, none), some (0, none), some (0, none), some (0, none), some (0, none)] xs).2) h) h14, trivial⟩
set_option maxRecDepth 100000 in
set_option maxHeartbeats 0 in
theorem s_Co_bankDelay_14b {l : Launch} {zi : Nat → zinfo} {r : zRes} {GO : Nat → List (Option zV) → List zV → zH → Prop} (hS : zSg l true zi (zget (999, 0, 0, 0) zc_Co_bankDelay) (zcut zu_Co_bankDelay) zin (fun _ _ => none) r GO) (k1 : ∀ (x0 x1 : Int) (h : zH) (k : (Int → zH → Option zRes)) (t : (Nat → zH → Option zRes)), Ma_floorMod x0 x1 h k = some r → zKsp l true zi r 1 [x0, x1] h k t) (k2 : ∀ (x0 x1 : Int) (h : zH) (k : (Int → zH → Option zRes)) (t : (Nat → zH → Option zRes)), Ma_max x0 x1 h k = some r → zKsp l true zi r 2 [x0, x1] h k t) (k196 : ∀ (x0 x1 x2 : Int) (h : zH) (k : (Int → zH → Option zRes)) (t : (Nat → zH → Option zRes)), Co_isNamedFirst x0 x1 x2 h k = some r → zKsp l true zi r 196 [x0, x1, x2] h k t) {r4 : Int → Int → Int → zH → Option zRes} (h4 : ∀ (x0 x1 x2 : Int) (h : zH), r4 x0 x1 x2 h = some r → GO 4 [some (102, x0), some (0, x1), some (0, x2), none, none] [] h) {r14 : Int → Int → Int → Int → Int → zH → Option zRes} (h14 : ∀ (x0 x1 x2 x3 x4 : Int) (h : zH), r14 x0 x1 x2 x3 x4 h = some r → GO 14 [some (102, x0), some (0, x1), some (0, x2), some (0, x3), some (0, x4)] [] h) (a0 a1 a2 a3 a4 : Int) (h : zH) (hr : Co_bankDelay_14b zin r4 r14 a0 a1 a2 a3 a4 h = some r) : GO 14 [some (102, a0), some (0, a1), some (0, a2), some (0, a3), some (0, a4)] [] h := by
  have e9 := Eq.trans (Eq.symm (qe_Co_bankDelay_14b zin r4 r14 a0 a1 a2 a3 a4 h)) hr
  generalize (400 : Nat) = f9 at e9
  refine hS _ _ (zcal_s (SP := zKsp l true zi r) _ ?_) (zorc_s _ ?_) _ _ _ _ _ e9
  · exact ⟨zca2_s (SP := fun xs h k t => zKsp l true zi r 1 (zfc [none, none] xs) h k t) k1, ⟨zca2_s (SP := fun xs h k t => zKsp l true zi r 2 (zfc [none, none] xs) h k t) k2, ⟨zca3_s (SP := fun xs h k t => zKsp l true zi r 196 (zfc [none, none, none] xs) h k t) k196, trivial⟩⟩⟩
  · exact ⟨zap3_s (P := fun xs h => GO 4 (zfl [some (102, none), some (0, none), some (0, none), none, none] xs).1 (zfs [] (zfl [some (102, none), some (0, none), some (0, none), none, none] xs).2) h) h4, ⟨zap5_s (P := fun xs h => GO 48 (zfl [some (102, none), some (0, none), some (0, none), some (0, none), some (0, none)] xs).1 (zfs [] (zfl [some (102, none), some (0, none), some (0, none), some (0, none), some (0, none)] xs).2) h) (fun x0 x1 x2 x3 x4 h hr => s_Co_bankDelay_48 hS k1 k2 k196 h4 h14 x0 x1 x2 x3 x4 h hr), trivial⟩⟩
set_option maxRecDepth 100000 in
set_option maxHeartbeats 0 in
theorem s_Co_bankDelay_14 {l : Launch} {zi : Nat → zinfo} {r : zRes} {GO : Nat → List (Option zV) → List zV → zH → Prop} (hS : zSg l true zi (zget (999, 0, 0, 0) zc_Co_bankDelay) (zcut zu_Co_bankDelay) zin (fun _ _ => none) r GO) (k1 : ∀ (x0 x1 : Int) (h : zH) (k : (Int → zH → Option zRes)) (t : (Nat → zH → Option zRes)), Ma_floorMod x0 x1 h k = some r → zKsp l true zi r 1 [x0, x1] h k t) (k2 : ∀ (x0 x1 : Int) (h : zH) (k : (Int → zH → Option zRes)) (t : (Nat → zH → Option zRes)), Ma_max x0 x1 h k = some r → zKsp l true zi r 2 [x0, x1] h k t) (k196 : ∀ (x0 x1 x2 : Int) (h : zH) (k : (Int → zH → Option zRes)) (t : (Nat → zH → Option zRes)), Co_isNamedFirst x0 x1 x2 h k = some r → zKsp l true zi r 196 [x0, x1, x2] h k t) {r4 : Int → Int → Int → zH → Option zRes} (h4 : ∀ (x0 x1 x2 : Int) (h : zH), r4 x0 x1 x2 h = some r → GO 4 [some (102, x0), some (0, x1), some (0, x2), none, none] [] h) (a0 a1 a2 a3 a4 : Int) (h : zH) (hr : Co_bankDelay_14 zin r4 a0 a1 a2 a3 a4 h = some r) : GO 14 [some (102, a0), some (0, a1), some (0, a2), some (0, a3), some (0, a4)] [] h := zit5_s (P := fun x0 x1 x2 x3 x4 h => GO 14 [some (102, x0), some (0, x1), some (0, x2), some (0, x3), some (0, x4)] [] h) (fun rr hh a0 a1 a2 a3 a4 h hr => s_Co_bankDelay_14b hS k1 k2 k196 h4 hh a0 a1 a2 a3 a4 h hr) zN a0 a1 a2 a3 a4 h hr
set_option maxRecDepth 100000 in
set_option maxHeartbeats 0 in
theorem s_Co_bankDelay_4b {l : Launch} {zi : Nat → zinfo} {r : zRes} {GO : Nat → List (Option zV) → List zV → zH → Prop} (hS : zSg l true zi (zget (999, 0, 0, 0) zc_Co_bankDelay) (zcut zu_Co_bankDelay) zin (fun _ _ => none) r GO) (k1 : ∀ (x0 x1 : Int) (h : zH) (k : (Int → zH → Option zRes)) (t : (Nat → zH → Option zRes)), Ma_floorMod x0 x1 h k = some r → zKsp l true zi r 1 [x0, x1] h k t) (k2 : ∀ (x0 x1 : Int) (h : zH) (k : (Int → zH → Option zRes)) (t : (Nat → zH → Option zRes)), Ma_max x0 x1 h k = some r → zKsp l true zi r 2 [x0, x1] h k t) (k196 : ∀ (x0 x1 x2 : Int) (h : zH) (k : (Int → zH → Option zRes)) (t : (Nat → zH → Option zRes)), Co_isNamedFirst x0 x1 x2 h k = some r → zKsp l true zi r 196 [x0, x1, x2] h k t) {r4 : Int → Int → Int → zH → Option zRes} (h4 : ∀ (x0 x1 x2 : Int) (h : zH), r4 x0 x1 x2 h = some r → GO 4 [some (102, x0), some (0, x1), some (0, x2), none, none] [] h) (a0 a1 a2 : Int) (h : zH) (hr : Co_bankDelay_4b zin r4 a0 a1 a2 h = some r) : GO 4 [some (102, a0), some (0, a1), some (0, a2), none, none] [] h := by
  have e9 := Eq.trans (Eq.symm (qe_Co_bankDelay_4b zin r4 a0 a1 a2 h)) hr
  generalize (400 : Nat) = f9 at e9
  refine hS _ _ (zcal_s (SP := zKsp l true zi r) _ ?_) (zorc_s _ ?_) _ _ _ _ _ e9
  · exact trivial
  · exact ⟨zap5_s (P := fun xs h => GO 14 (zfl [some (102, none), some (0, none), some (0, none), some (0, none), some (0, none)] xs).1 (zfs [] (zfl [some (102, none), some (0, none), some (0, none), some (0, none), some (0, none)] xs).2) h) (fun x0 x1 x2 x3 x4 h hr => s_Co_bankDelay_14 hS k1 k2 k196 h4 x0 x1 x2 x3 x4 h hr), trivial⟩
set_option maxRecDepth 100000 in
set_option maxHeartbeats 0 in
theorem s_Co_bankDelay_4 {l : Launch} {zi : Nat → zinfo} {r : zRes} {GO : Nat → List (Option zV) → List zV → zH → Prop} (hS : zSg l true zi (zget (999, 0, 0, 0) zc_Co_bankDelay) (zcut zu_Co_bankDelay) zin (fun _ _ => none) r GO) (k1 : ∀ (x0 x1 : Int) (h : zH) (k : (Int → zH → Option zRes)) (t : (Nat → zH → Option zRes)), Ma_floorMod x0 x1 h k = some r → zKsp l true zi r 1 [x0, x1] h k t) (k2 : ∀ (x0 x1 : Int) (h : zH) (k : (Int → zH → Option zRes)) (t : (Nat → zH → Option zRes)), Ma_max x0 x1 h k = some r → zKsp l true zi r 2 [x0, x1] h k t) (k196 : ∀ (x0 x1 x2 : Int) (h : zH) (k : (Int → zH → Option zRes)) (t : (Nat → zH → Option zRes)), Co_isNamedFirst x0 x1 x2 h k = some r → zKsp l true zi r 196 [x0, x1, x2] h k t) (a0 a1 a2 : Int) (h : zH) (hr : Co_bankDelay_4 zin a0 a1 a2 h = some r) : GO 4 [some (102, a0), some (0, a1), some (0, a2), none, none] [] h := zit3_s (P := fun x0 x1 x2 h => GO 4 [some (102, x0), some (0, x1), some (0, x2), none, none] [] h) (fun rr hh a0 a1 a2 h hr => s_Co_bankDelay_4b hS k1 k2 k196 hh a0 a1 a2 h hr) zN a0 a1 a2 h hr
set_option maxRecDepth 100000 in
set_option maxHeartbeats 0 in
theorem s_Co_bankDelay {l : Launch} {zi : Nat → zinfo} {r : zRes} {GO : Nat → List (Option zV) → List zV → zH → Prop} (hS : zSg l true zi (zget (999, 0, 0, 0) zc_Co_bankDelay) (zcut zu_Co_bankDelay) zin (fun _ _ => none) r GO) (k1 : ∀ (x0 x1 : Int) (h : zH) (k : (Int → zH → Option zRes)) (t : (Nat → zH → Option zRes)), Ma_floorMod x0 x1 h k = some r → zKsp l true zi r 1 [x0, x1] h k t) (k2 : ∀ (x0 x1 : Int) (h : zH) (k : (Int → zH → Option zRes)) (t : (Nat → zH → Option zRes)), Ma_max x0 x1 h k = some r → zKsp l true zi r 2 [x0, x1] h k t) (k196 : ∀ (x0 x1 x2 : Int) (h : zH) (k : (Int → zH → Option zRes)) (t : (Nat → zH → Option zRes)), Co_isNamedFirst x0 x1 x2 h k = some r → zKsp l true zi r 196 [x0, x1, x2] h k t) (a0 : Int) (h : zH) (hr : Co_bankDelay a0 h zin = some r) : GO 0 [some (102, a0), none, none, none, none] [] h := by
  have e9 := Eq.trans (Eq.symm (qe_Co_bankDelay zin a0 h)) hr
  generalize (400 : Nat) = f9 at e9
  refine hS _ _ (zcal_s (SP := zKsp l true zi r) _ ?_) (zorc_s _ ?_) _ _ _ _ _ e9
  · exact trivial
  · exact ⟨zap3_s (P := fun xs h => GO 4 (zfl [some (102, none), some (0, none), some (0, none), none, none] xs).1 (zfs [] (zfl [some (102, none), some (0, none), some (0, none), none, none] xs).2) h) (fun x0 x1 x2 h hr => s_Co_bankDelay_4 hS k1 k2 k196 x0 x1 x2 h hr), trivial⟩
set_option maxRecDepth 100000 in
set_option maxHeartbeats 0 in
theorem s_Un_missesLine_21 {l : Launch} {zi : Nat → zinfo} {r : zRes} {GO : Nat → List (Option zV) → List zV → zH → Prop} (hS : zSg l true zi (zget (999, 0, 0, 0) zc_Un_missesLine) (zcut zu_Un_missesLine) zin (fun _ _ => none) r GO) (k1 : ∀ (x0 x1 : Int) (h : zH) (k : (Int → zH → Option zRes)) (t : (Nat → zH → Option zRes)), Ma_floorMod x0 x1 h k = some r → zKsp l true zi r 1 [x0, x1] h k t) (a0 a1 a2 t0 : Int) (h : zH) (hr : Un_missesLine_21 zin a0 a1 a2 t0 h = some r) : GO 21 [some (103, a0), some (0, a1), some (0, a2), none] [(0, t0)] h := by
  have e9 := Eq.trans (Eq.symm (qe_Un_missesLine_21 zin a0 a1 a2 t0 h)) hr
  generalize (400 : Nat) = f9 at e9
  refine hS _ _ (zcal_s (SP := zKsp l true zi r) _ ?_) (zorc_s _ ?_) _ _ _ _ _ e9
  · exact trivial
  · exact trivial
set_option maxRecDepth 100000 in
set_option maxHeartbeats 0 in
theorem s_Un_missesLine {l : Launch} {zi : Nat → zinfo} {r : zRes} {GO : Nat → List (Option zV) → List zV → zH → Prop} (hS : zSg l true zi (zget (999, 0, 0, 0) zc_Un_missesLine) (zcut zu_Un_missesLine) zin (fun _ _ => none) r GO) (k1 : ∀ (x0 x1 : Int) (h : zH) (k : (Int → zH → Option zRes)) (t : (Nat → zH → Option zRes)), Ma_floorMod x0 x1 h k = some r → zKsp l true zi r 1 [x0, x1] h k t) (a0 a1 : Int) (h : zH) (hr : Un_missesLine a0 a1 h zin = some r) : GO 0 [some (103, a0), some (0, a1), none, none] [] h := by
  have e9 := Eq.trans (Eq.symm (qe_Un_missesLine zin a0 a1 h)) hr
  generalize (400 : Nat) = f9 at e9
  refine hS _ _ (zcal_s (SP := zKsp l true zi r) _ ?_) (zorc_s _ ?_) _ _ _ _ _ e9
  · exact ⟨zca2_s (SP := fun xs h k t => zKsp l true zi r 1 (zfc [none, none] xs) h k t) k1, trivial⟩
  · exact ⟨zap4_s (P := fun xs h => GO 21 (zfl [some (103, none), some (0, none), some (0, none), none] xs).1 (zfs [(0, none)] (zfl [some (103, none), some (0, none), some (0, none), none] xs).2) h) (fun x0 x1 x2 x3 h hr => s_Un_missesLine_21 hS k1 x0 x1 x2 x3 h hr), trivial⟩
set_option maxRecDepth 100000 in
set_option maxHeartbeats 0 in
theorem s_Co_lineDelay_55 {l : Launch} {zi : Nat → zinfo} {r : zRes} {GO : Nat → List (Option zV) → List zV → zH → Prop} (hS : zSg l true zi (zget (999, 0, 0, 0) zc_Co_lineDelay) (zcut zu_Co_lineDelay) zin (fun _ _ => none) r GO) (k196 : ∀ (x0 x1 x2 : Int) (h : zH) (k : (Int → zH → Option zRes)) (t : (Nat → zH → Option zRes)), Co_isNamedFirst x0 x1 x2 h k = some r → zKsp l true zi r 196 [x0, x1, x2] h k t) (k287 : ∀ (x0 x1 : Int) (h : zH) (k : (Int → zH → Option zRes)) (t : (Nat → zH → Option zRes)), Un_missesLine x0 x1 h k = some r → zKsp l true zi r 287 [x0, x1] h k t) {r4 : Int → Int → Int → Int → zH → Option zRes} (h4 : ∀ (x0 x1 x2 x3 : Int) (h : zH), r4 x0 x1 x2 x3 h = some r → GO 4 [some (102, x0), some (103, x1), some (0, x2), some (0, x3)] [] h) (a0 a1 a2 a3 : Int) (h : zH) (hr : Co_lineDelay_55 zin r4 a0 a1 a2 a3 h = some r) : GO 55 [some (102, a0), some (103, a1), some (0, a2), some (0, a3)] [] h := by
  have e9 := Eq.trans (Eq.symm (qe_Co_lineDelay_55 zin r4 a0 a1 a2 a3 h)) hr
  generalize (400 : Nat) = f9 at e9
  refine hS _ _ (zcal_s (SP := zKsp l true zi r) _ ?_) (zorc_s _ ?_) _ _ _ _ _ e9
  · exact trivial
  · exact ⟨zap4_s (P := fun xs h => GO 4 (zfl [some (102, none), some (103, none), some (0, none), some (0, none)] xs).1 (zfs [] (zfl [some (102, none), some (103, none), some (0, none), some (0, none)] xs).2) h) h4, trivial⟩
set_option maxRecDepth 100000 in
set_option maxHeartbeats 0 in
theorem s_Co_lineDelay_4b {l : Launch} {zi : Nat → zinfo} {r : zRes} {GO : Nat → List (Option zV) → List zV → zH → Prop} (hS : zSg l true zi (zget (999, 0, 0, 0) zc_Co_lineDelay) (zcut zu_Co_lineDelay) zin (fun _ _ => none) r GO) (k196 : ∀ (x0 x1 x2 : Int) (h : zH) (k : (Int → zH → Option zRes)) (t : (Nat → zH → Option zRes)), Co_isNamedFirst x0 x1 x2 h k = some r → zKsp l true zi r 196 [x0, x1, x2] h k t) (k287 : ∀ (x0 x1 : Int) (h : zH) (k : (Int → zH → Option zRes)) (t : (Nat → zH → Option zRes)), Un_missesLine x0 x1 h k = some r → zKsp l true zi r 287 [x0, x1] h k t) {r4 : Int → Int → Int → Int → zH → Option zRes} (h4 : ∀ (x0 x1 x2 x3 : Int) (h : zH), r4 x0 x1 x2 x3 h = some r → GO 4 [some (102, x0), some (103, x1), some (0, x2), some (0, x3)] [] h) (a0 a1 a2 a3 : Int) (h : zH) (hr : Co_lineDelay_4b zin r4 a0 a1 a2 a3 h = some r) : GO 4 [some (102, a0), some (103, a1), some (0, a2), some (0, a3)] [] h := by
  have e9 := Eq.trans (Eq.symm (qe_Co_lineDelay_4b zin r4 a0 a1 a2 a3 h)) hr
  generalize (400 : Nat) = f9 at e9
  refine hS _ _ (zcal_s (SP := zKsp l true zi r) _ ?_) (zorc_s _ ?_) _ _ _ _ _ e9
  · exact ⟨zca3_s (SP := fun xs h k t => zKsp l true zi r 196 (zfc [none, none, none] xs) h k t) k196, ⟨zca2_s (SP := fun xs h k t => zKsp l true zi r 287 (zfc [none, none] xs) h k t) k287, trivial⟩⟩
  · exact ⟨zap4_s (P := fun xs h => GO 55 (zfl [some (102, none), some (103, none), some (0, none), some (0, none)] xs).1 (zfs [] (zfl [some (102, none), some (103, none), some (0, none), some (0, none)] xs).2) h) (fun x0 x1 x2 x3 h hr => s_Co_lineDelay_55 hS k196 k287 h4 x0 x1 x2 x3 h hr), trivial⟩
set_option maxRecDepth 100000 in
set_option maxHeartbeats 0 in
theorem s_Co_lineDelay_4 {l : Launch} {zi : Nat → zinfo} {r : zRes} {GO : Nat → List (Option zV) → List zV → zH → Prop} (hS : zSg l true zi (zget (999, 0, 0, 0) zc_Co_lineDelay) (zcut zu_Co_lineDelay) zin (fun _ _ => none) r GO) (k196 : ∀ (x0 x1 x2 : Int) (h : zH) (k : (Int → zH → Option zRes)) (t : (Nat → zH → Option zRes)), Co_isNamedFirst x0 x1 x2 h k = some r → zKsp l true zi r 196 [x0, x1, x2] h k t) (k287 : ∀ (x0 x1 : Int) (h : zH) (k : (Int → zH → Option zRes)) (t : (Nat → zH → Option zRes)), Un_missesLine x0 x1 h k = some r → zKsp l true zi r 287 [x0, x1] h k t) (a0 a1 a2 a3 : Int) (h : zH) (hr : Co_lineDelay_4 zin a0 a1 a2 a3 h = some r) : GO 4 [some (102, a0), some (103, a1), some (0, a2), some (0, a3)] [] h := zit4_s (P := fun x0 x1 x2 x3 h => GO 4 [some (102, x0), some (103, x1), some (0, x2), some (0, x3)] [] h) (fun rr hh a0 a1 a2 a3 h hr => s_Co_lineDelay_4b hS k196 k287 hh a0 a1 a2 a3 h hr) zN a0 a1 a2 a3 h hr
set_option maxRecDepth 100000 in
set_option maxHeartbeats 0 in
theorem s_Co_lineDelay {l : Launch} {zi : Nat → zinfo} {r : zRes} {GO : Nat → List (Option zV) → List zV → zH → Prop} (hS : zSg l true zi (zget (999, 0, 0, 0) zc_Co_lineDelay) (zcut zu_Co_lineDelay) zin (fun _ _ => none) r GO) (k196 : ∀ (x0 x1 x2 : Int) (h : zH) (k : (Int → zH → Option zRes)) (t : (Nat → zH → Option zRes)), Co_isNamedFirst x0 x1 x2 h k = some r → zKsp l true zi r 196 [x0, x1, x2] h k t) (k287 : ∀ (x0 x1 : Int) (h : zH) (k : (Int → zH → Option zRes)) (t : (Nat → zH → Option zRes)), Un_missesLine x0 x1 h k = some r → zKsp l true zi r 287 [x0, x1] h k t) (a0 a1 : Int) (h : zH) (hr : Co_lineDelay a0 a1 h zin = some r) : GO 0 [some (102, a0), some (103, a1), none, none] [] h := by
  have e9 := Eq.trans (Eq.symm (qe_Co_lineDelay zin a0 a1 h)) hr
  generalize (400 : Nat) = f9 at e9
  refine hS _ _ (zcal_s (SP := zKsp l true zi r) _ ?_) (zorc_s _ ?_) _ _ _ _ _ e9
  · exact trivial
  · exact ⟨zap4_s (P := fun xs h => GO 4 (zfl [some (102, none), some (103, none), some (0, none), some (0, none)] xs).1 (zfs [] (zfl [some (102, none), some (103, none), some (0, none), some (0, none)] xs).2) h) (fun x0 x1 x2 x3 h hr => s_Co_lineDelay_4 hS k196 k287 x0 x1 x2 x3 h hr), trivial⟩
set_option maxRecDepth 100000 in
set_option maxHeartbeats 0 in
theorem s_Co_delayOf_90 {l : Launch} {zi : Nat → zinfo} {r : zRes} {GO : Nat → List (Option zV) → List zV → zH → Prop} (hS : zSg l true zi (zget (999, 0, 0, 0) zc_Co_delayOf) (zcut zu_Co_delayOf) zin (fun _ _ => none) r GO) (k0 : ∀ (x0 : Int) (h : zH) (k : (Int → zH → Option zRes)) (t : (Nat → zH → Option zRes)), It_bitCount x0 h k = some r → zKsp l true zi r 0 [x0] h k t) (k194 : ∀ (x0 : Int) (h : zH) (k : (Int → zH → Option zRes)) (t : (Nat → zH → Option zRes)), Co_bankDelay x0 h k = some r → zKsp l true zi r 194 [x0] h k t) (k195 : ∀ (x0 x1 : Int) (h : zH) (k : (Int → zH → Option zRes)) (t : (Nat → zH → Option zRes)), Co_lineDelay x0 x1 h k = some r → zKsp l true zi r 195 [x0, x1] h k t) (a0 : Int) (h : zH) (hr : Co_delayOf_90 zin a0 h = some r) : GO 90 [some (102, a0), none, none] [] h := by
  have e9 := Eq.trans (Eq.symm (qe_Co_delayOf_90 zin a0 h)) hr
  generalize (400 : Nat) = f9 at e9
  refine hS _ _ (zcal_s (SP := zKsp l true zi r) _ ?_) (zorc_s _ ?_) _ _ _ _ _ e9
  · exact ⟨zca1_s (SP := fun xs h k t => zKsp l true zi r 194 (zfc [none] xs) h k t) k194, trivial⟩
  · exact trivial
set_option maxRecDepth 100000 in
set_option maxHeartbeats 0 in
theorem s_Co_delayOf_101 {l : Launch} {zi : Nat → zinfo} {r : zRes} {GO : Nat → List (Option zV) → List zV → zH → Prop} (hS : zSg l true zi (zget (999, 0, 0, 0) zc_Co_delayOf) (zcut zu_Co_delayOf) zin (fun _ _ => none) r GO) (k0 : ∀ (x0 : Int) (h : zH) (k : (Int → zH → Option zRes)) (t : (Nat → zH → Option zRes)), It_bitCount x0 h k = some r → zKsp l true zi r 0 [x0] h k t) (k194 : ∀ (x0 : Int) (h : zH) (k : (Int → zH → Option zRes)) (t : (Nat → zH → Option zRes)), Co_bankDelay x0 h k = some r → zKsp l true zi r 194 [x0] h k t) (k195 : ∀ (x0 x1 : Int) (h : zH) (k : (Int → zH → Option zRes)) (t : (Nat → zH → Option zRes)), Co_lineDelay x0 x1 h k = some r → zKsp l true zi r 195 [x0, x1] h k t) (a0 : Int) (h : zH) (hr : Co_delayOf_101 zin a0 h = some r) : GO 101 [some (102, a0), none, none] [] h := by
  have e9 := Eq.trans (Eq.symm (qe_Co_delayOf_101 zin a0 h)) hr
  generalize (400 : Nat) = f9 at e9
  refine hS _ _ (zcal_s (SP := zKsp l true zi r) _ ?_) (zorc_s _ ?_) _ _ _ _ _ e9
  · exact trivial
  · exact trivial
set_option maxRecDepth 100000 in
set_option maxHeartbeats 0 in
theorem s_Co_delayOf_108 {l : Launch} {zi : Nat → zinfo} {r : zRes} {GO : Nat → List (Option zV) → List zV → zH → Prop} (hS : zSg l true zi (zget (999, 0, 0, 0) zc_Co_delayOf) (zcut zu_Co_delayOf) zin (fun _ _ => none) r GO) (k0 : ∀ (x0 : Int) (h : zH) (k : (Int → zH → Option zRes)) (t : (Nat → zH → Option zRes)), It_bitCount x0 h k = some r → zKsp l true zi r 0 [x0] h k t) (k194 : ∀ (x0 : Int) (h : zH) (k : (Int → zH → Option zRes)) (t : (Nat → zH → Option zRes)), Co_bankDelay x0 h k = some r → zKsp l true zi r 194 [x0] h k t) (k195 : ∀ (x0 x1 : Int) (h : zH) (k : (Int → zH → Option zRes)) (t : (Nat → zH → Option zRes)), Co_lineDelay x0 x1 h k = some r → zKsp l true zi r 195 [x0, x1] h k t) (a0 : Int) (h : zH) (hr : Co_delayOf_108 zin a0 h = some r) : GO 108 [some (102, a0), none, none] [] h := by
  have e9 := Eq.trans (Eq.symm (qe_Co_delayOf_108 zin a0 h)) hr
  generalize (400 : Nat) = f9 at e9
  refine hS _ _ (zcal_s (SP := zKsp l true zi r) _ ?_) (zorc_s _ ?_) _ _ _ _ _ e9
  · exact ⟨zca1_s (SP := fun xs h k t => zKsp l true zi r 0 (zfc [none] xs) h k t) k0, trivial⟩
  · exact trivial
set_option maxRecDepth 100000 in
set_option maxHeartbeats 0 in
theorem s_Co_delayOf {l : Launch} {zi : Nat → zinfo} {r : zRes} {GO : Nat → List (Option zV) → List zV → zH → Prop} (hS : zSg l true zi (zget (999, 0, 0, 0) zc_Co_delayOf) (zcut zu_Co_delayOf) zin (fun _ _ => none) r GO) (k0 : ∀ (x0 : Int) (h : zH) (k : (Int → zH → Option zRes)) (t : (Nat → zH → Option zRes)), It_bitCount x0 h k = some r → zKsp l true zi r 0 [x0] h k t) (k194 : ∀ (x0 : Int) (h : zH) (k : (Int → zH → Option zRes)) (t : (Nat → zH → Option zRes)), Co_bankDelay x0 h k = some r → zKsp l true zi r 194 [x0] h k t) (k195 : ∀ (x0 x1 : Int) (h : zH) (k : (Int → zH → Option zRes)) (t : (Nat → zH → Option zRes)), Co_lineDelay x0 x1 h k = some r → zKsp l true zi r 195 [x0, x1] h k t) (a0 a1 a2 : Int) (h : zH) (hr : Co_delayOf a0 a1 a2 h zin = some r) : GO 0 [some (102, a0), some (103, a1), some (108, a2)] [] h := by
  have e9 := Eq.trans (Eq.symm (qe_Co_delayOf zin a0 a1 a2 h)) hr
  generalize (400 : Nat) = f9 at e9
  refine hS _ _ (zcal_s (SP := zKsp l true zi r) _ ?_) (zorc_s _ ?_) _ _ _ _ _ e9
  · exact ⟨zca1_s (SP := fun xs h k t => zKsp l true zi r 0 (zfc [none] xs) h k t) k0, ⟨zca2_s (SP := fun xs h k t => zKsp l true zi r 195 (zfc [none, none] xs) h k t) k195, trivial⟩⟩
  · exact ⟨zap1_s (P := fun xs h => GO 90 (zfl [some (102, none), none, none] xs).1 (zfs [] (zfl [some (102, none), none, none] xs).2) h) (fun x0 h hr => s_Co_delayOf_90 hS k0 k194 k195 x0 h hr), ⟨zap1_s (P := fun xs h => GO 101 (zfl [some (102, none), none, none] xs).1 (zfs [] (zfl [some (102, none), none, none] xs).2) h) (fun x0 h hr => s_Co_delayOf_101 hS k0 k194 k195 x0 h hr), ⟨zap1_s (P := fun xs h => GO 108 (zfl [some (102, none), none, none] xs).1 (zfs [] (zfl [some (102, none), none, none] xs).2) h) (fun x0 h hr => s_Co_delayOf_108 hS k0 k194 k195 x0 h hr), trivial⟩⟩⟩
set_option maxRecDepth 100000 in
set_option maxHeartbeats 0 in
theorem s_Co_countedDelay_58 {l : Launch} {zi : Nat → zinfo} {r : zRes} {GO : Nat → List (Option zV) → List zV → zH → Prop} (hS : zSg l true zi (zget (999, 0, 0, 0) zc_Co_countedDelay) (zcut zu_Co_countedDelay) zin (fun _ _ => none) r GO) (k193 : ∀ (x0 x1 x2 : Int) (h : zH) (k : (Int → zH → Option zRes)) (t : (Nat → zH → Option zRes)), Co_delayOf x0 x1 x2 h k = some r → zKsp l true zi r 193 [x0, x1, x2] h k t) (k219 : ∀ (x0 x1 : Int) (h : zH) (k : (Int → zH → Option zRes)) (t : (Nat → zH → Option zRes)), In_isOneOf x0 x1 h k = some r → zKsp l true zi r 219 [x0, x1] h k t) (a3 : Int) (h : zH) (hr : Co_countedDelay_58 zin a3 h = some r) : GO 58 [none, none, none, some (0, a3)] [] h := by
  have e9 := Eq.trans (Eq.symm (qe_Co_countedDelay_58 zin a3 h)) hr
  generalize (400 : Nat) = f9 at e9
  refine hS _ _ (zcal_s (SP := zKsp l true zi r) _ ?_) (zorc_s _ ?_) _ _ _ _ _ e9
  · exact trivial
  · exact trivial
set_option maxRecDepth 100000 in
set_option maxHeartbeats 0 in
theorem s_Co_countedDelay {l : Launch} {zi : Nat → zinfo} {r : zRes} {GO : Nat → List (Option zV) → List zV → zH → Prop} (hS : zSg l true zi (zget (999, 0, 0, 0) zc_Co_countedDelay) (zcut zu_Co_countedDelay) zin (fun _ _ => none) r GO) (k193 : ∀ (x0 x1 x2 : Int) (h : zH) (k : (Int → zH → Option zRes)) (t : (Nat → zH → Option zRes)), Co_delayOf x0 x1 x2 h k = some r → zKsp l true zi r 193 [x0, x1, x2] h k t) (k219 : ∀ (x0 x1 : Int) (h : zH) (k : (Int → zH → Option zRes)) (t : (Nat → zH → Option zRes)), In_isOneOf x0 x1 h k = some r → zKsp l true zi r 219 [x0, x1] h k t) (a0 a1 a2 : Int) (h : zH) (hr : Co_countedDelay a0 a1 a2 h zin = some r) : GO 0 [some (102, a0), some (103, a1), some (108, a2), none] [] h := by
  have e9 := Eq.trans (Eq.symm (qe_Co_countedDelay zin a0 a1 a2 h)) hr
  generalize (400 : Nat) = f9 at e9
  refine hS _ _ (zcal_s (SP := zKsp l true zi r) _ ?_) (zorc_s _ ?_) _ _ _ _ _ e9
  · exact ⟨zca3_s (SP := fun xs h k t => zKsp l true zi r 193 (zfc [none, none, none] xs) h k t) k193, ⟨zca2_s (SP := fun xs h k t => zKsp l true zi r 219 (zfc [none, none] xs) h k t) k219, trivial⟩⟩
  · exact ⟨zap1_s (P := fun xs h => GO 58 (zfl [none, none, none, some (0, none)] xs).1 (zfs [] (zfl [none, none, none, some (0, none)] xs).2) h) (fun x0 h hr => s_Co_countedDelay_58 hS k193 k219 x0 h hr), trivial⟩
set_option maxRecDepth 100000 in
set_option maxHeartbeats 0 in
theorem s_Un_dropLaunch_43 {l : Launch} {zi : Nat → zinfo} {r : zRes} {GO : Nat → List (Option zV) → List zV → zH → Prop} (hS : zSg l true zi (zget (999, 0, 0, 0) zc_Un_dropLaunch) (zcut zu_Un_dropLaunch) zin (fun _ _ => none) r GO) (k284 : ∀ (x0 x1 : Int) (h : zH) (k : (Int → zH → Option zRes)) (t : (Nat → zH → Option zRes)), Un_cutTo x0 x1 h k = some r → zKsp l true zi r 284 [x0, x1] h k t) {r4 : Int → Int → Int → Int → zH → Option zRes} (h4 : ∀ (x0 x1 x2 x3 : Int) (h : zH), r4 x0 x1 x2 x3 h = some r → GO 4 [some (103, x0), some (109, x1), some (0, x2), some (0, x3)] [] h) (a0 a1 a2 a3 : Int) (h : zH) (hr : Un_dropLaunch_43 zin r4 a0 a1 a2 a3 h = some r) : GO 43 [some (103, a0), some (109, a1), some (0, a2), some (0, a3)] [] h := by
  have e9 := Eq.trans (Eq.symm (qe_Un_dropLaunch_43 zin r4 a0 a1 a2 a3 h)) hr
  generalize (400 : Nat) = f9 at e9
  refine hS _ _ (zcal_s (SP := zKsp l true zi r) _ ?_) (zorc_s _ ?_) _ _ _ _ _ e9
  · exact trivial
  · exact ⟨zap4_s (P := fun xs h => GO 4 (zfl [some (103, none), some (109, none), some (0, none), some (0, none)] xs).1 (zfs [] (zfl [some (103, none), some (109, none), some (0, none), some (0, none)] xs).2) h) h4, trivial⟩
set_option maxRecDepth 100000 in
set_option maxHeartbeats 0 in
theorem s_Un_dropLaunch_4b {l : Launch} {zi : Nat → zinfo} {r : zRes} {GO : Nat → List (Option zV) → List zV → zH → Prop} (hS : zSg l true zi (zget (999, 0, 0, 0) zc_Un_dropLaunch) (zcut zu_Un_dropLaunch) zin (fun _ _ => none) r GO) (k284 : ∀ (x0 x1 : Int) (h : zH) (k : (Int → zH → Option zRes)) (t : (Nat → zH → Option zRes)), Un_cutTo x0 x1 h k = some r → zKsp l true zi r 284 [x0, x1] h k t) {r4 : Int → Int → Int → Int → zH → Option zRes} (h4 : ∀ (x0 x1 x2 x3 : Int) (h : zH), r4 x0 x1 x2 x3 h = some r → GO 4 [some (103, x0), some (109, x1), some (0, x2), some (0, x3)] [] h) (a0 a1 a2 a3 : Int) (h : zH) (hr : Un_dropLaunch_4b zin r4 a0 a1 a2 a3 h = some r) : GO 4 [some (103, a0), some (109, a1), some (0, a2), some (0, a3)] [] h := by
  have e9 := Eq.trans (Eq.symm (qe_Un_dropLaunch_4b zin r4 a0 a1 a2 a3 h)) hr
  generalize (400 : Nat) = f9 at e9
  refine hS _ _ (zcal_s (SP := zKsp l true zi r) _ ?_) (zorc_s _ ?_) _ _ _ _ _ e9
  · exact ⟨zca2_s (SP := fun xs h k t => zKsp l true zi r 284 (zfc [none, none] xs) h k t) k284, trivial⟩
  · exact ⟨zap4_s (P := fun xs h => GO 43 (zfl [some (103, none), some (109, none), some (0, none), some (0, none)] xs).1 (zfs [] (zfl [some (103, none), some (109, none), some (0, none), some (0, none)] xs).2) h) (fun x0 x1 x2 x3 h hr => s_Un_dropLaunch_43 hS k284 h4 x0 x1 x2 x3 h hr), trivial⟩
set_option maxRecDepth 100000 in
set_option maxHeartbeats 0 in
theorem s_Un_dropLaunch_4 {l : Launch} {zi : Nat → zinfo} {r : zRes} {GO : Nat → List (Option zV) → List zV → zH → Prop} (hS : zSg l true zi (zget (999, 0, 0, 0) zc_Un_dropLaunch) (zcut zu_Un_dropLaunch) zin (fun _ _ => none) r GO) (k284 : ∀ (x0 x1 : Int) (h : zH) (k : (Int → zH → Option zRes)) (t : (Nat → zH → Option zRes)), Un_cutTo x0 x1 h k = some r → zKsp l true zi r 284 [x0, x1] h k t) (a0 a1 a2 a3 : Int) (h : zH) (hr : Un_dropLaunch_4 zin a0 a1 a2 a3 h = some r) : GO 4 [some (103, a0), some (109, a1), some (0, a2), some (0, a3)] [] h := zit4_s (P := fun x0 x1 x2 x3 h => GO 4 [some (103, x0), some (109, x1), some (0, x2), some (0, x3)] [] h) (fun rr hh a0 a1 a2 a3 h hr => s_Un_dropLaunch_4b hS k284 hh a0 a1 a2 a3 h hr) zN a0 a1 a2 a3 h hr
set_option maxRecDepth 100000 in
set_option maxHeartbeats 0 in
theorem s_Un_dropLaunch {l : Launch} {zi : Nat → zinfo} {r : zRes} {GO : Nat → List (Option zV) → List zV → zH → Prop} (hS : zSg l true zi (zget (999, 0, 0, 0) zc_Un_dropLaunch) (zcut zu_Un_dropLaunch) zin (fun _ _ => none) r GO) (k284 : ∀ (x0 x1 : Int) (h : zH) (k : (Int → zH → Option zRes)) (t : (Nat → zH → Option zRes)), Un_cutTo x0 x1 h k = some r → zKsp l true zi r 284 [x0, x1] h k t) (a0 a1 : Int) (h : zH) (hr : Un_dropLaunch a0 a1 h zin = some r) : GO 0 [some (103, a0), some (109, a1), none, none] [] h := by
  have e9 := Eq.trans (Eq.symm (qe_Un_dropLaunch zin a0 a1 h)) hr
  generalize (400 : Nat) = f9 at e9
  refine hS _ _ (zcal_s (SP := zKsp l true zi r) _ ?_) (zorc_s _ ?_) _ _ _ _ _ e9
  · exact trivial
  · exact ⟨zap4_s (P := fun xs h => GO 4 (zfl [some (103, none), some (109, none), some (0, none), some (0, none)] xs).1 (zfs [] (zfl [some (103, none), some (109, none), some (0, none), some (0, none)] xs).2) h) (fun x0 x1 x2 x3 h hr => s_Un_dropLaunch_4 hS k284 x0 x1 x2 x3 h hr), trivial⟩
set_option maxRecDepth 100000 in
set_option maxHeartbeats 0 in
theorem s_Co_fail_43b {l : Launch} {zi : Nat → zinfo} {r : zRes} {GO : Nat → List (Option zV) → List zV → zH → Prop} (hS : zSg l true zi (zget (999, 0, 0, 0) zc_Co_fail) (zcut zu_Co_fail) zin (fun _ _ => none) r GO) (k251 : ∀ (x0 x1 : Int) (h : zH) (k : (Int → zH → Option zRes)) (t : (Nat → zH → Option zRes)), Le_endIfDone x0 x1 h k = some r → zKsp l true zi r 251 [x0, x1] h k t) (k283 : ∀ (x0 x1 : Int) (h : zH) (k : (Int → zH → Option zRes)) (t : (Nat → zH → Option zRes)), Un_dropLaunch x0 x1 h k = some r → zKsp l true zi r 283 [x0, x1] h k t) {r43 : Int → Int → Int → zH → Option zRes} (h43 : ∀ (x0 x1 x2 : Int) (h : zH), r43 x0 x1 x2 h = some r → GO 43 [some (102, x0), none, none, none, none, some (109, x1), some (0, x2)] [] h) (a0 a5 a6 : Int) (h : zH) (hr : Co_fail_43b zin r43 a0 a5 a6 h = some r) : GO 43 [some (102, a0), none, none, none, none, some (109, a5), some (0, a6)] [] h := by
  have e9 := Eq.trans (Eq.symm (qe_Co_fail_43b zin r43 a0 a5 a6 h)) hr
  generalize (400 : Nat) = f9 at e9
  refine hS _ _ (zcal_s (SP := zKsp l true zi r) _ ?_) (zorc_s _ ?_) _ _ _ _ _ e9
  · exact ⟨zca2_s (SP := fun xs h k t => zKsp l true zi r 251 (zfc [none, none] xs) h k t) k251, ⟨zca2_s (SP := fun xs h k t => zKsp l true zi r 283 (zfc [none, none] xs) h k t) k283, trivial⟩⟩
  · exact ⟨zap3_s (P := fun xs h => GO 43 (zfl [some (102, none), none, none, none, none, some (109, none), some (0, none)] xs).1 (zfs [] (zfl [some (102, none), none, none, none, none, some (109, none), some (0, none)] xs).2) h) h43, trivial⟩
set_option maxRecDepth 100000 in
set_option maxHeartbeats 0 in
theorem s_Co_fail_43 {l : Launch} {zi : Nat → zinfo} {r : zRes} {GO : Nat → List (Option zV) → List zV → zH → Prop} (hS : zSg l true zi (zget (999, 0, 0, 0) zc_Co_fail) (zcut zu_Co_fail) zin (fun _ _ => none) r GO) (k251 : ∀ (x0 x1 : Int) (h : zH) (k : (Int → zH → Option zRes)) (t : (Nat → zH → Option zRes)), Le_endIfDone x0 x1 h k = some r → zKsp l true zi r 251 [x0, x1] h k t) (k283 : ∀ (x0 x1 : Int) (h : zH) (k : (Int → zH → Option zRes)) (t : (Nat → zH → Option zRes)), Un_dropLaunch x0 x1 h k = some r → zKsp l true zi r 283 [x0, x1] h k t) (a0 a5 a6 : Int) (h : zH) (hr : Co_fail_43 zin a0 a5 a6 h = some r) : GO 43 [some (102, a0), none, none, none, none, some (109, a5), some (0, a6)] [] h := zit3_s (P := fun x0 x1 x2 h => GO 43 [some (102, x0), none, none, none, none, some (109, x1), some (0, x2)] [] h) (fun rr hh a0 a5 a6 h hr => s_Co_fail_43b hS k251 k283 hh a0 a5 a6 h hr) zN a0 a5 a6 h hr
set_option maxRecDepth 100000 in
set_option maxHeartbeats 0 in
theorem s_Co_fail {l : Launch} {zi : Nat → zinfo} {r : zRes} {GO : Nat → List (Option zV) → List zV → zH → Prop} (hS : zSg l true zi (zget (999, 0, 0, 0) zc_Co_fail) (zcut zu_Co_fail) zin (fun _ _ => none) r GO) (k251 : ∀ (x0 x1 : Int) (h : zH) (k : (Int → zH → Option zRes)) (t : (Nat → zH → Option zRes)), Le_endIfDone x0 x1 h k = some r → zKsp l true zi r 251 [x0, x1] h k t) (k283 : ∀ (x0 x1 : Int) (h : zH) (k : (Int → zH → Option zRes)) (t : (Nat → zH → Option zRes)), Un_dropLaunch x0 x1 h k = some r → zKsp l true zi r 283 [x0, x1] h k t) (a0 a1 a2 a3 a4 : Int) (h : zH) (hr : Co_fail a0 a1 a2 a3 a4 h zin = some r) : GO 0 [some (102, a0), some (110, a1), some (0, a2), some (0, a3), some (0, a4), none, none] [] h := by
  have e9 := Eq.trans (Eq.symm (qe_Co_fail zin a0 a1 a2 a3 a4 h)) hr
  generalize (400 : Nat) = f9 at e9
  refine hS _ _ (zcal_s (SP := zKsp l true zi r) _ ?_) (zorc_s _ ?_) _ _ _ _ _ e9
  · exact trivial
  · exact ⟨zap3_s (P := fun xs h => GO 43 (zfl [some (102, none), none, none, none, none, some (109, none), some (0, none)] xs).1 (zfs [] (zfl [some (102, none), none, none, none, none, some (109, none), some (0, none)] xs).2) h) (fun x0 x1 x2 h hr => s_Co_fail_43 hS k251 k283 x0 x1 x2 h hr), trivial⟩
set_option maxRecDepth 100000 in
set_option maxHeartbeats 0 in
theorem s_Gr_placeIn_25 {l : Launch} {zi : Nat → zinfo} {r : zRes} {GO : Nat → List (Option zV) → List zV → zH → Prop} (hS : zSg l true zi (zget (999, 0, 0, 0) zc_Gr_placeIn) (zcut zu_Gr_placeIn) zin (fun _ _ => none) r GO) (k203 : ∀ (x0 x1 : Int) (h : zH) (k : (Int → zH → Option zRes)) (t : (Nat → zH → Option zRes)), Gr_threadIn x0 x1 h k = some r → zKsp l true zi r 203 [x0, x1] h k t) (k255 : ∀ (x0 : Int) (h : zH) (k : (Int → zH → Option zRes)) (t : (Nat → zH → Option zRes)), Th_isRunning x0 h k = some r → zKsp l true zi r 255 [x0] h k t) (t0 : Int) (h : zH) (hr : Gr_placeIn_25 zin t0 h = some r) : GO 25 [none, none, none] [(0, t0)] h := by
  have e9 := Eq.trans (Eq.symm (qe_Gr_placeIn_25 zin t0 h)) hr
  generalize (400 : Nat) = f9 at e9
  refine hS _ _ (zcal_s (SP := zKsp l true zi r) _ ?_) (zorc_s _ ?_) _ _ _ _ _ e9
  · exact trivial
  · exact trivial
set_option maxRecDepth 100000 in
set_option maxHeartbeats 0 in
theorem s_Gr_placeIn_24 {l : Launch} {zi : Nat → zinfo} {r : zRes} {GO : Nat → List (Option zV) → List zV → zH → Prop} (hS : zSg l true zi (zget (999, 0, 0, 0) zc_Gr_placeIn) (zcut zu_Gr_placeIn) zin (fun _ _ => none) r GO) (k203 : ∀ (x0 x1 : Int) (h : zH) (k : (Int → zH → Option zRes)) (t : (Nat → zH → Option zRes)), Gr_threadIn x0 x1 h k = some r → zKsp l true zi r 203 [x0, x1] h k t) (k255 : ∀ (x0 : Int) (h : zH) (k : (Int → zH → Option zRes)) (t : (Nat → zH → Option zRes)), Th_isRunning x0 h k = some r → zKsp l true zi r 255 [x0] h k t) (h : zH) (hr : Gr_placeIn_24 zin h = some r) : GO 24 [none, none, none] [] h := by
  have e9 := Eq.trans (Eq.symm (qe_Gr_placeIn_24 zin h)) hr
  generalize (400 : Nat) = f9 at e9
  refine hS _ _ (zcal_s (SP := zKsp l true zi r) _ ?_) (zorc_s _ ?_) _ _ _ _ _ e9
  · exact trivial
  · exact ⟨zap1_s (P := fun xs h => GO 25 (zfl [none, none, none] xs).1 (zfs [(0, none)] (zfl [none, none, none] xs).2) h) (fun x0 h hr => s_Gr_placeIn_25 hS k203 k255 x0 h hr), trivial⟩
set_option maxRecDepth 100000 in
set_option maxHeartbeats 0 in
theorem s_Gr_placeIn {l : Launch} {zi : Nat → zinfo} {r : zRes} {GO : Nat → List (Option zV) → List zV → zH → Prop} (hS : zSg l true zi (zget (999, 0, 0, 0) zc_Gr_placeIn) (zcut zu_Gr_placeIn) zin (fun _ _ => none) r GO) (k203 : ∀ (x0 x1 : Int) (h : zH) (k : (Int → zH → Option zRes)) (t : (Nat → zH → Option zRes)), Gr_threadIn x0 x1 h k = some r → zKsp l true zi r 203 [x0, x1] h k t) (k255 : ∀ (x0 : Int) (h : zH) (k : (Int → zH → Option zRes)) (t : (Nat → zH → Option zRes)), Th_isRunning x0 h k = some r → zKsp l true zi r 255 [x0] h k t) (a0 a1 : Int) (h : zH) (hr : Gr_placeIn a0 a1 h zin = some r) : GO 0 [some (111, a0), some (0, a1), none] [] h := by
  have e9 := Eq.trans (Eq.symm (qe_Gr_placeIn zin a0 a1 h)) hr
  generalize (400 : Nat) = f9 at e9
  refine hS _ _ (zcal_s (SP := zKsp l true zi r) _ ?_) (zorc_s _ ?_) _ _ _ _ _ e9
  · exact ⟨zca2_s (SP := fun xs h k t => zKsp l true zi r 203 (zfc [none, none] xs) h k t) k203, ⟨zca1_s (SP := fun xs h k t => zKsp l true zi r 255 (zfc [none] xs) h k t) k255, trivial⟩⟩
  · exact ⟨zap0_s (P := fun xs h => GO 24 (zfl [none, none, none] xs).1 (zfs [] (zfl [none, none, none] xs).2) h) (fun  h hr => s_Gr_placeIn_24 hS k203 k255  h hr), ⟨zap1_s (P := fun xs h => GO 25 (zfl [none, none, none] xs).1 (zfs [(0, none)] (zfl [none, none, none] xs).2) h) (fun x0 h hr => s_Gr_placeIn_25 hS k203 k255 x0 h hr), trivial⟩⟩
