set_option maxRecDepth 100000 in
set_option maxHeartbeats 0 in
theorem s_M_thrown {l : Launch} {zi : Nat → zinfo} {r : zRes} {GO : Nat → List (Option zV) → List zV → zH → Prop} (hS : zSg l false zi (zget (999, 0, 0, 0) zc_M_thrown) (zcut zu_M_thrown) zin (fun _ _ => none) r GO) (h : zH) (hr : M_thrown h zin = some r) : GO 0 [some (112, 0)] [] h := by
  have e9 := Eq.trans (Eq.symm (qe_M_thrown zin h)) hr
  generalize (400 : Nat) = f9 at e9
  refine hS _ _ (zcal_s (SP := zKsp l false zi r) _ ?_) (zorc_s _ ?_) _ _ _ _ _ e9
  · exact trivial
  · exact trivial
set_option maxRecDepth 100000 in
set_option maxHeartbeats 0 in
theorem s_M_in_15 {l : Launch} {zi : Nat → zinfo} {r : zRes} {GO : Nat → List (Option zV) → List zV → zH → Prop} (hS : zSg l false zi (zget (999, 0, 0, 0) zc_M_in) (zcut zu_M_in) zin (fun _ _ => none) r GO) (t0 : Int) (h : zH) (hr : M_in_15 zin t0 h = some r) : GO 15 [none, none, none] [(0, t0)] h := by
  have e9 := Eq.trans (Eq.symm (qe_M_in_15 zin t0 h)) hr
  generalize (400 : Nat) = f9 at e9
  refine hS _ _ (zcal_s (SP := zKsp l false zi r) _ ?_) (zorc_s _ ?_) _ _ _ _ _ e9
  · exact trivial
  · exact trivial
set_option maxRecDepth 100000 in
set_option maxHeartbeats 0 in
theorem s_M_in_14 {l : Launch} {zi : Nat → zinfo} {r : zRes} {GO : Nat → List (Option zV) → List zV → zH → Prop} (hS : zSg l false zi (zget (999, 0, 0, 0) zc_M_in) (zcut zu_M_in) zin (fun _ _ => none) r GO) (h : zH) (hr : M_in_14 zin h = some r) : GO 14 [none, none, none] [] h := by
  have e9 := Eq.trans (Eq.symm (qe_M_in_14 zin h)) hr
  generalize (400 : Nat) = f9 at e9
  refine hS _ _ (zcal_s (SP := zKsp l false zi r) _ ?_) (zorc_s _ ?_) _ _ _ _ _ e9
  · exact trivial
  · exact ⟨zap1_s (P := fun xs h => GO 15 (zfl [none, none, none] xs).1 (zfs [(0, none)] (zfl [none, none, none] xs).2) h) (fun x0 h hr => s_M_in_15 hS x0 h hr), trivial⟩
set_option maxRecDepth 100000 in
set_option maxHeartbeats 0 in
theorem s_M_in {l : Launch} {zi : Nat → zinfo} {r : zRes} {GO : Nat → List (Option zV) → List zV → zH → Prop} (hS : zSg l false zi (zget (999, 0, 0, 0) zc_M_in) (zcut zu_M_in) zin (fun _ _ => none) r GO) (a0 a1 a2 : Int) (h : zH) (hr : M_in a0 a1 a2 h zin = some r) : GO 0 [some (0, a0), some (0, a1), some (0, a2)] [] h := by
  have e9 := Eq.trans (Eq.symm (qe_M_in zin a0 a1 a2 h)) hr
  generalize (400 : Nat) = f9 at e9
  refine hS _ _ (zcal_s (SP := zKsp l false zi r) _ ?_) (zorc_s _ ?_) _ _ _ _ _ e9
  · exact trivial
  · exact ⟨zap0_s (P := fun xs h => GO 14 (zfl [none, none, none] xs).1 (zfs [] (zfl [none, none, none] xs).2) h) (fun  h hr => s_M_in_14 hS  h hr), ⟨zap1_s (P := fun xs h => GO 15 (zfl [none, none, none] xs).1 (zfs [(0, none)] (zfl [none, none, none] xs).2) h) (fun x0 h hr => s_M_in_15 hS x0 h hr), trivial⟩⟩
set_option maxRecDepth 100000 in
set_option maxHeartbeats 0 in
theorem s_M_fails_28 {l : Launch} {zi : Nat → zinfo} {r : zRes} {GO : Nat → List (Option zV) → List zV → zH → Prop} (hS : zSg l false zi (zget (999, 0, 0, 0) zc_M_fails) (zcut zu_M_fails) zin (fun _ _ => none) r GO) (t0 : Int) (h : zH) (hr : M_fails_28 zin t0 h = some r) : GO 28 [none, none, none] [(0, t0)] h := by
  have e9 := Eq.trans (Eq.symm (qe_M_fails_28 zin t0 h)) hr
  generalize (400 : Nat) = f9 at e9
  refine hS _ _ (zcal_s (SP := zKsp l false zi r) _ ?_) (zorc_s _ ?_) _ _ _ _ _ e9
  · exact trivial
  · exact trivial
set_option maxRecDepth 100000 in
set_option maxHeartbeats 0 in
theorem s_M_fails_16 {l : Launch} {zi : Nat → zinfo} {r : zRes} {GO : Nat → List (Option zV) → List zV → zH → Prop} (hS : zSg l false zi (zget (999, 0, 0, 0) zc_M_fails) (zcut zu_M_fails) zin (fun _ _ => none) r GO) (h : zH) (hr : M_fails_16 zin h = some r) : GO 16 [some (112, 0), none, none] [] h := by
  have e9 := Eq.trans (Eq.symm (qe_M_fails_16 zin h)) hr
  generalize (400 : Nat) = f9 at e9
  refine hS _ _ (zcal_s (SP := zKsp l false zi r) _ ?_) (zorc_s _ ?_) _ _ _ _ _ e9
  · exact trivial
  · exact ⟨zap1_s (P := fun xs h => GO 28 (zfl [none, none, none] xs).1 (zfs [(0, none)] (zfl [none, none, none] xs).2) h) (fun x0 h hr => s_M_fails_28 hS x0 h hr), trivial⟩
set_option maxRecDepth 100000 in
set_option maxHeartbeats 0 in
theorem s_M_fails {l : Launch} {zi : Nat → zinfo} {r : zRes} {GO : Nat → List (Option zV) → List zV → zH → Prop} (hS : zSg l false zi (zget (999, 0, 0, 0) zc_M_fails) (zcut zu_M_fails) zin (fun _ _ => none) r GO) (a1 a2 : Int) (h : zH) (hr : M_fails a1 a2 h zin = some r) : GO 0 [some (112, 0), some (0, a1), some (0, a2)] [] h := by
  have e9 := Eq.trans (Eq.symm (qe_M_fails zin a1 a2 h)) hr
  generalize (400 : Nat) = f9 at e9
  refine hS _ _ (zcal_s (SP := zKsp l false zi r) _ ?_) (zorc_s _ ?_) _ _ _ _ _ e9
  · exact trivial
  · exact ⟨zap0_s (P := fun xs h => GO 16 (zfl [some (112, some 0), none, none] xs).1 (zfs [] (zfl [some (112, some 0), none, none] xs).2) h) (fun  h hr => s_M_fails_16 hS  h hr), trivial⟩
set_option maxRecDepth 100000 in
set_option maxHeartbeats 0 in
theorem s_M_noKernel_19 {l : Launch} {zi : Nat → zinfo} {r : zRes} {GO : Nat → List (Option zV) → List zV → zH → Prop} (hS : zSg l false zi (zget (999, 0, 0, 0) zc_M_noKernel) (zcut zu_M_noKernel) zin (fun _ _ => none) r GO) (k64 : ∀ (x0 x1 x2 : Int) (h : zH) (k : (Int → zH → Option zRes)) (t : (Nat → zH → Option zRes)), M_in x0 x1 x2 h k = some r → zKsp l false zi r 64 [x0, x1, x2] h k t) (t0 : Int) (h : zH) (hr : M_noKernel_19 zin t0 h = some r) : GO 19 [none, none] [(0, t0)] h := by
  have e9 := Eq.trans (Eq.symm (qe_M_noKernel_19 zin t0 h)) hr
  generalize (400 : Nat) = f9 at e9
  refine hS _ _ (zcal_s (SP := zKsp l false zi r) _ ?_) (zorc_s _ ?_) _ _ _ _ _ e9
  · exact trivial
  · exact trivial
set_option maxRecDepth 100000 in
set_option maxHeartbeats 0 in
theorem s_M_noKernel {l : Launch} {zi : Nat → zinfo} {r : zRes} {GO : Nat → List (Option zV) → List zV → zH → Prop} (hS : zSg l false zi (zget (999, 0, 0, 0) zc_M_noKernel) (zcut zu_M_noKernel) zin (fun _ _ => none) r GO) (k64 : ∀ (x0 x1 x2 : Int) (h : zH) (k : (Int → zH → Option zRes)) (t : (Nat → zH → Option zRes)), M_in x0 x1 x2 h k = some r → zKsp l false zi r 64 [x0, x1, x2] h k t) (a1 : Int) (h : zH) (hr : M_noKernel a1 h zin = some r) : GO 0 [some (112, 0), some (0, a1)] [] h := by
  have e9 := Eq.trans (Eq.symm (qe_M_noKernel zin a1 h)) hr
  generalize (400 : Nat) = f9 at e9
  refine hS _ _ (zcal_s (SP := zKsp l false zi r) _ ?_) (zorc_s _ ?_) _ _ _ _ _ e9
  · exact ⟨zca3_s (SP := fun xs h k t => zKsp l false zi r 64 (zfc [none, none, none] xs) h k t) k64, trivial⟩
  · exact ⟨zap1_s (P := fun xs h => GO 19 (zfl [none, none] xs).1 (zfs [(0, none)] (zfl [none, none] xs).2) h) (fun x0 h hr => s_M_noKernel_19 hS k64 x0 h hr), trivial⟩
set_option maxRecDepth 100000 in
set_option maxHeartbeats 0 in
theorem s_M_noLaunch_19 {l : Launch} {zi : Nat → zinfo} {r : zRes} {GO : Nat → List (Option zV) → List zV → zH → Prop} (hS : zSg l false zi (zget (999, 0, 0, 0) zc_M_noLaunch) (zcut zu_M_noLaunch) zin (fun _ _ => none) r GO) (k64 : ∀ (x0 x1 x2 : Int) (h : zH) (k : (Int → zH → Option zRes)) (t : (Nat → zH → Option zRes)), M_in x0 x1 x2 h k = some r → zKsp l false zi r 64 [x0, x1, x2] h k t) (t0 : Int) (h : zH) (hr : M_noLaunch_19 zin t0 h = some r) : GO 19 [none, none] [(0, t0)] h := by
  have e9 := Eq.trans (Eq.symm (qe_M_noLaunch_19 zin t0 h)) hr
  generalize (400 : Nat) = f9 at e9
  refine hS _ _ (zcal_s (SP := zKsp l false zi r) _ ?_) (zorc_s _ ?_) _ _ _ _ _ e9
  · exact trivial
  · exact trivial
set_option maxRecDepth 100000 in
set_option maxHeartbeats 0 in
theorem s_M_noLaunch {l : Launch} {zi : Nat → zinfo} {r : zRes} {GO : Nat → List (Option zV) → List zV → zH → Prop} (hS : zSg l false zi (zget (999, 0, 0, 0) zc_M_noLaunch) (zcut zu_M_noLaunch) zin (fun _ _ => none) r GO) (k64 : ∀ (x0 x1 x2 : Int) (h : zH) (k : (Int → zH → Option zRes)) (t : (Nat → zH → Option zRes)), M_in x0 x1 x2 h k = some r → zKsp l false zi r 64 [x0, x1, x2] h k t) (a1 : Int) (h : zH) (hr : M_noLaunch a1 h zin = some r) : GO 0 [some (112, 0), some (0, a1)] [] h := by
  have e9 := Eq.trans (Eq.symm (qe_M_noLaunch zin a1 h)) hr
  generalize (400 : Nat) = f9 at e9
  refine hS _ _ (zcal_s (SP := zKsp l false zi r) _ ?_) (zorc_s _ ?_) _ _ _ _ _ e9
  · exact ⟨zca3_s (SP := fun xs h k t => zKsp l false zi r 64 (zfc [none, none, none] xs) h k t) k64, trivial⟩
  · exact ⟨zap1_s (P := fun xs h => GO 19 (zfl [none, none] xs).1 (zfs [(0, none)] (zfl [none, none] xs).2) h) (fun x0 h hr => s_M_noLaunch_19 hS k64 x0 h hr), trivial⟩
set_option maxRecDepth 100000 in
set_option maxHeartbeats 0 in
theorem s_M_noCell_15 {l : Launch} {zi : Nat → zinfo} {r : zRes} {GO : Nat → List (Option zV) → List zV → zH → Prop} (hS : zSg l false zi (zget (999, 0, 0, 0) zc_M_noCell) (zcut zu_M_noCell) zin (fun _ _ => none) r GO) (k64 : ∀ (x0 x1 x2 : Int) (h : zH) (k : (Int → zH → Option zRes)) (t : (Nat → zH → Option zRes)), M_in x0 x1 x2 h k = some r → zKsp l false zi r 64 [x0, x1, x2] h k t) (t0 : Int) (h : zH) (hr : M_noCell_15 zin t0 h = some r) : GO 15 [none] [(0, t0)] h := by
  have e9 := Eq.trans (Eq.symm (qe_M_noCell_15 zin t0 h)) hr
  generalize (400 : Nat) = f9 at e9
  refine hS _ _ (zcal_s (SP := zKsp l false zi r) _ ?_) (zorc_s _ ?_) _ _ _ _ _ e9
  · exact trivial
  · exact trivial
set_option maxRecDepth 100000 in
set_option maxHeartbeats 0 in
theorem s_M_noCell {l : Launch} {zi : Nat → zinfo} {r : zRes} {GO : Nat → List (Option zV) → List zV → zH → Prop} (hS : zSg l false zi (zget (999, 0, 0, 0) zc_M_noCell) (zcut zu_M_noCell) zin (fun _ _ => none) r GO) (k64 : ∀ (x0 x1 x2 : Int) (h : zH) (k : (Int → zH → Option zRes)) (t : (Nat → zH → Option zRes)), M_in x0 x1 x2 h k = some r → zKsp l false zi r 64 [x0, x1, x2] h k t) (a0 : Int) (h : zH) (hr : M_noCell a0 h zin = some r) : GO 0 [some (0, a0)] [] h := by
  have e9 := Eq.trans (Eq.symm (qe_M_noCell zin a0 h)) hr
  generalize (400 : Nat) = f9 at e9
  refine hS _ _ (zcal_s (SP := zKsp l false zi r) _ ?_) (zorc_s _ ?_) _ _ _ _ _ e9
  · exact ⟨zca3_s (SP := fun xs h k t => zKsp l false zi r 64 (zfc [none, none, none] xs) h k t) k64, trivial⟩
  · exact ⟨zap1_s (P := fun xs h => GO 15 (zfl [none] xs).1 (zfs [(0, none)] (zfl [none] xs).2) h) (fun x0 h hr => s_M_noCell_15 hS k64 x0 h hr), trivial⟩
set_option maxRecDepth 100000 in
set_option maxHeartbeats 0 in
theorem s_M_addKernel_59 {l : Launch} {zi : Nat → zinfo} {r : zRes} {GO : Nat → List (Option zV) → List zV → zH → Prop} (hS : zSg l false zi (zget (999, 0, 0, 0) zc_M_addKernel) (zcut zu_M_addKernel) zin (fun _ _ => none) r GO) (k64 : ∀ (x0 x1 x2 : Int) (h : zH) (k : (Int → zH → Option zRes)) (t : (Nat → zH → Option zRes)), M_in x0 x1 x2 h k = some r → zKsp l false zi r 64 [x0, x1, x2] h k t) (k65 : ∀ (x0 x1 : Int) (h : zH) (k : (Int → zH → Option zRes)) (t : (Nat → zH → Option zRes)), M_fails x0 x1 h k = some r → zKsp l false zi r 65 [0, x0, x1] h k t) (h : zH) (hr : M_addKernel_59 zin h = some r) : GO 59 [none, none, none] [] h := by
  have e9 := Eq.trans (Eq.symm (qe_M_addKernel_59 zin h)) hr
  generalize (400 : Nat) = f9 at e9
  refine hS _ _ (zcal_s (SP := zKsp l false zi r) _ ?_) (zorc_s _ ?_) _ _ _ _ _ e9
  · exact trivial
  · exact trivial
set_option maxRecDepth 100000 in
set_option maxHeartbeats 0 in
theorem s_M_addKernel_52 {l : Launch} {zi : Nat → zinfo} {r : zRes} {GO : Nat → List (Option zV) → List zV → zH → Prop} (hS : zSg l false zi (zget (999, 0, 0, 0) zc_M_addKernel) (zcut zu_M_addKernel) zin (fun _ _ => none) r GO) (k64 : ∀ (x0 x1 x2 : Int) (h : zH) (k : (Int → zH → Option zRes)) (t : (Nat → zH → Option zRes)), M_in x0 x1 x2 h k = some r → zKsp l false zi r 64 [x0, x1, x2] h k t) (k65 : ∀ (x0 x1 : Int) (h : zH) (k : (Int → zH → Option zRes)) (t : (Nat → zH → Option zRes)), M_fails x0 x1 h k = some r → zKsp l false zi r 65 [0, x0, x1] h k t) (a1 a2 t0 : Int) (h : zH) (hr : M_addKernel_52 zin a1 a2 t0 h = some r) : GO 52 [some (112, 0), some (0, a1), some (0, a2)] [(0, t0), (112, 0)] h := by
  have e9 := Eq.trans (Eq.symm (qe_M_addKernel_52 zin a1 a2 t0 h)) hr
  generalize (400 : Nat) = f9 at e9
  refine hS _ _ (zcal_s (SP := zKsp l false zi r) _ ?_) (zorc_s _ ?_) _ _ _ _ _ e9
  · exact ⟨zca2_s (SP := fun xs h k t => zKsp l false zi r 65 (zfc [some 0, none, none] xs) h k t) k65, trivial⟩
  · exact ⟨zap0_s (P := fun xs h => GO 59 (zfl [none, none, none] xs).1 (zfs [] (zfl [none, none, none] xs).2) h) (fun  h hr => s_M_addKernel_59 hS k64 k65  h hr), trivial⟩
set_option maxRecDepth 100000 in
set_option maxHeartbeats 0 in
theorem s_M_addKernel_31 {l : Launch} {zi : Nat → zinfo} {r : zRes} {GO : Nat → List (Option zV) → List zV → zH → Prop} (hS : zSg l false zi (zget (999, 0, 0, 0) zc_M_addKernel) (zcut zu_M_addKernel) zin (fun _ _ => none) r GO) (k64 : ∀ (x0 x1 x2 : Int) (h : zH) (k : (Int → zH → Option zRes)) (t : (Nat → zH → Option zRes)), M_in x0 x1 x2 h k = some r → zKsp l false zi r 64 [x0, x1, x2] h k t) (k65 : ∀ (x0 x1 : Int) (h : zH) (k : (Int → zH → Option zRes)) (t : (Nat → zH → Option zRes)), M_fails x0 x1 h k = some r → zKsp l false zi r 65 [0, x0, x1] h k t) (a1 a2 t0 : Int) (h : zH) (hr : M_addKernel_31 zin a1 a2 t0 h = some r) : GO 31 [some (112, 0), some (0, a1), some (0, a2)] [(0, t0), (112, 0)] h := by
  have e9 := Eq.trans (Eq.symm (qe_M_addKernel_31 zin a1 a2 t0 h)) hr
  generalize (400 : Nat) = f9 at e9
  refine hS _ _ (zcal_s (SP := zKsp l false zi r) _ ?_) (zorc_s _ ?_) _ _ _ _ _ e9
  · exact ⟨zca2_s (SP := fun xs h k t => zKsp l false zi r 65 (zfc [some 0, none, none] xs) h k t) k65, trivial⟩
  · exact ⟨zap3_s (P := fun xs h => GO 52 (zfl [some (112, some 0), some (0, none), some (0, none)] xs).1 (zfs [(0, none), (112, some 0)] (zfl [some (112, some 0), some (0, none), some (0, none)] xs).2) h) (fun x0 x1 x2 h hr => s_M_addKernel_52 hS k64 k65 x0 x1 x2 h hr), ⟨zap0_s (P := fun xs h => GO 59 (zfl [none, none, none] xs).1 (zfs [] (zfl [none, none, none] xs).2) h) (fun  h hr => s_M_addKernel_59 hS k64 k65  h hr), trivial⟩⟩
set_option maxRecDepth 100000 in
set_option maxHeartbeats 0 in
theorem s_M_addKernel_26 {l : Launch} {zi : Nat → zinfo} {r : zRes} {GO : Nat → List (Option zV) → List zV → zH → Prop} (hS : zSg l false zi (zget (999, 0, 0, 0) zc_M_addKernel) (zcut zu_M_addKernel) zin (fun _ _ => none) r GO) (k64 : ∀ (x0 x1 x2 : Int) (h : zH) (k : (Int → zH → Option zRes)) (t : (Nat → zH → Option zRes)), M_in x0 x1 x2 h k = some r → zKsp l false zi r 64 [x0, x1, x2] h k t) (k65 : ∀ (x0 x1 : Int) (h : zH) (k : (Int → zH → Option zRes)) (t : (Nat → zH → Option zRes)), M_fails x0 x1 h k = some r → zKsp l false zi r 65 [0, x0, x1] h k t) (a1 a2 : Int) (h : zH) (hr : M_addKernel_26 zin a1 a2 h = some r) : GO 26 [some (112, 0), some (0, a1), some (0, a2)] [(112, 0)] h := by
  have e9 := Eq.trans (Eq.symm (qe_M_addKernel_26 zin a1 a2 h)) hr
  generalize (400 : Nat) = f9 at e9
  refine hS _ _ (zcal_s (SP := zKsp l false zi r) _ ?_) (zorc_s _ ?_) _ _ _ _ _ e9
  · exact trivial
  · exact ⟨zap3_s (P := fun xs h => GO 31 (zfl [some (112, some 0), some (0, none), some (0, none)] xs).1 (zfs [(0, none), (112, some 0)] (zfl [some (112, some 0), some (0, none), some (0, none)] xs).2) h) (fun x0 x1 x2 h hr => s_M_addKernel_31 hS k64 k65 x0 x1 x2 h hr), trivial⟩
set_option maxRecDepth 100000 in
set_option maxHeartbeats 0 in
theorem s_M_addKernel {l : Launch} {zi : Nat → zinfo} {r : zRes} {GO : Nat → List (Option zV) → List zV → zH → Prop} (hS : zSg l false zi (zget (999, 0, 0, 0) zc_M_addKernel) (zcut zu_M_addKernel) zin (fun _ _ => none) r GO) (k64 : ∀ (x0 x1 x2 : Int) (h : zH) (k : (Int → zH → Option zRes)) (t : (Nat → zH → Option zRes)), M_in x0 x1 x2 h k = some r → zKsp l false zi r 64 [x0, x1, x2] h k t) (k65 : ∀ (x0 x1 : Int) (h : zH) (k : (Int → zH → Option zRes)) (t : (Nat → zH → Option zRes)), M_fails x0 x1 h k = some r → zKsp l false zi r 65 [0, x0, x1] h k t) (a1 a2 : Int) (h : zH) (hr : M_addKernel a1 a2 h zin = some r) : GO 0 [some (112, 0), some (0, a1), some (0, a2)] [] h := by
  have e9 := Eq.trans (Eq.symm (qe_M_addKernel zin a1 a2 h)) hr
  generalize (400 : Nat) = f9 at e9
  refine hS _ _ (zcal_s (SP := zKsp l false zi r) _ ?_) (zorc_s _ ?_) _ _ _ _ _ e9
  · exact ⟨zca3_s (SP := fun xs h k t => zKsp l false zi r 64 (zfc [none, none, none] xs) h k t) k64, trivial⟩
  · exact ⟨zap2_s (P := fun xs h => GO 26 (zfl [some (112, some 0), some (0, none), some (0, none)] xs).1 (zfs [(112, some 0)] (zfl [some (112, some 0), some (0, none), some (0, none)] xs).2) h) (fun x0 x1 h hr => s_M_addKernel_26 hS k64 k65 x0 x1 h hr), ⟨zap3_s (P := fun xs h => GO 31 (zfl [some (112, some 0), some (0, none), some (0, none)] xs).1 (zfs [(0, none), (112, some 0)] (zfl [some (112, some 0), some (0, none), some (0, none)] xs).2) h) (fun x0 x1 x2 h hr => s_M_addKernel_31 hS k64 k65 x0 x1 x2 h hr), trivial⟩⟩
set_option maxRecDepth 100000 in
set_option maxHeartbeats 0 in
theorem s_M_named_48 {l : Launch} {zi : Nat → zinfo} {r : zRes} {GO : Nat → List (Option zV) → List zV → zH → Prop} (hS : zSg l false zi (zget (999, 0, 0, 0) zc_M_named) (zcut zu_M_named) zin (fun _ _ => none) r GO) (h : zH) (hr : M_named_48 zin h = some r) : GO 48 [none] [] h := by
  have e9 := Eq.trans (Eq.symm (qe_M_named_48 zin h)) hr
  generalize (400 : Nat) = f9 at e9
  refine hS _ _ (zcal_s (SP := zKsp l false zi r) _ ?_) (zorc_s _ ?_) _ _ _ _ _ e9
  · exact trivial
  · exact trivial
set_option maxRecDepth 100000 in
set_option maxHeartbeats 0 in
theorem s_M_named_81 {l : Launch} {zi : Nat → zinfo} {r : zRes} {GO : Nat → List (Option zV) → List zV → zH → Prop} (hS : zSg l false zi (zget (999, 0, 0, 0) zc_M_named) (zcut zu_M_named) zin (fun _ _ => none) r GO) (h : zH) (hr : M_named_81 zin h = some r) : GO 81 [none] [] h := by
  have e9 := Eq.trans (Eq.symm (qe_M_named_81 zin h)) hr
  generalize (400 : Nat) = f9 at e9
  refine hS _ _ (zcal_s (SP := zKsp l false zi r) _ ?_) (zorc_s _ ?_) _ _ _ _ _ e9
  · exact trivial
  · exact trivial
set_option maxRecDepth 100000 in
set_option maxHeartbeats 0 in
theorem s_M_named_114 {l : Launch} {zi : Nat → zinfo} {r : zRes} {GO : Nat → List (Option zV) → List zV → zH → Prop} (hS : zSg l false zi (zget (999, 0, 0, 0) zc_M_named) (zcut zu_M_named) zin (fun _ _ => none) r GO) (h : zH) (hr : M_named_114 zin h = some r) : GO 114 [none] [] h := by
  have e9 := Eq.trans (Eq.symm (qe_M_named_114 zin h)) hr
  generalize (400 : Nat) = f9 at e9
  refine hS _ _ (zcal_s (SP := zKsp l false zi r) _ ?_) (zorc_s _ ?_) _ _ _ _ _ e9
  · exact trivial
  · exact trivial
set_option maxRecDepth 100000 in
set_option maxHeartbeats 0 in
theorem s_M_named_155 {l : Launch} {zi : Nat → zinfo} {r : zRes} {GO : Nat → List (Option zV) → List zV → zH → Prop} (hS : zSg l false zi (zget (999, 0, 0, 0) zc_M_named) (zcut zu_M_named) zin (fun _ _ => none) r GO) (t0 : Int) (h : zH) (hr : M_named_155 zin t0 h = some r) : GO 155 [none] [(0, t0)] h := by
  have e9 := Eq.trans (Eq.symm (qe_M_named_155 zin t0 h)) hr
  generalize (400 : Nat) = f9 at e9
  refine hS _ _ (zcal_s (SP := zKsp l false zi r) _ ?_) (zorc_s _ ?_) _ _ _ _ _ e9
  · exact trivial
  · exact trivial
set_option maxRecDepth 100000 in
set_option maxHeartbeats 0 in
theorem s_M_named_150 {l : Launch} {zi : Nat → zinfo} {r : zRes} {GO : Nat → List (Option zV) → List zV → zH → Prop} (hS : zSg l false zi (zget (999, 0, 0, 0) zc_M_named) (zcut zu_M_named) zin (fun _ _ => none) r GO) (h : zH) (hr : M_named_150 zin h = some r) : GO 150 [none] [] h := by
  have e9 := Eq.trans (Eq.symm (qe_M_named_150 zin h)) hr
  generalize (400 : Nat) = f9 at e9
  refine hS _ _ (zcal_s (SP := zKsp l false zi r) _ ?_) (zorc_s _ ?_) _ _ _ _ _ e9
  · exact trivial
  · exact ⟨zap1_s (P := fun xs h => GO 155 (zfl [none] xs).1 (zfs [(0, none)] (zfl [none] xs).2) h) (fun x0 h hr => s_M_named_155 hS x0 h hr), trivial⟩
set_option maxRecDepth 100000 in
set_option maxHeartbeats 0 in
theorem s_M_named {l : Launch} {zi : Nat → zinfo} {r : zRes} {GO : Nat → List (Option zV) → List zV → zH → Prop} (hS : zSg l false zi (zget (999, 0, 0, 0) zc_M_named) (zcut zu_M_named) zin (fun _ _ => none) r GO) (a0 : Int) (h : zH) (hr : M_named a0 h zin = some r) : GO 0 [some (0, a0)] [] h := by
  have e9 := Eq.trans (Eq.symm (qe_M_named zin a0 h)) hr
  generalize (400 : Nat) = f9 at e9
  refine hS _ _ (zcal_s (SP := zKsp l false zi r) _ ?_) (zorc_s _ ?_) _ _ _ _ _ e9
  · exact trivial
  · exact ⟨zap0_s (P := fun xs h => GO 48 (zfl [none] xs).1 (zfs [] (zfl [none] xs).2) h) (fun  h hr => s_M_named_48 hS  h hr), ⟨zap0_s (P := fun xs h => GO 81 (zfl [none] xs).1 (zfs [] (zfl [none] xs).2) h) (fun  h hr => s_M_named_81 hS  h hr), ⟨zap0_s (P := fun xs h => GO 114 (zfl [none] xs).1 (zfs [] (zfl [none] xs).2) h) (fun  h hr => s_M_named_114 hS  h hr), ⟨zap0_s (P := fun xs h => GO 150 (zfl [none] xs).1 (zfs [] (zfl [none] xs).2) h) (fun  h hr => s_M_named_150 hS  h hr), ⟨zap1_s (P := fun xs h => GO 155 (zfl [none] xs).1 (zfs [(0, none)] (zfl [none] xs).2) h) (fun x0 h hr => s_M_named_155 hS x0 h hr), trivial⟩⟩⟩⟩⟩
set_option maxRecDepth 100000 in
set_option maxHeartbeats 0 in
theorem s_M_code_204 {l : Launch} {zi : Nat → zinfo} {r : zRes} {GO : Nat → List (Option zV) → List zV → zH → Prop} (hS : zSg l false zi (zget (999, 0, 0, 0) zc_M_code) (zcut zu_M_code) zin (fun _ _ => none) r GO) (k64 : ∀ (x0 x1 x2 : Int) (h : zH) (k : (Int → zH → Option zRes)) (t : (Nat → zH → Option zRes)), M_in x0 x1 x2 h k = some r → zKsp l false zi r 64 [x0, x1, x2] h k t) (k65 : ∀ (x0 x1 : Int) (h : zH) (k : (Int → zH → Option zRes)) (t : (Nat → zH → Option zRes)), M_fails x0 x1 h k = some r → zKsp l false zi r 65 [0, x0, x1] h k t) (k66 : ∀ (x0 : Int) (h : zH) (k : (Int → zH → Option zRes)) (t : (Nat → zH → Option zRes)), M_noKernel x0 h k = some r → zKsp l false zi r 66 [0, x0] h k t) (k70 : ∀ (x0 : Int) (h : zH) (k : (Int → zH → Option zRes)) (t : (Nat → zH → Option zRes)), M_named x0 h k = some r → zKsp l false zi r 70 [x0] h k t) (h : zH) (hr : M_code_204 zin h = some r) : GO 204 [none, none, none, none, none, none, none, none, none, none, none] [] h := by
  have e9 := Eq.trans (Eq.symm (qe_M_code_204 zin h)) hr
  generalize (400 : Nat) = f9 at e9
  refine hS _ _ (zcal_s (SP := zKsp l false zi r) _ ?_) (zorc_s _ ?_) _ _ _ _ _ e9
  · exact trivial
  · exact trivial
set_option maxRecDepth 100000 in
set_option maxHeartbeats 0 in
theorem s_M_code_197 {l : Launch} {zi : Nat → zinfo} {r : zRes} {GO : Nat → List (Option zV) → List zV → zH → Prop} (hS : zSg l false zi (zget (999, 0, 0, 0) zc_M_code) (zcut zu_M_code) zin (fun _ _ => none) r GO) (k64 : ∀ (x0 x1 x2 : Int) (h : zH) (k : (Int → zH → Option zRes)) (t : (Nat → zH → Option zRes)), M_in x0 x1 x2 h k = some r → zKsp l false zi r 64 [x0, x1, x2] h k t) (k65 : ∀ (x0 x1 : Int) (h : zH) (k : (Int → zH → Option zRes)) (t : (Nat → zH → Option zRes)), M_fails x0 x1 h k = some r → zKsp l false zi r 65 [0, x0, x1] h k t) (k66 : ∀ (x0 : Int) (h : zH) (k : (Int → zH → Option zRes)) (t : (Nat → zH → Option zRes)), M_noKernel x0 h k = some r → zKsp l false zi r 66 [0, x0] h k t) (k70 : ∀ (x0 : Int) (h : zH) (k : (Int → zH → Option zRes)) (t : (Nat → zH → Option zRes)), M_named x0 h k = some r → zKsp l false zi r 70 [x0] h k t) (a1 a2 a3 a4 a5 t0 : Int) (h : zH) (hr : M_code_197 zin a1 a2 a3 a4 a5 t0 h = some r) : GO 197 [some (112, 0), some (0, a1), some (0, a2), some (0, a3), some (0, a4), some (0, a5), none, none, none, none, none] [(0, t0), (112, 0)] h := by
  have e9 := Eq.trans (Eq.symm (qe_M_code_197 zin a1 a2 a3 a4 a5 t0 h)) hr
  generalize (400 : Nat) = f9 at e9
  refine hS _ _ (zcal_s (SP := zKsp l false zi r) _ ?_) (zorc_s _ ?_) _ _ _ _ _ e9
  · exact ⟨zca2_s (SP := fun xs h k t => zKsp l false zi r 65 (zfc [some 0, none, none] xs) h k t) k65, trivial⟩
  · exact ⟨zap0_s (P := fun xs h => GO 204 (zfl [none, none, none, none, none, none, none, none, none, none, none] xs).1 (zfs [] (zfl [none, none, none, none, none, none, none, none, none, none, none] xs).2) h) (fun  h hr => s_M_code_204 hS k64 k65 k66 k70  h hr), trivial⟩
set_option maxRecDepth 100000 in
set_option maxHeartbeats 0 in
theorem s_M_code_192 {l : Launch} {zi : Nat → zinfo} {r : zRes} {GO : Nat → List (Option zV) → List zV → zH → Prop} (hS : zSg l false zi (zget (999, 0, 0, 0) zc_M_code) (zcut zu_M_code) zin (fun _ _ => none) r GO) (k64 : ∀ (x0 x1 x2 : Int) (h : zH) (k : (Int → zH → Option zRes)) (t : (Nat → zH → Option zRes)), M_in x0 x1 x2 h k = some r → zKsp l false zi r 64 [x0, x1, x2] h k t) (k65 : ∀ (x0 x1 : Int) (h : zH) (k : (Int → zH → Option zRes)) (t : (Nat → zH → Option zRes)), M_fails x0 x1 h k = some r → zKsp l false zi r 65 [0, x0, x1] h k t) (k66 : ∀ (x0 : Int) (h : zH) (k : (Int → zH → Option zRes)) (t : (Nat → zH → Option zRes)), M_noKernel x0 h k = some r → zKsp l false zi r 66 [0, x0] h k t) (k70 : ∀ (x0 : Int) (h : zH) (k : (Int → zH → Option zRes)) (t : (Nat → zH → Option zRes)), M_named x0 h k = some r → zKsp l false zi r 70 [x0] h k t) (a1 a2 a3 a4 a5 : Int) (h : zH) (hr : M_code_192 zin a1 a2 a3 a4 a5 h = some r) : GO 192 [some (112, 0), some (0, a1), some (0, a2), some (0, a3), some (0, a4), some (0, a5), none, none, none, none, none] [(112, 0)] h := by
  have e9 := Eq.trans (Eq.symm (qe_M_code_192 zin a1 a2 a3 a4 a5 h)) hr
  generalize (400 : Nat) = f9 at e9
  refine hS _ _ (zcal_s (SP := zKsp l false zi r) _ ?_) (zorc_s _ ?_) _ _ _ _ _ e9
  · exact trivial
  · exact ⟨zap6_s (P := fun xs h => GO 197 (zfl [some (112, some 0), some (0, none), some (0, none), some (0, none), some (0, none), some (0, none), none, none, none, none, none] xs).1 (zfs [(0, none), (112, some 0)] (zfl [some (112, some 0), some (0, none), some (0, none), some (0, none), some (0, none), some (0, none), none, none, none, none, none] xs).2) h) (fun x0 x1 x2 x3 x4 x5 h hr => s_M_code_197 hS k64 k65 k66 k70 x0 x1 x2 x3 x4 x5 h hr), trivial⟩
set_option maxRecDepth 100000 in
set_option maxHeartbeats 0 in
theorem s_M_code_164 {l : Launch} {zi : Nat → zinfo} {r : zRes} {GO : Nat → List (Option zV) → List zV → zH → Prop} (hS : zSg l false zi (zget (999, 0, 0, 0) zc_M_code) (zcut zu_M_code) zin (fun _ _ => none) r GO) (k64 : ∀ (x0 x1 x2 : Int) (h : zH) (k : (Int → zH → Option zRes)) (t : (Nat → zH → Option zRes)), M_in x0 x1 x2 h k = some r → zKsp l false zi r 64 [x0, x1, x2] h k t) (k65 : ∀ (x0 x1 : Int) (h : zH) (k : (Int → zH → Option zRes)) (t : (Nat → zH → Option zRes)), M_fails x0 x1 h k = some r → zKsp l false zi r 65 [0, x0, x1] h k t) (k66 : ∀ (x0 : Int) (h : zH) (k : (Int → zH → Option zRes)) (t : (Nat → zH → Option zRes)), M_noKernel x0 h k = some r → zKsp l false zi r 66 [0, x0] h k t) (k70 : ∀ (x0 : Int) (h : zH) (k : (Int → zH → Option zRes)) (t : (Nat → zH → Option zRes)), M_named x0 h k = some r → zKsp l false zi r 70 [x0] h k t) (a1 a2 a3 a4 a5 t0 : Int) (h : zH) (hr : M_code_164 zin a1 a2 a3 a4 a5 t0 h = some r) : GO 164 [some (112, 0), some (0, a1), some (0, a2), some (0, a3), some (0, a4), some (0, a5), none, none, none, none, none] [(0, t0), (112, 0)] h := by
  have e9 := Eq.trans (Eq.symm (qe_M_code_164 zin a1 a2 a3 a4 a5 t0 h)) hr
  generalize (400 : Nat) = f9 at e9
  refine hS _ _ (zcal_s (SP := zKsp l false zi r) _ ?_) (zorc_s _ ?_) _ _ _ _ _ e9
  · exact ⟨zca2_s (SP := fun xs h k t => zKsp l false zi r 65 (zfc [some 0, none, none] xs) h k t) k65, trivial⟩
  · exact ⟨zap5_s (P := fun xs h => GO 192 (zfl [some (112, some 0), some (0, none), some (0, none), some (0, none), some (0, none), some (0, none), none, none, none, none, none] xs).1 (zfs [(112, some 0)] (zfl [some (112, some 0), some (0, none), some (0, none), some (0, none), some (0, none), some (0, none), none, none, none, none, none] xs).2) h) (fun x0 x1 x2 x3 x4 h hr => s_M_code_192 hS k64 k65 k66 k70 x0 x1 x2 x3 x4 h hr), ⟨zap6_s (P := fun xs h => GO 197 (zfl [some (112, some 0), some (0, none), some (0, none), some (0, none), some (0, none), some (0, none), none, none, none, none, none] xs).1 (zfs [(0, none), (112, some 0)] (zfl [some (112, some 0), some (0, none), some (0, none), some (0, none), some (0, none), some (0, none), none, none, none, none, none] xs).2) h) (fun x0 x1 x2 x3 x4 x5 h hr => s_M_code_197 hS k64 k65 k66 k70 x0 x1 x2 x3 x4 x5 h hr), ⟨zap0_s (P := fun xs h => GO 204 (zfl [none, none, none, none, none, none, none, none, none, none, none] xs).1 (zfs [] (zfl [none, none, none, none, none, none, none, none, none, none, none] xs).2) h) (fun  h hr => s_M_code_204 hS k64 k65 k66 k70  h hr), trivial⟩⟩⟩
set_option maxRecDepth 100000 in
set_option maxHeartbeats 0 in
theorem s_M_code_159 {l : Launch} {zi : Nat → zinfo} {r : zRes} {GO : Nat → List (Option zV) → List zV → zH → Prop} (hS : zSg l false zi (zget (999, 0, 0, 0) zc_M_code) (zcut zu_M_code) zin (fun _ _ => none) r GO) (k64 : ∀ (x0 x1 x2 : Int) (h : zH) (k : (Int → zH → Option zRes)) (t : (Nat → zH → Option zRes)), M_in x0 x1 x2 h k = some r → zKsp l false zi r 64 [x0, x1, x2] h k t) (k65 : ∀ (x0 x1 : Int) (h : zH) (k : (Int → zH → Option zRes)) (t : (Nat → zH → Option zRes)), M_fails x0 x1 h k = some r → zKsp l false zi r 65 [0, x0, x1] h k t) (k66 : ∀ (x0 : Int) (h : zH) (k : (Int → zH → Option zRes)) (t : (Nat → zH → Option zRes)), M_noKernel x0 h k = some r → zKsp l false zi r 66 [0, x0] h k t) (k70 : ∀ (x0 : Int) (h : zH) (k : (Int → zH → Option zRes)) (t : (Nat → zH → Option zRes)), M_named x0 h k = some r → zKsp l false zi r 70 [x0] h k t) (a1 a2 a3 a4 a5 : Int) (h : zH) (hr : M_code_159 zin a1 a2 a3 a4 a5 h = some r) : GO 159 [some (112, 0), some (0, a1), some (0, a2), some (0, a3), some (0, a4), some (0, a5), none, none, none, none, none] [(112, 0)] h := by
  have e9 := Eq.trans (Eq.symm (qe_M_code_159 zin a1 a2 a3 a4 a5 h)) hr
  generalize (400 : Nat) = f9 at e9
  refine hS _ _ (zcal_s (SP := zKsp l false zi r) _ ?_) (zorc_s _ ?_) _ _ _ _ _ e9
  · exact trivial
  · exact ⟨zap6_s (P := fun xs h => GO 164 (zfl [some (112, some 0), some (0, none), some (0, none), some (0, none), some (0, none), some (0, none), none, none, none, none, none] xs).1 (zfs [(0, none), (112, some 0)] (zfl [some (112, some 0), some (0, none), some (0, none), some (0, none), some (0, none), some (0, none), none, none, none, none, none] xs).2) h) (fun x0 x1 x2 x3 x4 x5 h hr => s_M_code_164 hS k64 k65 k66 k70 x0 x1 x2 x3 x4 x5 h hr), trivial⟩
set_option maxRecDepth 100000 in
set_option maxHeartbeats 0 in
theorem s_M_code_146 {l : Launch} {zi : Nat → zinfo} {r : zRes} {GO : Nat → List (Option zV) → List zV → zH → Prop} (hS : zSg l false zi (zget (999, 0, 0, 0) zc_M_code) (zcut zu_M_code) zin (fun _ _ => none) r GO) (k64 : ∀ (x0 x1 x2 : Int) (h : zH) (k : (Int → zH → Option zRes)) (t : (Nat → zH → Option zRes)), M_in x0 x1 x2 h k = some r → zKsp l false zi r 64 [x0, x1, x2] h k t) (k65 : ∀ (x0 x1 : Int) (h : zH) (k : (Int → zH → Option zRes)) (t : (Nat → zH → Option zRes)), M_fails x0 x1 h k = some r → zKsp l false zi r 65 [0, x0, x1] h k t) (k66 : ∀ (x0 : Int) (h : zH) (k : (Int → zH → Option zRes)) (t : (Nat → zH → Option zRes)), M_noKernel x0 h k = some r → zKsp l false zi r 66 [0, x0] h k t) (k70 : ∀ (x0 : Int) (h : zH) (k : (Int → zH → Option zRes)) (t : (Nat → zH → Option zRes)), M_named x0 h k = some r → zKsp l false zi r 70 [x0] h k t) (a1 a2 a3 a4 a5 a8 t0 : Int) (h : zH) (hr : M_code_146 zin a1 a2 a3 a4 a5 a8 t0 h = some r) : GO 146 [some (112, 0), some (0, a1), some (0, a2), some (0, a3), some (0, a4), some (0, a5), none, none, some (0, a8), none, none] [(0, t0)] h := by
  have e9 := Eq.trans (Eq.symm (qe_M_code_146 zin a1 a2 a3 a4 a5 a8 t0 h)) hr
  generalize (400 : Nat) = f9 at e9
  refine hS _ _ (zcal_s (SP := zKsp l false zi r) _ ?_) (zorc_s _ ?_) _ _ _ _ _ e9
  · exact trivial
  · exact ⟨zap5_s (P := fun xs h => GO 159 (zfl [some (112, some 0), some (0, none), some (0, none), some (0, none), some (0, none), some (0, none), none, none, none, none, none] xs).1 (zfs [(112, some 0)] (zfl [some (112, some 0), some (0, none), some (0, none), some (0, none), some (0, none), some (0, none), none, none, none, none, none] xs).2) h) (fun x0 x1 x2 x3 x4 h hr => s_M_code_159 hS k64 k65 k66 k70 x0 x1 x2 x3 x4 h hr), ⟨zap6_s (P := fun xs h => GO 164 (zfl [some (112, some 0), some (0, none), some (0, none), some (0, none), some (0, none), some (0, none), none, none, none, none, none] xs).1 (zfs [(0, none), (112, some 0)] (zfl [some (112, some 0), some (0, none), some (0, none), some (0, none), some (0, none), some (0, none), none, none, none, none, none] xs).2) h) (fun x0 x1 x2 x3 x4 x5 h hr => s_M_code_164 hS k64 k65 k66 k70 x0 x1 x2 x3 x4 x5 h hr), trivial⟩⟩
set_option maxRecDepth 100000 in
set_option maxHeartbeats 0 in
theorem s_M_code_141 {l : Launch} {zi : Nat → zinfo} {r : zRes} {GO : Nat → List (Option zV) → List zV → zH → Prop} (hS : zSg l false zi (zget (999, 0, 0, 0) zc_M_code) (zcut zu_M_code) zin (fun _ _ => none) r GO) (k64 : ∀ (x0 x1 x2 : Int) (h : zH) (k : (Int → zH → Option zRes)) (t : (Nat → zH → Option zRes)), M_in x0 x1 x2 h k = some r → zKsp l false zi r 64 [x0, x1, x2] h k t) (k65 : ∀ (x0 x1 : Int) (h : zH) (k : (Int → zH → Option zRes)) (t : (Nat → zH → Option zRes)), M_fails x0 x1 h k = some r → zKsp l false zi r 65 [0, x0, x1] h k t) (k66 : ∀ (x0 : Int) (h : zH) (k : (Int → zH → Option zRes)) (t : (Nat → zH → Option zRes)), M_noKernel x0 h k = some r → zKsp l false zi r 66 [0, x0] h k t) (k70 : ∀ (x0 : Int) (h : zH) (k : (Int → zH → Option zRes)) (t : (Nat → zH → Option zRes)), M_named x0 h k = some r → zKsp l false zi r 70 [x0] h k t) (a1 a2 a3 a4 a5 a8 : Int) (h : zH) (hr : M_code_141 zin a1 a2 a3 a4 a5 a8 h = some r) : GO 141 [some (112, 0), some (0, a1), some (0, a2), some (0, a3), some (0, a4), some (0, a5), none, none, some (0, a8), none, none] [] h := by
  have e9 := Eq.trans (Eq.symm (qe_M_code_141 zin a1 a2 a3 a4 a5 a8 h)) hr
  generalize (400 : Nat) = f9 at e9
  refine hS _ _ (zcal_s (SP := zKsp l false zi r) _ ?_) (zorc_s _ ?_) _ _ _ _ _ e9
  · exact trivial
  · exact ⟨zap7_s (P := fun xs h => GO 146 (zfl [some (112, some 0), some (0, none), some (0, none), some (0, none), some (0, none), some (0, none), none, none, some (0, none), none, none] xs).1 (zfs [(0, none)] (zfl [some (112, some 0), some (0, none), some (0, none), some (0, none), some (0, none), some (0, none), none, none, some (0, none), none, none] xs).2) h) (fun x0 x1 x2 x3 x4 x5 x6 h hr => s_M_code_146 hS k64 k65 k66 k70 x0 x1 x2 x3 x4 x5 x6 h hr), trivial⟩
set_option maxRecDepth 100000 in
set_option maxHeartbeats 0 in
theorem s_M_code_145 {l : Launch} {zi : Nat → zinfo} {r : zRes} {GO : Nat → List (Option zV) → List zV → zH → Prop} (hS : zSg l false zi (zget (999, 0, 0, 0) zc_M_code) (zcut zu_M_code) zin (fun _ _ => none) r GO) (k64 : ∀ (x0 x1 x2 : Int) (h : zH) (k : (Int → zH → Option zRes)) (t : (Nat → zH → Option zRes)), M_in x0 x1 x2 h k = some r → zKsp l false zi r 64 [x0, x1, x2] h k t) (k65 : ∀ (x0 x1 : Int) (h : zH) (k : (Int → zH → Option zRes)) (t : (Nat → zH → Option zRes)), M_fails x0 x1 h k = some r → zKsp l false zi r 65 [0, x0, x1] h k t) (k66 : ∀ (x0 : Int) (h : zH) (k : (Int → zH → Option zRes)) (t : (Nat → zH → Option zRes)), M_noKernel x0 h k = some r → zKsp l false zi r 66 [0, x0] h k t) (k70 : ∀ (x0 : Int) (h : zH) (k : (Int → zH → Option zRes)) (t : (Nat → zH → Option zRes)), M_named x0 h k = some r → zKsp l false zi r 70 [x0] h k t) (a1 a2 a3 a4 a5 a8 : Int) (h : zH) (hr : M_code_145 zin a1 a2 a3 a4 a5 a8 h = some r) : GO 145 [some (112, 0), some (0, a1), some (0, a2), some (0, a3), some (0, a4), some (0, a5), none, none, some (0, a8), none, none] [] h := by
  have e9 := Eq.trans (Eq.symm (qe_M_code_145 zin a1 a2 a3 a4 a5 a8 h)) hr
  generalize (400 : Nat) = f9 at e9
  refine hS _ _ (zcal_s (SP := zKsp l false zi r) _ ?_) (zorc_s _ ?_) _ _ _ _ _ e9
  · exact trivial
  · exact ⟨zap7_s (P := fun xs h => GO 146 (zfl [some (112, some 0), some (0, none), some (0, none), some (0, none), some (0, none), some (0, none), none, none, some (0, none), none, none] xs).1 (zfs [(0, none)] (zfl [some (112, some 0), some (0, none), some (0, none), some (0, none), some (0, none), some (0, none), none, none, some (0, none), none, none] xs).2) h) (fun x0 x1 x2 x3 x4 x5 x6 h hr => s_M_code_146 hS k64 k65 k66 k70 x0 x1 x2 x3 x4 x5 x6 h hr), trivial⟩
set_option maxRecDepth 100000 in
set_option maxHeartbeats 0 in
theorem s_M_code_125 {l : Launch} {zi : Nat → zinfo} {r : zRes} {GO : Nat → List (Option zV) → List zV → zH → Prop} (hS : zSg l false zi (zget (999, 0, 0, 0) zc_M_code) (zcut zu_M_code) zin (fun _ _ => none) r GO) (k64 : ∀ (x0 x1 x2 : Int) (h : zH) (k : (Int → zH → Option zRes)) (t : (Nat → zH → Option zRes)), M_in x0 x1 x2 h k = some r → zKsp l false zi r 64 [x0, x1, x2] h k t) (k65 : ∀ (x0 x1 : Int) (h : zH) (k : (Int → zH → Option zRes)) (t : (Nat → zH → Option zRes)), M_fails x0 x1 h k = some r → zKsp l false zi r 65 [0, x0, x1] h k t) (k66 : ∀ (x0 : Int) (h : zH) (k : (Int → zH → Option zRes)) (t : (Nat → zH → Option zRes)), M_noKernel x0 h k = some r → zKsp l false zi r 66 [0, x0] h k t) (k70 : ∀ (x0 : Int) (h : zH) (k : (Int → zH → Option zRes)) (t : (Nat → zH → Option zRes)), M_named x0 h k = some r → zKsp l false zi r 70 [x0] h k t) (a1 a2 a3 a4 a5 a8 : Int) (h : zH) (hr : M_code_125 zin a1 a2 a3 a4 a5 a8 h = some r) : GO 125 [some (112, 0), some (0, a1), some (0, a2), some (0, a3), some (0, a4), some (0, a5), none, none, some (0, a8), none, none] [] h := by
  have e9 := Eq.trans (Eq.symm (qe_M_code_125 zin a1 a2 a3 a4 a5 a8 h)) hr
  generalize (400 : Nat) = f9 at e9
  refine hS _ _ (zcal_s (SP := zKsp l false zi r) _ ?_) (zorc_s _ ?_) _ _ _ _ _ e9
  · exact ⟨zca3_s (SP := fun xs h k t => zKsp l false zi r 64 (zfc [none, none, none] xs) h k t) k64, trivial⟩
  · exact ⟨zap6_s (P := fun xs h => GO 141 (zfl [some (112, some 0), some (0, none), some (0, none), some (0, none), some (0, none), some (0, none), none, none, some (0, none), none, none] xs).1 (zfs [] (zfl [some (112, some 0), some (0, none), some (0, none), some (0, none), some (0, none), some (0, none), none, none, some (0, none), none, none] xs).2) h) (fun x0 x1 x2 x3 x4 x5 h hr => s_M_code_141 hS k64 k65 k66 k70 x0 x1 x2 x3 x4 x5 h hr), ⟨zap6_s (P := fun xs h => GO 145 (zfl [some (112, some 0), some (0, none), some (0, none), some (0, none), some (0, none), some (0, none), none, none, some (0, none), none, none] xs).1 (zfs [] (zfl [some (112, some 0), some (0, none), some (0, none), some (0, none), some (0, none), some (0, none), none, none, some (0, none), none, none] xs).2) h) (fun x0 x1 x2 x3 x4 x5 h hr => s_M_code_145 hS k64 k65 k66 k70 x0 x1 x2 x3 x4 x5 h hr), trivial⟩⟩
set_option maxRecDepth 100000 in
set_option maxHeartbeats 0 in
theorem s_M_code_114 {l : Launch} {zi : Nat → zinfo} {r : zRes} {GO : Nat → List (Option zV) → List zV → zH → Prop} (hS : zSg l false zi (zget (999, 0, 0, 0) zc_M_code) (zcut zu_M_code) zin (fun _ _ => none) r GO) (k64 : ∀ (x0 x1 x2 : Int) (h : zH) (k : (Int → zH → Option zRes)) (t : (Nat → zH → Option zRes)), M_in x0 x1 x2 h k = some r → zKsp l false zi r 64 [x0, x1, x2] h k t) (k65 : ∀ (x0 x1 : Int) (h : zH) (k : (Int → zH → Option zRes)) (t : (Nat → zH → Option zRes)), M_fails x0 x1 h k = some r → zKsp l false zi r 65 [0, x0, x1] h k t) (k66 : ∀ (x0 : Int) (h : zH) (k : (Int → zH → Option zRes)) (t : (Nat → zH → Option zRes)), M_noKernel x0 h k = some r → zKsp l false zi r 66 [0, x0] h k t) (k70 : ∀ (x0 : Int) (h : zH) (k : (Int → zH → Option zRes)) (t : (Nat → zH → Option zRes)), M_named x0 h k = some r → zKsp l false zi r 70 [x0] h k t) (a1 a2 a3 a4 a5 a8 : Int) (h : zH) (hr : M_code_114 zin a1 a2 a3 a4 a5 a8 h = some r) : GO 114 [some (112, 0), some (0, a1), some (0, a2), some (0, a3), some (0, a4), some (0, a5), none, none, some (0, a8), none, none] [] h := by
  have e9 := Eq.trans (Eq.symm (qe_M_code_114 zin a1 a2 a3 a4 a5 a8 h)) hr
  generalize (400 : Nat) = f9 at e9
  refine hS _ _ (zcal_s (SP := zKsp l false zi r) _ ?_) (zorc_s _ ?_) _ _ _ _ _ e9
  · exact ⟨zca3_s (SP := fun xs h k t => zKsp l false zi r 64 (zfc [none, none, none] xs) h k t) k64, trivial⟩
  · exact ⟨zap6_s (P := fun xs h => GO 125 (zfl [some (112, some 0), some (0, none), some (0, none), some (0, none), some (0, none), some (0, none), none, none, some (0, none), none, none] xs).1 (zfs [] (zfl [some (112, some 0), some (0, none), some (0, none), some (0, none), some (0, none), some (0, none), none, none, some (0, none), none, none] xs).2) h) (fun x0 x1 x2 x3 x4 x5 h hr => s_M_code_125 hS k64 k65 k66 k70 x0 x1 x2 x3 x4 x5 h hr), ⟨zap6_s (P := fun xs h => GO 141 (zfl [some (112, some 0), some (0, none), some (0, none), some (0, none), some (0, none), some (0, none), none, none, some (0, none), none, none] xs).1 (zfs [] (zfl [some (112, some 0), some (0, none), some (0, none), some (0, none), some (0, none), some (0, none), none, none, some (0, none), none, none] xs).2) h) (fun x0 x1 x2 x3 x4 x5 h hr => s_M_code_141 hS k64 k65 k66 k70 x0 x1 x2 x3 x4 x5 h hr), trivial⟩⟩
set_option maxRecDepth 100000 in
set_option maxHeartbeats 0 in
theorem s_M_code_100 {l : Launch} {zi : Nat → zinfo} {r : zRes} {GO : Nat → List (Option zV) → List zV → zH → Prop} (hS : zSg l false zi (zget (999, 0, 0, 0) zc_M_code) (zcut zu_M_code) zin (fun _ _ => none) r GO) (k64 : ∀ (x0 x1 x2 : Int) (h : zH) (k : (Int → zH → Option zRes)) (t : (Nat → zH → Option zRes)), M_in x0 x1 x2 h k = some r → zKsp l false zi r 64 [x0, x1, x2] h k t) (k65 : ∀ (x0 x1 : Int) (h : zH) (k : (Int → zH → Option zRes)) (t : (Nat → zH → Option zRes)), M_fails x0 x1 h k = some r → zKsp l false zi r 65 [0, x0, x1] h k t) (k66 : ∀ (x0 : Int) (h : zH) (k : (Int → zH → Option zRes)) (t : (Nat → zH → Option zRes)), M_noKernel x0 h k = some r → zKsp l false zi r 66 [0, x0] h k t) (k70 : ∀ (x0 : Int) (h : zH) (k : (Int → zH → Option zRes)) (t : (Nat → zH → Option zRes)), M_named x0 h k = some r → zKsp l false zi r 70 [x0] h k t) (a1 a2 a3 a4 a5 t0 : Int) (h : zH) (hr : M_code_100 zin a1 a2 a3 a4 a5 t0 h = some r) : GO 100 [some (112, 0), some (0, a1), some (0, a2), some (0, a3), some (0, a4), some (0, a5), none, none, none, none, none] [(0, t0)] h := by
  have e9 := Eq.trans (Eq.symm (qe_M_code_100 zin a1 a2 a3 a4 a5 t0 h)) hr
  generalize (400 : Nat) = f9 at e9
  refine hS _ _ (zcal_s (SP := zKsp l false zi r) _ ?_) (zorc_s _ ?_) _ _ _ _ _ e9
  · exact trivial
  · exact ⟨zap6_s (P := fun xs h => GO 114 (zfl [some (112, some 0), some (0, none), some (0, none), some (0, none), some (0, none), some (0, none), none, none, some (0, none), none, none] xs).1 (zfs [] (zfl [some (112, some 0), some (0, none), some (0, none), some (0, none), some (0, none), some (0, none), none, none, some (0, none), none, none] xs).2) h) (fun x0 x1 x2 x3 x4 x5 h hr => s_M_code_114 hS k64 k65 k66 k70 x0 x1 x2 x3 x4 x5 h hr), ⟨zap6_s (P := fun xs h => GO 125 (zfl [some (112, some 0), some (0, none), some (0, none), some (0, none), some (0, none), some (0, none), none, none, some (0, none), none, none] xs).1 (zfs [] (zfl [some (112, some 0), some (0, none), some (0, none), some (0, none), some (0, none), some (0, none), none, none, some (0, none), none, none] xs).2) h) (fun x0 x1 x2 x3 x4 x5 h hr => s_M_code_125 hS k64 k65 k66 k70 x0 x1 x2 x3 x4 x5 h hr), trivial⟩⟩
set_option maxRecDepth 100000 in
set_option maxHeartbeats 0 in
theorem s_M_code_95 {l : Launch} {zi : Nat → zinfo} {r : zRes} {GO : Nat → List (Option zV) → List zV → zH → Prop} (hS : zSg l false zi (zget (999, 0, 0, 0) zc_M_code) (zcut zu_M_code) zin (fun _ _ => none) r GO) (k64 : ∀ (x0 x1 x2 : Int) (h : zH) (k : (Int → zH → Option zRes)) (t : (Nat → zH → Option zRes)), M_in x0 x1 x2 h k = some r → zKsp l false zi r 64 [x0, x1, x2] h k t) (k65 : ∀ (x0 x1 : Int) (h : zH) (k : (Int → zH → Option zRes)) (t : (Nat → zH → Option zRes)), M_fails x0 x1 h k = some r → zKsp l false zi r 65 [0, x0, x1] h k t) (k66 : ∀ (x0 : Int) (h : zH) (k : (Int → zH → Option zRes)) (t : (Nat → zH → Option zRes)), M_noKernel x0 h k = some r → zKsp l false zi r 66 [0, x0] h k t) (k70 : ∀ (x0 : Int) (h : zH) (k : (Int → zH → Option zRes)) (t : (Nat → zH → Option zRes)), M_named x0 h k = some r → zKsp l false zi r 70 [x0] h k t) (a1 a2 a3 a4 a5 : Int) (h : zH) (hr : M_code_95 zin a1 a2 a3 a4 a5 h = some r) : GO 95 [some (112, 0), some (0, a1), some (0, a2), some (0, a3), some (0, a4), some (0, a5), none, none, none, none, none] [] h := by
  have e9 := Eq.trans (Eq.symm (qe_M_code_95 zin a1 a2 a3 a4 a5 h)) hr
  generalize (400 : Nat) = f9 at e9
  refine hS _ _ (zcal_s (SP := zKsp l false zi r) _ ?_) (zorc_s _ ?_) _ _ _ _ _ e9
  · exact trivial
  · exact ⟨zap6_s (P := fun xs h => GO 100 (zfl [some (112, some 0), some (0, none), some (0, none), some (0, none), some (0, none), some (0, none), none, none, none, none, none] xs).1 (zfs [(0, none)] (zfl [some (112, some 0), some (0, none), some (0, none), some (0, none), some (0, none), some (0, none), none, none, none, none, none] xs).2) h) (fun x0 x1 x2 x3 x4 x5 h hr => s_M_code_100 hS k64 k65 k66 k70 x0 x1 x2 x3 x4 x5 h hr), trivial⟩
set_option maxRecDepth 100000 in
set_option maxHeartbeats 0 in
theorem s_M_code_99 {l : Launch} {zi : Nat → zinfo} {r : zRes} {GO : Nat → List (Option zV) → List zV → zH → Prop} (hS : zSg l false zi (zget (999, 0, 0, 0) zc_M_code) (zcut zu_M_code) zin (fun _ _ => none) r GO) (k64 : ∀ (x0 x1 x2 : Int) (h : zH) (k : (Int → zH → Option zRes)) (t : (Nat → zH → Option zRes)), M_in x0 x1 x2 h k = some r → zKsp l false zi r 64 [x0, x1, x2] h k t) (k65 : ∀ (x0 x1 : Int) (h : zH) (k : (Int → zH → Option zRes)) (t : (Nat → zH → Option zRes)), M_fails x0 x1 h k = some r → zKsp l false zi r 65 [0, x0, x1] h k t) (k66 : ∀ (x0 : Int) (h : zH) (k : (Int → zH → Option zRes)) (t : (Nat → zH → Option zRes)), M_noKernel x0 h k = some r → zKsp l false zi r 66 [0, x0] h k t) (k70 : ∀ (x0 : Int) (h : zH) (k : (Int → zH → Option zRes)) (t : (Nat → zH → Option zRes)), M_named x0 h k = some r → zKsp l false zi r 70 [x0] h k t) (a1 a2 a3 a4 a5 : Int) (h : zH) (hr : M_code_99 zin a1 a2 a3 a4 a5 h = some r) : GO 99 [some (112, 0), some (0, a1), some (0, a2), some (0, a3), some (0, a4), some (0, a5), none, none, none, none, none] [] h := by
  have e9 := Eq.trans (Eq.symm (qe_M_code_99 zin a1 a2 a3 a4 a5 h)) hr
  generalize (400 : Nat) = f9 at e9
  refine hS _ _ (zcal_s (SP := zKsp l false zi r) _ ?_) (zorc_s _ ?_) _ _ _ _ _ e9
  · exact trivial
  · exact ⟨zap6_s (P := fun xs h => GO 100 (zfl [some (112, some 0), some (0, none), some (0, none), some (0, none), some (0, none), some (0, none), none, none, none, none, none] xs).1 (zfs [(0, none)] (zfl [some (112, some 0), some (0, none), some (0, none), some (0, none), some (0, none), some (0, none), none, none, none, none, none] xs).2) h) (fun x0 x1 x2 x3 x4 x5 h hr => s_M_code_100 hS k64 k65 k66 k70 x0 x1 x2 x3 x4 x5 h hr), trivial⟩
set_option maxRecDepth 100000 in
set_option maxHeartbeats 0 in
theorem s_M_code_77 {l : Launch} {zi : Nat → zinfo} {r : zRes} {GO : Nat → List (Option zV) → List zV → zH → Prop} (hS : zSg l false zi (zget (999, 0, 0, 0) zc_M_code) (zcut zu_M_code) zin (fun _ _ => none) r GO) (k64 : ∀ (x0 x1 x2 : Int) (h : zH) (k : (Int → zH → Option zRes)) (t : (Nat → zH → Option zRes)), M_in x0 x1 x2 h k = some r → zKsp l false zi r 64 [x0, x1, x2] h k t) (k65 : ∀ (x0 x1 : Int) (h : zH) (k : (Int → zH → Option zRes)) (t : (Nat → zH → Option zRes)), M_fails x0 x1 h k = some r → zKsp l false zi r 65 [0, x0, x1] h k t) (k66 : ∀ (x0 : Int) (h : zH) (k : (Int → zH → Option zRes)) (t : (Nat → zH → Option zRes)), M_noKernel x0 h k = some r → zKsp l false zi r 66 [0, x0] h k t) (k70 : ∀ (x0 : Int) (h : zH) (k : (Int → zH → Option zRes)) (t : (Nat → zH → Option zRes)), M_named x0 h k = some r → zKsp l false zi r 70 [x0] h k t) (a1 a2 a3 a4 a5 a6 a7 : Int) (h : zH) (hr : M_code_77 zin a1 a2 a3 a4 a5 a6 a7 h = some r) : GO 77 [some (112, 0), some (0, a1), some (0, a2), some (0, a3), some (0, a4), some (0, a5), some (0, a6), some (0, a7), none, none, none] [] h := by
  have e9 := Eq.trans (Eq.symm (qe_M_code_77 zin a1 a2 a3 a4 a5 a6 a7 h)) hr
  generalize (400 : Nat) = f9 at e9
  refine hS _ _ (zcal_s (SP := zKsp l false zi r) _ ?_) (zorc_s _ ?_) _ _ _ _ _ e9
  · exact ⟨zca3_s (SP := fun xs h k t => zKsp l false zi r 64 (zfc [none, none, none] xs) h k t) k64, trivial⟩
  · exact ⟨zap5_s (P := fun xs h => GO 95 (zfl [some (112, some 0), some (0, none), some (0, none), some (0, none), some (0, none), some (0, none), none, none, none, none, none] xs).1 (zfs [] (zfl [some (112, some 0), some (0, none), some (0, none), some (0, none), some (0, none), some (0, none), none, none, none, none, none] xs).2) h) (fun x0 x1 x2 x3 x4 h hr => s_M_code_95 hS k64 k65 k66 k70 x0 x1 x2 x3 x4 h hr), ⟨zap5_s (P := fun xs h => GO 99 (zfl [some (112, some 0), some (0, none), some (0, none), some (0, none), some (0, none), some (0, none), none, none, none, none, none] xs).1 (zfs [] (zfl [some (112, some 0), some (0, none), some (0, none), some (0, none), some (0, none), some (0, none), none, none, none, none, none] xs).2) h) (fun x0 x1 x2 x3 x4 h hr => s_M_code_99 hS k64 k65 k66 k70 x0 x1 x2 x3 x4 h hr), trivial⟩⟩
set_option maxRecDepth 100000 in
set_option maxHeartbeats 0 in
theorem s_M_code_59 {l : Launch} {zi : Nat → zinfo} {r : zRes} {GO : Nat → List (Option zV) → List zV → zH → Prop} (hS : zSg l false zi (zget (999, 0, 0, 0) zc_M_code) (zcut zu_M_code) zin (fun _ _ => none) r GO) (k64 : ∀ (x0 x1 x2 : Int) (h : zH) (k : (Int → zH → Option zRes)) (t : (Nat → zH → Option zRes)), M_in x0 x1 x2 h k = some r → zKsp l false zi r 64 [x0, x1, x2] h k t) (k65 : ∀ (x0 x1 : Int) (h : zH) (k : (Int → zH → Option zRes)) (t : (Nat → zH → Option zRes)), M_fails x0 x1 h k = some r → zKsp l false zi r 65 [0, x0, x1] h k t) (k66 : ∀ (x0 : Int) (h : zH) (k : (Int → zH → Option zRes)) (t : (Nat → zH → Option zRes)), M_noKernel x0 h k = some r → zKsp l false zi r 66 [0, x0] h k t) (k70 : ∀ (x0 : Int) (h : zH) (k : (Int → zH → Option zRes)) (t : (Nat → zH → Option zRes)), M_named x0 h k = some r → zKsp l false zi r 70 [x0] h k t) (a1 a2 a3 a4 a5 a6 a7 : Int) (h : zH) (hr : M_code_59 zin a1 a2 a3 a4 a5 a6 a7 h = some r) : GO 59 [some (112, 0), some (0, a1), some (0, a2), some (0, a3), some (0, a4), some (0, a5), some (0, a6), some (0, a7), none, none, none] [] h := by
  have e9 := Eq.trans (Eq.symm (qe_M_code_59 zin a1 a2 a3 a4 a5 a6 a7 h)) hr
  generalize (400 : Nat) = f9 at e9
  refine hS _ _ (zcal_s (SP := zKsp l false zi r) _ ?_) (zorc_s _ ?_) _ _ _ _ _ e9
  · exact ⟨zca3_s (SP := fun xs h k t => zKsp l false zi r 64 (zfc [none, none, none] xs) h k t) k64, trivial⟩
  · exact ⟨zap7_s (P := fun xs h => GO 77 (zfl [some (112, some 0), some (0, none), some (0, none), some (0, none), some (0, none), some (0, none), some (0, none), some (0, none), none, none, none] xs).1 (zfs [] (zfl [some (112, some 0), some (0, none), some (0, none), some (0, none), some (0, none), some (0, none), some (0, none), some (0, none), none, none, none] xs).2) h) (fun x0 x1 x2 x3 x4 x5 x6 h hr => s_M_code_77 hS k64 k65 k66 k70 x0 x1 x2 x3 x4 x5 x6 h hr), ⟨zap5_s (P := fun xs h => GO 95 (zfl [some (112, some 0), some (0, none), some (0, none), some (0, none), some (0, none), some (0, none), none, none, none, none, none] xs).1 (zfs [] (zfl [some (112, some 0), some (0, none), some (0, none), some (0, none), some (0, none), some (0, none), none, none, none, none, none] xs).2) h) (fun x0 x1 x2 x3 x4 h hr => s_M_code_95 hS k64 k65 k66 k70 x0 x1 x2 x3 x4 h hr), trivial⟩⟩
set_option maxRecDepth 100000 in
set_option maxHeartbeats 0 in
theorem s_M_code {l : Launch} {zi : Nat → zinfo} {r : zRes} {GO : Nat → List (Option zV) → List zV → zH → Prop} (hS : zSg l false zi (zget (999, 0, 0, 0) zc_M_code) (zcut zu_M_code) zin (fun _ _ => none) r GO) (k64 : ∀ (x0 x1 x2 : Int) (h : zH) (k : (Int → zH → Option zRes)) (t : (Nat → zH → Option zRes)), M_in x0 x1 x2 h k = some r → zKsp l false zi r 64 [x0, x1, x2] h k t) (k65 : ∀ (x0 x1 : Int) (h : zH) (k : (Int → zH → Option zRes)) (t : (Nat → zH → Option zRes)), M_fails x0 x1 h k = some r → zKsp l false zi r 65 [0, x0, x1] h k t) (k66 : ∀ (x0 : Int) (h : zH) (k : (Int → zH → Option zRes)) (t : (Nat → zH → Option zRes)), M_noKernel x0 h k = some r → zKsp l false zi r 66 [0, x0] h k t) (k70 : ∀ (x0 : Int) (h : zH) (k : (Int → zH → Option zRes)) (t : (Nat → zH → Option zRes)), M_named x0 h k = some r → zKsp l false zi r 70 [x0] h k t) (a1 a2 a3 a4 a5 : Int) (h : zH) (hr : M_code a1 a2 a3 a4 a5 h zin = some r) : GO 0 [some (112, 0), some (0, a1), some (0, a2), some (0, a3), some (0, a4), some (0, a5), none, none, none, none, none] [] h := by
  have e9 := Eq.trans (Eq.symm (qe_M_code zin a1 a2 a3 a4 a5 h)) hr
  generalize (400 : Nat) = f9 at e9
  refine hS _ _ (zcal_s (SP := zKsp l false zi r) _ ?_) (zorc_s _ ?_) _ _ _ _ _ e9
  · exact ⟨zca3_s (SP := fun xs h k t => zKsp l false zi r 64 (zfc [none, none, none] xs) h k t) k64, ⟨zca2_s (SP := fun xs h k t => zKsp l false zi r 65 (zfc [some 0, none, none] xs) h k t) k65, ⟨zca1_s (SP := fun xs h k t => zKsp l false zi r 66 (zfc [some 0, none] xs) h k t) k66, ⟨zca1_s (SP := fun xs h k t => zKsp l false zi r 70 (zfc [none] xs) h k t) k70, trivial⟩⟩⟩⟩
  · exact ⟨zap7_s (P := fun xs h => GO 59 (zfl [some (112, some 0), some (0, none), some (0, none), some (0, none), some (0, none), some (0, none), some (0, none), some (0, none), none, none, none] xs).1 (zfs [] (zfl [some (112, some 0), some (0, none), some (0, none), some (0, none), some (0, none), some (0, none), some (0, none), some (0, none), none, none, none] xs).2) h) (fun x0 x1 x2 x3 x4 x5 x6 h hr => s_M_code_59 hS k64 k65 k66 k70 x0 x1 x2 x3 x4 x5 x6 h hr), ⟨zap5_s (P := fun xs h => GO 95 (zfl [some (112, some 0), some (0, none), some (0, none), some (0, none), some (0, none), some (0, none), none, none, none, none, none] xs).1 (zfs [] (zfl [some (112, some 0), some (0, none), some (0, none), some (0, none), some (0, none), some (0, none), none, none, none, none, none] xs).2) h) (fun x0 x1 x2 x3 x4 h hr => s_M_code_95 hS k64 k65 k66 k70 x0 x1 x2 x3 x4 h hr), trivial⟩⟩
set_option maxRecDepth 100000 in
set_option maxHeartbeats 0 in
theorem s_M_groupsFor {l : Launch} {zi : Nat → zinfo} {r : zRes} {GO : Nat → List (Option zV) → List zV → zH → Prop} (hS : zSg l false zi (zget (999, 0, 0, 0) zc_M_groupsFor) (zcut zu_M_groupsFor) zin (fun _ _ => none) r GO) (a0 : Int) (h : zH) (hr : M_groupsFor a0 h zin = some r) : GO 0 [some (0, a0)] [] h := by
  have e9 := Eq.trans (Eq.symm (qe_M_groupsFor zin a0 h)) hr
  generalize (400 : Nat) = f9 at e9
  refine hS _ _ (zcal_s (SP := zKsp l false zi r) _ ?_) (zorc_s _ ?_) _ _ _ _ _ e9
  · exact trivial
  · exact trivial
set_option maxRecDepth 100000 in
set_option maxHeartbeats 0 in
theorem s_M_least_10 {l : Launch} {zi : Nat → zinfo} {r : zRes} {GO : Nat → List (Option zV) → List zV → zH → Prop} (hS : zSg l false zi (zget (999, 0, 0, 0) zc_M_least) (zcut zu_M_least) zin (fun _ _ => none) r GO) (t0 : Int) (h : zH) (hr : M_least_10 zin t0 h = some r) : GO 10 [none, none] [(0, t0)] h := by
  have e9 := Eq.trans (Eq.symm (qe_M_least_10 zin t0 h)) hr
  generalize (400 : Nat) = f9 at e9
  refine hS _ _ (zcal_s (SP := zKsp l false zi r) _ ?_) (zorc_s _ ?_) _ _ _ _ _ e9
  · exact trivial
  · exact trivial
set_option maxRecDepth 100000 in
set_option maxHeartbeats 0 in
theorem s_M_least {l : Launch} {zi : Nat → zinfo} {r : zRes} {GO : Nat → List (Option zV) → List zV → zH → Prop} (hS : zSg l false zi (zget (999, 0, 0, 0) zc_M_least) (zcut zu_M_least) zin (fun _ _ => none) r GO) (a0 a1 : Int) (h : zH) (hr : M_least a0 a1 h zin = some r) : GO 0 [some (0, a0), some (0, a1)] [] h := by
  have e9 := Eq.trans (Eq.symm (qe_M_least zin a0 a1 h)) hr
  generalize (400 : Nat) = f9 at e9
  refine hS _ _ (zcal_s (SP := zKsp l false zi r) _ ?_) (zorc_s _ ?_) _ _ _ _ _ e9
  · exact trivial
  · exact ⟨zap1_s (P := fun xs h => GO 10 (zfl [none, none] xs).1 (zfs [(0, none)] (zfl [none, none] xs).2) h) (fun x0 h hr => s_M_least_10 hS x0 h hr), trivial⟩
set_option maxRecDepth 100000 in
set_option maxHeartbeats 0 in
theorem s_M_fit_47 {l : Launch} {zi : Nat → zinfo} {r : zRes} {GO : Nat → List (Option zV) → List zV → zH → Prop} (hS : zSg l false zi (zget (999, 0, 0, 0) zc_M_fit) (zcut zu_M_fit) zin (fun _ _ => none) r GO) (k72 : ∀ (x0 : Int) (h : zH) (k : (Int → zH → Option zRes)) (t : (Nat → zH → Option zRes)), M_groupsFor x0 h k = some r → zKsp l false zi r 72 [x0] h k t) (k73 : ∀ (x0 x1 : Int) (h : zH) (k : (Int → zH → Option zRes)) (t : (Nat → zH → Option zRes)), M_least x0 x1 h k = some r → zKsp l false zi r 73 [x0, x1] h k t) (t0 : Int) (h : zH) (hr : M_fit_47 zin t0 h = some r) : GO 47 [none, none, none, none] [(0, t0)] h := by
  have e9 := Eq.trans (Eq.symm (qe_M_fit_47 zin t0 h)) hr
  generalize (400 : Nat) = f9 at e9
  refine hS _ _ (zcal_s (SP := zKsp l false zi r) _ ?_) (zorc_s _ ?_) _ _ _ _ _ e9
  · exact trivial
  · exact trivial
set_option maxRecDepth 100000 in
set_option maxHeartbeats 0 in
theorem s_M_fit {l : Launch} {zi : Nat → zinfo} {r : zRes} {GO : Nat → List (Option zV) → List zV → zH → Prop} (hS : zSg l false zi (zget (999, 0, 0, 0) zc_M_fit) (zcut zu_M_fit) zin (fun _ _ => none) r GO) (k72 : ∀ (x0 : Int) (h : zH) (k : (Int → zH → Option zRes)) (t : (Nat → zH → Option zRes)), M_groupsFor x0 h k = some r → zKsp l false zi r 72 [x0] h k t) (k73 : ∀ (x0 x1 : Int) (h : zH) (k : (Int → zH → Option zRes)) (t : (Nat → zH → Option zRes)), M_least x0 x1 h k = some r → zKsp l false zi r 73 [x0, x1] h k t) (a1 a2 : Int) (h : zH) (hr : M_fit a1 a2 h zin = some r) : GO 0 [some (112, 0), some (0, a1), some (0, a2), none] [] h := by
  have e9 := Eq.trans (Eq.symm (qe_M_fit zin a1 a2 h)) hr
  generalize (400 : Nat) = f9 at e9
  refine hS _ _ (zcal_s (SP := zKsp l false zi r) _ ?_) (zorc_s _ ?_) _ _ _ _ _ e9
  · exact ⟨zca1_s (SP := fun xs h k t => zKsp l false zi r 72 (zfc [none] xs) h k t) k72, ⟨zca2_s (SP := fun xs h k t => zKsp l false zi r 73 (zfc [none, none] xs) h k t) k73, trivial⟩⟩
  · exact ⟨zap1_s (P := fun xs h => GO 47 (zfl [none, none, none, none] xs).1 (zfs [(0, none)] (zfl [none, none, none, none] xs).2) h) (fun x0 h hr => s_M_fit_47 hS k72 k73 x0 h hr), trivial⟩
set_option maxRecDepth 100000 in
set_option maxHeartbeats 0 in
theorem s_M_fits_51 {l : Launch} {zi : Nat → zinfo} {r : zRes} {GO : Nat → List (Option zV) → List zV → zH → Prop} (hS : zSg l false zi (zget (999, 0, 0, 0) zc_M_fits) (zcut zu_M_fits) zin (fun _ _ => none) r GO) (k64 : ∀ (x0 x1 x2 : Int) (h : zH) (k : (Int → zH → Option zRes)) (t : (Nat → zH → Option zRes)), M_in x0 x1 x2 h k = some r → zKsp l false zi r 64 [x0, x1, x2] h k t) (k65 : ∀ (x0 x1 : Int) (h : zH) (k : (Int → zH → Option zRes)) (t : (Nat → zH → Option zRes)), M_fails x0 x1 h k = some r → zKsp l false zi r 65 [0, x0, x1] h k t) (k66 : ∀ (x0 : Int) (h : zH) (k : (Int → zH → Option zRes)) (t : (Nat → zH → Option zRes)), M_noKernel x0 h k = some r → zKsp l false zi r 66 [0, x0] h k t) (k74 : ∀ (x0 x1 : Int) (h : zH) (k : (Int → zH → Option zRes)) (t : (Nat → zH → Option zRes)), M_fit x0 x1 h k = some r → zKsp l false zi r 74 [0, x0, x1] h k t) (t0 : Int) (h : zH) (hr : M_fits_51 zin t0 h = some r) : GO 51 [none, none, none] [(0, t0)] h := by
  have e9 := Eq.trans (Eq.symm (qe_M_fits_51 zin t0 h)) hr
  generalize (400 : Nat) = f9 at e9
  refine hS _ _ (zcal_s (SP := zKsp l false zi r) _ ?_) (zorc_s _ ?_) _ _ _ _ _ e9
  · exact trivial
  · exact trivial
set_option maxRecDepth 100000 in
set_option maxHeartbeats 0 in
theorem s_M_fits_41 {l : Launch} {zi : Nat → zinfo} {r : zRes} {GO : Nat → List (Option zV) → List zV → zH → Prop} (hS : zSg l false zi (zget (999, 0, 0, 0) zc_M_fits) (zcut zu_M_fits) zin (fun _ _ => none) r GO) (k64 : ∀ (x0 x1 x2 : Int) (h : zH) (k : (Int → zH → Option zRes)) (t : (Nat → zH → Option zRes)), M_in x0 x1 x2 h k = some r → zKsp l false zi r 64 [x0, x1, x2] h k t) (k65 : ∀ (x0 x1 : Int) (h : zH) (k : (Int → zH → Option zRes)) (t : (Nat → zH → Option zRes)), M_fails x0 x1 h k = some r → zKsp l false zi r 65 [0, x0, x1] h k t) (k66 : ∀ (x0 : Int) (h : zH) (k : (Int → zH → Option zRes)) (t : (Nat → zH → Option zRes)), M_noKernel x0 h k = some r → zKsp l false zi r 66 [0, x0] h k t) (k74 : ∀ (x0 x1 : Int) (h : zH) (k : (Int → zH → Option zRes)) (t : (Nat → zH → Option zRes)), M_fit x0 x1 h k = some r → zKsp l false zi r 74 [0, x0, x1] h k t) (h : zH) (hr : M_fits_41 zin h = some r) : GO 41 [none, none, none] [] h := by
  have e9 := Eq.trans (Eq.symm (qe_M_fits_41 zin h)) hr
  generalize (400 : Nat) = f9 at e9
  refine hS _ _ (zcal_s (SP := zKsp l false zi r) _ ?_) (zorc_s _ ?_) _ _ _ _ _ e9
  · exact trivial
  · exact ⟨zap1_s (P := fun xs h => GO 51 (zfl [none, none, none] xs).1 (zfs [(0, none)] (zfl [none, none, none] xs).2) h) (fun x0 h hr => s_M_fits_51 hS k64 k65 k66 k74 x0 h hr), trivial⟩
set_option maxRecDepth 100000 in
set_option maxHeartbeats 0 in
theorem s_M_fits_34 {l : Launch} {zi : Nat → zinfo} {r : zRes} {GO : Nat → List (Option zV) → List zV → zH → Prop} (hS : zSg l false zi (zget (999, 0, 0, 0) zc_M_fits) (zcut zu_M_fits) zin (fun _ _ => none) r GO) (k64 : ∀ (x0 x1 x2 : Int) (h : zH) (k : (Int → zH → Option zRes)) (t : (Nat → zH → Option zRes)), M_in x0 x1 x2 h k = some r → zKsp l false zi r 64 [x0, x1, x2] h k t) (k65 : ∀ (x0 x1 : Int) (h : zH) (k : (Int → zH → Option zRes)) (t : (Nat → zH → Option zRes)), M_fails x0 x1 h k = some r → zKsp l false zi r 65 [0, x0, x1] h k t) (k66 : ∀ (x0 : Int) (h : zH) (k : (Int → zH → Option zRes)) (t : (Nat → zH → Option zRes)), M_noKernel x0 h k = some r → zKsp l false zi r 66 [0, x0] h k t) (k74 : ∀ (x0 x1 : Int) (h : zH) (k : (Int → zH → Option zRes)) (t : (Nat → zH → Option zRes)), M_fit x0 x1 h k = some r → zKsp l false zi r 74 [0, x0, x1] h k t) (a1 a2 t0 : Int) (h : zH) (hr : M_fits_34 zin a1 a2 t0 h = some r) : GO 34 [some (112, 0), some (0, a1), some (0, a2)] [(0, t0), (112, 0)] h := by
  have e9 := Eq.trans (Eq.symm (qe_M_fits_34 zin a1 a2 t0 h)) hr
  generalize (400 : Nat) = f9 at e9
  refine hS _ _ (zcal_s (SP := zKsp l false zi r) _ ?_) (zorc_s _ ?_) _ _ _ _ _ e9
  · exact ⟨zca2_s (SP := fun xs h k t => zKsp l false zi r 65 (zfc [some 0, none, none] xs) h k t) k65, ⟨zca2_s (SP := fun xs h k t => zKsp l false zi r 74 (zfc [some 0, none, none] xs) h k t) k74, trivial⟩⟩
  · exact ⟨zap0_s (P := fun xs h => GO 41 (zfl [none, none, none] xs).1 (zfs [] (zfl [none, none, none] xs).2) h) (fun  h hr => s_M_fits_41 hS k64 k65 k66 k74  h hr), ⟨zap1_s (P := fun xs h => GO 51 (zfl [none, none, none] xs).1 (zfs [(0, none)] (zfl [none, none, none] xs).2) h) (fun x0 h hr => s_M_fits_51 hS k64 k65 k66 k74 x0 h hr), trivial⟩⟩
set_option maxRecDepth 100000 in
set_option maxHeartbeats 0 in
theorem s_M_fits {l : Launch} {zi : Nat → zinfo} {r : zRes} {GO : Nat → List (Option zV) → List zV → zH → Prop} (hS : zSg l false zi (zget (999, 0, 0, 0) zc_M_fits) (zcut zu_M_fits) zin (fun _ _ => none) r GO) (k64 : ∀ (x0 x1 x2 : Int) (h : zH) (k : (Int → zH → Option zRes)) (t : (Nat → zH → Option zRes)), M_in x0 x1 x2 h k = some r → zKsp l false zi r 64 [x0, x1, x2] h k t) (k65 : ∀ (x0 x1 : Int) (h : zH) (k : (Int → zH → Option zRes)) (t : (Nat → zH → Option zRes)), M_fails x0 x1 h k = some r → zKsp l false zi r 65 [0, x0, x1] h k t) (k66 : ∀ (x0 : Int) (h : zH) (k : (Int → zH → Option zRes)) (t : (Nat → zH → Option zRes)), M_noKernel x0 h k = some r → zKsp l false zi r 66 [0, x0] h k t) (k74 : ∀ (x0 x1 : Int) (h : zH) (k : (Int → zH → Option zRes)) (t : (Nat → zH → Option zRes)), M_fit x0 x1 h k = some r → zKsp l false zi r 74 [0, x0, x1] h k t) (a1 a2 : Int) (h : zH) (hr : M_fits a1 a2 h zin = some r) : GO 0 [some (112, 0), some (0, a1), some (0, a2)] [] h := by
  have e9 := Eq.trans (Eq.symm (qe_M_fits zin a1 a2 h)) hr
  generalize (400 : Nat) = f9 at e9
  refine hS _ _ (zcal_s (SP := zKsp l false zi r) _ ?_) (zorc_s _ ?_) _ _ _ _ _ e9
  · exact ⟨zca3_s (SP := fun xs h k t => zKsp l false zi r 64 (zfc [none, none, none] xs) h k t) k64, ⟨zca2_s (SP := fun xs h k t => zKsp l false zi r 65 (zfc [some 0, none, none] xs) h k t) k65, ⟨zca1_s (SP := fun xs h k t => zKsp l false zi r 66 (zfc [some 0, none] xs) h k t) k66, trivial⟩⟩⟩
  · exact ⟨zap3_s (P := fun xs h => GO 34 (zfl [some (112, some 0), some (0, none), some (0, none)] xs).1 (zfs [(0, none), (112, some 0)] (zfl [some (112, some 0), some (0, none), some (0, none)] xs).2) h) (fun x0 x1 x2 h hr => s_M_fits_34 hS k64 k65 k66 k74 x0 x1 x2 h hr), ⟨zap0_s (P := fun xs h => GO 41 (zfl [none, none, none] xs).1 (zfs [] (zfl [none, none, none] xs).2) h) (fun  h hr => s_M_fits_41 hS k64 k65 k66 k74  h hr), trivial⟩⟩
set_option maxRecDepth 100000 in
set_option maxHeartbeats 0 in
theorem s_M_poke {l : Launch} {zi : Nat → zinfo} {r : zRes} {GO : Nat → List (Option zV) → List zV → zH → Prop} (hS : zSg l false zi (zget (999, 0, 0, 0) zc_M_poke) (zcut zu_M_poke) zin (fun _ _ => none) r GO) (k65 : ∀ (x0 x1 : Int) (h : zH) (k : (Int → zH → Option zRes)) (t : (Nat → zH → Option zRes)), M_fails x0 x1 h k = some r → zKsp l false zi r 65 [0, x0, x1] h k t) (k68 : ∀ (x0 : Int) (h : zH) (k : (Int → zH → Option zRes)) (t : (Nat → zH → Option zRes)), M_noCell x0 h k = some r → zKsp l false zi r 68 [x0] h k t) (a1 a2 : Int) (h : zH) (hr : M_poke a1 a2 h zin = some r) : GO 0 [some (112, 0), some (0, a1), some (0, a2), none] [] h := by
  have e9 := Eq.trans (Eq.symm (qe_M_poke zin a1 a2 h)) hr
  generalize (400 : Nat) = f9 at e9
  refine hS _ _ (zcal_s (SP := zKsp l false zi r) _ ?_) (zorc_s _ ?_) _ _ _ _ _ e9
  · exact ⟨zca2_s (SP := fun xs h k t => zKsp l false zi r 65 (zfc [some 0, none, none] xs) h k t) k65, ⟨zca1_s (SP := fun xs h k t => zKsp l false zi r 68 (zfc [none] xs) h k t) k68, trivial⟩⟩
  · exact trivial
set_option maxRecDepth 100000 in
set_option maxHeartbeats 0 in
theorem s_M_peek_27 {l : Launch} {zi : Nat → zinfo} {r : zRes} {GO : Nat → List (Option zV) → List zV → zH → Prop} (hS : zSg l false zi (zget (999, 0, 0, 0) zc_M_peek) (zcut zu_M_peek) zin (fun _ _ => none) r GO) (k65 : ∀ (x0 x1 : Int) (h : zH) (k : (Int → zH → Option zRes)) (t : (Nat → zH → Option zRes)), M_fails x0 x1 h k = some r → zKsp l false zi r 65 [0, x0, x1] h k t) (k68 : ∀ (x0 : Int) (h : zH) (k : (Int → zH → Option zRes)) (t : (Nat → zH → Option zRes)), M_noCell x0 h k = some r → zKsp l false zi r 68 [x0] h k t) (t0 : Int) (h : zH) (hr : M_peek_27 zin t0 h = some r) : GO 27 [none, none] [(0, t0)] h := by
  have e9 := Eq.trans (Eq.symm (qe_M_peek_27 zin t0 h)) hr
  generalize (400 : Nat) = f9 at e9
  refine hS _ _ (zcal_s (SP := zKsp l false zi r) _ ?_) (zorc_s _ ?_) _ _ _ _ _ e9
  · exact trivial
  · exact trivial
set_option maxRecDepth 100000 in
set_option maxHeartbeats 0 in
theorem s_M_peek {l : Launch} {zi : Nat → zinfo} {r : zRes} {GO : Nat → List (Option zV) → List zV → zH → Prop} (hS : zSg l false zi (zget (999, 0, 0, 0) zc_M_peek) (zcut zu_M_peek) zin (fun _ _ => none) r GO) (k65 : ∀ (x0 x1 : Int) (h : zH) (k : (Int → zH → Option zRes)) (t : (Nat → zH → Option zRes)), M_fails x0 x1 h k = some r → zKsp l false zi r 65 [0, x0, x1] h k t) (k68 : ∀ (x0 : Int) (h : zH) (k : (Int → zH → Option zRes)) (t : (Nat → zH → Option zRes)), M_noCell x0 h k = some r → zKsp l false zi r 68 [x0] h k t) (a1 : Int) (h : zH) (hr : M_peek a1 h zin = some r) : GO 0 [some (112, 0), some (0, a1)] [] h := by
  have e9 := Eq.trans (Eq.symm (qe_M_peek zin a1 h)) hr
  generalize (400 : Nat) = f9 at e9
  refine hS _ _ (zcal_s (SP := zKsp l false zi r) _ ?_) (zorc_s _ ?_) _ _ _ _ _ e9
  · exact ⟨zca2_s (SP := fun xs h k t => zKsp l false zi r 65 (zfc [some 0, none, none] xs) h k t) k65, ⟨zca1_s (SP := fun xs h k t => zKsp l false zi r 68 (zfc [none] xs) h k t) k68, trivial⟩⟩
  · exact ⟨zap1_s (P := fun xs h => GO 27 (zfl [none, none] xs).1 (zfs [(0, none)] (zfl [none, none] xs).2) h) (fun x0 h hr => s_M_peek_27 hS k65 k68 x0 h hr), trivial⟩
set_option maxRecDepth 100000 in
set_option maxHeartbeats 0 in
theorem s_M_isOver_38 {l : Launch} {zi : Nat → zinfo} {r : zRes} {GO : Nat → List (Option zV) → List zV → zH → Prop} (hS : zSg l false zi (zget (999, 0, 0, 0) zc_M_isOver) (zcut zu_M_isOver) zin (fun _ _ => none) r GO) (t0 : Int) (h : zH) (hr : M_isOver_38 zin t0 h = some r) : GO 38 [none, none] [(0, t0)] h := by
  have e9 := Eq.trans (Eq.symm (qe_M_isOver_38 zin t0 h)) hr
  generalize (400 : Nat) = f9 at e9
  refine hS _ _ (zcal_s (SP := zKsp l false zi r) _ ?_) (zorc_s _ ?_) _ _ _ _ _ e9
  · exact trivial
  · exact trivial
set_option maxRecDepth 100000 in
set_option maxHeartbeats 0 in
theorem s_M_isOver_33 {l : Launch} {zi : Nat → zinfo} {r : zRes} {GO : Nat → List (Option zV) → List zV → zH → Prop} (hS : zSg l false zi (zget (999, 0, 0, 0) zc_M_isOver) (zcut zu_M_isOver) zin (fun _ _ => none) r GO) (h : zH) (hr : M_isOver_33 zin h = some r) : GO 33 [none, none] [] h := by
  have e9 := Eq.trans (Eq.symm (qe_M_isOver_33 zin h)) hr
  generalize (400 : Nat) = f9 at e9
  refine hS _ _ (zcal_s (SP := zKsp l false zi r) _ ?_) (zorc_s _ ?_) _ _ _ _ _ e9
  · exact trivial
  · exact ⟨zap1_s (P := fun xs h => GO 38 (zfl [none, none] xs).1 (zfs [(0, none)] (zfl [none, none] xs).2) h) (fun x0 h hr => s_M_isOver_38 hS x0 h hr), trivial⟩
set_option maxRecDepth 100000 in
set_option maxHeartbeats 0 in
theorem s_M_isOver {l : Launch} {zi : Nat → zinfo} {r : zRes} {GO : Nat → List (Option zV) → List zV → zH → Prop} (hS : zSg l false zi (zget (999, 0, 0, 0) zc_M_isOver) (zcut zu_M_isOver) zin (fun _ _ => none) r GO) (a1 : Int) (h : zH) (hr : M_isOver a1 h zin = some r) : GO 0 [some (112, 0), some (0, a1)] [] h := by
  have e9 := Eq.trans (Eq.symm (qe_M_isOver zin a1 h)) hr
  generalize (400 : Nat) = f9 at e9
  refine hS _ _ (zcal_s (SP := zKsp l false zi r) _ ?_) (zorc_s _ ?_) _ _ _ _ _ e9
  · exact trivial
  · exact ⟨zap0_s (P := fun xs h => GO 33 (zfl [none, none] xs).1 (zfs [] (zfl [none, none] xs).2) h) (fun  h hr => s_M_isOver_33 hS  h hr), ⟨zap1_s (P := fun xs h => GO 38 (zfl [none, none] xs).1 (zfs [(0, none)] (zfl [none, none] xs).2) h) (fun x0 h hr => s_M_isOver_38 hS x0 h hr), trivial⟩⟩
set_option maxRecDepth 100000 in
set_option maxHeartbeats 0 in
theorem s_M_add_99 {l : Launch} {zi : Nat → zinfo} {r : zRes} {GO : Nat → List (Option zV) → List zV → zH → Prop} (hS : zSg l false zi (zget (999, 0, 0, 0) zc_M_add) (zcut zu_M_add) zin (fun _ _ => none) r GO) (k78 : ∀ (x0 : Int) (h : zH) (k : (Int → zH → Option zRes)) (t : (Nat → zH → Option zRes)), M_isOver x0 h k = some r → zKsp l false zi r 78 [0, x0] h k t) {r58 : Int → Int → Int → zH → Option zRes} (h58 : ∀ (x0 x1 x2 : Int) (h : zH), r58 x0 x1 x2 h = some r → GO 58 [some (112, 0), some (0, x0), none, none, some (0, x1), some (0, x2)] [] h) (a1 a4 a5 t0 t1 : Int) (h : zH) (hr : M_add_99 zin r58 a1 a4 a5 t0 t1 h = some r) : GO 99 [some (112, 0), some (0, a1), none, none, some (0, a4), some (0, a5)] [(0, t0), (0, t1), (175, 0)] h := by
  have e9 := Eq.trans (Eq.symm (qe_M_add_99 zin r58 a1 a4 a5 t0 t1 h)) hr
  generalize (400 : Nat) = f9 at e9
  refine hS _ _ (zcal_s (SP := zKsp l false zi r) _ ?_) (zorc_s _ ?_) _ _ _ _ _ e9
  · exact trivial
  · exact ⟨zap3_s (P := fun xs h => GO 58 (zfl [some (112, some 0), some (0, none), none, none, some (0, none), some (0, none)] xs).1 (zfs [] (zfl [some (112, some 0), some (0, none), none, none, some (0, none), some (0, none)] xs).2) h) h58, trivial⟩
set_option maxRecDepth 100000 in
set_option maxHeartbeats 0 in
theorem s_M_add_92 {l : Launch} {zi : Nat → zinfo} {r : zRes} {GO : Nat → List (Option zV) → List zV → zH → Prop} (hS : zSg l false zi (zget (999, 0, 0, 0) zc_M_add) (zcut zu_M_add) zin (fun _ _ => none) r GO) (k78 : ∀ (x0 : Int) (h : zH) (k : (Int → zH → Option zRes)) (t : (Nat → zH → Option zRes)), M_isOver x0 h k = some r → zKsp l false zi r 78 [0, x0] h k t) {r58 : Int → Int → Int → zH → Option zRes} (h58 : ∀ (x0 x1 x2 : Int) (h : zH), r58 x0 x1 x2 h = some r → GO 58 [some (112, 0), some (0, x0), none, none, some (0, x1), some (0, x2)] [] h) (a1 a4 a5 t0 : Int) (h : zH) (hr : M_add_92 zin r58 a1 a4 a5 t0 h = some r) : GO 92 [some (112, 0), some (0, a1), none, none, some (0, a4), some (0, a5)] [(0, t0), (175, 0)] h := by
  have e9 := Eq.trans (Eq.symm (qe_M_add_92 zin r58 a1 a4 a5 t0 h)) hr
  generalize (400 : Nat) = f9 at e9
  refine hS _ _ (zcal_s (SP := zKsp l false zi r) _ ?_) (zorc_s _ ?_) _ _ _ _ _ e9
  · exact trivial
  · exact ⟨zap5_s (P := fun xs h => GO 99 (zfl [some (112, some 0), some (0, none), none, none, some (0, none), some (0, none)] xs).1 (zfs [(0, none), (0, none), (175, some 0)] (zfl [some (112, some 0), some (0, none), none, none, some (0, none), some (0, none)] xs).2) h) (fun x0 x1 x2 x3 x4 h hr => s_M_add_99 hS k78 h58 x0 x1 x2 x3 x4 h hr), trivial⟩
set_option maxRecDepth 100000 in
set_option maxHeartbeats 0 in
theorem s_M_add_148 {l : Launch} {zi : Nat → zinfo} {r : zRes} {GO : Nat → List (Option zV) → List zV → zH → Prop} (hS : zSg l false zi (zget (999, 0, 0, 0) zc_M_add) (zcut zu_M_add) zin (fun _ _ => none) r GO) (k78 : ∀ (x0 : Int) (h : zH) (k : (Int → zH → Option zRes)) (t : (Nat → zH → Option zRes)), M_isOver x0 h k = some r → zKsp l false zi r 78 [0, x0] h k t) (a4 t0 t1 : Int) (h : zH) (hr : M_add_148 zin a4 t0 t1 h = some r) : GO 148 [some (112, 0), none, none, none, some (0, a4), none] [(0, t0), (0, t1), (175, 0)] h := by
  have e9 := Eq.trans (Eq.symm (qe_M_add_148 zin a4 t0 t1 h)) hr
  generalize (400 : Nat) = f9 at e9
  refine hS _ _ (zcal_s (SP := zKsp l false zi r) _ ?_) (zorc_s _ ?_) _ _ _ _ _ e9
  · exact trivial
  · exact trivial
set_option maxRecDepth 100000 in
set_option maxHeartbeats 0 in
theorem s_M_add_141 {l : Launch} {zi : Nat → zinfo} {r : zRes} {GO : Nat → List (Option zV) → List zV → zH → Prop} (hS : zSg l false zi (zget (999, 0, 0, 0) zc_M_add) (zcut zu_M_add) zin (fun _ _ => none) r GO) (k78 : ∀ (x0 : Int) (h : zH) (k : (Int → zH → Option zRes)) (t : (Nat → zH → Option zRes)), M_isOver x0 h k = some r → zKsp l false zi r 78 [0, x0] h k t) (a4 t0 : Int) (h : zH) (hr : M_add_141 zin a4 t0 h = some r) : GO 141 [some (112, 0), none, none, none, some (0, a4), none] [(0, t0), (175, 0)] h := by
  have e9 := Eq.trans (Eq.symm (qe_M_add_141 zin a4 t0 h)) hr
  generalize (400 : Nat) = f9 at e9
  refine hS _ _ (zcal_s (SP := zKsp l false zi r) _ ?_) (zorc_s _ ?_) _ _ _ _ _ e9
  · exact trivial
  · exact ⟨zap3_s (P := fun xs h => GO 148 (zfl [some (112, some 0), none, none, none, some (0, none), none] xs).1 (zfs [(0, none), (0, none), (175, some 0)] (zfl [some (112, some 0), none, none, none, some (0, none), none] xs).2) h) (fun x0 x1 x2 h hr => s_M_add_148 hS k78 x0 x1 x2 h hr), trivial⟩
set_option maxRecDepth 100000 in
set_option maxHeartbeats 0 in
theorem s_M_add_58b {l : Launch} {zi : Nat → zinfo} {r : zRes} {GO : Nat → List (Option zV) → List zV → zH → Prop} (hS : zSg l false zi (zget (999, 0, 0, 0) zc_M_add) (zcut zu_M_add) zin (fun _ _ => none) r GO) (k78 : ∀ (x0 : Int) (h : zH) (k : (Int → zH → Option zRes)) (t : (Nat → zH → Option zRes)), M_isOver x0 h k = some r → zKsp l false zi r 78 [0, x0] h k t) {r58 : Int → Int → Int → zH → Option zRes} (h58 : ∀ (x0 x1 x2 : Int) (h : zH), r58 x0 x1 x2 h = some r → GO 58 [some (112, 0), some (0, x0), none, none, some (0, x1), some (0, x2)] [] h) (a1 a4 a5 : Int) (h : zH) (hr : M_add_58b zin r58 a1 a4 a5 h = some r) : GO 58 [some (112, 0), some (0, a1), none, none, some (0, a4), some (0, a5)] [] h := by
  have e9 := Eq.trans (Eq.symm (qe_M_add_58b zin r58 a1 a4 a5 h)) hr
  generalize (400 : Nat) = f9 at e9
  refine hS _ _ (zcal_s (SP := zKsp l false zi r) _ ?_) (zorc_s _ ?_) _ _ _ _ _ e9
  · exact ⟨zca1_s (SP := fun xs h k t => zKsp l false zi r 78 (zfc [some 0, none] xs) h k t) k78, trivial⟩
  · exact ⟨zap4_s (P := fun xs h => GO 92 (zfl [some (112, some 0), some (0, none), none, none, some (0, none), some (0, none)] xs).1 (zfs [(0, none), (175, some 0)] (zfl [some (112, some 0), some (0, none), none, none, some (0, none), some (0, none)] xs).2) h) (fun x0 x1 x2 x3 h hr => s_M_add_92 hS k78 h58 x0 x1 x2 x3 h hr), ⟨zap5_s (P := fun xs h => GO 99 (zfl [some (112, some 0), some (0, none), none, none, some (0, none), some (0, none)] xs).1 (zfs [(0, none), (0, none), (175, some 0)] (zfl [some (112, some 0), some (0, none), none, none, some (0, none), some (0, none)] xs).2) h) (fun x0 x1 x2 x3 x4 h hr => s_M_add_99 hS k78 h58 x0 x1 x2 x3 x4 h hr), ⟨zap2_s (P := fun xs h => GO 141 (zfl [some (112, some 0), none, none, none, some (0, none), none] xs).1 (zfs [(0, none), (175, some 0)] (zfl [some (112, some 0), none, none, none, some (0, none), none] xs).2) h) (fun x0 x1 h hr => s_M_add_141 hS k78 x0 x1 h hr), ⟨zap3_s (P := fun xs h => GO 148 (zfl [some (112, some 0), none, none, none, some (0, none), none] xs).1 (zfs [(0, none), (0, none), (175, some 0)] (zfl [some (112, some 0), none, none, none, some (0, none), none] xs).2) h) (fun x0 x1 x2 h hr => s_M_add_148 hS k78 x0 x1 x2 h hr), trivial⟩⟩⟩⟩
set_option maxRecDepth 100000 in
set_option maxHeartbeats 0 in
theorem s_M_add_58 {l : Launch} {zi : Nat → zinfo} {r : zRes} {GO : Nat → List (Option zV) → List zV → zH → Prop} (hS : zSg l false zi (zget (999, 0, 0, 0) zc_M_add) (zcut zu_M_add) zin (fun _ _ => none) r GO) (k78 : ∀ (x0 : Int) (h : zH) (k : (Int → zH → Option zRes)) (t : (Nat → zH → Option zRes)), M_isOver x0 h k = some r → zKsp l false zi r 78 [0, x0] h k t) (a1 a4 a5 : Int) (h : zH) (hr : M_add_58 zin a1 a4 a5 h = some r) : GO 58 [some (112, 0), some (0, a1), none, none, some (0, a4), some (0, a5)] [] h := zit3_s (P := fun x0 x1 x2 h => GO 58 [some (112, 0), some (0, x0), none, none, some (0, x1), some (0, x2)] [] h) (fun rr hh a1 a4 a5 h hr => s_M_add_58b hS k78 hh a1 a4 a5 h hr) zN a1 a4 a5 h hr
set_option maxRecDepth 100000 in
set_option maxHeartbeats 0 in
theorem s_M_add {l : Launch} {zi : Nat → zinfo} {r : zRes} {GO : Nat → List (Option zV) → List zV → zH → Prop} (hS : zSg l false zi (zget (999, 0, 0, 0) zc_M_add) (zcut zu_M_add) zin (fun _ _ => none) r GO) (k78 : ∀ (x0 : Int) (h : zH) (k : (Int → zH → Option zRes)) (t : (Nat → zH → Option zRes)), M_isOver x0 h k = some r → zKsp l false zi r 78 [0, x0] h k t) (a1 a2 a3 : Int) (h : zH) (hr : M_add a1 a2 a3 h zin = some r) : GO 0 [some (112, 0), some (0, a1), some (0, a2), some (0, a3), none, none] [] h := by
  have e9 := Eq.trans (Eq.symm (qe_M_add zin a1 a2 a3 h)) hr
  generalize (400 : Nat) = f9 at e9
  refine hS _ _ (zcal_s (SP := zKsp l false zi r) _ ?_) (zorc_s _ ?_) _ _ _ _ _ e9
  · exact trivial
  · exact ⟨zap3_s (P := fun xs h => GO 58 (zfl [some (112, some 0), some (0, none), none, none, some (0, none), some (0, none)] xs).1 (zfs [] (zfl [some (112, some 0), some (0, none), none, none, some (0, none), some (0, none)] xs).2) h) (fun x0 x1 x2 h hr => s_M_add_58 hS k78 x0 x1 x2 h hr), trivial⟩
set_option maxRecDepth 100000 in
set_option maxHeartbeats 0 in
theorem s_M_launch_133 {l : Launch} {zi : Nat → zinfo} {r : zRes} {GO : Nat → List (Option zV) → List zV → zH → Prop} (hS : zSg l false zi (zget (999, 0, 0, 0) zc_M_launch) (zcut zu_M_launch) zin (fun _ _ => none) r GO) (k64 : ∀ (x0 x1 x2 : Int) (h : zH) (k : (Int → zH → Option zRes)) (t : (Nat → zH → Option zRes)), M_in x0 x1 x2 h k = some r → zKsp l false zi r 64 [x0, x1, x2] h k t) (k65 : ∀ (x0 x1 : Int) (h : zH) (k : (Int → zH → Option zRes)) (t : (Nat → zH → Option zRes)), M_fails x0 x1 h k = some r → zKsp l false zi r 65 [0, x0, x1] h k t) (k66 : ∀ (x0 : Int) (h : zH) (k : (Int → zH → Option zRes)) (t : (Nat → zH → Option zRes)), M_noKernel x0 h k = some r → zKsp l false zi r 66 [0, x0] h k t) (k67 : ∀ (x0 : Int) (h : zH) (k : (Int → zH → Option zRes)) (t : (Nat → zH → Option zRes)), M_noLaunch x0 h k = some r → zKsp l false zi r 67 [0, x0] h k t) (k74 : ∀ (x0 x1 : Int) (h : zH) (k : (Int → zH → Option zRes)) (t : (Nat → zH → Option zRes)), M_fit x0 x1 h k = some r → zKsp l false zi r 74 [0, x0, x1] h k t) (k79 : ∀ (x0 x1 x2 : Int) (h : zH) (k : (Int → zH → Option zRes)) (t : (Nat → zH → Option zRes)), M_add x0 x1 x2 h k = some r → zKsp l false zi r 79 [0, x0, x1, x2] h k t) (h : zH) (hr : M_launch_133 zin h = some r) : GO 133 [none, none, none, none, none, none, none, none] [] h := by
  have e9 := Eq.trans (Eq.symm (qe_M_launch_133 zin h)) hr
  generalize (400 : Nat) = f9 at e9
  refine hS _ _ (zcal_s (SP := zKsp l false zi r) _ ?_) (zorc_s _ ?_) _ _ _ _ _ e9
  · exact trivial
  · exact trivial
set_option maxRecDepth 100000 in
set_option maxHeartbeats 0 in
theorem s_M_launch_126 {l : Launch} {zi : Nat → zinfo} {r : zRes} {GO : Nat → List (Option zV) → List zV → zH → Prop} (hS : zSg l false zi (zget (999, 0, 0, 0) zc_M_launch) (zcut zu_M_launch) zin (fun _ _ => none) r GO) (k64 : ∀ (x0 x1 x2 : Int) (h : zH) (k : (Int → zH → Option zRes)) (t : (Nat → zH → Option zRes)), M_in x0 x1 x2 h k = some r → zKsp l false zi r 64 [x0, x1, x2] h k t) (k65 : ∀ (x0 x1 : Int) (h : zH) (k : (Int → zH → Option zRes)) (t : (Nat → zH → Option zRes)), M_fails x0 x1 h k = some r → zKsp l false zi r 65 [0, x0, x1] h k t) (k66 : ∀ (x0 : Int) (h : zH) (k : (Int → zH → Option zRes)) (t : (Nat → zH → Option zRes)), M_noKernel x0 h k = some r → zKsp l false zi r 66 [0, x0] h k t) (k67 : ∀ (x0 : Int) (h : zH) (k : (Int → zH → Option zRes)) (t : (Nat → zH → Option zRes)), M_noLaunch x0 h k = some r → zKsp l false zi r 67 [0, x0] h k t) (k74 : ∀ (x0 x1 : Int) (h : zH) (k : (Int → zH → Option zRes)) (t : (Nat → zH → Option zRes)), M_fit x0 x1 h k = some r → zKsp l false zi r 74 [0, x0, x1] h k t) (k79 : ∀ (x0 x1 x2 : Int) (h : zH) (k : (Int → zH → Option zRes)) (t : (Nat → zH → Option zRes)), M_add x0 x1 x2 h k = some r → zKsp l false zi r 79 [0, x0, x1, x2] h k t) (a1 a2 a3 a4 a5 t0 : Int) (h : zH) (hr : M_launch_126 zin a1 a2 a3 a4 a5 t0 h = some r) : GO 126 [some (112, 0), some (0, a1), some (0, a2), some (0, a3), some (0, a4), some (0, a5), none, none] [(0, t0), (112, 0)] h := by
  have e9 := Eq.trans (Eq.symm (qe_M_launch_126 zin a1 a2 a3 a4 a5 t0 h)) hr
  generalize (400 : Nat) = f9 at e9
  refine hS _ _ (zcal_s (SP := zKsp l false zi r) _ ?_) (zorc_s _ ?_) _ _ _ _ _ e9
  · exact ⟨zca2_s (SP := fun xs h k t => zKsp l false zi r 65 (zfc [some 0, none, none] xs) h k t) k65, ⟨zca3_s (SP := fun xs h k t => zKsp l false zi r 79 (zfc [some 0, none, none, none] xs) h k t) k79, trivial⟩⟩
  · exact ⟨zap0_s (P := fun xs h => GO 133 (zfl [none, none, none, none, none, none, none, none] xs).1 (zfs [] (zfl [none, none, none, none, none, none, none, none] xs).2) h) (fun  h hr => s_M_launch_133 hS k64 k65 k66 k67 k74 k79  h hr), trivial⟩
set_option maxRecDepth 100000 in
set_option maxHeartbeats 0 in
theorem s_M_launch_104 {l : Launch} {zi : Nat → zinfo} {r : zRes} {GO : Nat → List (Option zV) → List zV → zH → Prop} (hS : zSg l false zi (zget (999, 0, 0, 0) zc_M_launch) (zcut zu_M_launch) zin (fun _ _ => none) r GO) (k64 : ∀ (x0 x1 x2 : Int) (h : zH) (k : (Int → zH → Option zRes)) (t : (Nat → zH → Option zRes)), M_in x0 x1 x2 h k = some r → zKsp l false zi r 64 [x0, x1, x2] h k t) (k65 : ∀ (x0 x1 : Int) (h : zH) (k : (Int → zH → Option zRes)) (t : (Nat → zH → Option zRes)), M_fails x0 x1 h k = some r → zKsp l false zi r 65 [0, x0, x1] h k t) (k66 : ∀ (x0 : Int) (h : zH) (k : (Int → zH → Option zRes)) (t : (Nat → zH → Option zRes)), M_noKernel x0 h k = some r → zKsp l false zi r 66 [0, x0] h k t) (k67 : ∀ (x0 : Int) (h : zH) (k : (Int → zH → Option zRes)) (t : (Nat → zH → Option zRes)), M_noLaunch x0 h k = some r → zKsp l false zi r 67 [0, x0] h k t) (k74 : ∀ (x0 x1 : Int) (h : zH) (k : (Int → zH → Option zRes)) (t : (Nat → zH → Option zRes)), M_fit x0 x1 h k = some r → zKsp l false zi r 74 [0, x0, x1] h k t) (k79 : ∀ (x0 x1 x2 : Int) (h : zH) (k : (Int → zH → Option zRes)) (t : (Nat → zH → Option zRes)), M_add x0 x1 x2 h k = some r → zKsp l false zi r 79 [0, x0, x1, x2] h k t) (a1 a2 a3 a4 a5 t0 : Int) (h : zH) (hr : M_launch_104 zin a1 a2 a3 a4 a5 t0 h = some r) : GO 104 [some (112, 0), some (0, a1), some (0, a2), some (0, a3), some (0, a4), some (0, a5), none, none] [(0, t0), (112, 0)] h := by
  have e9 := Eq.trans (Eq.symm (qe_M_launch_104 zin a1 a2 a3 a4 a5 t0 h)) hr
  generalize (400 : Nat) = f9 at e9
  refine hS _ _ (zcal_s (SP := zKsp l false zi r) _ ?_) (zorc_s _ ?_) _ _ _ _ _ e9
  · exact ⟨zca2_s (SP := fun xs h k t => zKsp l false zi r 65 (zfc [some 0, none, none] xs) h k t) k65, trivial⟩
  · exact ⟨zap6_s (P := fun xs h => GO 126 (zfl [some (112, some 0), some (0, none), some (0, none), some (0, none), some (0, none), some (0, none), none, none] xs).1 (zfs [(0, none), (112, some 0)] (zfl [some (112, some 0), some (0, none), some (0, none), some (0, none), some (0, none), some (0, none), none, none] xs).2) h) (fun x0 x1 x2 x3 x4 x5 h hr => s_M_launch_126 hS k64 k65 k66 k67 k74 k79 x0 x1 x2 x3 x4 x5 h hr), ⟨zap0_s (P := fun xs h => GO 133 (zfl [none, none, none, none, none, none, none, none] xs).1 (zfs [] (zfl [none, none, none, none, none, none, none, none] xs).2) h) (fun  h hr => s_M_launch_133 hS k64 k65 k66 k67 k74 k79  h hr), trivial⟩⟩
set_option maxRecDepth 100000 in
set_option maxHeartbeats 0 in
theorem s_M_launch_81 {l : Launch} {zi : Nat → zinfo} {r : zRes} {GO : Nat → List (Option zV) → List zV → zH → Prop} (hS : zSg l false zi (zget (999, 0, 0, 0) zc_M_launch) (zcut zu_M_launch) zin (fun _ _ => none) r GO) (k64 : ∀ (x0 x1 x2 : Int) (h : zH) (k : (Int → zH → Option zRes)) (t : (Nat → zH → Option zRes)), M_in x0 x1 x2 h k = some r → zKsp l false zi r 64 [x0, x1, x2] h k t) (k65 : ∀ (x0 x1 : Int) (h : zH) (k : (Int → zH → Option zRes)) (t : (Nat → zH → Option zRes)), M_fails x0 x1 h k = some r → zKsp l false zi r 65 [0, x0, x1] h k t) (k66 : ∀ (x0 : Int) (h : zH) (k : (Int → zH → Option zRes)) (t : (Nat → zH → Option zRes)), M_noKernel x0 h k = some r → zKsp l false zi r 66 [0, x0] h k t) (k67 : ∀ (x0 : Int) (h : zH) (k : (Int → zH → Option zRes)) (t : (Nat → zH → Option zRes)), M_noLaunch x0 h k = some r → zKsp l false zi r 67 [0, x0] h k t) (k74 : ∀ (x0 x1 : Int) (h : zH) (k : (Int → zH → Option zRes)) (t : (Nat → zH → Option zRes)), M_fit x0 x1 h k = some r → zKsp l false zi r 74 [0, x0, x1] h k t) (k79 : ∀ (x0 x1 x2 : Int) (h : zH) (k : (Int → zH → Option zRes)) (t : (Nat → zH → Option zRes)), M_add x0 x1 x2 h k = some r → zKsp l false zi r 79 [0, x0, x1, x2] h k t) (a1 a2 a3 a4 a5 t0 : Int) (h : zH) (hr : M_launch_81 zin a1 a2 a3 a4 a5 t0 h = some r) : GO 81 [some (112, 0), some (0, a1), some (0, a2), some (0, a3), some (0, a4), some (0, a5), none, none] [(0, t0), (112, 0)] h := by
  have e9 := Eq.trans (Eq.symm (qe_M_launch_81 zin a1 a2 a3 a4 a5 t0 h)) hr
  generalize (400 : Nat) = f9 at e9
  refine hS _ _ (zcal_s (SP := zKsp l false zi r) _ ?_) (zorc_s _ ?_) _ _ _ _ _ e9
  · exact ⟨zca2_s (SP := fun xs h k t => zKsp l false zi r 65 (zfc [some 0, none, none] xs) h k t) k65, ⟨zca2_s (SP := fun xs h k t => zKsp l false zi r 74 (zfc [some 0, none, none] xs) h k t) k74, trivial⟩⟩
  · exact ⟨zap6_s (P := fun xs h => GO 104 (zfl [some (112, some 0), some (0, none), some (0, none), some (0, none), some (0, none), some (0, none), none, none] xs).1 (zfs [(0, none), (112, some 0)] (zfl [some (112, some 0), some (0, none), some (0, none), some (0, none), some (0, none), some (0, none), none, none] xs).2) h) (fun x0 x1 x2 x3 x4 x5 h hr => s_M_launch_104 hS k64 k65 k66 k67 k74 k79 x0 x1 x2 x3 x4 x5 h hr), ⟨zap0_s (P := fun xs h => GO 133 (zfl [none, none, none, none, none, none, none, none] xs).1 (zfs [] (zfl [none, none, none, none, none, none, none, none] xs).2) h) (fun  h hr => s_M_launch_133 hS k64 k65 k66 k67 k74 k79  h hr), trivial⟩⟩
set_option maxRecDepth 100000 in
set_option maxHeartbeats 0 in
theorem s_M_launch_76 {l : Launch} {zi : Nat → zinfo} {r : zRes} {GO : Nat → List (Option zV) → List zV → zH → Prop} (hS : zSg l false zi (zget (999, 0, 0, 0) zc_M_launch) (zcut zu_M_launch) zin (fun _ _ => none) r GO) (k64 : ∀ (x0 x1 x2 : Int) (h : zH) (k : (Int → zH → Option zRes)) (t : (Nat → zH → Option zRes)), M_in x0 x1 x2 h k = some r → zKsp l false zi r 64 [x0, x1, x2] h k t) (k65 : ∀ (x0 x1 : Int) (h : zH) (k : (Int → zH → Option zRes)) (t : (Nat → zH → Option zRes)), M_fails x0 x1 h k = some r → zKsp l false zi r 65 [0, x0, x1] h k t) (k66 : ∀ (x0 : Int) (h : zH) (k : (Int → zH → Option zRes)) (t : (Nat → zH → Option zRes)), M_noKernel x0 h k = some r → zKsp l false zi r 66 [0, x0] h k t) (k67 : ∀ (x0 : Int) (h : zH) (k : (Int → zH → Option zRes)) (t : (Nat → zH → Option zRes)), M_noLaunch x0 h k = some r → zKsp l false zi r 67 [0, x0] h k t) (k74 : ∀ (x0 x1 : Int) (h : zH) (k : (Int → zH → Option zRes)) (t : (Nat → zH → Option zRes)), M_fit x0 x1 h k = some r → zKsp l false zi r 74 [0, x0, x1] h k t) (k79 : ∀ (x0 x1 x2 : Int) (h : zH) (k : (Int → zH → Option zRes)) (t : (Nat → zH → Option zRes)), M_add x0 x1 x2 h k = some r → zKsp l false zi r 79 [0, x0, x1, x2] h k t) (a1 a2 a3 a4 a5 : Int) (h : zH) (hr : M_launch_76 zin a1 a2 a3 a4 a5 h = some r) : GO 76 [some (112, 0), some (0, a1), some (0, a2), some (0, a3), some (0, a4), some (0, a5), none, none] [(112, 0)] h := by
  have e9 := Eq.trans (Eq.symm (qe_M_launch_76 zin a1 a2 a3 a4 a5 h)) hr
  generalize (400 : Nat) = f9 at e9
  refine hS _ _ (zcal_s (SP := zKsp l false zi r) _ ?_) (zorc_s _ ?_) _ _ _ _ _ e9
  · exact trivial
  · exact ⟨zap6_s (P := fun xs h => GO 81 (zfl [some (112, some 0), some (0, none), some (0, none), some (0, none), some (0, none), some (0, none), none, none] xs).1 (zfs [(0, none), (112, some 0)] (zfl [some (112, some 0), some (0, none), some (0, none), some (0, none), some (0, none), some (0, none), none, none] xs).2) h) (fun x0 x1 x2 x3 x4 x5 h hr => s_M_launch_81 hS k64 k65 k66 k67 k74 k79 x0 x1 x2 x3 x4 x5 h hr), trivial⟩
set_option maxRecDepth 100000 in
set_option maxHeartbeats 0 in
theorem s_M_launch_42 {l : Launch} {zi : Nat → zinfo} {r : zRes} {GO : Nat → List (Option zV) → List zV → zH → Prop} (hS : zSg l false zi (zget (999, 0, 0, 0) zc_M_launch) (zcut zu_M_launch) zin (fun _ _ => none) r GO) (k64 : ∀ (x0 x1 x2 : Int) (h : zH) (k : (Int → zH → Option zRes)) (t : (Nat → zH → Option zRes)), M_in x0 x1 x2 h k = some r → zKsp l false zi r 64 [x0, x1, x2] h k t) (k65 : ∀ (x0 x1 : Int) (h : zH) (k : (Int → zH → Option zRes)) (t : (Nat → zH → Option zRes)), M_fails x0 x1 h k = some r → zKsp l false zi r 65 [0, x0, x1] h k t) (k66 : ∀ (x0 : Int) (h : zH) (k : (Int → zH → Option zRes)) (t : (Nat → zH → Option zRes)), M_noKernel x0 h k = some r → zKsp l false zi r 66 [0, x0] h k t) (k67 : ∀ (x0 : Int) (h : zH) (k : (Int → zH → Option zRes)) (t : (Nat → zH → Option zRes)), M_noLaunch x0 h k = some r → zKsp l false zi r 67 [0, x0] h k t) (k74 : ∀ (x0 x1 : Int) (h : zH) (k : (Int → zH → Option zRes)) (t : (Nat → zH → Option zRes)), M_fit x0 x1 h k = some r → zKsp l false zi r 74 [0, x0, x1] h k t) (k79 : ∀ (x0 x1 x2 : Int) (h : zH) (k : (Int → zH → Option zRes)) (t : (Nat → zH → Option zRes)), M_add x0 x1 x2 h k = some r → zKsp l false zi r 79 [0, x0, x1, x2] h k t) (a1 a2 a3 a4 a5 t0 : Int) (h : zH) (hr : M_launch_42 zin a1 a2 a3 a4 a5 t0 h = some r) : GO 42 [some (112, 0), some (0, a1), some (0, a2), some (0, a3), some (0, a4), some (0, a5), none, none] [(0, t0)] h := by
  have e9 := Eq.trans (Eq.symm (qe_M_launch_42 zin a1 a2 a3 a4 a5 t0 h)) hr
  generalize (400 : Nat) = f9 at e9
  refine hS _ _ (zcal_s (SP := zKsp l false zi r) _ ?_) (zorc_s _ ?_) _ _ _ _ _ e9
  · exact ⟨zca3_s (SP := fun xs h k t => zKsp l false zi r 64 (zfc [none, none, none] xs) h k t) k64, ⟨zca2_s (SP := fun xs h k t => zKsp l false zi r 65 (zfc [some 0, none, none] xs) h k t) k65, trivial⟩⟩
  · exact ⟨zap5_s (P := fun xs h => GO 76 (zfl [some (112, some 0), some (0, none), some (0, none), some (0, none), some (0, none), some (0, none), none, none] xs).1 (zfs [(112, some 0)] (zfl [some (112, some 0), some (0, none), some (0, none), some (0, none), some (0, none), some (0, none), none, none] xs).2) h) (fun x0 x1 x2 x3 x4 h hr => s_M_launch_76 hS k64 k65 k66 k67 k74 k79 x0 x1 x2 x3 x4 h hr), ⟨zap6_s (P := fun xs h => GO 81 (zfl [some (112, some 0), some (0, none), some (0, none), some (0, none), some (0, none), some (0, none), none, none] xs).1 (zfs [(0, none), (112, some 0)] (zfl [some (112, some 0), some (0, none), some (0, none), some (0, none), some (0, none), some (0, none), none, none] xs).2) h) (fun x0 x1 x2 x3 x4 x5 h hr => s_M_launch_81 hS k64 k65 k66 k67 k74 k79 x0 x1 x2 x3 x4 x5 h hr), ⟨zap0_s (P := fun xs h => GO 133 (zfl [none, none, none, none, none, none, none, none] xs).1 (zfs [] (zfl [none, none, none, none, none, none, none, none] xs).2) h) (fun  h hr => s_M_launch_133 hS k64 k65 k66 k67 k74 k79  h hr), trivial⟩⟩⟩
set_option maxRecDepth 100000 in
set_option maxHeartbeats 0 in
theorem s_M_launch_37 {l : Launch} {zi : Nat → zinfo} {r : zRes} {GO : Nat → List (Option zV) → List zV → zH → Prop} (hS : zSg l false zi (zget (999, 0, 0, 0) zc_M_launch) (zcut zu_M_launch) zin (fun _ _ => none) r GO) (k64 : ∀ (x0 x1 x2 : Int) (h : zH) (k : (Int → zH → Option zRes)) (t : (Nat → zH → Option zRes)), M_in x0 x1 x2 h k = some r → zKsp l false zi r 64 [x0, x1, x2] h k t) (k65 : ∀ (x0 x1 : Int) (h : zH) (k : (Int → zH → Option zRes)) (t : (Nat → zH → Option zRes)), M_fails x0 x1 h k = some r → zKsp l false zi r 65 [0, x0, x1] h k t) (k66 : ∀ (x0 : Int) (h : zH) (k : (Int → zH → Option zRes)) (t : (Nat → zH → Option zRes)), M_noKernel x0 h k = some r → zKsp l false zi r 66 [0, x0] h k t) (k67 : ∀ (x0 : Int) (h : zH) (k : (Int → zH → Option zRes)) (t : (Nat → zH → Option zRes)), M_noLaunch x0 h k = some r → zKsp l false zi r 67 [0, x0] h k t) (k74 : ∀ (x0 x1 : Int) (h : zH) (k : (Int → zH → Option zRes)) (t : (Nat → zH → Option zRes)), M_fit x0 x1 h k = some r → zKsp l false zi r 74 [0, x0, x1] h k t) (k79 : ∀ (x0 x1 x2 : Int) (h : zH) (k : (Int → zH → Option zRes)) (t : (Nat → zH → Option zRes)), M_add x0 x1 x2 h k = some r → zKsp l false zi r 79 [0, x0, x1, x2] h k t) (a1 a2 a3 a4 a5 : Int) (h : zH) (hr : M_launch_37 zin a1 a2 a3 a4 a5 h = some r) : GO 37 [some (112, 0), some (0, a1), some (0, a2), some (0, a3), some (0, a4), some (0, a5), none, none] [] h := by
  have e9 := Eq.trans (Eq.symm (qe_M_launch_37 zin a1 a2 a3 a4 a5 h)) hr
  generalize (400 : Nat) = f9 at e9
  refine hS _ _ (zcal_s (SP := zKsp l false zi r) _ ?_) (zorc_s _ ?_) _ _ _ _ _ e9
  · exact trivial
  · exact ⟨zap6_s (P := fun xs h => GO 42 (zfl [some (112, some 0), some (0, none), some (0, none), some (0, none), some (0, none), some (0, none), none, none] xs).1 (zfs [(0, none)] (zfl [some (112, some 0), some (0, none), some (0, none), some (0, none), some (0, none), some (0, none), none, none] xs).2) h) (fun x0 x1 x2 x3 x4 x5 h hr => s_M_launch_42 hS k64 k65 k66 k67 k74 k79 x0 x1 x2 x3 x4 x5 h hr), trivial⟩
set_option maxRecDepth 100000 in
set_option maxHeartbeats 0 in
theorem s_M_launch_41 {l : Launch} {zi : Nat → zinfo} {r : zRes} {GO : Nat → List (Option zV) → List zV → zH → Prop} (hS : zSg l false zi (zget (999, 0, 0, 0) zc_M_launch) (zcut zu_M_launch) zin (fun _ _ => none) r GO) (k64 : ∀ (x0 x1 x2 : Int) (h : zH) (k : (Int → zH → Option zRes)) (t : (Nat → zH → Option zRes)), M_in x0 x1 x2 h k = some r → zKsp l false zi r 64 [x0, x1, x2] h k t) (k65 : ∀ (x0 x1 : Int) (h : zH) (k : (Int → zH → Option zRes)) (t : (Nat → zH → Option zRes)), M_fails x0 x1 h k = some r → zKsp l false zi r 65 [0, x0, x1] h k t) (k66 : ∀ (x0 : Int) (h : zH) (k : (Int → zH → Option zRes)) (t : (Nat → zH → Option zRes)), M_noKernel x0 h k = some r → zKsp l false zi r 66 [0, x0] h k t) (k67 : ∀ (x0 : Int) (h : zH) (k : (Int → zH → Option zRes)) (t : (Nat → zH → Option zRes)), M_noLaunch x0 h k = some r → zKsp l false zi r 67 [0, x0] h k t) (k74 : ∀ (x0 x1 : Int) (h : zH) (k : (Int → zH → Option zRes)) (t : (Nat → zH → Option zRes)), M_fit x0 x1 h k = some r → zKsp l false zi r 74 [0, x0, x1] h k t) (k79 : ∀ (x0 x1 x2 : Int) (h : zH) (k : (Int → zH → Option zRes)) (t : (Nat → zH → Option zRes)), M_add x0 x1 x2 h k = some r → zKsp l false zi r 79 [0, x0, x1, x2] h k t) (a1 a2 a3 a4 a5 : Int) (h : zH) (hr : M_launch_41 zin a1 a2 a3 a4 a5 h = some r) : GO 41 [some (112, 0), some (0, a1), some (0, a2), some (0, a3), some (0, a4), some (0, a5), none, none] [] h := by
  have e9 := Eq.trans (Eq.symm (qe_M_launch_41 zin a1 a2 a3 a4 a5 h)) hr
  generalize (400 : Nat) = f9 at e9
  refine hS _ _ (zcal_s (SP := zKsp l false zi r) _ ?_) (zorc_s _ ?_) _ _ _ _ _ e9
  · exact trivial
  · exact ⟨zap6_s (P := fun xs h => GO 42 (zfl [some (112, some 0), some (0, none), some (0, none), some (0, none), some (0, none), some (0, none), none, none] xs).1 (zfs [(0, none)] (zfl [some (112, some 0), some (0, none), some (0, none), some (0, none), some (0, none), some (0, none), none, none] xs).2) h) (fun x0 x1 x2 x3 x4 x5 h hr => s_M_launch_42 hS k64 k65 k66 k67 k74 k79 x0 x1 x2 x3 x4 x5 h hr), trivial⟩
set_option maxRecDepth 100000 in
set_option maxHeartbeats 0 in
theorem s_M_launch {l : Launch} {zi : Nat → zinfo} {r : zRes} {GO : Nat → List (Option zV) → List zV → zH → Prop} (hS : zSg l false zi (zget (999, 0, 0, 0) zc_M_launch) (zcut zu_M_launch) zin (fun _ _ => none) r GO) (k64 : ∀ (x0 x1 x2 : Int) (h : zH) (k : (Int → zH → Option zRes)) (t : (Nat → zH → Option zRes)), M_in x0 x1 x2 h k = some r → zKsp l false zi r 64 [x0, x1, x2] h k t) (k65 : ∀ (x0 x1 : Int) (h : zH) (k : (Int → zH → Option zRes)) (t : (Nat → zH → Option zRes)), M_fails x0 x1 h k = some r → zKsp l false zi r 65 [0, x0, x1] h k t) (k66 : ∀ (x0 : Int) (h : zH) (k : (Int → zH → Option zRes)) (t : (Nat → zH → Option zRes)), M_noKernel x0 h k = some r → zKsp l false zi r 66 [0, x0] h k t) (k67 : ∀ (x0 : Int) (h : zH) (k : (Int → zH → Option zRes)) (t : (Nat → zH → Option zRes)), M_noLaunch x0 h k = some r → zKsp l false zi r 67 [0, x0] h k t) (k74 : ∀ (x0 x1 : Int) (h : zH) (k : (Int → zH → Option zRes)) (t : (Nat → zH → Option zRes)), M_fit x0 x1 h k = some r → zKsp l false zi r 74 [0, x0, x1] h k t) (k79 : ∀ (x0 x1 x2 : Int) (h : zH) (k : (Int → zH → Option zRes)) (t : (Nat → zH → Option zRes)), M_add x0 x1 x2 h k = some r → zKsp l false zi r 79 [0, x0, x1, x2] h k t) (a1 a2 a3 a4 a5 : Int) (h : zH) (hr : M_launch a1 a2 a3 a4 a5 h zin = some r) : GO 0 [some (112, 0), some (0, a1), some (0, a2), some (0, a3), some (0, a4), some (0, a5), none, none] [] h := by
  have e9 := Eq.trans (Eq.symm (qe_M_launch zin a1 a2 a3 a4 a5 h)) hr
  generalize (400 : Nat) = f9 at e9
  refine hS _ _ (zcal_s (SP := zKsp l false zi r) _ ?_) (zorc_s _ ?_) _ _ _ _ _ e9
  · exact ⟨zca3_s (SP := fun xs h k t => zKsp l false zi r 64 (zfc [none, none, none] xs) h k t) k64, ⟨zca1_s (SP := fun xs h k t => zKsp l false zi r 66 (zfc [some 0, none] xs) h k t) k66, ⟨zca1_s (SP := fun xs h k t => zKsp l false zi r 67 (zfc [some 0, none] xs) h k t) k67, trivial⟩⟩⟩
  · exact ⟨zap5_s (P := fun xs h => GO 37 (zfl [some (112, some 0), some (0, none), some (0, none), some (0, none), some (0, none), some (0, none), none, none] xs).1 (zfs [] (zfl [some (112, some 0), some (0, none), some (0, none), some (0, none), some (0, none), some (0, none), none, none] xs).2) h) (fun x0 x1 x2 x3 x4 h hr => s_M_launch_37 hS k64 k65 k66 k67 k74 k79 x0 x1 x2 x3 x4 h hr), ⟨zap5_s (P := fun xs h => GO 41 (zfl [some (112, some 0), some (0, none), some (0, none), some (0, none), some (0, none), some (0, none), none, none] xs).1 (zfs [] (zfl [some (112, some 0), some (0, none), some (0, none), some (0, none), some (0, none), some (0, none), none, none] xs).2) h) (fun x0 x1 x2 x3 x4 h hr => s_M_launch_41 hS k64 k65 k66 k67 k74 k79 x0 x1 x2 x3 x4 h hr), trivial⟩⟩
set_option maxRecDepth 100000 in
set_option maxHeartbeats 0 in
theorem s_M_copy_128 {l : Launch} {zi : Nat → zinfo} {r : zRes} {GO : Nat → List (Option zV) → List zV → zH → Prop} (hS : zSg l false zi (zget (999, 0, 0, 0) zc_M_copy) (zcut zu_M_copy) zin (fun _ _ => none) r GO) (k64 : ∀ (x0 x1 x2 : Int) (h : zH) (k : (Int → zH → Option zRes)) (t : (Nat → zH → Option zRes)), M_in x0 x1 x2 h k = some r → zKsp l false zi r 64 [x0, x1, x2] h k t) (k65 : ∀ (x0 x1 : Int) (h : zH) (k : (Int → zH → Option zRes)) (t : (Nat → zH → Option zRes)), M_fails x0 x1 h k = some r → zKsp l false zi r 65 [0, x0, x1] h k t) (k67 : ∀ (x0 : Int) (h : zH) (k : (Int → zH → Option zRes)) (t : (Nat → zH → Option zRes)), M_noLaunch x0 h k = some r → zKsp l false zi r 67 [0, x0] h k t) (k68 : ∀ (x0 : Int) (h : zH) (k : (Int → zH → Option zRes)) (t : (Nat → zH → Option zRes)), M_noCell x0 h k = some r → zKsp l false zi r 68 [x0] h k t) (k79 : ∀ (x0 x1 x2 : Int) (h : zH) (k : (Int → zH → Option zRes)) (t : (Nat → zH → Option zRes)), M_add x0 x1 x2 h k = some r → zKsp l false zi r 79 [0, x0, x1, x2] h k t) (h : zH) (hr : M_copy_128 zin h = some r) : GO 128 [none, none, none, none, none, none, none, none, none] [] h := by
  have e9 := Eq.trans (Eq.symm (qe_M_copy_128 zin h)) hr
  generalize (400 : Nat) = f9 at e9
  refine hS _ _ (zcal_s (SP := zKsp l false zi r) _ ?_) (zorc_s _ ?_) _ _ _ _ _ e9
  · exact trivial
  · exact trivial
set_option maxRecDepth 100000 in
set_option maxHeartbeats 0 in
theorem s_M_copy_121 {l : Launch} {zi : Nat → zinfo} {r : zRes} {GO : Nat → List (Option zV) → List zV → zH → Prop} (hS : zSg l false zi (zget (999, 0, 0, 0) zc_M_copy) (zcut zu_M_copy) zin (fun _ _ => none) r GO) (k64 : ∀ (x0 x1 x2 : Int) (h : zH) (k : (Int → zH → Option zRes)) (t : (Nat → zH → Option zRes)), M_in x0 x1 x2 h k = some r → zKsp l false zi r 64 [x0, x1, x2] h k t) (k65 : ∀ (x0 x1 : Int) (h : zH) (k : (Int → zH → Option zRes)) (t : (Nat → zH → Option zRes)), M_fails x0 x1 h k = some r → zKsp l false zi r 65 [0, x0, x1] h k t) (k67 : ∀ (x0 : Int) (h : zH) (k : (Int → zH → Option zRes)) (t : (Nat → zH → Option zRes)), M_noLaunch x0 h k = some r → zKsp l false zi r 67 [0, x0] h k t) (k68 : ∀ (x0 : Int) (h : zH) (k : (Int → zH → Option zRes)) (t : (Nat → zH → Option zRes)), M_noCell x0 h k = some r → zKsp l false zi r 68 [x0] h k t) (k79 : ∀ (x0 x1 x2 : Int) (h : zH) (k : (Int → zH → Option zRes)) (t : (Nat → zH → Option zRes)), M_add x0 x1 x2 h k = some r → zKsp l false zi r 79 [0, x0, x1, x2] h k t) (a1 a2 a3 a4 a5 t0 : Int) (h : zH) (hr : M_copy_121 zin a1 a2 a3 a4 a5 t0 h = some r) : GO 121 [some (112, 0), some (0, a1), some (0, a2), some (0, a3), some (0, a4), some (0, a5), none, none, none] [(0, t0), (112, 0)] h := by
  have e9 := Eq.trans (Eq.symm (qe_M_copy_121 zin a1 a2 a3 a4 a5 t0 h)) hr
  generalize (400 : Nat) = f9 at e9
  refine hS _ _ (zcal_s (SP := zKsp l false zi r) _ ?_) (zorc_s _ ?_) _ _ _ _ _ e9
  · exact ⟨zca2_s (SP := fun xs h k t => zKsp l false zi r 65 (zfc [some 0, none, none] xs) h k t) k65, ⟨zca3_s (SP := fun xs h k t => zKsp l false zi r 79 (zfc [some 0, none, none, none] xs) h k t) k79, trivial⟩⟩
  · exact ⟨zap0_s (P := fun xs h => GO 128 (zfl [none, none, none, none, none, none, none, none, none] xs).1 (zfs [] (zfl [none, none, none, none, none, none, none, none, none] xs).2) h) (fun  h hr => s_M_copy_128 hS k64 k65 k67 k68 k79  h hr), trivial⟩
set_option maxRecDepth 100000 in
set_option maxHeartbeats 0 in
theorem s_M_copy_84 {l : Launch} {zi : Nat → zinfo} {r : zRes} {GO : Nat → List (Option zV) → List zV → zH → Prop} (hS : zSg l false zi (zget (999, 0, 0, 0) zc_M_copy) (zcut zu_M_copy) zin (fun _ _ => none) r GO) (k64 : ∀ (x0 x1 x2 : Int) (h : zH) (k : (Int → zH → Option zRes)) (t : (Nat → zH → Option zRes)), M_in x0 x1 x2 h k = some r → zKsp l false zi r 64 [x0, x1, x2] h k t) (k65 : ∀ (x0 x1 : Int) (h : zH) (k : (Int → zH → Option zRes)) (t : (Nat → zH → Option zRes)), M_fails x0 x1 h k = some r → zKsp l false zi r 65 [0, x0, x1] h k t) (k67 : ∀ (x0 : Int) (h : zH) (k : (Int → zH → Option zRes)) (t : (Nat → zH → Option zRes)), M_noLaunch x0 h k = some r → zKsp l false zi r 67 [0, x0] h k t) (k68 : ∀ (x0 : Int) (h : zH) (k : (Int → zH → Option zRes)) (t : (Nat → zH → Option zRes)), M_noCell x0 h k = some r → zKsp l false zi r 68 [x0] h k t) (k79 : ∀ (x0 x1 x2 : Int) (h : zH) (k : (Int → zH → Option zRes)) (t : (Nat → zH → Option zRes)), M_add x0 x1 x2 h k = some r → zKsp l false zi r 79 [0, x0, x1, x2] h k t) (a1 a2 a3 a4 a5 a6 t0 : Int) (h : zH) (hr : M_copy_84 zin a1 a2 a3 a4 a5 a6 t0 h = some r) : GO 84 [some (112, 0), some (0, a1), some (0, a2), some (0, a3), some (0, a4), some (0, a5), some (0, a6), none, none] [(0, t0)] h := by
  have e9 := Eq.trans (Eq.symm (qe_M_copy_84 zin a1 a2 a3 a4 a5 a6 t0 h)) hr
  generalize (400 : Nat) = f9 at e9
  refine hS _ _ (zcal_s (SP := zKsp l false zi r) _ ?_) (zorc_s _ ?_) _ _ _ _ _ e9
  · exact ⟨zca2_s (SP := fun xs h k t => zKsp l false zi r 65 (zfc [some 0, none, none] xs) h k t) k65, trivial⟩
  · exact ⟨zap6_s (P := fun xs h => GO 121 (zfl [some (112, some 0), some (0, none), some (0, none), some (0, none), some (0, none), some (0, none), none, none, none] xs).1 (zfs [(0, none), (112, some 0)] (zfl [some (112, some 0), some (0, none), some (0, none), some (0, none), some (0, none), some (0, none), none, none, none] xs).2) h) (fun x0 x1 x2 x3 x4 x5 h hr => s_M_copy_121 hS k64 k65 k67 k68 k79 x0 x1 x2 x3 x4 x5 h hr), ⟨zap0_s (P := fun xs h => GO 128 (zfl [none, none, none, none, none, none, none, none, none] xs).1 (zfs [] (zfl [none, none, none, none, none, none, none, none, none] xs).2) h) (fun  h hr => s_M_copy_128 hS k64 k65 k67 k68 k79  h hr), trivial⟩⟩
set_option maxRecDepth 100000 in
set_option maxHeartbeats 0 in
theorem s_M_copy_79 {l : Launch} {zi : Nat → zinfo} {r : zRes} {GO : Nat → List (Option zV) → List zV → zH → Prop} (hS : zSg l false zi (zget (999, 0, 0, 0) zc_M_copy) (zcut zu_M_copy) zin (fun _ _ => none) r GO) (k64 : ∀ (x0 x1 x2 : Int) (h : zH) (k : (Int → zH → Option zRes)) (t : (Nat → zH → Option zRes)), M_in x0 x1 x2 h k = some r → zKsp l false zi r 64 [x0, x1, x2] h k t) (k65 : ∀ (x0 x1 : Int) (h : zH) (k : (Int → zH → Option zRes)) (t : (Nat → zH → Option zRes)), M_fails x0 x1 h k = some r → zKsp l false zi r 65 [0, x0, x1] h k t) (k67 : ∀ (x0 : Int) (h : zH) (k : (Int → zH → Option zRes)) (t : (Nat → zH → Option zRes)), M_noLaunch x0 h k = some r → zKsp l false zi r 67 [0, x0] h k t) (k68 : ∀ (x0 : Int) (h : zH) (k : (Int → zH → Option zRes)) (t : (Nat → zH → Option zRes)), M_noCell x0 h k = some r → zKsp l false zi r 68 [x0] h k t) (k79 : ∀ (x0 x1 x2 : Int) (h : zH) (k : (Int → zH → Option zRes)) (t : (Nat → zH → Option zRes)), M_add x0 x1 x2 h k = some r → zKsp l false zi r 79 [0, x0, x1, x2] h k t) (a1 a2 a3 a4 a5 a6 : Int) (h : zH) (hr : M_copy_79 zin a1 a2 a3 a4 a5 a6 h = some r) : GO 79 [some (112, 0), some (0, a1), some (0, a2), some (0, a3), some (0, a4), some (0, a5), some (0, a6), none, none] [] h := by
  have e9 := Eq.trans (Eq.symm (qe_M_copy_79 zin a1 a2 a3 a4 a5 a6 h)) hr
  generalize (400 : Nat) = f9 at e9
  refine hS _ _ (zcal_s (SP := zKsp l false zi r) _ ?_) (zorc_s _ ?_) _ _ _ _ _ e9
  · exact trivial
  · exact ⟨zap7_s (P := fun xs h => GO 84 (zfl [some (112, some 0), some (0, none), some (0, none), some (0, none), some (0, none), some (0, none), some (0, none), none, none] xs).1 (zfs [(0, none)] (zfl [some (112, some 0), some (0, none), some (0, none), some (0, none), some (0, none), some (0, none), some (0, none), none, none] xs).2) h) (fun x0 x1 x2 x3 x4 x5 x6 h hr => s_M_copy_84 hS k64 k65 k67 k68 k79 x0 x1 x2 x3 x4 x5 x6 h hr), trivial⟩
set_option maxRecDepth 100000 in
set_option maxHeartbeats 0 in
theorem s_M_copy_34 {l : Launch} {zi : Nat → zinfo} {r : zRes} {GO : Nat → List (Option zV) → List zV → zH → Prop} (hS : zSg l false zi (zget (999, 0, 0, 0) zc_M_copy) (zcut zu_M_copy) zin (fun _ _ => none) r GO) (k64 : ∀ (x0 x1 x2 : Int) (h : zH) (k : (Int → zH → Option zRes)) (t : (Nat → zH → Option zRes)), M_in x0 x1 x2 h k = some r → zKsp l false zi r 64 [x0, x1, x2] h k t) (k65 : ∀ (x0 x1 : Int) (h : zH) (k : (Int → zH → Option zRes)) (t : (Nat → zH → Option zRes)), M_fails x0 x1 h k = some r → zKsp l false zi r 65 [0, x0, x1] h k t) (k67 : ∀ (x0 : Int) (h : zH) (k : (Int → zH → Option zRes)) (t : (Nat → zH → Option zRes)), M_noLaunch x0 h k = some r → zKsp l false zi r 67 [0, x0] h k t) (k68 : ∀ (x0 : Int) (h : zH) (k : (Int → zH → Option zRes)) (t : (Nat → zH → Option zRes)), M_noCell x0 h k = some r → zKsp l false zi r 68 [x0] h k t) (k79 : ∀ (x0 x1 x2 : Int) (h : zH) (k : (Int → zH → Option zRes)) (t : (Nat → zH → Option zRes)), M_add x0 x1 x2 h k = some r → zKsp l false zi r 79 [0, x0, x1, x2] h k t) (a1 a2 a3 a4 a5 t0 : Int) (h : zH) (hr : M_copy_34 zin a1 a2 a3 a4 a5 t0 h = some r) : GO 34 [some (112, 0), some (0, a1), some (0, a2), some (0, a3), some (0, a4), some (0, a5), none, none, none] [(0, t0)] h := by
  have e9 := Eq.trans (Eq.symm (qe_M_copy_34 zin a1 a2 a3 a4 a5 t0 h)) hr
  generalize (400 : Nat) = f9 at e9
  refine hS _ _ (zcal_s (SP := zKsp l false zi r) _ ?_) (zorc_s _ ?_) _ _ _ _ _ e9
  · exact ⟨zca3_s (SP := fun xs h k t => zKsp l false zi r 64 (zfc [none, none, none] xs) h k t) k64, ⟨zca1_s (SP := fun xs h k t => zKsp l false zi r 68 (zfc [none] xs) h k t) k68, trivial⟩⟩
  · exact ⟨zap6_s (P := fun xs h => GO 79 (zfl [some (112, some 0), some (0, none), some (0, none), some (0, none), some (0, none), some (0, none), some (0, none), none, none] xs).1 (zfs [] (zfl [some (112, some 0), some (0, none), some (0, none), some (0, none), some (0, none), some (0, none), some (0, none), none, none] xs).2) h) (fun x0 x1 x2 x3 x4 x5 h hr => s_M_copy_79 hS k64 k65 k67 k68 k79 x0 x1 x2 x3 x4 x5 h hr), ⟨zap7_s (P := fun xs h => GO 84 (zfl [some (112, some 0), some (0, none), some (0, none), some (0, none), some (0, none), some (0, none), some (0, none), none, none] xs).1 (zfs [(0, none)] (zfl [some (112, some 0), some (0, none), some (0, none), some (0, none), some (0, none), some (0, none), some (0, none), none, none] xs).2) h) (fun x0 x1 x2 x3 x4 x5 x6 h hr => s_M_copy_84 hS k64 k65 k67 k68 k79 x0 x1 x2 x3 x4 x5 x6 h hr), trivial⟩⟩
set_option maxRecDepth 100000 in
set_option maxHeartbeats 0 in
theorem s_M_copy_29 {l : Launch} {zi : Nat → zinfo} {r : zRes} {GO : Nat → List (Option zV) → List zV → zH → Prop} (hS : zSg l false zi (zget (999, 0, 0, 0) zc_M_copy) (zcut zu_M_copy) zin (fun _ _ => none) r GO) (k64 : ∀ (x0 x1 x2 : Int) (h : zH) (k : (Int → zH → Option zRes)) (t : (Nat → zH → Option zRes)), M_in x0 x1 x2 h k = some r → zKsp l false zi r 64 [x0, x1, x2] h k t) (k65 : ∀ (x0 x1 : Int) (h : zH) (k : (Int → zH → Option zRes)) (t : (Nat → zH → Option zRes)), M_fails x0 x1 h k = some r → zKsp l false zi r 65 [0, x0, x1] h k t) (k67 : ∀ (x0 : Int) (h : zH) (k : (Int → zH → Option zRes)) (t : (Nat → zH → Option zRes)), M_noLaunch x0 h k = some r → zKsp l false zi r 67 [0, x0] h k t) (k68 : ∀ (x0 : Int) (h : zH) (k : (Int → zH → Option zRes)) (t : (Nat → zH → Option zRes)), M_noCell x0 h k = some r → zKsp l false zi r 68 [x0] h k t) (k79 : ∀ (x0 x1 x2 : Int) (h : zH) (k : (Int → zH → Option zRes)) (t : (Nat → zH → Option zRes)), M_add x0 x1 x2 h k = some r → zKsp l false zi r 79 [0, x0, x1, x2] h k t) (a1 a2 a3 a4 a5 : Int) (h : zH) (hr : M_copy_29 zin a1 a2 a3 a4 a5 h = some r) : GO 29 [some (112, 0), some (0, a1), some (0, a2), some (0, a3), some (0, a4), some (0, a5), none, none, none] [] h := by
  have e9 := Eq.trans (Eq.symm (qe_M_copy_29 zin a1 a2 a3 a4 a5 h)) hr
  generalize (400 : Nat) = f9 at e9
  refine hS _ _ (zcal_s (SP := zKsp l false zi r) _ ?_) (zorc_s _ ?_) _ _ _ _ _ e9
  · exact trivial
  · exact ⟨zap6_s (P := fun xs h => GO 34 (zfl [some (112, some 0), some (0, none), some (0, none), some (0, none), some (0, none), some (0, none), none, none, none] xs).1 (zfs [(0, none)] (zfl [some (112, some 0), some (0, none), some (0, none), some (0, none), some (0, none), some (0, none), none, none, none] xs).2) h) (fun x0 x1 x2 x3 x4 x5 h hr => s_M_copy_34 hS k64 k65 k67 k68 k79 x0 x1 x2 x3 x4 x5 h hr), trivial⟩
set_option maxRecDepth 100000 in
set_option maxHeartbeats 0 in
theorem s_M_copy_33 {l : Launch} {zi : Nat → zinfo} {r : zRes} {GO : Nat → List (Option zV) → List zV → zH → Prop} (hS : zSg l false zi (zget (999, 0, 0, 0) zc_M_copy) (zcut zu_M_copy) zin (fun _ _ => none) r GO) (k64 : ∀ (x0 x1 x2 : Int) (h : zH) (k : (Int → zH → Option zRes)) (t : (Nat → zH → Option zRes)), M_in x0 x1 x2 h k = some r → zKsp l false zi r 64 [x0, x1, x2] h k t) (k65 : ∀ (x0 x1 : Int) (h : zH) (k : (Int → zH → Option zRes)) (t : (Nat → zH → Option zRes)), M_fails x0 x1 h k = some r → zKsp l false zi r 65 [0, x0, x1] h k t) (k67 : ∀ (x0 : Int) (h : zH) (k : (Int → zH → Option zRes)) (t : (Nat → zH → Option zRes)), M_noLaunch x0 h k = some r → zKsp l false zi r 67 [0, x0] h k t) (k68 : ∀ (x0 : Int) (h : zH) (k : (Int → zH → Option zRes)) (t : (Nat → zH → Option zRes)), M_noCell x0 h k = some r → zKsp l false zi r 68 [x0] h k t) (k79 : ∀ (x0 x1 x2 : Int) (h : zH) (k : (Int → zH → Option zRes)) (t : (Nat → zH → Option zRes)), M_add x0 x1 x2 h k = some r → zKsp l false zi r 79 [0, x0, x1, x2] h k t) (a1 a2 a3 a4 a5 : Int) (h : zH) (hr : M_copy_33 zin a1 a2 a3 a4 a5 h = some r) : GO 33 [some (112, 0), some (0, a1), some (0, a2), some (0, a3), some (0, a4), some (0, a5), none, none, none] [] h := by
  have e9 := Eq.trans (Eq.symm (qe_M_copy_33 zin a1 a2 a3 a4 a5 h)) hr
  generalize (400 : Nat) = f9 at e9
  refine hS _ _ (zcal_s (SP := zKsp l false zi r) _ ?_) (zorc_s _ ?_) _ _ _ _ _ e9
  · exact trivial
  · exact ⟨zap6_s (P := fun xs h => GO 34 (zfl [some (112, some 0), some (0, none), some (0, none), some (0, none), some (0, none), some (0, none), none, none, none] xs).1 (zfs [(0, none)] (zfl [some (112, some 0), some (0, none), some (0, none), some (0, none), some (0, none), some (0, none), none, none, none] xs).2) h) (fun x0 x1 x2 x3 x4 x5 h hr => s_M_copy_34 hS k64 k65 k67 k68 k79 x0 x1 x2 x3 x4 x5 h hr), trivial⟩
set_option maxRecDepth 100000 in
set_option maxHeartbeats 0 in
theorem s_M_copy {l : Launch} {zi : Nat → zinfo} {r : zRes} {GO : Nat → List (Option zV) → List zV → zH → Prop} (hS : zSg l false zi (zget (999, 0, 0, 0) zc_M_copy) (zcut zu_M_copy) zin (fun _ _ => none) r GO) (k64 : ∀ (x0 x1 x2 : Int) (h : zH) (k : (Int → zH → Option zRes)) (t : (Nat → zH → Option zRes)), M_in x0 x1 x2 h k = some r → zKsp l false zi r 64 [x0, x1, x2] h k t) (k65 : ∀ (x0 x1 : Int) (h : zH) (k : (Int → zH → Option zRes)) (t : (Nat → zH → Option zRes)), M_fails x0 x1 h k = some r → zKsp l false zi r 65 [0, x0, x1] h k t) (k67 : ∀ (x0 : Int) (h : zH) (k : (Int → zH → Option zRes)) (t : (Nat → zH → Option zRes)), M_noLaunch x0 h k = some r → zKsp l false zi r 67 [0, x0] h k t) (k68 : ∀ (x0 : Int) (h : zH) (k : (Int → zH → Option zRes)) (t : (Nat → zH → Option zRes)), M_noCell x0 h k = some r → zKsp l false zi r 68 [x0] h k t) (k79 : ∀ (x0 x1 x2 : Int) (h : zH) (k : (Int → zH → Option zRes)) (t : (Nat → zH → Option zRes)), M_add x0 x1 x2 h k = some r → zKsp l false zi r 79 [0, x0, x1, x2] h k t) (a1 a2 a3 a4 a5 : Int) (h : zH) (hr : M_copy a1 a2 a3 a4 a5 h zin = some r) : GO 0 [some (112, 0), some (0, a1), some (0, a2), some (0, a3), some (0, a4), some (0, a5), none, none, none] [] h := by
  have e9 := Eq.trans (Eq.symm (qe_M_copy zin a1 a2 a3 a4 a5 h)) hr
  generalize (400 : Nat) = f9 at e9
  refine hS _ _ (zcal_s (SP := zKsp l false zi r) _ ?_) (zorc_s _ ?_) _ _ _ _ _ e9
  · exact ⟨zca3_s (SP := fun xs h k t => zKsp l false zi r 64 (zfc [none, none, none] xs) h k t) k64, ⟨zca1_s (SP := fun xs h k t => zKsp l false zi r 67 (zfc [some 0, none] xs) h k t) k67, trivial⟩⟩
  · exact ⟨zap5_s (P := fun xs h => GO 29 (zfl [some (112, some 0), some (0, none), some (0, none), some (0, none), some (0, none), some (0, none), none, none, none] xs).1 (zfs [] (zfl [some (112, some 0), some (0, none), some (0, none), some (0, none), some (0, none), some (0, none), none, none, none] xs).2) h) (fun x0 x1 x2 x3 x4 h hr => s_M_copy_29 hS k64 k65 k67 k68 k79 x0 x1 x2 x3 x4 h hr), ⟨zap5_s (P := fun xs h => GO 33 (zfl [some (112, some 0), some (0, none), some (0, none), some (0, none), some (0, none), some (0, none), none, none, none] xs).1 (zfs [] (zfl [some (112, some 0), some (0, none), some (0, none), some (0, none), some (0, none), some (0, none), none, none, none] xs).2) h) (fun x0 x1 x2 x3 x4 h hr => s_M_copy_33 hS k64 k65 k67 k68 k79 x0 x1 x2 x3 x4 h hr), trivial⟩⟩
set_option maxRecDepth 100000 in
set_option maxHeartbeats 0 in
theorem s_M_launchChild_63 {l : Launch} {zi : Nat → zinfo} {r : zRes} {GO : Nat → List (Option zV) → List zV → zH → Prop} (hS : zSg l false zi (zget (999, 0, 0, 0) zc_M_launchChild) (zcut zu_M_launchChild) zin (fun _ _ => none) r GO) (k64 : ∀ (x0 x1 x2 : Int) (h : zH) (k : (Int → zH → Option zRes)) (t : (Nat → zH → Option zRes)), M_in x0 x1 x2 h k = some r → zKsp l false zi r 64 [x0, x1, x2] h k t) (k66 : ∀ (x0 : Int) (h : zH) (k : (Int → zH → Option zRes)) (t : (Nat → zH → Option zRes)), M_noKernel x0 h k = some r → zKsp l false zi r 66 [0, x0] h k t) (k74 : ∀ (x0 x1 : Int) (h : zH) (k : (Int → zH → Option zRes)) (t : (Nat → zH → Option zRes)), M_fit x0 x1 h k = some r → zKsp l false zi r 74 [0, x0, x1] h k t) (k79 : ∀ (x0 x1 x2 : Int) (h : zH) (k : (Int → zH → Option zRes)) (t : (Nat → zH → Option zRes)), M_add x0 x1 x2 h k = some r → zKsp l false zi r 79 [0, x0, x1, x2] h k t) (a1 a2 a3 t0 : Int) (h : zH) (hr : M_launchChild_63 zin a1 a2 a3 t0 h = some r) : GO 63 [some (112, 0), some (0, a1), some (0, a2), some (0, a3), none, none] [(0, t0)] h := by
  have e9 := Eq.trans (Eq.symm (qe_M_launchChild_63 zin a1 a2 a3 t0 h)) hr
  generalize (400 : Nat) = f9 at e9
  refine hS _ _ (zcal_s (SP := zKsp l false zi r) _ ?_) (zorc_s _ ?_) _ _ _ _ _ e9
  · exact ⟨zca3_s (SP := fun xs h k t => zKsp l false zi r 79 (zfc [some 0, none, none, none] xs) h k t) k79, trivial⟩
  · exact trivial
set_option maxRecDepth 100000 in
set_option maxHeartbeats 0 in
theorem s_M_launchChild_62 {l : Launch} {zi : Nat → zinfo} {r : zRes} {GO : Nat → List (Option zV) → List zV → zH → Prop} (hS : zSg l false zi (zget (999, 0, 0, 0) zc_M_launchChild) (zcut zu_M_launchChild) zin (fun _ _ => none) r GO) (k64 : ∀ (x0 x1 x2 : Int) (h : zH) (k : (Int → zH → Option zRes)) (t : (Nat → zH → Option zRes)), M_in x0 x1 x2 h k = some r → zKsp l false zi r 64 [x0, x1, x2] h k t) (k66 : ∀ (x0 : Int) (h : zH) (k : (Int → zH → Option zRes)) (t : (Nat → zH → Option zRes)), M_noKernel x0 h k = some r → zKsp l false zi r 66 [0, x0] h k t) (k74 : ∀ (x0 x1 : Int) (h : zH) (k : (Int → zH → Option zRes)) (t : (Nat → zH → Option zRes)), M_fit x0 x1 h k = some r → zKsp l false zi r 74 [0, x0, x1] h k t) (k79 : ∀ (x0 x1 x2 : Int) (h : zH) (k : (Int → zH → Option zRes)) (t : (Nat → zH → Option zRes)), M_add x0 x1 x2 h k = some r → zKsp l false zi r 79 [0, x0, x1, x2] h k t) (a1 a2 a3 : Int) (h : zH) (hr : M_launchChild_62 zin a1 a2 a3 h = some r) : GO 62 [some (112, 0), some (0, a1), some (0, a2), some (0, a3), none, none] [] h := by
  have e9 := Eq.trans (Eq.symm (qe_M_launchChild_62 zin a1 a2 a3 h)) hr
  generalize (400 : Nat) = f9 at e9
  refine hS _ _ (zcal_s (SP := zKsp l false zi r) _ ?_) (zorc_s _ ?_) _ _ _ _ _ e9
  · exact trivial
  · exact ⟨zap4_s (P := fun xs h => GO 63 (zfl [some (112, some 0), some (0, none), some (0, none), some (0, none), none, none] xs).1 (zfs [(0, none)] (zfl [some (112, some 0), some (0, none), some (0, none), some (0, none), none, none] xs).2) h) (fun x0 x1 x2 x3 h hr => s_M_launchChild_63 hS k64 k66 k74 k79 x0 x1 x2 x3 h hr), trivial⟩
set_option maxRecDepth 100000 in
set_option maxHeartbeats 0 in
theorem s_M_launchChild_42 {l : Launch} {zi : Nat → zinfo} {r : zRes} {GO : Nat → List (Option zV) → List zV → zH → Prop} (hS : zSg l false zi (zget (999, 0, 0, 0) zc_M_launchChild) (zcut zu_M_launchChild) zin (fun _ _ => none) r GO) (k64 : ∀ (x0 x1 x2 : Int) (h : zH) (k : (Int → zH → Option zRes)) (t : (Nat → zH → Option zRes)), M_in x0 x1 x2 h k = some r → zKsp l false zi r 64 [x0, x1, x2] h k t) (k66 : ∀ (x0 : Int) (h : zH) (k : (Int → zH → Option zRes)) (t : (Nat → zH → Option zRes)), M_noKernel x0 h k = some r → zKsp l false zi r 66 [0, x0] h k t) (k74 : ∀ (x0 x1 : Int) (h : zH) (k : (Int → zH → Option zRes)) (t : (Nat → zH → Option zRes)), M_fit x0 x1 h k = some r → zKsp l false zi r 74 [0, x0, x1] h k t) (k79 : ∀ (x0 x1 x2 : Int) (h : zH) (k : (Int → zH → Option zRes)) (t : (Nat → zH → Option zRes)), M_add x0 x1 x2 h k = some r → zKsp l false zi r 79 [0, x0, x1, x2] h k t) (a1 a2 a3 t0 : Int) (h : zH) (hr : M_launchChild_42 zin a1 a2 a3 t0 h = some r) : GO 42 [some (112, 0), some (0, a1), some (0, a2), some (0, a3), none, none] [(0, t0)] h := by
  have e9 := Eq.trans (Eq.symm (qe_M_launchChild_42 zin a1 a2 a3 t0 h)) hr
  generalize (400 : Nat) = f9 at e9
  refine hS _ _ (zcal_s (SP := zKsp l false zi r) _ ?_) (zorc_s _ ?_) _ _ _ _ _ e9
  · exact ⟨zca2_s (SP := fun xs h k t => zKsp l false zi r 74 (zfc [some 0, none, none] xs) h k t) k74, trivial⟩
  · exact ⟨zap3_s (P := fun xs h => GO 62 (zfl [some (112, some 0), some (0, none), some (0, none), some (0, none), none, none] xs).1 (zfs [] (zfl [some (112, some 0), some (0, none), some (0, none), some (0, none), none, none] xs).2) h) (fun x0 x1 x2 h hr => s_M_launchChild_62 hS k64 k66 k74 k79 x0 x1 x2 h hr), ⟨zap4_s (P := fun xs h => GO 63 (zfl [some (112, some 0), some (0, none), some (0, none), some (0, none), none, none] xs).1 (zfs [(0, none)] (zfl [some (112, some 0), some (0, none), some (0, none), some (0, none), none, none] xs).2) h) (fun x0 x1 x2 x3 h hr => s_M_launchChild_63 hS k64 k66 k74 k79 x0 x1 x2 x3 h hr), trivial⟩⟩
set_option maxRecDepth 100000 in
set_option maxHeartbeats 0 in
theorem s_M_launchChild_41 {l : Launch} {zi : Nat → zinfo} {r : zRes} {GO : Nat → List (Option zV) → List zV → zH → Prop} (hS : zSg l false zi (zget (999, 0, 0, 0) zc_M_launchChild) (zcut zu_M_launchChild) zin (fun _ _ => none) r GO) (k64 : ∀ (x0 x1 x2 : Int) (h : zH) (k : (Int → zH → Option zRes)) (t : (Nat → zH → Option zRes)), M_in x0 x1 x2 h k = some r → zKsp l false zi r 64 [x0, x1, x2] h k t) (k66 : ∀ (x0 : Int) (h : zH) (k : (Int → zH → Option zRes)) (t : (Nat → zH → Option zRes)), M_noKernel x0 h k = some r → zKsp l false zi r 66 [0, x0] h k t) (k74 : ∀ (x0 x1 : Int) (h : zH) (k : (Int → zH → Option zRes)) (t : (Nat → zH → Option zRes)), M_fit x0 x1 h k = some r → zKsp l false zi r 74 [0, x0, x1] h k t) (k79 : ∀ (x0 x1 x2 : Int) (h : zH) (k : (Int → zH → Option zRes)) (t : (Nat → zH → Option zRes)), M_add x0 x1 x2 h k = some r → zKsp l false zi r 79 [0, x0, x1, x2] h k t) (a1 a2 a3 : Int) (h : zH) (hr : M_launchChild_41 zin a1 a2 a3 h = some r) : GO 41 [some (112, 0), some (0, a1), some (0, a2), some (0, a3), none, none] [] h := by
  have e9 := Eq.trans (Eq.symm (qe_M_launchChild_41 zin a1 a2 a3 h)) hr
  generalize (400 : Nat) = f9 at e9
  refine hS _ _ (zcal_s (SP := zKsp l false zi r) _ ?_) (zorc_s _ ?_) _ _ _ _ _ e9
  · exact trivial
  · exact ⟨zap4_s (P := fun xs h => GO 42 (zfl [some (112, some 0), some (0, none), some (0, none), some (0, none), none, none] xs).1 (zfs [(0, none)] (zfl [some (112, some 0), some (0, none), some (0, none), some (0, none), none, none] xs).2) h) (fun x0 x1 x2 x3 h hr => s_M_launchChild_42 hS k64 k66 k74 k79 x0 x1 x2 x3 h hr), trivial⟩
set_option maxRecDepth 100000 in
set_option maxHeartbeats 0 in
theorem s_M_launchChild {l : Launch} {zi : Nat → zinfo} {r : zRes} {GO : Nat → List (Option zV) → List zV → zH → Prop} (hS : zSg l false zi (zget (999, 0, 0, 0) zc_M_launchChild) (zcut zu_M_launchChild) zin (fun _ _ => none) r GO) (k64 : ∀ (x0 x1 x2 : Int) (h : zH) (k : (Int → zH → Option zRes)) (t : (Nat → zH → Option zRes)), M_in x0 x1 x2 h k = some r → zKsp l false zi r 64 [x0, x1, x2] h k t) (k66 : ∀ (x0 : Int) (h : zH) (k : (Int → zH → Option zRes)) (t : (Nat → zH → Option zRes)), M_noKernel x0 h k = some r → zKsp l false zi r 66 [0, x0] h k t) (k74 : ∀ (x0 x1 : Int) (h : zH) (k : (Int → zH → Option zRes)) (t : (Nat → zH → Option zRes)), M_fit x0 x1 h k = some r → zKsp l false zi r 74 [0, x0, x1] h k t) (k79 : ∀ (x0 x1 x2 : Int) (h : zH) (k : (Int → zH → Option zRes)) (t : (Nat → zH → Option zRes)), M_add x0 x1 x2 h k = some r → zKsp l false zi r 79 [0, x0, x1, x2] h k t) (a1 a2 a3 : Int) (h : zH) (hr : M_launchChild a1 a2 a3 h zin = some r) : GO 0 [some (112, 0), some (0, a1), some (0, a2), some (0, a3), none, none] [] h := by
  have e9 := Eq.trans (Eq.symm (qe_M_launchChild zin a1 a2 a3 h)) hr
  generalize (400 : Nat) = f9 at e9
  refine hS _ _ (zcal_s (SP := zKsp l false zi r) _ ?_) (zorc_s _ ?_) _ _ _ _ _ e9
  · exact ⟨zca3_s (SP := fun xs h k t => zKsp l false zi r 64 (zfc [none, none, none] xs) h k t) k64, ⟨zca1_s (SP := fun xs h k t => zKsp l false zi r 66 (zfc [some 0, none] xs) h k t) k66, trivial⟩⟩
  · exact ⟨zap3_s (P := fun xs h => GO 41 (zfl [some (112, some 0), some (0, none), some (0, none), some (0, none), none, none] xs).1 (zfs [] (zfl [some (112, some 0), some (0, none), some (0, none), some (0, none), none, none] xs).2) h) (fun x0 x1 x2 h hr => s_M_launchChild_41 hS k64 k66 k74 k79 x0 x1 x2 h hr), ⟨zap4_s (P := fun xs h => GO 42 (zfl [some (112, some 0), some (0, none), some (0, none), some (0, none), none, none] xs).1 (zfs [(0, none)] (zfl [some (112, some 0), some (0, none), some (0, none), some (0, none), none, none] xs).2) h) (fun x0 x1 x2 x3 h hr => s_M_launchChild_42 hS k64 k66 k74 k79 x0 x1 x2 x3 h hr), trivial⟩⟩
set_option maxRecDepth 100000 in
set_option maxHeartbeats 0 in
theorem s_M_launches {l : Launch} {zi : Nat → zinfo} {r : zRes} {GO : Nat → List (Option zV) → List zV → zH → Prop} (hS : zSg l false zi (zget (999, 0, 0, 0) zc_M_launches) (zcut zu_M_launches) zin (fun _ _ => none) r GO) (h : zH) (hr : M_launches h zin = some r) : GO 0 [some (112, 0)] [] h := by
  have e9 := Eq.trans (Eq.symm (qe_M_launches zin h)) hr
  generalize (400 : Nat) = f9 at e9
  refine hS _ _ (zcal_s (SP := zKsp l false zi r) _ ?_) (zorc_s _ ?_) _ _ _ _ _ e9
  · exact trivial
  · exact trivial
set_option maxRecDepth 100000 in
set_option maxHeartbeats 0 in
theorem s_M_state_28 {l : Launch} {zi : Nat → zinfo} {r : zRes} {GO : Nat → List (Option zV) → List zV → zH → Prop} (hS : zSg l false zi (zget (999, 0, 0, 0) zc_M_state) (zcut zu_M_state) zin (fun _ _ => none) r GO) (k65 : ∀ (x0 x1 : Int) (h : zH) (k : (Int → zH → Option zRes)) (t : (Nat → zH → Option zRes)), M_fails x0 x1 h k = some r → zKsp l false zi r 65 [0, x0, x1] h k t) (k67 : ∀ (x0 : Int) (h : zH) (k : (Int → zH → Option zRes)) (t : (Nat → zH → Option zRes)), M_noLaunch x0 h k = some r → zKsp l false zi r 67 [0, x0] h k t) (t0 : Int) (h : zH) (hr : M_state_28 zin t0 h = some r) : GO 28 [none, none] [(0, t0)] h := by
  have e9 := Eq.trans (Eq.symm (qe_M_state_28 zin t0 h)) hr
  generalize (400 : Nat) = f9 at e9
  refine hS _ _ (zcal_s (SP := zKsp l false zi r) _ ?_) (zorc_s _ ?_) _ _ _ _ _ e9
  · exact trivial
  · exact trivial
set_option maxRecDepth 100000 in
set_option maxHeartbeats 0 in
theorem s_M_state {l : Launch} {zi : Nat → zinfo} {r : zRes} {GO : Nat → List (Option zV) → List zV → zH → Prop} (hS : zSg l false zi (zget (999, 0, 0, 0) zc_M_state) (zcut zu_M_state) zin (fun _ _ => none) r GO) (k65 : ∀ (x0 x1 : Int) (h : zH) (k : (Int → zH → Option zRes)) (t : (Nat → zH → Option zRes)), M_fails x0 x1 h k = some r → zKsp l false zi r 65 [0, x0, x1] h k t) (k67 : ∀ (x0 : Int) (h : zH) (k : (Int → zH → Option zRes)) (t : (Nat → zH → Option zRes)), M_noLaunch x0 h k = some r → zKsp l false zi r 67 [0, x0] h k t) (a1 : Int) (h : zH) (hr : M_state a1 h zin = some r) : GO 0 [some (112, 0), some (0, a1)] [] h := by
  have e9 := Eq.trans (Eq.symm (qe_M_state zin a1 h)) hr
  generalize (400 : Nat) = f9 at e9
  refine hS _ _ (zcal_s (SP := zKsp l false zi r) _ ?_) (zorc_s _ ?_) _ _ _ _ _ e9
  · exact ⟨zca2_s (SP := fun xs h k t => zKsp l false zi r 65 (zfc [some 0, none, none] xs) h k t) k65, ⟨zca1_s (SP := fun xs h k t => zKsp l false zi r 67 (zfc [some 0, none] xs) h k t) k67, trivial⟩⟩
  · exact ⟨zap1_s (P := fun xs h => GO 28 (zfl [none, none] xs).1 (zfs [(0, none)] (zfl [none, none] xs).2) h) (fun x0 h hr => s_M_state_28 hS k65 k67 x0 h hr), trivial⟩
set_option maxRecDepth 100000 in
set_option maxHeartbeats 0 in
theorem s_M_parent_51 {l : Launch} {zi : Nat → zinfo} {r : zRes} {GO : Nat → List (Option zV) → List zV → zH → Prop} (hS : zSg l false zi (zget (999, 0, 0, 0) zc_M_parent) (zcut zu_M_parent) zin (fun _ _ => none) r GO) (k65 : ∀ (x0 x1 : Int) (h : zH) (k : (Int → zH → Option zRes)) (t : (Nat → zH → Option zRes)), M_fails x0 x1 h k = some r → zKsp l false zi r 65 [0, x0, x1] h k t) (k67 : ∀ (x0 : Int) (h : zH) (k : (Int → zH → Option zRes)) (t : (Nat → zH → Option zRes)), M_noLaunch x0 h k = some r → zKsp l false zi r 67 [0, x0] h k t) (t0 : Int) (h : zH) (hr : M_parent_51 zin t0 h = some r) : GO 51 [none, none] [(0, t0)] h := by
  have e9 := Eq.trans (Eq.symm (qe_M_parent_51 zin t0 h)) hr
  generalize (400 : Nat) = f9 at e9
  refine hS _ _ (zcal_s (SP := zKsp l false zi r) _ ?_) (zorc_s _ ?_) _ _ _ _ _ e9
  · exact trivial
  · exact trivial
set_option maxRecDepth 100000 in
set_option maxHeartbeats 0 in
theorem s_M_parent_41 {l : Launch} {zi : Nat → zinfo} {r : zRes} {GO : Nat → List (Option zV) → List zV → zH → Prop} (hS : zSg l false zi (zget (999, 0, 0, 0) zc_M_parent) (zcut zu_M_parent) zin (fun _ _ => none) r GO) (k65 : ∀ (x0 x1 : Int) (h : zH) (k : (Int → zH → Option zRes)) (t : (Nat → zH → Option zRes)), M_fails x0 x1 h k = some r → zKsp l false zi r 65 [0, x0, x1] h k t) (k67 : ∀ (x0 : Int) (h : zH) (k : (Int → zH → Option zRes)) (t : (Nat → zH → Option zRes)), M_noLaunch x0 h k = some r → zKsp l false zi r 67 [0, x0] h k t) (h : zH) (hr : M_parent_41 zin h = some r) : GO 41 [none, none] [] h := by
  have e9 := Eq.trans (Eq.symm (qe_M_parent_41 zin h)) hr
  generalize (400 : Nat) = f9 at e9
  refine hS _ _ (zcal_s (SP := zKsp l false zi r) _ ?_) (zorc_s _ ?_) _ _ _ _ _ e9
  · exact trivial
  · exact ⟨zap1_s (P := fun xs h => GO 51 (zfl [none, none] xs).1 (zfs [(0, none)] (zfl [none, none] xs).2) h) (fun x0 h hr => s_M_parent_51 hS k65 k67 x0 h hr), trivial⟩
set_option maxRecDepth 100000 in
set_option maxHeartbeats 0 in
theorem s_M_parent_34 {l : Launch} {zi : Nat → zinfo} {r : zRes} {GO : Nat → List (Option zV) → List zV → zH → Prop} (hS : zSg l false zi (zget (999, 0, 0, 0) zc_M_parent) (zcut zu_M_parent) zin (fun _ _ => none) r GO) (k65 : ∀ (x0 x1 : Int) (h : zH) (k : (Int → zH → Option zRes)) (t : (Nat → zH → Option zRes)), M_fails x0 x1 h k = some r → zKsp l false zi r 65 [0, x0, x1] h k t) (k67 : ∀ (x0 : Int) (h : zH) (k : (Int → zH → Option zRes)) (t : (Nat → zH → Option zRes)), M_noLaunch x0 h k = some r → zKsp l false zi r 67 [0, x0] h k t) (a1 t0 : Int) (h : zH) (hr : M_parent_34 zin a1 t0 h = some r) : GO 34 [some (112, 0), some (0, a1)] [(0, t0), (112, 0)] h := by
  have e9 := Eq.trans (Eq.symm (qe_M_parent_34 zin a1 t0 h)) hr
  generalize (400 : Nat) = f9 at e9
  refine hS _ _ (zcal_s (SP := zKsp l false zi r) _ ?_) (zorc_s _ ?_) _ _ _ _ _ e9
  · exact ⟨zca2_s (SP := fun xs h k t => zKsp l false zi r 65 (zfc [some 0, none, none] xs) h k t) k65, trivial⟩
  · exact ⟨zap0_s (P := fun xs h => GO 41 (zfl [none, none] xs).1 (zfs [] (zfl [none, none] xs).2) h) (fun  h hr => s_M_parent_41 hS k65 k67  h hr), ⟨zap1_s (P := fun xs h => GO 51 (zfl [none, none] xs).1 (zfs [(0, none)] (zfl [none, none] xs).2) h) (fun x0 h hr => s_M_parent_51 hS k65 k67 x0 h hr), trivial⟩⟩
set_option maxRecDepth 100000 in
set_option maxHeartbeats 0 in
theorem s_M_parent {l : Launch} {zi : Nat → zinfo} {r : zRes} {GO : Nat → List (Option zV) → List zV → zH → Prop} (hS : zSg l false zi (zget (999, 0, 0, 0) zc_M_parent) (zcut zu_M_parent) zin (fun _ _ => none) r GO) (k65 : ∀ (x0 x1 : Int) (h : zH) (k : (Int → zH → Option zRes)) (t : (Nat → zH → Option zRes)), M_fails x0 x1 h k = some r → zKsp l false zi r 65 [0, x0, x1] h k t) (k67 : ∀ (x0 : Int) (h : zH) (k : (Int → zH → Option zRes)) (t : (Nat → zH → Option zRes)), M_noLaunch x0 h k = some r → zKsp l false zi r 67 [0, x0] h k t) (a1 : Int) (h : zH) (hr : M_parent a1 h zin = some r) : GO 0 [some (112, 0), some (0, a1)] [] h := by
  have e9 := Eq.trans (Eq.symm (qe_M_parent zin a1 h)) hr
  generalize (400 : Nat) = f9 at e9
  refine hS _ _ (zcal_s (SP := zKsp l false zi r) _ ?_) (zorc_s _ ?_) _ _ _ _ _ e9
  · exact ⟨zca2_s (SP := fun xs h k t => zKsp l false zi r 65 (zfc [some 0, none, none] xs) h k t) k65, ⟨zca1_s (SP := fun xs h k t => zKsp l false zi r 67 (zfc [some 0, none] xs) h k t) k67, trivial⟩⟩
  · exact ⟨zap2_s (P := fun xs h => GO 34 (zfl [some (112, some 0), some (0, none)] xs).1 (zfs [(0, none), (112, some 0)] (zfl [some (112, some 0), some (0, none)] xs).2) h) (fun x0 x1 h hr => s_M_parent_34 hS k65 k67 x0 x1 h hr), ⟨zap0_s (P := fun xs h => GO 41 (zfl [none, none] xs).1 (zfs [] (zfl [none, none] xs).2) h) (fun  h hr => s_M_parent_41 hS k65 k67  h hr), trivial⟩⟩
set_option maxRecDepth 100000 in
set_option maxHeartbeats 0 in
theorem s_M_given_28 {l : Launch} {zi : Nat → zinfo} {r : zRes} {GO : Nat → List (Option zV) → List zV → zH → Prop} (hS : zSg l false zi (zget (999, 0, 0, 0) zc_M_given) (zcut zu_M_given) zin (fun _ _ => none) r GO) (k65 : ∀ (x0 x1 : Int) (h : zH) (k : (Int → zH → Option zRes)) (t : (Nat → zH → Option zRes)), M_fails x0 x1 h k = some r → zKsp l false zi r 65 [0, x0, x1] h k t) (k67 : ∀ (x0 : Int) (h : zH) (k : (Int → zH → Option zRes)) (t : (Nat → zH → Option zRes)), M_noLaunch x0 h k = some r → zKsp l false zi r 67 [0, x0] h k t) (t0 : Int) (h : zH) (hr : M_given_28 zin t0 h = some r) : GO 28 [none, none] [(0, t0)] h := by
  have e9 := Eq.trans (Eq.symm (qe_M_given_28 zin t0 h)) hr
  generalize (400 : Nat) = f9 at e9
  refine hS _ _ (zcal_s (SP := zKsp l false zi r) _ ?_) (zorc_s _ ?_) _ _ _ _ _ e9
  · exact trivial
  · exact trivial
set_option maxRecDepth 100000 in
set_option maxHeartbeats 0 in
theorem s_M_given {l : Launch} {zi : Nat → zinfo} {r : zRes} {GO : Nat → List (Option zV) → List zV → zH → Prop} (hS : zSg l false zi (zget (999, 0, 0, 0) zc_M_given) (zcut zu_M_given) zin (fun _ _ => none) r GO) (k65 : ∀ (x0 x1 : Int) (h : zH) (k : (Int → zH → Option zRes)) (t : (Nat → zH → Option zRes)), M_fails x0 x1 h k = some r → zKsp l false zi r 65 [0, x0, x1] h k t) (k67 : ∀ (x0 : Int) (h : zH) (k : (Int → zH → Option zRes)) (t : (Nat → zH → Option zRes)), M_noLaunch x0 h k = some r → zKsp l false zi r 67 [0, x0] h k t) (a1 : Int) (h : zH) (hr : M_given a1 h zin = some r) : GO 0 [some (112, 0), some (0, a1)] [] h := by
  have e9 := Eq.trans (Eq.symm (qe_M_given zin a1 h)) hr
  generalize (400 : Nat) = f9 at e9
  refine hS _ _ (zcal_s (SP := zKsp l false zi r) _ ?_) (zorc_s _ ?_) _ _ _ _ _ e9
  · exact ⟨zca2_s (SP := fun xs h k t => zKsp l false zi r 65 (zfc [some 0, none, none] xs) h k t) k65, ⟨zca1_s (SP := fun xs h k t => zKsp l false zi r 67 (zfc [some 0, none] xs) h k t) k67, trivial⟩⟩
  · exact ⟨zap1_s (P := fun xs h => GO 28 (zfl [none, none] xs).1 (zfs [(0, none)] (zfl [none, none] xs).2) h) (fun x0 h hr => s_M_given_28 hS k65 k67 x0 h hr), trivial⟩
