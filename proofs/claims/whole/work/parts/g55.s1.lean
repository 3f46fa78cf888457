set_option maxRecDepth 100000 in
set_option maxHeartbeats 0 in
theorem s_X_given {l : Launch} {zi : Nat → zinfo} {r : zRes} {GO : Nat → List (Option zV) → List zV → zH → Prop} (hS : zSg l true zi (zget (999, 0, 0, 0) zc_X_given) (zcut zu_X_given) zin zth r GO) (k48 : ∀ (x0 x1 : Int) (h : zH) (k : (Int → zH → Option zRes)) (t : (Nat → zH → Option zRes)), X_launchAt x0 x1 h t k = some r → zKsp l true zi r 48 [x0, x1] h k t) (a0 a1 : Int) (h : zH) (hr : X_given a0 a1 h zth zin = some r) : GO 0 [some (100, a0), some (0, a1)] [] h := by
  have e9 := Eq.trans (Eq.symm (qe_X_given zin zth a0 a1 h)) hr
  generalize (400 : Nat) = f9 at e9
  refine hS _ _ (zcal_s (SP := zKsp l true zi r) _ ?_) (zorc_s _ ?_) _ _ _ _ _ e9
  · exact ⟨zcx2_s (SP := fun xs h k t => zKsp l true zi r 48 (zfc [none, none] xs) h k t) k48, trivial⟩
  · exact trivial
set_option maxRecDepth 100000 in
set_option maxHeartbeats 0 in
theorem s_La_isCopyRunning_21 {l : Launch} {zi : Nat → zinfo} {r : zRes} {GO : Nat → List (Option zV) → List zV → zH → Prop} (hS : zSg l true zi (zget (999, 0, 0, 0) zc_La_isCopyRunning) (zcut zu_La_isCopyRunning) zin (fun _ _ => none) r GO) (t0 : Int) (h : zH) (hr : La_isCopyRunning_21 zin t0 h = some r) : GO 21 [none] [(0, t0)] h := by
  have e9 := Eq.trans (Eq.symm (qe_La_isCopyRunning_21 zin t0 h)) hr
  generalize (400 : Nat) = f9 at e9
  refine hS _ _ (zcal_s (SP := zKsp l true zi r) _ ?_) (zorc_s _ ?_) _ _ _ _ _ e9
  · exact trivial
  · exact trivial
set_option maxRecDepth 100000 in
set_option maxHeartbeats 0 in
theorem s_La_isCopyRunning_20 {l : Launch} {zi : Nat → zinfo} {r : zRes} {GO : Nat → List (Option zV) → List zV → zH → Prop} (hS : zSg l true zi (zget (999, 0, 0, 0) zc_La_isCopyRunning) (zcut zu_La_isCopyRunning) zin (fun _ _ => none) r GO) (h : zH) (hr : La_isCopyRunning_20 zin h = some r) : GO 20 [none] [] h := by
  have e9 := Eq.trans (Eq.symm (qe_La_isCopyRunning_20 zin h)) hr
  generalize (400 : Nat) = f9 at e9
  refine hS _ _ (zcal_s (SP := zKsp l true zi r) _ ?_) (zorc_s _ ?_) _ _ _ _ _ e9
  · exact trivial
  · exact ⟨zap1_s (P := fun xs h => GO 21 (zfl [none] xs).1 (zfs [(0, none)] (zfl [none] xs).2) h) (fun x0 h hr => s_La_isCopyRunning_21 hS x0 h hr), trivial⟩
set_option maxRecDepth 100000 in
set_option maxHeartbeats 0 in
theorem s_La_isCopyRunning {l : Launch} {zi : Nat → zinfo} {r : zRes} {GO : Nat → List (Option zV) → List zV → zH → Prop} (hS : zSg l true zi (zget (999, 0, 0, 0) zc_La_isCopyRunning) (zcut zu_La_isCopyRunning) zin (fun _ _ => none) r GO) (a0 : Int) (h : zH) (hr : La_isCopyRunning a0 h zin = some r) : GO 0 [some (109, a0)] [] h := by
  have e9 := Eq.trans (Eq.symm (qe_La_isCopyRunning zin a0 h)) hr
  generalize (400 : Nat) = f9 at e9
  refine hS _ _ (zcal_s (SP := zKsp l true zi r) _ ?_) (zorc_s _ ?_) _ _ _ _ _ e9
  · exact trivial
  · exact ⟨zap0_s (P := fun xs h => GO 20 (zfl [none] xs).1 (zfs [] (zfl [none] xs).2) h) (fun  h hr => s_La_isCopyRunning_20 hS  h hr), ⟨zap1_s (P := fun xs h => GO 21 (zfl [none] xs).1 (zfs [(0, none)] (zfl [none] xs).2) h) (fun x0 h hr => s_La_isCopyRunning_21 hS x0 h hr), trivial⟩⟩
set_option maxRecDepth 100000 in
set_option maxHeartbeats 0 in
theorem s_La_moveCell_82 {l : Launch} {zi : Nat → zinfo} {r : zRes} {GO : Nat → List (Option zV) → List zV → zH → Prop} (hS : zSg l true zi (zget (999, 0, 0, 0) zc_La_moveCell) (zcut zu_La_moveCell) zin (fun _ _ => none) r GO) (k55 : ∀ (x0 : Int) (h : zH) (k : (Int → zH → Option zRes)) (t : (Nat → zH → Option zRes)), X_isCell x0 h k = some r → zKsp l true zi r 55 [x0] h k t) (h : zH) (hr : La_moveCell_82 zin h = some r) : GO 82 [none, none] [] h := by
  have e9 := Eq.trans (Eq.symm (qe_La_moveCell_82 zin h)) hr
  generalize (400 : Nat) = f9 at e9
  refine hS _ _ (zcal_s (SP := zKsp l true zi r) _ ?_) (zorc_s _ ?_) _ _ _ _ _ e9
  · exact trivial
  · exact trivial
set_option maxRecDepth 100000 in
set_option maxHeartbeats 0 in
theorem s_La_moveCell_69 {l : Launch} {zi : Nat → zinfo} {r : zRes} {GO : Nat → List (Option zV) → List zV → zH → Prop} (hS : zSg l true zi (zget (999, 0, 0, 0) zc_La_moveCell) (zcut zu_La_moveCell) zin (fun _ _ => none) r GO) (k55 : ∀ (x0 : Int) (h : zH) (k : (Int → zH → Option zRes)) (t : (Nat → zH → Option zRes)), X_isCell x0 h k = some r → zKsp l true zi r 55 [x0] h k t) (a0 : Int) (h : zH) (hr : La_moveCell_69 zin a0 h = some r) : GO 69 [some (109, a0), none] [] h := by
  have e9 := Eq.trans (Eq.symm (qe_La_moveCell_69 zin a0 h)) hr
  generalize (400 : Nat) = f9 at e9
  refine hS _ _ (zcal_s (SP := zKsp l true zi r) _ ?_) (zorc_s _ ?_) _ _ _ _ _ e9
  · exact trivial
  · exact ⟨zap0_s (P := fun xs h => GO 82 (zfl [none, none] xs).1 (zfs [] (zfl [none, none] xs).2) h) (fun  h hr => s_La_moveCell_82 hS k55  h hr), trivial⟩
set_option maxRecDepth 100000 in
set_option maxHeartbeats 0 in
theorem s_La_moveCell {l : Launch} {zi : Nat → zinfo} {r : zRes} {GO : Nat → List (Option zV) → List zV → zH → Prop} (hS : zSg l true zi (zget (999, 0, 0, 0) zc_La_moveCell) (zcut zu_La_moveCell) zin (fun _ _ => none) r GO) (k55 : ∀ (x0 : Int) (h : zH) (k : (Int → zH → Option zRes)) (t : (Nat → zH → Option zRes)), X_isCell x0 h k = some r → zKsp l true zi r 55 [x0] h k t) (a0 a1 : Int) (h : zH) (hr : La_moveCell a0 a1 h zin = some r) : GO 0 [some (109, a0), some (122, a1)] [] h := by
  have e9 := Eq.trans (Eq.symm (qe_La_moveCell zin a0 a1 h)) hr
  generalize (400 : Nat) = f9 at e9
  refine hS _ _ (zcal_s (SP := zKsp l true zi r) _ ?_) (zorc_s _ ?_) _ _ _ _ _ e9
  · exact ⟨zca1_s (SP := fun xs h k t => zKsp l true zi r 55 (zfc [none] xs) h k t) k55, trivial⟩
  · exact ⟨zap1_s (P := fun xs h => GO 69 (zfl [some (109, none), none] xs).1 (zfs [] (zfl [some (109, none), none] xs).2) h) (fun x0 h hr => s_La_moveCell_69 hS k55 x0 h hr), trivial⟩
set_option maxRecDepth 100000 in
set_option maxHeartbeats 0 in
theorem s_Co_moveCopies_41 {l : Launch} {zi : Nat → zinfo} {r : zRes} {GO : Nat → List (Option zV) → List zV → zH → Prop} (hS : zSg l true zi (zget (999, 0, 0, 0) zc_Co_moveCopies) (zcut zu_Co_moveCopies) zin (fun _ _ => none) r GO) (k234 : ∀ (x0 : Int) (h : zH) (k : (Int → zH → Option zRes)) (t : (Nat → zH → Option zRes)), La_isCopyRunning x0 h k = some r → zKsp l true zi r 234 [x0] h k t) (k237 : ∀ (x0 x1 : Int) (h : zH) (k : (Int → zH → Option zRes)) (t : (Nat → zH → Option zRes)), La_moveCell x0 x1 h k = some r → zKsp l true zi r 237 [x0, x1] h k t) (k241 : ∀ (x0 x1 : Int) (h : zH) (k : (Int → zH → Option zRes)) (t : (Nat → zH → Option zRes)), Le_launchOf x0 x1 h k = some r → zKsp l true zi r 241 [x0, x1] h k t) {r2 : Int → Int → zH → Option zRes} (h2 : ∀ (x0 x1 : Int) (h : zH), r2 x0 x1 h = some r → GO 2 [some (102, x0), some (0, x1), none] [] h) (a0 a1 : Int) (h : zH) (hr : Co_moveCopies_41 zin r2 a0 a1 h = some r) : GO 41 [some (102, a0), some (0, a1), none] [] h := by
  have e9 := Eq.trans (Eq.symm (qe_Co_moveCopies_41 zin r2 a0 a1 h)) hr
  generalize (400 : Nat) = f9 at e9
  refine hS _ _ (zcal_s (SP := zKsp l true zi r) _ ?_) (zorc_s _ ?_) _ _ _ _ _ e9
  · exact trivial
  · exact ⟨zap2_s (P := fun xs h => GO 2 (zfl [some (102, none), some (0, none), none] xs).1 (zfs [] (zfl [some (102, none), some (0, none), none] xs).2) h) h2, trivial⟩
set_option maxRecDepth 100000 in
set_option maxHeartbeats 0 in
theorem s_Co_moveCopies_2b {l : Launch} {zi : Nat → zinfo} {r : zRes} {GO : Nat → List (Option zV) → List zV → zH → Prop} (hS : zSg l true zi (zget (999, 0, 0, 0) zc_Co_moveCopies) (zcut zu_Co_moveCopies) zin (fun _ _ => none) r GO) (k234 : ∀ (x0 : Int) (h : zH) (k : (Int → zH → Option zRes)) (t : (Nat → zH → Option zRes)), La_isCopyRunning x0 h k = some r → zKsp l true zi r 234 [x0] h k t) (k237 : ∀ (x0 x1 : Int) (h : zH) (k : (Int → zH → Option zRes)) (t : (Nat → zH → Option zRes)), La_moveCell x0 x1 h k = some r → zKsp l true zi r 237 [x0, x1] h k t) (k241 : ∀ (x0 x1 : Int) (h : zH) (k : (Int → zH → Option zRes)) (t : (Nat → zH → Option zRes)), Le_launchOf x0 x1 h k = some r → zKsp l true zi r 241 [x0, x1] h k t) {r2 : Int → Int → zH → Option zRes} (h2 : ∀ (x0 x1 : Int) (h : zH), r2 x0 x1 h = some r → GO 2 [some (102, x0), some (0, x1), none] [] h) (a0 a1 : Int) (h : zH) (hr : Co_moveCopies_2b zin r2 a0 a1 h = some r) : GO 2 [some (102, a0), some (0, a1), none] [] h := by
  have e9 := Eq.trans (Eq.symm (qe_Co_moveCopies_2b zin r2 a0 a1 h)) hr
  generalize (400 : Nat) = f9 at e9
  refine hS _ _ (zcal_s (SP := zKsp l true zi r) _ ?_) (zorc_s _ ?_) _ _ _ _ _ e9
  · exact ⟨zca1_s (SP := fun xs h k t => zKsp l true zi r 234 (zfc [none] xs) h k t) k234, ⟨zca2_s (SP := fun xs h k t => zKsp l true zi r 237 (zfc [none, none] xs) h k t) k237, ⟨zca2_s (SP := fun xs h k t => zKsp l true zi r 241 (zfc [none, none] xs) h k t) k241, trivial⟩⟩⟩
  · exact ⟨zap2_s (P := fun xs h => GO 41 (zfl [some (102, none), some (0, none), none] xs).1 (zfs [] (zfl [some (102, none), some (0, none), none] xs).2) h) (fun x0 x1 h hr => s_Co_moveCopies_41 hS k234 k237 k241 h2 x0 x1 h hr), trivial⟩
set_option maxRecDepth 100000 in
set_option maxHeartbeats 0 in
theorem s_Co_moveCopies_2 {l : Launch} {zi : Nat → zinfo} {r : zRes} {GO : Nat → List (Option zV) → List zV → zH → Prop} (hS : zSg l true zi (zget (999, 0, 0, 0) zc_Co_moveCopies) (zcut zu_Co_moveCopies) zin (fun _ _ => none) r GO) (k234 : ∀ (x0 : Int) (h : zH) (k : (Int → zH → Option zRes)) (t : (Nat → zH → Option zRes)), La_isCopyRunning x0 h k = some r → zKsp l true zi r 234 [x0] h k t) (k237 : ∀ (x0 x1 : Int) (h : zH) (k : (Int → zH → Option zRes)) (t : (Nat → zH → Option zRes)), La_moveCell x0 x1 h k = some r → zKsp l true zi r 237 [x0, x1] h k t) (k241 : ∀ (x0 x1 : Int) (h : zH) (k : (Int → zH → Option zRes)) (t : (Nat → zH → Option zRes)), Le_launchOf x0 x1 h k = some r → zKsp l true zi r 241 [x0, x1] h k t) (a0 a1 : Int) (h : zH) (hr : Co_moveCopies_2 zin a0 a1 h = some r) : GO 2 [some (102, a0), some (0, a1), none] [] h := zit2_s (P := fun x0 x1 h => GO 2 [some (102, x0), some (0, x1), none] [] h) (fun rr hh a0 a1 h hr => s_Co_moveCopies_2b hS k234 k237 k241 hh a0 a1 h hr) zN a0 a1 h hr
set_option maxRecDepth 100000 in
set_option maxHeartbeats 0 in
theorem s_Co_moveCopies {l : Launch} {zi : Nat → zinfo} {r : zRes} {GO : Nat → List (Option zV) → List zV → zH → Prop} (hS : zSg l true zi (zget (999, 0, 0, 0) zc_Co_moveCopies) (zcut zu_Co_moveCopies) zin (fun _ _ => none) r GO) (k234 : ∀ (x0 : Int) (h : zH) (k : (Int → zH → Option zRes)) (t : (Nat → zH → Option zRes)), La_isCopyRunning x0 h k = some r → zKsp l true zi r 234 [x0] h k t) (k237 : ∀ (x0 x1 : Int) (h : zH) (k : (Int → zH → Option zRes)) (t : (Nat → zH → Option zRes)), La_moveCell x0 x1 h k = some r → zKsp l true zi r 237 [x0, x1] h k t) (k241 : ∀ (x0 x1 : Int) (h : zH) (k : (Int → zH → Option zRes)) (t : (Nat → zH → Option zRes)), Le_launchOf x0 x1 h k = some r → zKsp l true zi r 241 [x0, x1] h k t) (a0 : Int) (h : zH) (hr : Co_moveCopies a0 h zin = some r) : GO 0 [some (102, a0), none, none] [] h := by
  have e9 := Eq.trans (Eq.symm (qe_Co_moveCopies zin a0 h)) hr
  generalize (400 : Nat) = f9 at e9
  refine hS _ _ (zcal_s (SP := zKsp l true zi r) _ ?_) (zorc_s _ ?_) _ _ _ _ _ e9
  · exact trivial
  · exact ⟨zap2_s (P := fun xs h => GO 2 (zfl [some (102, none), some (0, none), none] xs).1 (zfs [] (zfl [some (102, none), some (0, none), none] xs).2) h) (fun x0 x1 h hr => s_Co_moveCopies_2 hS k234 k237 k241 x0 x1 h hr), trivial⟩
set_option maxRecDepth 100000 in
set_option maxHeartbeats 0 in
theorem s_Un_usedRegisters_55 {l : Launch} {zi : Nat → zinfo} {r : zRes} {GO : Nat → List (Option zV) → List zV → zH → Prop} (hS : zSg l true zi (zget (999, 0, 0, 0) zc_Un_usedRegisters) (zcut zu_Un_usedRegisters) zin (fun _ _ => none) r GO) {r4 : Int → Int → Int → zH → Option zRes} (h4 : ∀ (x0 x1 x2 : Int) (h : zH), r4 x0 x1 x2 h = some r → GO 4 [some (103, x0), some (0, x1), some (0, x2), none] [] h) (a0 a2 t0 t1 : Int) (h : zH) (hr : Un_usedRegisters_55 zin r4 a0 a2 t0 t1 h = some r) : GO 55 [some (103, a0), none, some (0, a2), none] [(0, t0), (0, t1)] h := by
  have e9 := Eq.trans (Eq.symm (qe_Un_usedRegisters_55 zin r4 a0 a2 t0 t1 h)) hr
  generalize (400 : Nat) = f9 at e9
  refine hS _ _ (zcal_s (SP := zKsp l true zi r) _ ?_) (zorc_s _ ?_) _ _ _ _ _ e9
  · exact trivial
  · exact ⟨zap3_s (P := fun xs h => GO 4 (zfl [some (103, none), some (0, none), some (0, none), none] xs).1 (zfs [] (zfl [some (103, none), some (0, none), some (0, none), none] xs).2) h) h4, trivial⟩
set_option maxRecDepth 100000 in
set_option maxHeartbeats 0 in
theorem s_Un_usedRegisters_4b {l : Launch} {zi : Nat → zinfo} {r : zRes} {GO : Nat → List (Option zV) → List zV → zH → Prop} (hS : zSg l true zi (zget (999, 0, 0, 0) zc_Un_usedRegisters) (zcut zu_Un_usedRegisters) zin (fun _ _ => none) r GO) {r4 : Int → Int → Int → zH → Option zRes} (h4 : ∀ (x0 x1 x2 : Int) (h : zH), r4 x0 x1 x2 h = some r → GO 4 [some (103, x0), some (0, x1), some (0, x2), none] [] h) (a0 a1 a2 : Int) (h : zH) (hr : Un_usedRegisters_4b zin r4 a0 a1 a2 h = some r) : GO 4 [some (103, a0), some (0, a1), some (0, a2), none] [] h := by
  have e9 := Eq.trans (Eq.symm (qe_Un_usedRegisters_4b zin r4 a0 a1 a2 h)) hr
  generalize (400 : Nat) = f9 at e9
  refine hS _ _ (zcal_s (SP := zKsp l true zi r) _ ?_) (zorc_s _ ?_) _ _ _ _ _ e9
  · exact trivial
  · exact ⟨zap4_s (P := fun xs h => GO 55 (zfl [some (103, none), none, some (0, none), none] xs).1 (zfs [(0, none), (0, none)] (zfl [some (103, none), none, some (0, none), none] xs).2) h) (fun x0 x1 x2 x3 h hr => s_Un_usedRegisters_55 hS h4 x0 x1 x2 x3 h hr), trivial⟩
set_option maxRecDepth 100000 in
set_option maxHeartbeats 0 in
theorem s_Un_usedRegisters_4 {l : Launch} {zi : Nat → zinfo} {r : zRes} {GO : Nat → List (Option zV) → List zV → zH → Prop} (hS : zSg l true zi (zget (999, 0, 0, 0) zc_Un_usedRegisters) (zcut zu_Un_usedRegisters) zin (fun _ _ => none) r GO) (a0 a1 a2 : Int) (h : zH) (hr : Un_usedRegisters_4 zin a0 a1 a2 h = some r) : GO 4 [some (103, a0), some (0, a1), some (0, a2), none] [] h := zit3_s (P := fun x0 x1 x2 h => GO 4 [some (103, x0), some (0, x1), some (0, x2), none] [] h) (fun rr hh a0 a1 a2 h hr => s_Un_usedRegisters_4b hS hh a0 a1 a2 h hr) zN a0 a1 a2 h hr
set_option maxRecDepth 100000 in
set_option maxHeartbeats 0 in
theorem s_Un_usedRegisters {l : Launch} {zi : Nat → zinfo} {r : zRes} {GO : Nat → List (Option zV) → List zV → zH → Prop} (hS : zSg l true zi (zget (999, 0, 0, 0) zc_Un_usedRegisters) (zcut zu_Un_usedRegisters) zin (fun _ _ => none) r GO) (a0 : Int) (h : zH) (hr : Un_usedRegisters a0 h zin = some r) : GO 0 [some (103, a0), none, none, none] [] h := by
  have e9 := Eq.trans (Eq.symm (qe_Un_usedRegisters zin a0 h)) hr
  generalize (400 : Nat) = f9 at e9
  refine hS _ _ (zcal_s (SP := zKsp l true zi r) _ ?_) (zorc_s _ ?_) _ _ _ _ _ e9
  · exact trivial
  · exact ⟨zap3_s (P := fun xs h => GO 4 (zfl [some (103, none), some (0, none), some (0, none), none] xs).1 (zfs [] (zfl [some (103, none), some (0, none), some (0, none), none] xs).2) h) (fun x0 x1 x2 h hr => s_Un_usedRegisters_4 hS x0 x1 x2 h hr), trivial⟩
set_option maxRecDepth 100000 in
set_option maxHeartbeats 0 in
theorem s_Un_usedShared_42 {l : Launch} {zi : Nat → zinfo} {r : zRes} {GO : Nat → List (Option zV) → List zV → zH → Prop} (hS : zSg l true zi (zget (999, 0, 0, 0) zc_Un_usedShared) (zcut zu_Un_usedShared) zin (fun _ _ => none) r GO) {r4 : Int → Int → Int → zH → Option zRes} (h4 : ∀ (x0 x1 x2 : Int) (h : zH), r4 x0 x1 x2 h = some r → GO 4 [some (103, x0), some (0, x1), some (0, x2)] [] h) (a0 a2 t0 t1 : Int) (h : zH) (hr : Un_usedShared_42 zin r4 a0 a2 t0 t1 h = some r) : GO 42 [some (103, a0), none, some (0, a2)] [(0, t0), (0, t1)] h := by
  have e9 := Eq.trans (Eq.symm (qe_Un_usedShared_42 zin r4 a0 a2 t0 t1 h)) hr
  generalize (400 : Nat) = f9 at e9
  refine hS _ _ (zcal_s (SP := zKsp l true zi r) _ ?_) (zorc_s _ ?_) _ _ _ _ _ e9
  · exact trivial
  · exact ⟨zap3_s (P := fun xs h => GO 4 (zfl [some (103, none), some (0, none), some (0, none)] xs).1 (zfs [] (zfl [some (103, none), some (0, none), some (0, none)] xs).2) h) h4, trivial⟩
set_option maxRecDepth 100000 in
set_option maxHeartbeats 0 in
theorem s_Un_usedShared_4b {l : Launch} {zi : Nat → zinfo} {r : zRes} {GO : Nat → List (Option zV) → List zV → zH → Prop} (hS : zSg l true zi (zget (999, 0, 0, 0) zc_Un_usedShared) (zcut zu_Un_usedShared) zin (fun _ _ => none) r GO) {r4 : Int → Int → Int → zH → Option zRes} (h4 : ∀ (x0 x1 x2 : Int) (h : zH), r4 x0 x1 x2 h = some r → GO 4 [some (103, x0), some (0, x1), some (0, x2)] [] h) (a0 a1 a2 : Int) (h : zH) (hr : Un_usedShared_4b zin r4 a0 a1 a2 h = some r) : GO 4 [some (103, a0), some (0, a1), some (0, a2)] [] h := by
  have e9 := Eq.trans (Eq.symm (qe_Un_usedShared_4b zin r4 a0 a1 a2 h)) hr
  generalize (400 : Nat) = f9 at e9
  refine hS _ _ (zcal_s (SP := zKsp l true zi r) _ ?_) (zorc_s _ ?_) _ _ _ _ _ e9
  · exact trivial
  · exact ⟨zap4_s (P := fun xs h => GO 42 (zfl [some (103, none), none, some (0, none)] xs).1 (zfs [(0, none), (0, none)] (zfl [some (103, none), none, some (0, none)] xs).2) h) (fun x0 x1 x2 x3 h hr => s_Un_usedShared_42 hS h4 x0 x1 x2 x3 h hr), trivial⟩
set_option maxRecDepth 100000 in
set_option maxHeartbeats 0 in
theorem s_Un_usedShared_4 {l : Launch} {zi : Nat → zinfo} {r : zRes} {GO : Nat → List (Option zV) → List zV → zH → Prop} (hS : zSg l true zi (zget (999, 0, 0, 0) zc_Un_usedShared) (zcut zu_Un_usedShared) zin (fun _ _ => none) r GO) (a0 a1 a2 : Int) (h : zH) (hr : Un_usedShared_4 zin a0 a1 a2 h = some r) : GO 4 [some (103, a0), some (0, a1), some (0, a2)] [] h := zit3_s (P := fun x0 x1 x2 h => GO 4 [some (103, x0), some (0, x1), some (0, x2)] [] h) (fun rr hh a0 a1 a2 h hr => s_Un_usedShared_4b hS hh a0 a1 a2 h hr) zN a0 a1 a2 h hr
set_option maxRecDepth 100000 in
set_option maxHeartbeats 0 in
theorem s_Un_usedShared {l : Launch} {zi : Nat → zinfo} {r : zRes} {GO : Nat → List (Option zV) → List zV → zH → Prop} (hS : zSg l true zi (zget (999, 0, 0, 0) zc_Un_usedShared) (zcut zu_Un_usedShared) zin (fun _ _ => none) r GO) (a0 : Int) (h : zH) (hr : Un_usedShared a0 h zin = some r) : GO 0 [some (103, a0), none, none] [] h := by
  have e9 := Eq.trans (Eq.symm (qe_Un_usedShared zin a0 h)) hr
  generalize (400 : Nat) = f9 at e9
  refine hS _ _ (zcal_s (SP := zKsp l true zi r) _ ?_) (zorc_s _ ?_) _ _ _ _ _ e9
  · exact trivial
  · exact ⟨zap3_s (P := fun xs h => GO 4 (zfl [some (103, none), some (0, none), some (0, none)] xs).1 (zfs [] (zfl [some (103, none), some (0, none), some (0, none)] xs).2) h) (fun x0 x1 x2 h hr => s_Un_usedShared_4 hS x0 x1 x2 h hr), trivial⟩
set_option maxRecDepth 100000 in
set_option maxHeartbeats 0 in
theorem s_Un_hasRoomFor_48 {l : Launch} {zi : Nat → zinfo} {r : zRes} {GO : Nat → List (Option zV) → List zV → zH → Prop} (hS : zSg l true zi (zget (999, 0, 0, 0) zc_Un_hasRoomFor) (zcut zu_Un_hasRoomFor) zin (fun _ _ => none) r GO) (k57 : ∀ (x0 : Int) (h : zH) (k : (Int → zH → Option zRes)) (t : (Nat → zH → Option zRes)), X_groupsFor x0 h k = some r → zKsp l true zi r 57 [x0] h k t) (k279 : ∀ (x0 : Int) (h : zH) (k : (Int → zH → Option zRes)) (t : (Nat → zH → Option zRes)), Un_usedRegisters x0 h k = some r → zKsp l true zi r 279 [x0] h k t) (k280 : ∀ (x0 : Int) (h : zH) (k : (Int → zH → Option zRes)) (t : (Nat → zH → Option zRes)), Un_usedShared x0 h k = some r → zKsp l true zi r 280 [x0] h k t) (t0 : Int) (h : zH) (hr : Un_hasRoomFor_48 zin t0 h = some r) : GO 48 [none, none, none] [(0, t0)] h := by
  have e9 := Eq.trans (Eq.symm (qe_Un_hasRoomFor_48 zin t0 h)) hr
  generalize (400 : Nat) = f9 at e9
  refine hS _ _ (zcal_s (SP := zKsp l true zi r) _ ?_) (zorc_s _ ?_) _ _ _ _ _ e9
  · exact trivial
  · exact trivial
set_option maxRecDepth 100000 in
set_option maxHeartbeats 0 in
theorem s_Un_hasRoomFor_47 {l : Launch} {zi : Nat → zinfo} {r : zRes} {GO : Nat → List (Option zV) → List zV → zH → Prop} (hS : zSg l true zi (zget (999, 0, 0, 0) zc_Un_hasRoomFor) (zcut zu_Un_hasRoomFor) zin (fun _ _ => none) r GO) (k57 : ∀ (x0 : Int) (h : zH) (k : (Int → zH → Option zRes)) (t : (Nat → zH → Option zRes)), X_groupsFor x0 h k = some r → zKsp l true zi r 57 [x0] h k t) (k279 : ∀ (x0 : Int) (h : zH) (k : (Int → zH → Option zRes)) (t : (Nat → zH → Option zRes)), Un_usedRegisters x0 h k = some r → zKsp l true zi r 279 [x0] h k t) (k280 : ∀ (x0 : Int) (h : zH) (k : (Int → zH → Option zRes)) (t : (Nat → zH → Option zRes)), Un_usedShared x0 h k = some r → zKsp l true zi r 280 [x0] h k t) (h : zH) (hr : Un_hasRoomFor_47 zin h = some r) : GO 47 [none, none, none] [] h := by
  have e9 := Eq.trans (Eq.symm (qe_Un_hasRoomFor_47 zin h)) hr
  generalize (400 : Nat) = f9 at e9
  refine hS _ _ (zcal_s (SP := zKsp l true zi r) _ ?_) (zorc_s _ ?_) _ _ _ _ _ e9
  · exact trivial
  · exact ⟨zap1_s (P := fun xs h => GO 48 (zfl [none, none, none] xs).1 (zfs [(0, none)] (zfl [none, none, none] xs).2) h) (fun x0 h hr => s_Un_hasRoomFor_48 hS k57 k279 k280 x0 h hr), trivial⟩
set_option maxRecDepth 100000 in
set_option maxHeartbeats 0 in
theorem s_Un_hasRoomFor {l : Launch} {zi : Nat → zinfo} {r : zRes} {GO : Nat → List (Option zV) → List zV → zH → Prop} (hS : zSg l true zi (zget (999, 0, 0, 0) zc_Un_hasRoomFor) (zcut zu_Un_hasRoomFor) zin (fun _ _ => none) r GO) (k57 : ∀ (x0 : Int) (h : zH) (k : (Int → zH → Option zRes)) (t : (Nat → zH → Option zRes)), X_groupsFor x0 h k = some r → zKsp l true zi r 57 [x0] h k t) (k279 : ∀ (x0 : Int) (h : zH) (k : (Int → zH → Option zRes)) (t : (Nat → zH → Option zRes)), Un_usedRegisters x0 h k = some r → zKsp l true zi r 279 [x0] h k t) (k280 : ∀ (x0 : Int) (h : zH) (k : (Int → zH → Option zRes)) (t : (Nat → zH → Option zRes)), Un_usedShared x0 h k = some r → zKsp l true zi r 280 [x0] h k t) (a0 a1 a2 : Int) (h : zH) (hr : Un_hasRoomFor a0 a1 a2 h zin = some r) : GO 0 [some (103, a0), some (107, a1), some (0, a2)] [] h := by
  have e9 := Eq.trans (Eq.symm (qe_Un_hasRoomFor zin a0 a1 a2 h)) hr
  generalize (400 : Nat) = f9 at e9
  refine hS _ _ (zcal_s (SP := zKsp l true zi r) _ ?_) (zorc_s _ ?_) _ _ _ _ _ e9
  · exact ⟨zca1_s (SP := fun xs h k t => zKsp l true zi r 57 (zfc [none] xs) h k t) k57, ⟨zca1_s (SP := fun xs h k t => zKsp l true zi r 279 (zfc [none] xs) h k t) k279, ⟨zca1_s (SP := fun xs h k t => zKsp l true zi r 280 (zfc [none] xs) h k t) k280, trivial⟩⟩⟩
  · exact ⟨zap0_s (P := fun xs h => GO 47 (zfl [none, none, none] xs).1 (zfs [] (zfl [none, none, none] xs).2) h) (fun  h hr => s_Un_hasRoomFor_47 hS k57 k279 k280  h hr), ⟨zap1_s (P := fun xs h => GO 48 (zfl [none, none, none] xs).1 (zfs [(0, none)] (zfl [none, none, none] xs).2) h) (fun x0 h hr => s_Un_hasRoomFor_48 hS k57 k279 k280 x0 h hr), trivial⟩⟩
set_option maxRecDepth 100000 in
set_option maxHeartbeats 0 in
theorem s_Co_unitFor_56 {l : Launch} {zi : Nat → zinfo} {r : zRes} {GO : Nat → List (Option zV) → List zV → zH → Prop} (hS : zSg l true zi (zget (999, 0, 0, 0) zc_Co_unitFor) (zcut zu_Co_unitFor) zin (fun _ _ => none) r GO) (k278 : ∀ (x0 x1 x2 : Int) (h : zH) (k : (Int → zH → Option zRes)) (t : (Nat → zH → Option zRes)), Un_hasRoomFor x0 x1 x2 h k = some r → zKsp l true zi r 278 [x0, x1, x2] h k t) {r4 : Int → Int → Int → Int → zH → Option zRes} (h4 : ∀ (x0 x1 x2 x3 : Int) (h : zH), r4 x0 x1 x2 x3 h = some r → GO 4 [some (102, x0), some (109, x1), some (103, x2), some (0, x3)] [] h) (a0 a1 a2 a3 : Int) (h : zH) (hr : Co_unitFor_56 zin r4 a0 a1 a2 a3 h = some r) : GO 56 [some (102, a0), some (109, a1), some (103, a2), some (0, a3)] [] h := by
  have e9 := Eq.trans (Eq.symm (qe_Co_unitFor_56 zin r4 a0 a1 a2 a3 h)) hr
  generalize (400 : Nat) = f9 at e9
  refine hS _ _ (zcal_s (SP := zKsp l true zi r) _ ?_) (zorc_s _ ?_) _ _ _ _ _ e9
  · exact trivial
  · exact ⟨zap4_s (P := fun xs h => GO 4 (zfl [some (102, none), some (109, none), some (103, none), some (0, none)] xs).1 (zfs [] (zfl [some (102, none), some (109, none), some (103, none), some (0, none)] xs).2) h) h4, trivial⟩
set_option maxRecDepth 100000 in
set_option maxHeartbeats 0 in
theorem s_Co_unitFor_49 {l : Launch} {zi : Nat → zinfo} {r : zRes} {GO : Nat → List (Option zV) → List zV → zH → Prop} (hS : zSg l true zi (zget (999, 0, 0, 0) zc_Co_unitFor) (zcut zu_Co_unitFor) zin (fun _ _ => none) r GO) (k278 : ∀ (x0 x1 x2 : Int) (h : zH) (k : (Int → zH → Option zRes)) (t : (Nat → zH → Option zRes)), Un_hasRoomFor x0 x1 x2 h k = some r → zKsp l true zi r 278 [x0, x1, x2] h k t) {r4 : Int → Int → Int → Int → zH → Option zRes} (h4 : ∀ (x0 x1 x2 x3 : Int) (h : zH), r4 x0 x1 x2 x3 h = some r → GO 4 [some (102, x0), some (109, x1), some (103, x2), some (0, x3)] [] h) (a0 a1 a3 : Int) (h : zH) (hr : Co_unitFor_49 zin r4 a0 a1 a3 h = some r) : GO 49 [some (102, a0), some (109, a1), none, some (0, a3)] [] h := by
  have e9 := Eq.trans (Eq.symm (qe_Co_unitFor_49 zin r4 a0 a1 a3 h)) hr
  generalize (400 : Nat) = f9 at e9
  refine hS _ _ (zcal_s (SP := zKsp l true zi r) _ ?_) (zorc_s _ ?_) _ _ _ _ _ e9
  · exact trivial
  · exact ⟨zap4_s (P := fun xs h => GO 56 (zfl [some (102, none), some (109, none), some (103, none), some (0, none)] xs).1 (zfs [] (zfl [some (102, none), some (109, none), some (103, none), some (0, none)] xs).2) h) (fun x0 x1 x2 x3 h hr => s_Co_unitFor_56 hS k278 h4 x0 x1 x2 x3 h hr), trivial⟩
set_option maxRecDepth 100000 in
set_option maxHeartbeats 0 in
theorem s_Co_unitFor_4b {l : Launch} {zi : Nat → zinfo} {r : zRes} {GO : Nat → List (Option zV) → List zV → zH → Prop} (hS : zSg l true zi (zget (999, 0, 0, 0) zc_Co_unitFor) (zcut zu_Co_unitFor) zin (fun _ _ => none) r GO) (k278 : ∀ (x0 x1 x2 : Int) (h : zH) (k : (Int → zH → Option zRes)) (t : (Nat → zH → Option zRes)), Un_hasRoomFor x0 x1 x2 h k = some r → zKsp l true zi r 278 [x0, x1, x2] h k t) {r4 : Int → Int → Int → Int → zH → Option zRes} (h4 : ∀ (x0 x1 x2 x3 : Int) (h : zH), r4 x0 x1 x2 x3 h = some r → GO 4 [some (102, x0), some (109, x1), some (103, x2), some (0, x3)] [] h) (a0 a1 a2 a3 : Int) (h : zH) (hr : Co_unitFor_4b zin r4 a0 a1 a2 a3 h = some r) : GO 4 [some (102, a0), some (109, a1), some (103, a2), some (0, a3)] [] h := by
  have e9 := Eq.trans (Eq.symm (qe_Co_unitFor_4b zin r4 a0 a1 a2 a3 h)) hr
  generalize (400 : Nat) = f9 at e9
  refine hS _ _ (zcal_s (SP := zKsp l true zi r) _ ?_) (zorc_s _ ?_) _ _ _ _ _ e9
  · exact ⟨zca3_s (SP := fun xs h k t => zKsp l true zi r 278 (zfc [none, none, none] xs) h k t) k278, trivial⟩
  · exact ⟨zap3_s (P := fun xs h => GO 49 (zfl [some (102, none), some (109, none), none, some (0, none)] xs).1 (zfs [] (zfl [some (102, none), some (109, none), none, some (0, none)] xs).2) h) (fun x0 x1 x2 h hr => s_Co_unitFor_49 hS k278 h4 x0 x1 x2 h hr), ⟨zap4_s (P := fun xs h => GO 56 (zfl [some (102, none), some (109, none), some (103, none), some (0, none)] xs).1 (zfs [] (zfl [some (102, none), some (109, none), some (103, none), some (0, none)] xs).2) h) (fun x0 x1 x2 x3 h hr => s_Co_unitFor_56 hS k278 h4 x0 x1 x2 x3 h hr), trivial⟩⟩
set_option maxRecDepth 100000 in
set_option maxHeartbeats 0 in
theorem s_Co_unitFor_4 {l : Launch} {zi : Nat → zinfo} {r : zRes} {GO : Nat → List (Option zV) → List zV → zH → Prop} (hS : zSg l true zi (zget (999, 0, 0, 0) zc_Co_unitFor) (zcut zu_Co_unitFor) zin (fun _ _ => none) r GO) (k278 : ∀ (x0 x1 x2 : Int) (h : zH) (k : (Int → zH → Option zRes)) (t : (Nat → zH → Option zRes)), Un_hasRoomFor x0 x1 x2 h k = some r → zKsp l true zi r 278 [x0, x1, x2] h k t) (a0 a1 a2 a3 : Int) (h : zH) (hr : Co_unitFor_4 zin a0 a1 a2 a3 h = some r) : GO 4 [some (102, a0), some (109, a1), some (103, a2), some (0, a3)] [] h := zit4_s (P := fun x0 x1 x2 x3 h => GO 4 [some (102, x0), some (109, x1), some (103, x2), some (0, x3)] [] h) (fun rr hh a0 a1 a2 a3 h hr => s_Co_unitFor_4b hS k278 hh a0 a1 a2 a3 h hr) zN a0 a1 a2 a3 h hr
set_option maxRecDepth 100000 in
set_option maxHeartbeats 0 in
theorem s_Co_unitFor {l : Launch} {zi : Nat → zinfo} {r : zRes} {GO : Nat → List (Option zV) → List zV → zH → Prop} (hS : zSg l true zi (zget (999, 0, 0, 0) zc_Co_unitFor) (zcut zu_Co_unitFor) zin (fun _ _ => none) r GO) (k278 : ∀ (x0 x1 x2 : Int) (h : zH) (k : (Int → zH → Option zRes)) (t : (Nat → zH → Option zRes)), Un_hasRoomFor x0 x1 x2 h k = some r → zKsp l true zi r 278 [x0, x1, x2] h k t) (a0 a1 : Int) (h : zH) (hr : Co_unitFor a0 a1 h zin = some r) : GO 0 [some (102, a0), some (109, a1), none, none] [] h := by
  have e9 := Eq.trans (Eq.symm (qe_Co_unitFor zin a0 a1 h)) hr
  generalize (400 : Nat) = f9 at e9
  refine hS _ _ (zcal_s (SP := zKsp l true zi r) _ ?_) (zorc_s _ ?_) _ _ _ _ _ e9
  · exact trivial
  · exact ⟨zap4_s (P := fun xs h => GO 4 (zfl [some (102, none), some (109, none), some (103, none), some (0, none)] xs).1 (zfs [] (zfl [some (102, none), some (109, none), some (103, none), some (0, none)] xs).2) h) (fun x0 x1 x2 x3 h hr => s_Co_unitFor_4 hS k278 x0 x1 x2 x3 h hr), trivial⟩
set_option maxRecDepth 100000 in
set_option maxHeartbeats 0 in
theorem s_Th_goTo_20 {l : Launch} {zi : Nat → zinfo} {r : zRes} {GO : Nat → List (Option zV) → List zV → zH → Prop} (hS : zSg l true zi (zget (999, 0, 0, 0) zc_Th_goTo) (zcut zu_Th_goTo) zin (fun _ _ => none) r GO) (h : zH) (hr : Th_goTo_20 zin h = some r) : GO 20 [none, none, none] [] h := by
  have e9 := Eq.trans (Eq.symm (qe_Th_goTo_20 zin h)) hr
  generalize (400 : Nat) = f9 at e9
  refine hS _ _ (zcal_s (SP := zKsp l true zi r) _ ?_) (zorc_s _ ?_) _ _ _ _ _ e9
  · exact trivial
  · exact trivial
set_option maxRecDepth 100000 in
set_option maxHeartbeats 0 in
theorem s_Th_goTo_14 {l : Launch} {zi : Nat → zinfo} {r : zRes} {GO : Nat → List (Option zV) → List zV → zH → Prop} (hS : zSg l true zi (zget (999, 0, 0, 0) zc_Th_goTo) (zcut zu_Th_goTo) zin (fun _ _ => none) r GO) (a0 : Int) (h : zH) (hr : Th_goTo_14 zin a0 h = some r) : GO 14 [some (106, a0), none, none] [] h := by
  have e9 := Eq.trans (Eq.symm (qe_Th_goTo_14 zin a0 h)) hr
  generalize (400 : Nat) = f9 at e9
  refine hS _ _ (zcal_s (SP := zKsp l true zi r) _ ?_) (zorc_s _ ?_) _ _ _ _ _ e9
  · exact trivial
  · exact ⟨zap0_s (P := fun xs h => GO 20 (zfl [none, none, none] xs).1 (zfs [] (zfl [none, none, none] xs).2) h) (fun  h hr => s_Th_goTo_20 hS  h hr), trivial⟩
set_option maxRecDepth 100000 in
set_option maxHeartbeats 0 in
theorem s_Th_goTo {l : Launch} {zi : Nat → zinfo} {r : zRes} {GO : Nat → List (Option zV) → List zV → zH → Prop} (hS : zSg l true zi (zget (999, 0, 0, 0) zc_Th_goTo) (zcut zu_Th_goTo) zin (fun _ _ => none) r GO) (a0 a1 a2 : Int) (h : zH) (hr : Th_goTo a0 a1 a2 h zin = some r) : GO 0 [some (106, a0), some (0, a1), some (0, a2)] [] h := by
  have e9 := Eq.trans (Eq.symm (qe_Th_goTo zin a0 a1 a2 h)) hr
  generalize (400 : Nat) = f9 at e9
  refine hS _ _ (zcal_s (SP := zKsp l true zi r) _ ?_) (zorc_s _ ?_) _ _ _ _ _ e9
  · exact trivial
  · exact ⟨zap1_s (P := fun xs h => GO 14 (zfl [some (106, none), none, none] xs).1 (zfs [] (zfl [some (106, none), none, none] xs).2) h) (fun x0 h hr => s_Th_goTo_14 hS x0 h hr), ⟨zap0_s (P := fun xs h => GO 20 (zfl [none, none, none] xs).1 (zfs [] (zfl [none, none, none] xs).2) h) (fun  h hr => s_Th_goTo_20 hS  h hr), trivial⟩⟩
set_option maxRecDepth 100000 in
set_option maxHeartbeats 0 in
theorem s_Th_begin {l : Launch} {zi : Nat → zinfo} {r : zRes} {GO : Nat → List (Option zV) → List zV → zH → Prop} (hS : zSg l true zi (zget (999, 0, 0, 0) zc_Th_begin) (zcut zu_Th_begin) zin (fun _ _ => none) r GO) (k6 : ∀ (x0 x1 : Int) (h : zH) (k : (Int → zH → Option zRes)) (t : (Nat → zH → Option zRes)), Ar_fill_32 x0 x1 h k = some r → zKsp l true zi r 6 [x0, x1] h k t) (k262 : ∀ (x0 x1 x2 : Int) (h : zH) (k : (Int → zH → Option zRes)) (t : (Nat → zH → Option zRes)), Th_goTo x0 x1 x2 h k = some r → zKsp l true zi r 262 [x0, x1, x2] h k t) (a0 a1 a2 : Int) (h : zH) (hr : Th_begin a0 a1 a2 h zin = some r) : GO 0 [some (106, a0), some (0, a1), some (0, a2)] [] h := by
  have e9 := Eq.trans (Eq.symm (qe_Th_begin zin a0 a1 a2 h)) hr
  generalize (400 : Nat) = f9 at e9
  refine hS _ _ (zcal_s (SP := zKsp l true zi r) _ ?_) (zorc_s _ ?_) _ _ _ _ _ e9
  · exact ⟨zca2_s (SP := fun xs h k t => zKsp l true zi r 6 (zfc [none, none] xs) h k t) k6, ⟨zca3_s (SP := fun xs h k t => zKsp l true zi r 262 (zfc [none, none, none] xs) h k t) k262, trivial⟩⟩
  · exact trivial
set_option maxRecDepth 100000 in
set_option maxHeartbeats 0 in
theorem s_Bl_init_35b {l : Launch} {zi : Nat → zinfo} {r : zRes} {GO : Nat → List (Option zV) → List zV → zH → Prop} (hS : zSg l true zi (zget (999, 0, 0, 0) zc_Bl_init) (zcut zu_Bl_init) zin (fun _ _ => none) r GO) (k57 : ∀ (x0 : Int) (h : zH) (k : (Int → zH → Option zRes)) (t : (Nat → zH → Option zRes)), X_groupsFor x0 h k = some r → zKsp l true zi r 57 [x0] h k t) (k253 : ∀ (x0 x1 x2 : Int) (h : zH) (k : (Int → zH → Option zRes)) (t : (Nat → zH → Option zRes)), Th_init x0 x1 x2 h k = some r → zKsp l true zi r 253 [x0, x1, x2] h k t) (k254 : ∀ (x0 x1 x2 : Int) (h : zH) (k : (Int → zH → Option zRes)) (t : (Nat → zH → Option zRes)), Th_begin x0 x1 x2 h k = some r → zKsp l true zi r 254 [x0, x1, x2] h k t) {r35 : Int → Int → Int → Int → zH → Option zRes} (h35 : ∀ (x0 x1 x2 x3 : Int) (h : zH), r35 x0 x1 x2 x3 h = some r → GO 35 [some (110, x0), some (109, x1), some (0, x2), some (0, x3)] [] h) (a0 a1 a2 a3 : Int) (h : zH) (hr : Bl_init_35b zin r35 a0 a1 a2 a3 h = some r) : GO 35 [some (110, a0), some (109, a1), some (0, a2), some (0, a3)] [] h := by
  have e9 := Eq.trans (Eq.symm (qe_Bl_init_35b zin r35 a0 a1 a2 a3 h)) hr
  generalize (400 : Nat) = f9 at e9
  refine hS _ _ (zcal_s (SP := zKsp l true zi r) _ ?_) (zorc_s _ ?_) _ _ _ _ _ e9
  · exact ⟨zca1_s (SP := fun xs h k t => zKsp l true zi r 57 (zfc [none] xs) h k t) k57, ⟨zca3_s (SP := fun xs h k t => zKsp l true zi r 253 (zfc [none, none, none] xs) h k t) k253, ⟨zca3_s (SP := fun xs h k t => zKsp l true zi r 254 (zfc [none, none, none] xs) h k t) k254, trivial⟩⟩⟩
  · exact ⟨zap4_s (P := fun xs h => GO 35 (zfl [some (110, none), some (109, none), some (0, none), some (0, none)] xs).1 (zfs [] (zfl [some (110, none), some (109, none), some (0, none), some (0, none)] xs).2) h) h35, trivial⟩
set_option maxRecDepth 100000 in
set_option maxHeartbeats 0 in
theorem s_Bl_init_35 {l : Launch} {zi : Nat → zinfo} {r : zRes} {GO : Nat → List (Option zV) → List zV → zH → Prop} (hS : zSg l true zi (zget (999, 0, 0, 0) zc_Bl_init) (zcut zu_Bl_init) zin (fun _ _ => none) r GO) (k57 : ∀ (x0 : Int) (h : zH) (k : (Int → zH → Option zRes)) (t : (Nat → zH → Option zRes)), X_groupsFor x0 h k = some r → zKsp l true zi r 57 [x0] h k t) (k253 : ∀ (x0 x1 x2 : Int) (h : zH) (k : (Int → zH → Option zRes)) (t : (Nat → zH → Option zRes)), Th_init x0 x1 x2 h k = some r → zKsp l true zi r 253 [x0, x1, x2] h k t) (k254 : ∀ (x0 x1 x2 : Int) (h : zH) (k : (Int → zH → Option zRes)) (t : (Nat → zH → Option zRes)), Th_begin x0 x1 x2 h k = some r → zKsp l true zi r 254 [x0, x1, x2] h k t) (a0 a1 a2 a3 : Int) (h : zH) (hr : Bl_init_35 zin a0 a1 a2 a3 h = some r) : GO 35 [some (110, a0), some (109, a1), some (0, a2), some (0, a3)] [] h := zit4_s (P := fun x0 x1 x2 x3 h => GO 35 [some (110, x0), some (109, x1), some (0, x2), some (0, x3)] [] h) (fun rr hh a0 a1 a2 a3 h hr => s_Bl_init_35b hS k57 k253 k254 hh a0 a1 a2 a3 h hr) zN a0 a1 a2 a3 h hr
set_option maxRecDepth 100000 in
set_option maxHeartbeats 0 in
theorem s_Bl_init {l : Launch} {zi : Nat → zinfo} {r : zRes} {GO : Nat → List (Option zV) → List zV → zH → Prop} (hS : zSg l true zi (zget (999, 0, 0, 0) zc_Bl_init) (zcut zu_Bl_init) zin (fun _ _ => none) r GO) (k57 : ∀ (x0 : Int) (h : zH) (k : (Int → zH → Option zRes)) (t : (Nat → zH → Option zRes)), X_groupsFor x0 h k = some r → zKsp l true zi r 57 [x0] h k t) (k253 : ∀ (x0 x1 x2 : Int) (h : zH) (k : (Int → zH → Option zRes)) (t : (Nat → zH → Option zRes)), Th_init x0 x1 x2 h k = some r → zKsp l true zi r 253 [x0, x1, x2] h k t) (k254 : ∀ (x0 x1 x2 : Int) (h : zH) (k : (Int → zH → Option zRes)) (t : (Nat → zH → Option zRes)), Th_begin x0 x1 x2 h k = some r → zKsp l true zi r 254 [x0, x1, x2] h k t) (a0 a1 a2 : Int) (h : zH) (hr : Bl_init a0 a1 a2 h zin = some r) : GO 0 [some (110, a0), some (109, a1), some (0, a2), none] [] h := by
  have e9 := Eq.trans (Eq.symm (qe_Bl_init zin a0 a1 a2 h)) hr
  generalize (400 : Nat) = f9 at e9
  refine hS _ _ (zcal_s (SP := zKsp l true zi r) _ ?_) (zorc_s _ ?_) _ _ _ _ _ e9
  · exact trivial
  · exact ⟨zap4_s (P := fun xs h => GO 35 (zfl [some (110, none), some (109, none), some (0, none), some (0, none)] xs).1 (zfs [] (zfl [some (110, none), some (109, none), some (0, none), some (0, none)] xs).2) h) (fun x0 x1 x2 x3 h hr => s_Bl_init_35 hS k57 k253 k254 x0 x1 x2 x3 h hr), trivial⟩
set_option maxRecDepth 100000 in
set_option maxHeartbeats 0 in
theorem s_Gr_init_74 {l : Launch} {zi : Nat → zinfo} {r : zRes} {GO : Nat → List (Option zV) → List zV → zH → Prop} (hS : zSg l true zi (zget (999, 0, 0, 0) zc_Gr_init) (zcut zu_Gr_init) zin (fun _ _ => none) r GO) (h : zH) (hr : Gr_init_74 zin h = some r) : GO 74 [none, none, none, none] [] h := by
  have e9 := Eq.trans (Eq.symm (qe_Gr_init_74 zin h)) hr
  generalize (400 : Nat) = f9 at e9
  refine hS _ _ (zcal_s (SP := zKsp l true zi r) _ ?_) (zorc_s _ ?_) _ _ _ _ _ e9
  · exact trivial
  · exact trivial
set_option maxRecDepth 100000 in
set_option maxHeartbeats 0 in
theorem s_Gr_init_38b {l : Launch} {zi : Nat → zinfo} {r : zRes} {GO : Nat → List (Option zV) → List zV → zH → Prop} (hS : zSg l true zi (zget (999, 0, 0, 0) zc_Gr_init) (zcut zu_Gr_init) zin (fun _ _ => none) r GO) {r38 : Int → Int → Int → Int → zH → Option zRes} (h38 : ∀ (x0 x1 x2 x3 : Int) (h : zH), r38 x0 x1 x2 x3 h = some r → GO 38 [some (111, x0), some (110, x1), some (0, x2), some (0, x3)] [] h) (a0 a1 a2 a3 : Int) (h : zH) (hr : Gr_init_38b zin r38 a0 a1 a2 a3 h = some r) : GO 38 [some (111, a0), some (110, a1), some (0, a2), some (0, a3)] [] h := by
  have e9 := Eq.trans (Eq.symm (qe_Gr_init_38b zin r38 a0 a1 a2 a3 h)) hr
  generalize (400 : Nat) = f9 at e9
  refine hS _ _ (zcal_s (SP := zKsp l true zi r) _ ?_) (zorc_s _ ?_) _ _ _ _ _ e9
  · exact trivial
  · exact ⟨zap4_s (P := fun xs h => GO 38 (zfl [some (111, none), some (110, none), some (0, none), some (0, none)] xs).1 (zfs [] (zfl [some (111, none), some (110, none), some (0, none), some (0, none)] xs).2) h) h38, ⟨zap0_s (P := fun xs h => GO 74 (zfl [none, none, none, none] xs).1 (zfs [] (zfl [none, none, none, none] xs).2) h) (fun  h hr => s_Gr_init_74 hS  h hr), trivial⟩⟩
set_option maxRecDepth 100000 in
set_option maxHeartbeats 0 in
theorem s_Gr_init_38 {l : Launch} {zi : Nat → zinfo} {r : zRes} {GO : Nat → List (Option zV) → List zV → zH → Prop} (hS : zSg l true zi (zget (999, 0, 0, 0) zc_Gr_init) (zcut zu_Gr_init) zin (fun _ _ => none) r GO) (a0 a1 a2 a3 : Int) (h : zH) (hr : Gr_init_38 zin a0 a1 a2 a3 h = some r) : GO 38 [some (111, a0), some (110, a1), some (0, a2), some (0, a3)] [] h := zit4_s (P := fun x0 x1 x2 x3 h => GO 38 [some (111, x0), some (110, x1), some (0, x2), some (0, x3)] [] h) (fun rr hh a0 a1 a2 a3 h hr => s_Gr_init_38b hS hh a0 a1 a2 a3 h hr) zN a0 a1 a2 a3 h hr
set_option maxRecDepth 100000 in
set_option maxHeartbeats 0 in
theorem s_Gr_init {l : Launch} {zi : Nat → zinfo} {r : zRes} {GO : Nat → List (Option zV) → List zV → zH → Prop} (hS : zSg l true zi (zget (999, 0, 0, 0) zc_Gr_init) (zcut zu_Gr_init) zin (fun _ _ => none) r GO) (a0 a1 a2 : Int) (h : zH) (hr : Gr_init a0 a1 a2 h zin = some r) : GO 0 [some (111, a0), some (110, a1), some (0, a2), none] [] h := by
  have e9 := Eq.trans (Eq.symm (qe_Gr_init zin a0 a1 a2 h)) hr
  generalize (400 : Nat) = f9 at e9
  refine hS _ _ (zcal_s (SP := zKsp l true zi r) _ ?_) (zorc_s _ ?_) _ _ _ _ _ e9
  · exact trivial
  · exact ⟨zap4_s (P := fun xs h => GO 38 (zfl [some (111, none), some (110, none), some (0, none), some (0, none)] xs).1 (zfs [] (zfl [some (111, none), some (110, none), some (0, none), some (0, none)] xs).2) h) (fun x0 x1 x2 x3 h hr => s_Gr_init_38 hS x0 x1 x2 x3 h hr), trivial⟩
set_option maxRecDepth 100000 in
set_option maxHeartbeats 0 in
theorem s_Bl_nextOf_15b {l : Launch} {zi : Nat → zinfo} {r : zRes} {GO : Nat → List (Option zV) → List zV → zH → Prop} (hS : zSg l true zi (zget (999, 0, 0, 0) zc_Bl_nextOf) (zcut zu_Bl_nextOf) zin (fun _ _ => none) r GO) (k169 : ∀ (x0 x1 x2 : Int) (h : zH) (k : (Int → zH → Option zRes)) (t : (Nat → zH → Option zRes)), Bl_init x0 x1 x2 h k = some r → zKsp l true zi r 169 [x0, x1, x2] h k t) (k202 : ∀ (x0 x1 x2 : Int) (h : zH) (k : (Int → zH → Option zRes)) (t : (Nat → zH → Option zRes)), Gr_init x0 x1 x2 h k = some r → zKsp l true zi r 202 [x0, x1, x2] h k t) {r15 : Int → Int → Int → zH → Option zRes} (h15 : ∀ (x0 x1 x2 : Int) (h : zH), r15 x0 x1 x2 h = some r → GO 15 [some (109, x0), some (110, x1), some (0, x2)] [] h) (a0 a1 a2 : Int) (h : zH) (hr : Bl_nextOf_15b zin r15 a0 a1 a2 h = some r) : GO 15 [some (109, a0), some (110, a1), some (0, a2)] [] h := by
  have e9 := Eq.trans (Eq.symm (qe_Bl_nextOf_15b zin r15 a0 a1 a2 h)) hr
  generalize (400 : Nat) = f9 at e9
  refine hS _ _ (zcal_s (SP := zKsp l true zi r) _ ?_) (zorc_s _ ?_) _ _ _ _ _ e9
  · exact ⟨zca3_s (SP := fun xs h k t => zKsp l true zi r 202 (zfc [none, none, none] xs) h k t) k202, trivial⟩
  · exact ⟨zap3_s (P := fun xs h => GO 15 (zfl [some (109, none), some (110, none), some (0, none)] xs).1 (zfs [] (zfl [some (109, none), some (110, none), some (0, none)] xs).2) h) h15, trivial⟩
set_option maxRecDepth 100000 in
set_option maxHeartbeats 0 in
theorem s_Bl_nextOf_15 {l : Launch} {zi : Nat → zinfo} {r : zRes} {GO : Nat → List (Option zV) → List zV → zH → Prop} (hS : zSg l true zi (zget (999, 0, 0, 0) zc_Bl_nextOf) (zcut zu_Bl_nextOf) zin (fun _ _ => none) r GO) (k169 : ∀ (x0 x1 x2 : Int) (h : zH) (k : (Int → zH → Option zRes)) (t : (Nat → zH → Option zRes)), Bl_init x0 x1 x2 h k = some r → zKsp l true zi r 169 [x0, x1, x2] h k t) (k202 : ∀ (x0 x1 x2 : Int) (h : zH) (k : (Int → zH → Option zRes)) (t : (Nat → zH → Option zRes)), Gr_init x0 x1 x2 h k = some r → zKsp l true zi r 202 [x0, x1, x2] h k t) (a0 a1 a2 : Int) (h : zH) (hr : Bl_nextOf_15 zin a0 a1 a2 h = some r) : GO 15 [some (109, a0), some (110, a1), some (0, a2)] [] h := zit3_s (P := fun x0 x1 x2 h => GO 15 [some (109, x0), some (110, x1), some (0, x2)] [] h) (fun rr hh a0 a1 a2 h hr => s_Bl_nextOf_15b hS k169 k202 hh a0 a1 a2 h hr) zN a0 a1 a2 h hr
set_option maxRecDepth 100000 in
set_option maxHeartbeats 0 in
theorem s_Bl_nextOf {l : Launch} {zi : Nat → zinfo} {r : zRes} {GO : Nat → List (Option zV) → List zV → zH → Prop} (hS : zSg l true zi (zget (999, 0, 0, 0) zc_Bl_nextOf) (zcut zu_Bl_nextOf) zin (fun _ _ => none) r GO) (k169 : ∀ (x0 x1 x2 : Int) (h : zH) (k : (Int → zH → Option zRes)) (t : (Nat → zH → Option zRes)), Bl_init x0 x1 x2 h k = some r → zKsp l true zi r 169 [x0, x1, x2] h k t) (k202 : ∀ (x0 x1 x2 : Int) (h : zH) (k : (Int → zH → Option zRes)) (t : (Nat → zH → Option zRes)), Gr_init x0 x1 x2 h k = some r → zKsp l true zi r 202 [x0, x1, x2] h k t) (a0 : Int) (h : zH) (hr : Bl_nextOf a0 h zin = some r) : GO 0 [some (109, a0), none, none] [] h := by
  have e9 := Eq.trans (Eq.symm (qe_Bl_nextOf zin a0 h)) hr
  generalize (400 : Nat) = f9 at e9
  refine hS _ _ (zcal_s (SP := zKsp l true zi r) _ ?_) (zorc_s _ ?_) _ _ _ _ _ e9
  · exact ⟨zca3_s (SP := fun xs h k t => zKsp l true zi r 169 (zfc [none, none, none] xs) h k t) k169, trivial⟩
  · exact ⟨zap3_s (P := fun xs h => GO 15 (zfl [some (109, none), some (110, none), some (0, none)] xs).1 (zfs [] (zfl [some (109, none), some (110, none), some (0, none)] xs).2) h) (fun x0 x1 x2 h hr => s_Bl_nextOf_15 hS k169 k202 x0 x1 x2 h hr), trivial⟩
set_option maxRecDepth 100000 in
set_option maxHeartbeats 0 in
theorem s_Th_isRunning_14 {l : Launch} {zi : Nat → zinfo} {r : zRes} {GO : Nat → List (Option zV) → List zV → zH → Prop} (hS : zSg l true zi (zget (999, 0, 0, 0) zc_Th_isRunning) (zcut zu_Th_isRunning) zin (fun _ _ => none) r GO) (t0 : Int) (h : zH) (hr : Th_isRunning_14 zin t0 h = some r) : GO 14 [none] [(0, t0)] h := by
  have e9 := Eq.trans (Eq.symm (qe_Th_isRunning_14 zin t0 h)) hr
  generalize (400 : Nat) = f9 at e9
  refine hS _ _ (zcal_s (SP := zKsp l true zi r) _ ?_) (zorc_s _ ?_) _ _ _ _ _ e9
  · exact trivial
  · exact trivial
set_option maxRecDepth 100000 in
set_option maxHeartbeats 0 in
theorem s_Th_isRunning {l : Launch} {zi : Nat → zinfo} {r : zRes} {GO : Nat → List (Option zV) → List zV → zH → Prop} (hS : zSg l true zi (zget (999, 0, 0, 0) zc_Th_isRunning) (zcut zu_Th_isRunning) zin (fun _ _ => none) r GO) (a0 : Int) (h : zH) (hr : Th_isRunning a0 h zin = some r) : GO 0 [some (106, a0)] [] h := by
  have e9 := Eq.trans (Eq.symm (qe_Th_isRunning zin a0 h)) hr
  generalize (400 : Nat) = f9 at e9
  refine hS _ _ (zcal_s (SP := zKsp l true zi r) _ ?_) (zorc_s _ ?_) _ _ _ _ _ e9
  · exact trivial
  · exact ⟨zap1_s (P := fun xs h => GO 14 (zfl [none] xs).1 (zfs [(0, none)] (zfl [none] xs).2) h) (fun x0 h hr => s_Th_isRunning_14 hS x0 h hr), trivial⟩
set_option maxRecDepth 100000 in
set_option maxHeartbeats 0 in
theorem s_Th_isAnyRunning_30 {l : Launch} {zi : Nat → zinfo} {r : zRes} {GO : Nat → List (Option zV) → List zV → zH → Prop} (hS : zSg l true zi (zget (999, 0, 0, 0) zc_Th_isAnyRunning) (zcut zu_Th_isAnyRunning) zin (fun _ _ => none) r GO) (k255 : ∀ (x0 : Int) (h : zH) (k : (Int → zH → Option zRes)) (t : (Nat → zH → Option zRes)), Th_isRunning x0 h k = some r → zKsp l true zi r 255 [x0] h k t) (h : zH) (hr : Th_isAnyRunning_30 zin h = some r) : GO 30 [none, none, none] [] h := by
  have e9 := Eq.trans (Eq.symm (qe_Th_isAnyRunning_30 zin h)) hr
  generalize (400 : Nat) = f9 at e9
  refine hS _ _ (zcal_s (SP := zKsp l true zi r) _ ?_) (zorc_s _ ?_) _ _ _ _ _ e9
  · exact trivial
  · exact trivial
set_option maxRecDepth 100000 in
set_option maxHeartbeats 0 in
theorem s_Th_isAnyRunning_2b {l : Launch} {zi : Nat → zinfo} {r : zRes} {GO : Nat → List (Option zV) → List zV → zH → Prop} (hS : zSg l true zi (zget (999, 0, 0, 0) zc_Th_isAnyRunning) (zcut zu_Th_isAnyRunning) zin (fun _ _ => none) r GO) (k255 : ∀ (x0 : Int) (h : zH) (k : (Int → zH → Option zRes)) (t : (Nat → zH → Option zRes)), Th_isRunning x0 h k = some r → zKsp l true zi r 255 [x0] h k t) {r2 : Int → Int → Int → zH → Option zRes} (h2 : ∀ (x0 x1 x2 : Int) (h : zH), r2 x0 x1 x2 h = some r → GO 2 [some (136, x0), some (0, x1), some (0, x2)] [] h) (a0 a1 a2 : Int) (h : zH) (hr : Th_isAnyRunning_2b zin r2 a0 a1 a2 h = some r) : GO 2 [some (136, a0), some (0, a1), some (0, a2)] [] h := by
  have e9 := Eq.trans (Eq.symm (qe_Th_isAnyRunning_2b zin r2 a0 a1 a2 h)) hr
  generalize (400 : Nat) = f9 at e9
  refine hS _ _ (zcal_s (SP := zKsp l true zi r) _ ?_) (zorc_s _ ?_) _ _ _ _ _ e9
  · exact ⟨zca1_s (SP := fun xs h k t => zKsp l true zi r 255 (zfc [none] xs) h k t) k255, trivial⟩
  · exact ⟨zap3_s (P := fun xs h => GO 2 (zfl [some (136, none), some (0, none), some (0, none)] xs).1 (zfs [] (zfl [some (136, none), some (0, none), some (0, none)] xs).2) h) h2, ⟨zap0_s (P := fun xs h => GO 30 (zfl [none, none, none] xs).1 (zfs [] (zfl [none, none, none] xs).2) h) (fun  h hr => s_Th_isAnyRunning_30 hS k255  h hr), trivial⟩⟩
set_option maxRecDepth 100000 in
set_option maxHeartbeats 0 in
theorem s_Th_isAnyRunning_2 {l : Launch} {zi : Nat → zinfo} {r : zRes} {GO : Nat → List (Option zV) → List zV → zH → Prop} (hS : zSg l true zi (zget (999, 0, 0, 0) zc_Th_isAnyRunning) (zcut zu_Th_isAnyRunning) zin (fun _ _ => none) r GO) (k255 : ∀ (x0 : Int) (h : zH) (k : (Int → zH → Option zRes)) (t : (Nat → zH → Option zRes)), Th_isRunning x0 h k = some r → zKsp l true zi r 255 [x0] h k t) (a0 a1 a2 : Int) (h : zH) (hr : Th_isAnyRunning_2 zin a0 a1 a2 h = some r) : GO 2 [some (136, a0), some (0, a1), some (0, a2)] [] h := zit3_s (P := fun x0 x1 x2 h => GO 2 [some (136, x0), some (0, x1), some (0, x2)] [] h) (fun rr hh a0 a1 a2 h hr => s_Th_isAnyRunning_2b hS k255 hh a0 a1 a2 h hr) zN a0 a1 a2 h hr
set_option maxRecDepth 100000 in
set_option maxHeartbeats 0 in
theorem s_Th_isAnyRunning {l : Launch} {zi : Nat → zinfo} {r : zRes} {GO : Nat → List (Option zV) → List zV → zH → Prop} (hS : zSg l true zi (zget (999, 0, 0, 0) zc_Th_isAnyRunning) (zcut zu_Th_isAnyRunning) zin (fun _ _ => none) r GO) (k255 : ∀ (x0 : Int) (h : zH) (k : (Int → zH → Option zRes)) (t : (Nat → zH → Option zRes)), Th_isRunning x0 h k = some r → zKsp l true zi r 255 [x0] h k t) (a0 a1 : Int) (h : zH) (hr : Th_isAnyRunning a0 a1 h zin = some r) : GO 0 [some (136, a0), some (0, a1), none] [] h := by
  have e9 := Eq.trans (Eq.symm (qe_Th_isAnyRunning zin a0 a1 h)) hr
  generalize (400 : Nat) = f9 at e9
  refine hS _ _ (zcal_s (SP := zKsp l true zi r) _ ?_) (zorc_s _ ?_) _ _ _ _ _ e9
  · exact trivial
  · exact ⟨zap3_s (P := fun xs h => GO 2 (zfl [some (136, none), some (0, none), some (0, none)] xs).1 (zfs [] (zfl [some (136, none), some (0, none), some (0, none)] xs).2) h) (fun x0 x1 x2 h hr => s_Th_isAnyRunning_2 hS k255 x0 x1 x2 h hr), trivial⟩
set_option maxRecDepth 100000 in
set_option maxHeartbeats 0 in
theorem s_Th_isWaiting_14 {l : Launch} {zi : Nat → zinfo} {r : zRes} {GO : Nat → List (Option zV) → List zV → zH → Prop} (hS : zSg l true zi (zget (999, 0, 0, 0) zc_Th_isWaiting) (zcut zu_Th_isWaiting) zin (fun _ _ => none) r GO) (t0 : Int) (h : zH) (hr : Th_isWaiting_14 zin t0 h = some r) : GO 14 [none] [(0, t0)] h := by
  have e9 := Eq.trans (Eq.symm (qe_Th_isWaiting_14 zin t0 h)) hr
  generalize (400 : Nat) = f9 at e9
  refine hS _ _ (zcal_s (SP := zKsp l true zi r) _ ?_) (zorc_s _ ?_) _ _ _ _ _ e9
  · exact trivial
  · exact trivial
set_option maxRecDepth 100000 in
set_option maxHeartbeats 0 in
theorem s_Th_isWaiting {l : Launch} {zi : Nat → zinfo} {r : zRes} {GO : Nat → List (Option zV) → List zV → zH → Prop} (hS : zSg l true zi (zget (999, 0, 0, 0) zc_Th_isWaiting) (zcut zu_Th_isWaiting) zin (fun _ _ => none) r GO) (a0 : Int) (h : zH) (hr : Th_isWaiting a0 h zin = some r) : GO 0 [some (106, a0)] [] h := by
  have e9 := Eq.trans (Eq.symm (qe_Th_isWaiting zin a0 h)) hr
  generalize (400 : Nat) = f9 at e9
  refine hS _ _ (zcal_s (SP := zKsp l true zi r) _ ?_) (zorc_s _ ?_) _ _ _ _ _ e9
  · exact trivial
  · exact ⟨zap1_s (P := fun xs h => GO 14 (zfl [none] xs).1 (zfs [(0, none)] (zfl [none] xs).2) h) (fun x0 h hr => s_Th_isWaiting_14 hS x0 h hr), trivial⟩
set_option maxRecDepth 100000 in
set_option maxHeartbeats 0 in
theorem s_Th_lowestOfWaiting_36_32 {l : Launch} {zi : Nat → zinfo} {r : zRes} {GO : Nat → List (Option zV) → List zV → zH → Prop} (hS : zSg l true zi (zget (999, 0, 0, 0) zc_Th_lowestOfWaiting_36) (zcut zu_Th_lowestOfWaiting_36) zin (fun _ _ => none) r GO) (k256 : ∀ (x0 : Int) (h : zH) (k : (Int → zH → Option zRes)) (t : (Nat → zH → Option zRes)), Th_isWaiting x0 h k = some r → zKsp l true zi r 256 [x0] h k t) (h : zH) (hr : Th_lowestOfWaiting_36_32 zin h = some r) : GO 32 [none, none, none] [] h := by
  have e9 := Eq.trans (Eq.symm (qe_Th_lowestOfWaiting_36_32 zin h)) hr
  generalize (400 : Nat) = f9 at e9
  refine hS _ _ (zcal_s (SP := zKsp l true zi r) _ ?_) (zorc_s _ ?_) _ _ _ _ _ e9
  · exact trivial
  · exact trivial
set_option maxRecDepth 100000 in
set_option maxHeartbeats 0 in
theorem s_Th_lowestOfWaiting_36_2b {l : Launch} {zi : Nat → zinfo} {r : zRes} {GO : Nat → List (Option zV) → List zV → zH → Prop} (hS : zSg l true zi (zget (999, 0, 0, 0) zc_Th_lowestOfWaiting_36) (zcut zu_Th_lowestOfWaiting_36) zin (fun _ _ => none) r GO) (k256 : ∀ (x0 : Int) (h : zH) (k : (Int → zH → Option zRes)) (t : (Nat → zH → Option zRes)), Th_isWaiting x0 h k = some r → zKsp l true zi r 256 [x0] h k t) {r2 : Int → Int → Int → zH → Option zRes} (h2 : ∀ (x0 x1 x2 : Int) (h : zH), r2 x0 x1 x2 h = some r → GO 2 [some (136, x0), some (0, x1), some (0, x2)] [] h) (a0 a1 a2 : Int) (h : zH) (hr : Th_lowestOfWaiting_36_2b zin r2 a0 a1 a2 h = some r) : GO 2 [some (136, a0), some (0, a1), some (0, a2)] [] h := by
  have e9 := Eq.trans (Eq.symm (qe_Th_lowestOfWaiting_36_2b zin r2 a0 a1 a2 h)) hr
  generalize (400 : Nat) = f9 at e9
  refine hS _ _ (zcal_s (SP := zKsp l true zi r) _ ?_) (zorc_s _ ?_) _ _ _ _ _ e9
  · exact ⟨zca1_s (SP := fun xs h k t => zKsp l true zi r 256 (zfc [none] xs) h k t) k256, trivial⟩
  · exact ⟨zap3_s (P := fun xs h => GO 2 (zfl [some (136, none), some (0, none), some (0, none)] xs).1 (zfs [] (zfl [some (136, none), some (0, none), some (0, none)] xs).2) h) h2, ⟨zap0_s (P := fun xs h => GO 32 (zfl [none, none, none] xs).1 (zfs [] (zfl [none, none, none] xs).2) h) (fun  h hr => s_Th_lowestOfWaiting_36_32 hS k256  h hr), trivial⟩⟩
set_option maxRecDepth 100000 in
set_option maxHeartbeats 0 in
theorem s_Th_lowestOfWaiting_36_2 {l : Launch} {zi : Nat → zinfo} {r : zRes} {GO : Nat → List (Option zV) → List zV → zH → Prop} (hS : zSg l true zi (zget (999, 0, 0, 0) zc_Th_lowestOfWaiting_36) (zcut zu_Th_lowestOfWaiting_36) zin (fun _ _ => none) r GO) (k256 : ∀ (x0 : Int) (h : zH) (k : (Int → zH → Option zRes)) (t : (Nat → zH → Option zRes)), Th_isWaiting x0 h k = some r → zKsp l true zi r 256 [x0] h k t) (a0 a1 a2 : Int) (h : zH) (hr : Th_lowestOfWaiting_36_2 zin a0 a1 a2 h = some r) : GO 2 [some (136, a0), some (0, a1), some (0, a2)] [] h := zit3_s (P := fun x0 x1 x2 h => GO 2 [some (136, x0), some (0, x1), some (0, x2)] [] h) (fun rr hh a0 a1 a2 h hr => s_Th_lowestOfWaiting_36_2b hS k256 hh a0 a1 a2 h hr) zN a0 a1 a2 h hr
set_option maxRecDepth 100000 in
set_option maxHeartbeats 0 in
theorem s_Th_lowestOfWaiting_36 {l : Launch} {zi : Nat → zinfo} {r : zRes} {GO : Nat → List (Option zV) → List zV → zH → Prop} (hS : zSg l true zi (zget (999, 0, 0, 0) zc_Th_lowestOfWaiting_36) (zcut zu_Th_lowestOfWaiting_36) zin (fun _ _ => none) r GO) (k256 : ∀ (x0 : Int) (h : zH) (k : (Int → zH → Option zRes)) (t : (Nat → zH → Option zRes)), Th_isWaiting x0 h k = some r → zKsp l true zi r 256 [x0] h k t) (a0 a1 : Int) (h : zH) (hr : Th_lowestOfWaiting_36 a0 a1 h zin = some r) : GO 0 [some (136, a0), some (0, a1), none] [] h := by
  have e9 := Eq.trans (Eq.symm (qe_Th_lowestOfWaiting_36 zin a0 a1 h)) hr
  generalize (400 : Nat) = f9 at e9
  refine hS _ _ (zcal_s (SP := zKsp l true zi r) _ ?_) (zorc_s _ ?_) _ _ _ _ _ e9
  · exact trivial
  · exact ⟨zap3_s (P := fun xs h => GO 2 (zfl [some (136, none), some (0, none), some (0, none)] xs).1 (zfs [] (zfl [some (136, none), some (0, none), some (0, none)] xs).2) h) (fun x0 x1 x2 h hr => s_Th_lowestOfWaiting_36_2 hS k256 x0 x1 x2 h hr), trivial⟩
set_option maxRecDepth 100000 in
set_option maxHeartbeats 0 in
theorem s_Bl_isAllEnded_35 {l : Launch} {zi : Nat → zinfo} {r : zRes} {GO : Nat → List (Option zV) → List zV → zH → Prop} (hS : zSg l true zi (zget (999, 0, 0, 0) zc_Bl_isAllEnded) (zcut zu_Bl_isAllEnded) zin (fun _ _ => none) r GO) (k263 : ∀ (x0 x1 : Int) (h : zH) (k : (Int → zH → Option zRes)) (t : (Nat → zH → Option zRes)), Th_isAnyRunning x0 x1 h k = some r → zKsp l true zi r 263 [x0, x1] h k t) (k265 : ∀ (x0 x1 : Int) (h : zH) (k : (Int → zH → Option zRes)) (t : (Nat → zH → Option zRes)), Th_lowestOfWaiting_36 x0 x1 h k = some r → zKsp l true zi r 265 [x0, x1] h k t) (t0 : Int) (h : zH) (hr : Bl_isAllEnded_35 zin t0 h = some r) : GO 35 [none] [(0, t0)] h := by
  have e9 := Eq.trans (Eq.symm (qe_Bl_isAllEnded_35 zin t0 h)) hr
  generalize (400 : Nat) = f9 at e9
  refine hS _ _ (zcal_s (SP := zKsp l true zi r) _ ?_) (zorc_s _ ?_) _ _ _ _ _ e9
  · exact trivial
  · exact trivial
set_option maxRecDepth 100000 in
set_option maxHeartbeats 0 in
theorem s_Bl_isAllEnded_34 {l : Launch} {zi : Nat → zinfo} {r : zRes} {GO : Nat → List (Option zV) → List zV → zH → Prop} (hS : zSg l true zi (zget (999, 0, 0, 0) zc_Bl_isAllEnded) (zcut zu_Bl_isAllEnded) zin (fun _ _ => none) r GO) (k263 : ∀ (x0 x1 : Int) (h : zH) (k : (Int → zH → Option zRes)) (t : (Nat → zH → Option zRes)), Th_isAnyRunning x0 x1 h k = some r → zKsp l true zi r 263 [x0, x1] h k t) (k265 : ∀ (x0 x1 : Int) (h : zH) (k : (Int → zH → Option zRes)) (t : (Nat → zH → Option zRes)), Th_lowestOfWaiting_36 x0 x1 h k = some r → zKsp l true zi r 265 [x0, x1] h k t) (h : zH) (hr : Bl_isAllEnded_34 zin h = some r) : GO 34 [none] [] h := by
  have e9 := Eq.trans (Eq.symm (qe_Bl_isAllEnded_34 zin h)) hr
  generalize (400 : Nat) = f9 at e9
  refine hS _ _ (zcal_s (SP := zKsp l true zi r) _ ?_) (zorc_s _ ?_) _ _ _ _ _ e9
  · exact trivial
  · exact ⟨zap1_s (P := fun xs h => GO 35 (zfl [none] xs).1 (zfs [(0, none)] (zfl [none] xs).2) h) (fun x0 h hr => s_Bl_isAllEnded_35 hS k263 k265 x0 h hr), trivial⟩
set_option maxRecDepth 100000 in
set_option maxHeartbeats 0 in
theorem s_Bl_isAllEnded {l : Launch} {zi : Nat → zinfo} {r : zRes} {GO : Nat → List (Option zV) → List zV → zH → Prop} (hS : zSg l true zi (zget (999, 0, 0, 0) zc_Bl_isAllEnded) (zcut zu_Bl_isAllEnded) zin (fun _ _ => none) r GO) (k263 : ∀ (x0 x1 : Int) (h : zH) (k : (Int → zH → Option zRes)) (t : (Nat → zH → Option zRes)), Th_isAnyRunning x0 x1 h k = some r → zKsp l true zi r 263 [x0, x1] h k t) (k265 : ∀ (x0 x1 : Int) (h : zH) (k : (Int → zH → Option zRes)) (t : (Nat → zH → Option zRes)), Th_lowestOfWaiting_36 x0 x1 h k = some r → zKsp l true zi r 265 [x0, x1] h k t) (a0 : Int) (h : zH) (hr : Bl_isAllEnded a0 h zin = some r) : GO 0 [some (110, a0)] [] h := by
  have e9 := Eq.trans (Eq.symm (qe_Bl_isAllEnded zin a0 h)) hr
  generalize (400 : Nat) = f9 at e9
  refine hS _ _ (zcal_s (SP := zKsp l true zi r) _ ?_) (zorc_s _ ?_) _ _ _ _ _ e9
  · exact ⟨zca2_s (SP := fun xs h k t => zKsp l true zi r 263 (zfc [none, none] xs) h k t) k263, ⟨zca2_s (SP := fun xs h k t => zKsp l true zi r 265 (zfc [none, none] xs) h k t) k265, trivial⟩⟩
  · exact ⟨zap0_s (P := fun xs h => GO 34 (zfl [none] xs).1 (zfs [] (zfl [none] xs).2) h) (fun  h hr => s_Bl_isAllEnded_34 hS k263 k265  h hr), ⟨zap1_s (P := fun xs h => GO 35 (zfl [none] xs).1 (zfs [(0, none)] (zfl [none] xs).2) h) (fun x0 h hr => s_Bl_isAllEnded_35 hS k263 k265 x0 h hr), trivial⟩⟩
set_option maxRecDepth 100000 in
set_option maxHeartbeats 0 in
theorem s_La_isRunning_14 {l : Launch} {zi : Nat → zinfo} {r : zRes} {GO : Nat → List (Option zV) → List zV → zH → Prop} (hS : zSg l true zi (zget (999, 0, 0, 0) zc_La_isRunning) (zcut zu_La_isRunning) zin (fun _ _ => none) r GO) (t0 : Int) (h : zH) (hr : La_isRunning_14 zin t0 h = some r) : GO 14 [none] [(0, t0)] h := by
  have e9 := Eq.trans (Eq.symm (qe_La_isRunning_14 zin t0 h)) hr
  generalize (400 : Nat) = f9 at e9
  refine hS _ _ (zcal_s (SP := zKsp l true zi r) _ ?_) (zorc_s _ ?_) _ _ _ _ _ e9
  · exact trivial
  · exact trivial
set_option maxRecDepth 100000 in
set_option maxHeartbeats 0 in
theorem s_La_isRunning {l : Launch} {zi : Nat → zinfo} {r : zRes} {GO : Nat → List (Option zV) → List zV → zH → Prop} (hS : zSg l true zi (zget (999, 0, 0, 0) zc_La_isRunning) (zcut zu_La_isRunning) zin (fun _ _ => none) r GO) (a0 : Int) (h : zH) (hr : La_isRunning a0 h zin = some r) : GO 0 [some (109, a0)] [] h := by
  have e9 := Eq.trans (Eq.symm (qe_La_isRunning zin a0 h)) hr
  generalize (400 : Nat) = f9 at e9
  refine hS _ _ (zcal_s (SP := zKsp l true zi r) _ ?_) (zorc_s _ ?_) _ _ _ _ _ e9
  · exact trivial
  · exact ⟨zap1_s (P := fun xs h => GO 14 (zfl [none] xs).1 (zfs [(0, none)] (zfl [none] xs).2) h) (fun x0 h hr => s_La_isRunning_14 hS x0 h hr), trivial⟩
set_option maxRecDepth 100000 in
set_option maxHeartbeats 0 in
theorem s_Le_hasOpenChild_37 {l : Launch} {zi : Nat → zinfo} {r : zRes} {GO : Nat → List (Option zV) → List zV → zH → Prop} (hS : zSg l true zi (zget (999, 0, 0, 0) zc_Le_hasOpenChild) (zcut zu_Le_hasOpenChild) zin (fun _ _ => none) r GO) (k231 : ∀ (x0 : Int) (h : zH) (k : (Int → zH → Option zRes)) (t : (Nat → zH → Option zRes)), La_isOver x0 h k = some r → zKsp l true zi r 231 [x0] h k t) {r2 : Int → Int → Int → zH → Option zRes} (h2 : ∀ (x0 x1 x2 : Int) (h : zH), r2 x0 x1 x2 h = some r → GO 2 [some (101, x0), some (109, x1), some (0, x2)] [] h) (a0 a1 a2 : Int) (h : zH) (hr : Le_hasOpenChild_37 zin r2 a0 a1 a2 h = some r) : GO 37 [some (101, a0), some (109, a1), some (0, a2)] [] h := by
  have e9 := Eq.trans (Eq.symm (qe_Le_hasOpenChild_37 zin r2 a0 a1 a2 h)) hr
  generalize (400 : Nat) = f9 at e9
  refine hS _ _ (zcal_s (SP := zKsp l true zi r) _ ?_) (zorc_s _ ?_) _ _ _ _ _ e9
  · exact trivial
  · exact ⟨zap3_s (P := fun xs h => GO 2 (zfl [some (101, none), some (109, none), some (0, none)] xs).1 (zfs [] (zfl [some (101, none), some (109, none), some (0, none)] xs).2) h) h2, trivial⟩
set_option maxRecDepth 100000 in
set_option maxHeartbeats 0 in
theorem s_Le_hasOpenChild_2b {l : Launch} {zi : Nat → zinfo} {r : zRes} {GO : Nat → List (Option zV) → List zV → zH → Prop} (hS : zSg l true zi (zget (999, 0, 0, 0) zc_Le_hasOpenChild) (zcut zu_Le_hasOpenChild) zin (fun _ _ => none) r GO) (k231 : ∀ (x0 : Int) (h : zH) (k : (Int → zH → Option zRes)) (t : (Nat → zH → Option zRes)), La_isOver x0 h k = some r → zKsp l true zi r 231 [x0] h k t) {r2 : Int → Int → Int → zH → Option zRes} (h2 : ∀ (x0 x1 x2 : Int) (h : zH), r2 x0 x1 x2 h = some r → GO 2 [some (101, x0), some (109, x1), some (0, x2)] [] h) (a0 a1 a2 : Int) (h : zH) (hr : Le_hasOpenChild_2b zin r2 a0 a1 a2 h = some r) : GO 2 [some (101, a0), some (109, a1), some (0, a2)] [] h := by
  have e9 := Eq.trans (Eq.symm (qe_Le_hasOpenChild_2b zin r2 a0 a1 a2 h)) hr
  generalize (400 : Nat) = f9 at e9
  refine hS _ _ (zcal_s (SP := zKsp l true zi r) _ ?_) (zorc_s _ ?_) _ _ _ _ _ e9
  · exact ⟨zca1_s (SP := fun xs h k t => zKsp l true zi r 231 (zfc [none] xs) h k t) k231, trivial⟩
  · exact ⟨zap3_s (P := fun xs h => GO 37 (zfl [some (101, none), some (109, none), some (0, none)] xs).1 (zfs [] (zfl [some (101, none), some (109, none), some (0, none)] xs).2) h) (fun x0 x1 x2 h hr => s_Le_hasOpenChild_37 hS k231 h2 x0 x1 x2 h hr), trivial⟩
set_option maxRecDepth 100000 in
set_option maxHeartbeats 0 in
theorem s_Le_hasOpenChild_2 {l : Launch} {zi : Nat → zinfo} {r : zRes} {GO : Nat → List (Option zV) → List zV → zH → Prop} (hS : zSg l true zi (zget (999, 0, 0, 0) zc_Le_hasOpenChild) (zcut zu_Le_hasOpenChild) zin (fun _ _ => none) r GO) (k231 : ∀ (x0 : Int) (h : zH) (k : (Int → zH → Option zRes)) (t : (Nat → zH → Option zRes)), La_isOver x0 h k = some r → zKsp l true zi r 231 [x0] h k t) (a0 a1 a2 : Int) (h : zH) (hr : Le_hasOpenChild_2 zin a0 a1 a2 h = some r) : GO 2 [some (101, a0), some (109, a1), some (0, a2)] [] h := zit3_s (P := fun x0 x1 x2 h => GO 2 [some (101, x0), some (109, x1), some (0, x2)] [] h) (fun rr hh a0 a1 a2 h hr => s_Le_hasOpenChild_2b hS k231 hh a0 a1 a2 h hr) zN a0 a1 a2 h hr
set_option maxRecDepth 100000 in
set_option maxHeartbeats 0 in
theorem s_Le_hasOpenChild {l : Launch} {zi : Nat → zinfo} {r : zRes} {GO : Nat → List (Option zV) → List zV → zH → Prop} (hS : zSg l true zi (zget (999, 0, 0, 0) zc_Le_hasOpenChild) (zcut zu_Le_hasOpenChild) zin (fun _ _ => none) r GO) (k231 : ∀ (x0 : Int) (h : zH) (k : (Int → zH → Option zRes)) (t : (Nat → zH → Option zRes)), La_isOver x0 h k = some r → zKsp l true zi r 231 [x0] h k t) (a0 a1 : Int) (h : zH) (hr : Le_hasOpenChild a0 a1 h zin = some r) : GO 0 [some (101, a0), some (109, a1), none] [] h := by
  have e9 := Eq.trans (Eq.symm (qe_Le_hasOpenChild zin a0 a1 h)) hr
  generalize (400 : Nat) = f9 at e9
  refine hS _ _ (zcal_s (SP := zKsp l true zi r) _ ?_) (zorc_s _ ?_) _ _ _ _ _ e9
  · exact trivial
  · exact ⟨zap3_s (P := fun xs h => GO 2 (zfl [some (101, none), some (109, none), some (0, none)] xs).1 (zfs [] (zfl [some (101, none), some (109, none), some (0, none)] xs).2) h) (fun x0 x1 x2 h hr => s_Le_hasOpenChild_2 hS k231 x0 x1 x2 h hr), trivial⟩
set_option maxRecDepth 100000 in
set_option maxHeartbeats 0 in
theorem s_Le_endIfDone_40 {l : Launch} {zi : Nat → zinfo} {r : zRes} {GO : Nat → List (Option zV) → List zV → zH → Prop} (hS : zSg l true zi (zget (999, 0, 0, 0) zc_Le_endIfDone) (zcut zu_Le_endIfDone) zin (fun _ _ => none) r GO) (k233 : ∀ (x0 : Int) (h : zH) (k : (Int → zH → Option zRes)) (t : (Nat → zH → Option zRes)), La_isRunning x0 h k = some r → zKsp l true zi r 233 [x0] h k t) (k252 : ∀ (x0 x1 : Int) (h : zH) (k : (Int → zH → Option zRes)) (t : (Nat → zH → Option zRes)), Le_hasOpenChild x0 x1 h k = some r → zKsp l true zi r 252 [x0, x1] h k t) (h : zH) (hr : Le_endIfDone_40 zin h = some r) : GO 40 [none, none, none, none] [] h := by
  have e9 := Eq.trans (Eq.symm (qe_Le_endIfDone_40 zin h)) hr
  generalize (400 : Nat) = f9 at e9
  refine hS _ _ (zcal_s (SP := zKsp l true zi r) _ ?_) (zorc_s _ ?_) _ _ _ _ _ e9
  · exact trivial
  · exact trivial
set_option maxRecDepth 100000 in
set_option maxHeartbeats 0 in
theorem s_Le_endIfDone_58 {l : Launch} {zi : Nat → zinfo} {r : zRes} {GO : Nat → List (Option zV) → List zV → zH → Prop} (hS : zSg l true zi (zget (999, 0, 0, 0) zc_Le_endIfDone) (zcut zu_Le_endIfDone) zin (fun _ _ => none) r GO) (k233 : ∀ (x0 : Int) (h : zH) (k : (Int → zH → Option zRes)) (t : (Nat → zH → Option zRes)), La_isRunning x0 h k = some r → zKsp l true zi r 233 [x0] h k t) (k252 : ∀ (x0 x1 : Int) (h : zH) (k : (Int → zH → Option zRes)) (t : (Nat → zH → Option zRes)), Le_hasOpenChild x0 x1 h k = some r → zKsp l true zi r 252 [x0, x1] h k t) (h : zH) (hr : Le_endIfDone_58 zin h = some r) : GO 58 [none, none, none, none] [] h := by
  have e9 := Eq.trans (Eq.symm (qe_Le_endIfDone_58 zin h)) hr
  generalize (400 : Nat) = f9 at e9
  refine hS _ _ (zcal_s (SP := zKsp l true zi r) _ ?_) (zorc_s _ ?_) _ _ _ _ _ e9
  · exact trivial
  · exact trivial
set_option maxRecDepth 100000 in
set_option maxHeartbeats 0 in
theorem s_Le_endIfDone_4b {l : Launch} {zi : Nat → zinfo} {r : zRes} {GO : Nat → List (Option zV) → List zV → zH → Prop} (hS : zSg l true zi (zget (999, 0, 0, 0) zc_Le_endIfDone) (zcut zu_Le_endIfDone) zin (fun _ _ => none) r GO) (k233 : ∀ (x0 : Int) (h : zH) (k : (Int → zH → Option zRes)) (t : (Nat → zH → Option zRes)), La_isRunning x0 h k = some r → zKsp l true zi r 233 [x0] h k t) (k252 : ∀ (x0 x1 : Int) (h : zH) (k : (Int → zH → Option zRes)) (t : (Nat → zH → Option zRes)), Le_hasOpenChild x0 x1 h k = some r → zKsp l true zi r 252 [x0, x1] h k t) {r4 : Int → Int → Int → zH → Option zRes} (h4 : ∀ (x0 x1 x2 : Int) (h : zH), r4 x0 x1 x2 h = some r → GO 4 [some (101, x0), none, some (109, x1), some (0, x2)] [] h) (a0 a2 a3 : Int) (h : zH) (hr : Le_endIfDone_4b zin r4 a0 a2 a3 h = some r) : GO 4 [some (101, a0), none, some (109, a2), some (0, a3)] [] h := by
  have e9 := Eq.trans (Eq.symm (qe_Le_endIfDone_4b zin r4 a0 a2 a3 h)) hr
  generalize (400 : Nat) = f9 at e9
  refine hS _ _ (zcal_s (SP := zKsp l true zi r) _ ?_) (zorc_s _ ?_) _ _ _ _ _ e9
  · exact ⟨zca1_s (SP := fun xs h k t => zKsp l true zi r 233 (zfc [none] xs) h k t) k233, ⟨zca2_s (SP := fun xs h k t => zKsp l true zi r 252 (zfc [none, none] xs) h k t) k252, trivial⟩⟩
  · exact ⟨zap3_s (P := fun xs h => GO 4 (zfl [some (101, none), none, some (109, none), some (0, none)] xs).1 (zfs [] (zfl [some (101, none), none, some (109, none), some (0, none)] xs).2) h) h4, ⟨zap0_s (P := fun xs h => GO 40 (zfl [none, none, none, none] xs).1 (zfs [] (zfl [none, none, none, none] xs).2) h) (fun  h hr => s_Le_endIfDone_40 hS k233 k252  h hr), ⟨zap0_s (P := fun xs h => GO 58 (zfl [none, none, none, none] xs).1 (zfs [] (zfl [none, none, none, none] xs).2) h) (fun  h hr => s_Le_endIfDone_58 hS k233 k252  h hr), trivial⟩⟩⟩
set_option maxRecDepth 100000 in
set_option maxHeartbeats 0 in
theorem s_Le_endIfDone_4 {l : Launch} {zi : Nat → zinfo} {r : zRes} {GO : Nat → List (Option zV) → List zV → zH → Prop} (hS : zSg l true zi (zget (999, 0, 0, 0) zc_Le_endIfDone) (zcut zu_Le_endIfDone) zin (fun _ _ => none) r GO) (k233 : ∀ (x0 : Int) (h : zH) (k : (Int → zH → Option zRes)) (t : (Nat → zH → Option zRes)), La_isRunning x0 h k = some r → zKsp l true zi r 233 [x0] h k t) (k252 : ∀ (x0 x1 : Int) (h : zH) (k : (Int → zH → Option zRes)) (t : (Nat → zH → Option zRes)), Le_hasOpenChild x0 x1 h k = some r → zKsp l true zi r 252 [x0, x1] h k t) (a0 a2 a3 : Int) (h : zH) (hr : Le_endIfDone_4 zin a0 a2 a3 h = some r) : GO 4 [some (101, a0), none, some (109, a2), some (0, a3)] [] h := zit3_s (P := fun x0 x1 x2 h => GO 4 [some (101, x0), none, some (109, x1), some (0, x2)] [] h) (fun rr hh a0 a2 a3 h hr => s_Le_endIfDone_4b hS k233 k252 hh a0 a2 a3 h hr) zN a0 a2 a3 h hr
set_option maxRecDepth 100000 in
set_option maxHeartbeats 0 in
theorem s_Le_endIfDone {l : Launch} {zi : Nat → zinfo} {r : zRes} {GO : Nat → List (Option zV) → List zV → zH → Prop} (hS : zSg l true zi (zget (999, 0, 0, 0) zc_Le_endIfDone) (zcut zu_Le_endIfDone) zin (fun _ _ => none) r GO) (k233 : ∀ (x0 : Int) (h : zH) (k : (Int → zH → Option zRes)) (t : (Nat → zH → Option zRes)), La_isRunning x0 h k = some r → zKsp l true zi r 233 [x0] h k t) (k252 : ∀ (x0 x1 : Int) (h : zH) (k : (Int → zH → Option zRes)) (t : (Nat → zH → Option zRes)), Le_hasOpenChild x0 x1 h k = some r → zKsp l true zi r 252 [x0, x1] h k t) (a0 a1 : Int) (h : zH) (hr : Le_endIfDone a0 a1 h zin = some r) : GO 0 [some (101, a0), some (109, a1), none, none] [] h := by
  have e9 := Eq.trans (Eq.symm (qe_Le_endIfDone zin a0 a1 h)) hr
  generalize (400 : Nat) = f9 at e9
  refine hS _ _ (zcal_s (SP := zKsp l true zi r) _ ?_) (zorc_s _ ?_) _ _ _ _ _ e9
  · exact trivial
  · exact ⟨zap3_s (P := fun xs h => GO 4 (zfl [some (101, none), none, some (109, none), some (0, none)] xs).1 (zfs [] (zfl [some (101, none), none, some (109, none), some (0, none)] xs).2) h) (fun x0 x1 x2 h hr => s_Le_endIfDone_4 hS k233 k252 x0 x1 x2 h hr), trivial⟩
set_option maxRecDepth 100000 in
set_option maxHeartbeats 0 in
theorem s_Un_cutTo_2b {l : Launch} {zi : Nat → zinfo} {r : zRes} {GO : Nat → List (Option zV) → List zV → zH → Prop} (hS : zSg l true zi (zget (999, 0, 0, 0) zc_Un_cutTo) (zcut zu_Un_cutTo) zin (fun _ _ => none) r GO) {r2 : Int → Int → Int → zH → Option zRes} (h2 : ∀ (x0 x1 x2 : Int) (h : zH), r2 x0 x1 x2 h = some r → GO 2 [some (103, x0), some (0, x1), some (0, x2)] [] h) (a0 a1 a2 : Int) (h : zH) (hr : Un_cutTo_2b zin r2 a0 a1 a2 h = some r) : GO 2 [some (103, a0), some (0, a1), some (0, a2)] [] h := by
  have e9 := Eq.trans (Eq.symm (qe_Un_cutTo_2b zin r2 a0 a1 a2 h)) hr
  generalize (400 : Nat) = f9 at e9
  refine hS _ _ (zcal_s (SP := zKsp l true zi r) _ ?_) (zorc_s _ ?_) _ _ _ _ _ e9
  · exact trivial
  · exact ⟨zap3_s (P := fun xs h => GO 2 (zfl [some (103, none), some (0, none), some (0, none)] xs).1 (zfs [] (zfl [some (103, none), some (0, none), some (0, none)] xs).2) h) h2, trivial⟩
set_option maxRecDepth 100000 in
set_option maxHeartbeats 0 in
theorem s_Un_cutTo_2 {l : Launch} {zi : Nat → zinfo} {r : zRes} {GO : Nat → List (Option zV) → List zV → zH → Prop} (hS : zSg l true zi (zget (999, 0, 0, 0) zc_Un_cutTo) (zcut zu_Un_cutTo) zin (fun _ _ => none) r GO) (a0 a1 a2 : Int) (h : zH) (hr : Un_cutTo_2 zin a0 a1 a2 h = some r) : GO 2 [some (103, a0), some (0, a1), some (0, a2)] [] h := zit3_s (P := fun x0 x1 x2 h => GO 2 [some (103, x0), some (0, x1), some (0, x2)] [] h) (fun rr hh a0 a1 a2 h hr => s_Un_cutTo_2b hS hh a0 a1 a2 h hr) zN a0 a1 a2 h hr
set_option maxRecDepth 100000 in
set_option maxHeartbeats 0 in
theorem s_Un_cutTo {l : Launch} {zi : Nat → zinfo} {r : zRes} {GO : Nat → List (Option zV) → List zV → zH → Prop} (hS : zSg l true zi (zget (999, 0, 0, 0) zc_Un_cutTo) (zcut zu_Un_cutTo) zin (fun _ _ => none) r GO) (a0 a1 : Int) (h : zH) (hr : Un_cutTo a0 a1 h zin = some r) : GO 0 [some (103, a0), some (0, a1), none] [] h := by
  have e9 := Eq.trans (Eq.symm (qe_Un_cutTo zin a0 a1 h)) hr
  generalize (400 : Nat) = f9 at e9
  refine hS _ _ (zcal_s (SP := zKsp l true zi r) _ ?_) (zorc_s _ ?_) _ _ _ _ _ e9
  · exact trivial
  · exact ⟨zap3_s (P := fun xs h => GO 2 (zfl [some (103, none), some (0, none), some (0, none)] xs).1 (zfs [] (zfl [some (103, none), some (0, none), some (0, none)] xs).2) h) (fun x0 x1 x2 h hr => s_Un_cutTo_2 hS x0 x1 x2 h hr), trivial⟩
set_option maxRecDepth 100000 in
set_option maxHeartbeats 0 in
theorem s_Un_dropBlock_40 {l : Launch} {zi : Nat → zinfo} {r : zRes} {GO : Nat → List (Option zV) → List zV → zH → Prop} (hS : zSg l true zi (zget (999, 0, 0, 0) zc_Un_dropBlock) (zcut zu_Un_dropBlock) zin (fun _ _ => none) r GO) (k284 : ∀ (x0 x1 : Int) (h : zH) (k : (Int → zH → Option zRes)) (t : (Nat → zH → Option zRes)), Un_cutTo x0 x1 h k = some r → zKsp l true zi r 284 [x0, x1] h k t) {r4 : Int → Int → Int → Int → zH → Option zRes} (h4 : ∀ (x0 x1 x2 x3 : Int) (h : zH), r4 x0 x1 x2 x3 h = some r → GO 4 [some (103, x0), some (110, x1), some (0, x2), some (0, x3)] [] h) (a0 a1 a2 a3 : Int) (h : zH) (hr : Un_dropBlock_40 zin r4 a0 a1 a2 a3 h = some r) : GO 40 [some (103, a0), some (110, a1), some (0, a2), some (0, a3)] [] h := by
  have e9 := Eq.trans (Eq.symm (qe_Un_dropBlock_40 zin r4 a0 a1 a2 a3 h)) hr
  generalize (400 : Nat) = f9 at e9
  refine hS _ _ (zcal_s (SP := zKsp l true zi r) _ ?_) (zorc_s _ ?_) _ _ _ _ _ e9
  · exact trivial
  · exact ⟨zap4_s (P := fun xs h => GO 4 (zfl [some (103, none), some (110, none), some (0, none), some (0, none)] xs).1 (zfs [] (zfl [some (103, none), some (110, none), some (0, none), some (0, none)] xs).2) h) h4, trivial⟩
set_option maxRecDepth 100000 in
set_option maxHeartbeats 0 in
theorem s_Un_dropBlock_4b {l : Launch} {zi : Nat → zinfo} {r : zRes} {GO : Nat → List (Option zV) → List zV → zH → Prop} (hS : zSg l true zi (zget (999, 0, 0, 0) zc_Un_dropBlock) (zcut zu_Un_dropBlock) zin (fun _ _ => none) r GO) (k284 : ∀ (x0 x1 : Int) (h : zH) (k : (Int → zH → Option zRes)) (t : (Nat → zH → Option zRes)), Un_cutTo x0 x1 h k = some r → zKsp l true zi r 284 [x0, x1] h k t) {r4 : Int → Int → Int → Int → zH → Option zRes} (h4 : ∀ (x0 x1 x2 x3 : Int) (h : zH), r4 x0 x1 x2 x3 h = some r → GO 4 [some (103, x0), some (110, x1), some (0, x2), some (0, x3)] [] h) (a0 a1 a2 a3 : Int) (h : zH) (hr : Un_dropBlock_4b zin r4 a0 a1 a2 a3 h = some r) : GO 4 [some (103, a0), some (110, a1), some (0, a2), some (0, a3)] [] h := by
  have e9 := Eq.trans (Eq.symm (qe_Un_dropBlock_4b zin r4 a0 a1 a2 a3 h)) hr
  generalize (400 : Nat) = f9 at e9
  refine hS _ _ (zcal_s (SP := zKsp l true zi r) _ ?_) (zorc_s _ ?_) _ _ _ _ _ e9
  · exact ⟨zca2_s (SP := fun xs h k t => zKsp l true zi r 284 (zfc [none, none] xs) h k t) k284, trivial⟩
  · exact ⟨zap4_s (P := fun xs h => GO 40 (zfl [some (103, none), some (110, none), some (0, none), some (0, none)] xs).1 (zfs [] (zfl [some (103, none), some (110, none), some (0, none), some (0, none)] xs).2) h) (fun x0 x1 x2 x3 h hr => s_Un_dropBlock_40 hS k284 h4 x0 x1 x2 x3 h hr), trivial⟩
set_option maxRecDepth 100000 in
set_option maxHeartbeats 0 in
theorem s_Un_dropBlock_4 {l : Launch} {zi : Nat → zinfo} {r : zRes} {GO : Nat → List (Option zV) → List zV → zH → Prop} (hS : zSg l true zi (zget (999, 0, 0, 0) zc_Un_dropBlock) (zcut zu_Un_dropBlock) zin (fun _ _ => none) r GO) (k284 : ∀ (x0 x1 : Int) (h : zH) (k : (Int → zH → Option zRes)) (t : (Nat → zH → Option zRes)), Un_cutTo x0 x1 h k = some r → zKsp l true zi r 284 [x0, x1] h k t) (a0 a1 a2 a3 : Int) (h : zH) (hr : Un_dropBlock_4 zin a0 a1 a2 a3 h = some r) : GO 4 [some (103, a0), some (110, a1), some (0, a2), some (0, a3)] [] h := zit4_s (P := fun x0 x1 x2 x3 h => GO 4 [some (103, x0), some (110, x1), some (0, x2), some (0, x3)] [] h) (fun rr hh a0 a1 a2 a3 h hr => s_Un_dropBlock_4b hS k284 hh a0 a1 a2 a3 h hr) zN a0 a1 a2 a3 h hr
set_option maxRecDepth 100000 in
set_option maxHeartbeats 0 in
theorem s_Un_dropBlock {l : Launch} {zi : Nat → zinfo} {r : zRes} {GO : Nat → List (Option zV) → List zV → zH → Prop} (hS : zSg l true zi (zget (999, 0, 0, 0) zc_Un_dropBlock) (zcut zu_Un_dropBlock) zin (fun _ _ => none) r GO) (k284 : ∀ (x0 x1 : Int) (h : zH) (k : (Int → zH → Option zRes)) (t : (Nat → zH → Option zRes)), Un_cutTo x0 x1 h k = some r → zKsp l true zi r 284 [x0, x1] h k t) (a0 a1 : Int) (h : zH) (hr : Un_dropBlock a0 a1 h zin = some r) : GO 0 [some (103, a0), some (110, a1), none, none] [] h := by
  have e9 := Eq.trans (Eq.symm (qe_Un_dropBlock zin a0 a1 h)) hr
  generalize (400 : Nat) = f9 at e9
  refine hS _ _ (zcal_s (SP := zKsp l true zi r) _ ?_) (zorc_s _ ?_) _ _ _ _ _ e9
  · exact trivial
  · exact ⟨zap4_s (P := fun xs h => GO 4 (zfl [some (103, none), some (110, none), some (0, none), some (0, none)] xs).1 (zfs [] (zfl [some (103, none), some (110, none), some (0, none), some (0, none)] xs).2) h) (fun x0 x1 x2 x3 h hr => s_Un_dropBlock_4 hS k284 x0 x1 x2 x3 h hr), trivial⟩
set_option maxRecDepth 100000 in
set_option maxHeartbeats 0 in
theorem s_Co_endIfEnded_10b {l : Launch} {zi : Nat → zinfo} {r : zRes} {GO : Nat → List (Option zV) → List zV → zH → Prop} (hS : zSg l true zi (zget (999, 0, 0, 0) zc_Co_endIfEnded) (zcut zu_Co_endIfEnded) zin (fun _ _ => none) r GO) (k172 : ∀ (x0 : Int) (h : zH) (k : (Int → zH → Option zRes)) (t : (Nat → zH → Option zRes)), Bl_isAllEnded x0 h k = some r → zKsp l true zi r 172 [x0] h k t) (k251 : ∀ (x0 x1 : Int) (h : zH) (k : (Int → zH → Option zRes)) (t : (Nat → zH → Option zRes)), Le_endIfDone x0 x1 h k = some r → zKsp l true zi r 251 [x0, x1] h k t) (k282 : ∀ (x0 x1 : Int) (h : zH) (k : (Int → zH → Option zRes)) (t : (Nat → zH → Option zRes)), Un_dropBlock x0 x1 h k = some r → zKsp l true zi r 282 [x0, x1] h k t) {r10 : Int → Int → Int → zH → Option zRes} (h10 : ∀ (x0 x1 x2 : Int) (h : zH), r10 x0 x1 x2 h = some r → GO 10 [some (102, x0), some (110, x1), some (0, x2)] [] h) (a0 a1 a2 : Int) (h : zH) (hr : Co_endIfEnded_10b zin r10 a0 a1 a2 h = some r) : GO 10 [some (102, a0), some (110, a1), some (0, a2)] [] h := by
  have e9 := Eq.trans (Eq.symm (qe_Co_endIfEnded_10b zin r10 a0 a1 a2 h)) hr
  generalize (400 : Nat) = f9 at e9
  refine hS _ _ (zcal_s (SP := zKsp l true zi r) _ ?_) (zorc_s _ ?_) _ _ _ _ _ e9
  · exact ⟨zca2_s (SP := fun xs h k t => zKsp l true zi r 251 (zfc [none, none] xs) h k t) k251, ⟨zca2_s (SP := fun xs h k t => zKsp l true zi r 282 (zfc [none, none] xs) h k t) k282, trivial⟩⟩
  · exact ⟨zap3_s (P := fun xs h => GO 10 (zfl [some (102, none), some (110, none), some (0, none)] xs).1 (zfs [] (zfl [some (102, none), some (110, none), some (0, none)] xs).2) h) h10, trivial⟩
set_option maxRecDepth 100000 in
set_option maxHeartbeats 0 in
theorem s_Co_endIfEnded_10 {l : Launch} {zi : Nat → zinfo} {r : zRes} {GO : Nat → List (Option zV) → List zV → zH → Prop} (hS : zSg l true zi (zget (999, 0, 0, 0) zc_Co_endIfEnded) (zcut zu_Co_endIfEnded) zin (fun _ _ => none) r GO) (k172 : ∀ (x0 : Int) (h : zH) (k : (Int → zH → Option zRes)) (t : (Nat → zH → Option zRes)), Bl_isAllEnded x0 h k = some r → zKsp l true zi r 172 [x0] h k t) (k251 : ∀ (x0 x1 : Int) (h : zH) (k : (Int → zH → Option zRes)) (t : (Nat → zH → Option zRes)), Le_endIfDone x0 x1 h k = some r → zKsp l true zi r 251 [x0, x1] h k t) (k282 : ∀ (x0 x1 : Int) (h : zH) (k : (Int → zH → Option zRes)) (t : (Nat → zH → Option zRes)), Un_dropBlock x0 x1 h k = some r → zKsp l true zi r 282 [x0, x1] h k t) (a0 a1 a2 : Int) (h : zH) (hr : Co_endIfEnded_10 zin a0 a1 a2 h = some r) : GO 10 [some (102, a0), some (110, a1), some (0, a2)] [] h := zit3_s (P := fun x0 x1 x2 h => GO 10 [some (102, x0), some (110, x1), some (0, x2)] [] h) (fun rr hh a0 a1 a2 h hr => s_Co_endIfEnded_10b hS k172 k251 k282 hh a0 a1 a2 h hr) zN a0 a1 a2 h hr
set_option maxRecDepth 100000 in
set_option maxHeartbeats 0 in
theorem s_Co_endIfEnded {l : Launch} {zi : Nat → zinfo} {r : zRes} {GO : Nat → List (Option zV) → List zV → zH → Prop} (hS : zSg l true zi (zget (999, 0, 0, 0) zc_Co_endIfEnded) (zcut zu_Co_endIfEnded) zin (fun _ _ => none) r GO) (k172 : ∀ (x0 : Int) (h : zH) (k : (Int → zH → Option zRes)) (t : (Nat → zH → Option zRes)), Bl_isAllEnded x0 h k = some r → zKsp l true zi r 172 [x0] h k t) (k251 : ∀ (x0 x1 : Int) (h : zH) (k : (Int → zH → Option zRes)) (t : (Nat → zH → Option zRes)), Le_endIfDone x0 x1 h k = some r → zKsp l true zi r 251 [x0, x1] h k t) (k282 : ∀ (x0 x1 : Int) (h : zH) (k : (Int → zH → Option zRes)) (t : (Nat → zH → Option zRes)), Un_dropBlock x0 x1 h k = some r → zKsp l true zi r 282 [x0, x1] h k t) (a0 a1 : Int) (h : zH) (hr : Co_endIfEnded a0 a1 h zin = some r) : GO 0 [some (102, a0), some (110, a1), none] [] h := by
  have e9 := Eq.trans (Eq.symm (qe_Co_endIfEnded zin a0 a1 h)) hr
  generalize (400 : Nat) = f9 at e9
  refine hS _ _ (zcal_s (SP := zKsp l true zi r) _ ?_) (zorc_s _ ?_) _ _ _ _ _ e9
  · exact ⟨zca1_s (SP := fun xs h k t => zKsp l true zi r 172 (zfc [none] xs) h k t) k172, trivial⟩
  · exact ⟨zap3_s (P := fun xs h => GO 10 (zfl [some (102, none), some (110, none), some (0, none)] xs).1 (zfs [] (zfl [some (102, none), some (110, none), some (0, none)] xs).2) h) (fun x0 x1 x2 h hr => s_Co_endIfEnded_10 hS k172 k251 k282 x0 x1 x2 h hr), trivial⟩
set_option maxRecDepth 100000 in
set_option maxHeartbeats 0 in
theorem s_Un_take_54 {l : Launch} {zi : Nat → zinfo} {r : zRes} {GO : Nat → List (Option zV) → List zV → zH → Prop} (hS : zSg l true zi (zget (999, 0, 0, 0) zc_Un_take) (zcut zu_Un_take) zin (fun _ _ => none) r GO) (h : zH) (hr : Un_take_54 zin h = some r) : GO 54 [none, none, none] [] h := by
  have e9 := Eq.trans (Eq.symm (qe_Un_take_54 zin h)) hr
  generalize (400 : Nat) = f9 at e9
  refine hS _ _ (zcal_s (SP := zKsp l true zi r) _ ?_) (zorc_s _ ?_) _ _ _ _ _ e9
  · exact trivial
  · exact trivial
set_option maxRecDepth 100000 in
set_option maxHeartbeats 0 in
theorem s_Un_take_2b {l : Launch} {zi : Nat → zinfo} {r : zRes} {GO : Nat → List (Option zV) → List zV → zH → Prop} (hS : zSg l true zi (zget (999, 0, 0, 0) zc_Un_take) (zcut zu_Un_take) zin (fun _ _ => none) r GO) {r2 : Int → Int → Int → zH → Option zRes} (h2 : ∀ (x0 x1 x2 : Int) (h : zH), r2 x0 x1 x2 h = some r → GO 2 [some (103, x0), some (110, x1), some (0, x2)] [] h) (a0 a1 a2 : Int) (h : zH) (hr : Un_take_2b zin r2 a0 a1 a2 h = some r) : GO 2 [some (103, a0), some (110, a1), some (0, a2)] [] h := by
  have e9 := Eq.trans (Eq.symm (qe_Un_take_2b zin r2 a0 a1 a2 h)) hr
  generalize (400 : Nat) = f9 at e9
  refine hS _ _ (zcal_s (SP := zKsp l true zi r) _ ?_) (zorc_s _ ?_) _ _ _ _ _ e9
  · exact trivial
  · exact ⟨zap3_s (P := fun xs h => GO 2 (zfl [some (103, none), some (110, none), some (0, none)] xs).1 (zfs [] (zfl [some (103, none), some (110, none), some (0, none)] xs).2) h) h2, ⟨zap0_s (P := fun xs h => GO 54 (zfl [none, none, none] xs).1 (zfs [] (zfl [none, none, none] xs).2) h) (fun  h hr => s_Un_take_54 hS  h hr), trivial⟩⟩
set_option maxRecDepth 100000 in
set_option maxHeartbeats 0 in
theorem s_Un_take_2 {l : Launch} {zi : Nat → zinfo} {r : zRes} {GO : Nat → List (Option zV) → List zV → zH → Prop} (hS : zSg l true zi (zget (999, 0, 0, 0) zc_Un_take) (zcut zu_Un_take) zin (fun _ _ => none) r GO) (a0 a1 a2 : Int) (h : zH) (hr : Un_take_2 zin a0 a1 a2 h = some r) : GO 2 [some (103, a0), some (110, a1), some (0, a2)] [] h := zit3_s (P := fun x0 x1 x2 h => GO 2 [some (103, x0), some (110, x1), some (0, x2)] [] h) (fun rr hh a0 a1 a2 h hr => s_Un_take_2b hS hh a0 a1 a2 h hr) zN a0 a1 a2 h hr
set_option maxRecDepth 100000 in
set_option maxHeartbeats 0 in
theorem s_Un_take {l : Launch} {zi : Nat → zinfo} {r : zRes} {GO : Nat → List (Option zV) → List zV → zH → Prop} (hS : zSg l true zi (zget (999, 0, 0, 0) zc_Un_take) (zcut zu_Un_take) zin (fun _ _ => none) r GO) (a0 a1 : Int) (h : zH) (hr : Un_take a0 a1 h zin = some r) : GO 0 [some (103, a0), some (110, a1), none] [] h := by
  have e9 := Eq.trans (Eq.symm (qe_Un_take zin a0 a1 h)) hr
  generalize (400 : Nat) = f9 at e9
  refine hS _ _ (zcal_s (SP := zKsp l true zi r) _ ?_) (zorc_s _ ?_) _ _ _ _ _ e9
  · exact trivial
  · exact ⟨zap3_s (P := fun xs h => GO 2 (zfl [some (103, none), some (110, none), some (0, none)] xs).1 (zfs [] (zfl [some (103, none), some (110, none), some (0, none)] xs).2) h) (fun x0 x1 x2 h hr => s_Un_take_2 hS x0 x1 x2 h hr), trivial⟩
set_option maxRecDepth 100000 in
set_option maxHeartbeats 0 in
theorem s_Co_give {l : Launch} {zi : Nat → zinfo} {r : zRes} {GO : Nat → List (Option zV) → List zV → zH → Prop} (hS : zSg l true zi (zget (999, 0, 0, 0) zc_Co_give) (zcut zu_Co_give) zin (fun _ _ => none) r GO) (k170 : ∀ (x0 : Int) (h : zH) (k : (Int → zH → Option zRes)) (t : (Nat → zH → Option zRes)), Bl_nextOf x0 h k = some r → zKsp l true zi r 170 [x0] h k t) (k199 : ∀ (x0 x1 : Int) (h : zH) (k : (Int → zH → Option zRes)) (t : (Nat → zH → Option zRes)), Co_endIfEnded x0 x1 h k = some r → zKsp l true zi r 199 [x0, x1] h k t) (k281 : ∀ (x0 x1 : Int) (h : zH) (k : (Int → zH → Option zRes)) (t : (Nat → zH → Option zRes)), Un_take x0 x1 h k = some r → zKsp l true zi r 281 [x0, x1] h k t) (a0 a1 a2 : Int) (h : zH) (hr : Co_give a0 a1 a2 h zin = some r) : GO 0 [some (102, a0), some (103, a1), some (109, a2), none] [] h := by
  have e9 := Eq.trans (Eq.symm (qe_Co_give zin a0 a1 a2 h)) hr
  generalize (400 : Nat) = f9 at e9
  refine hS _ _ (zcal_s (SP := zKsp l true zi r) _ ?_) (zorc_s _ ?_) _ _ _ _ _ e9
  · exact ⟨zca1_s (SP := fun xs h k t => zKsp l true zi r 170 (zfc [none] xs) h k t) k170, ⟨zca2_s (SP := fun xs h k t => zKsp l true zi r 199 (zfc [none, none] xs) h k t) k199, ⟨zca2_s (SP := fun xs h k t => zKsp l true zi r 281 (zfc [none, none] xs) h k t) k281, trivial⟩⟩⟩
  · exact trivial
set_option maxRecDepth 100000 in
set_option maxHeartbeats 0 in
theorem s_La_hasBlockToGive_32 {l : Launch} {zi : Nat → zinfo} {r : zRes} {GO : Nat → List (Option zV) → List zV → zH → Prop} (hS : zSg l true zi (zget (999, 0, 0, 0) zc_La_hasBlockToGive) (zcut zu_La_hasBlockToGive) zin (fun _ _ => none) r GO) (t0 : Int) (h : zH) (hr : La_hasBlockToGive_32 zin t0 h = some r) : GO 32 [none] [(0, t0)] h := by
  have e9 := Eq.trans (Eq.symm (qe_La_hasBlockToGive_32 zin t0 h)) hr
  generalize (400 : Nat) = f9 at e9
  refine hS _ _ (zcal_s (SP := zKsp l true zi r) _ ?_) (zorc_s _ ?_) _ _ _ _ _ e9
  · exact trivial
  · exact trivial
set_option maxRecDepth 100000 in
set_option maxHeartbeats 0 in
theorem s_La_hasBlockToGive_31 {l : Launch} {zi : Nat → zinfo} {r : zRes} {GO : Nat → List (Option zV) → List zV → zH → Prop} (hS : zSg l true zi (zget (999, 0, 0, 0) zc_La_hasBlockToGive) (zcut zu_La_hasBlockToGive) zin (fun _ _ => none) r GO) (h : zH) (hr : La_hasBlockToGive_31 zin h = some r) : GO 31 [none] [] h := by
  have e9 := Eq.trans (Eq.symm (qe_La_hasBlockToGive_31 zin h)) hr
  generalize (400 : Nat) = f9 at e9
  refine hS _ _ (zcal_s (SP := zKsp l true zi r) _ ?_) (zorc_s _ ?_) _ _ _ _ _ e9
  · exact trivial
  · exact ⟨zap1_s (P := fun xs h => GO 32 (zfl [none] xs).1 (zfs [(0, none)] (zfl [none] xs).2) h) (fun x0 h hr => s_La_hasBlockToGive_32 hS x0 h hr), trivial⟩
set_option maxRecDepth 100000 in
set_option maxHeartbeats 0 in
theorem s_La_hasBlockToGive {l : Launch} {zi : Nat → zinfo} {r : zRes} {GO : Nat → List (Option zV) → List zV → zH → Prop} (hS : zSg l true zi (zget (999, 0, 0, 0) zc_La_hasBlockToGive) (zcut zu_La_hasBlockToGive) zin (fun _ _ => none) r GO) (a0 : Int) (h : zH) (hr : La_hasBlockToGive a0 h zin = some r) : GO 0 [some (109, a0)] [] h := by
  have e9 := Eq.trans (Eq.symm (qe_La_hasBlockToGive zin a0 h)) hr
  generalize (400 : Nat) = f9 at e9
  refine hS _ _ (zcal_s (SP := zKsp l true zi r) _ ?_) (zorc_s _ ?_) _ _ _ _ _ e9
  · exact trivial
  · exact ⟨zap0_s (P := fun xs h => GO 31 (zfl [none] xs).1 (zfs [] (zfl [none] xs).2) h) (fun  h hr => s_La_hasBlockToGive_31 hS  h hr), ⟨zap1_s (P := fun xs h => GO 32 (zfl [none] xs).1 (zfs [(0, none)] (zfl [none] xs).2) h) (fun x0 h hr => s_La_hasBlockToGive_32 hS x0 h hr), trivial⟩⟩
set_option maxRecDepth 100000 in
set_option maxHeartbeats 0 in
theorem s_Co_giveBlocks_69 {l : Launch} {zi : Nat → zinfo} {r : zRes} {GO : Nat → List (Option zV) → List zV → zH → Prop} (hS : zSg l true zi (zget (999, 0, 0, 0) zc_Co_giveBlocks) (zcut zu_Co_giveBlocks) zin (fun _ _ => none) r GO) (k183 : ∀ (x0 x1 : Int) (h : zH) (k : (Int → zH → Option zRes)) (t : (Nat → zH → Option zRes)), Co_unitFor x0 x1 h k = some r → zKsp l true zi r 183 [x0, x1] h k t) (k184 : ∀ (x0 x1 x2 : Int) (h : zH) (k : (Int → zH → Option zRes)) (t : (Nat → zH → Option zRes)), Co_give x0 x1 x2 h k = some r → zKsp l true zi r 184 [x0, x1, x2] h k t) (k235 : ∀ (x0 : Int) (h : zH) (k : (Int → zH → Option zRes)) (t : (Nat → zH → Option zRes)), La_hasBlockToGive x0 h k = some r → zKsp l true zi r 235 [x0] h k t) (k241 : ∀ (x0 x1 : Int) (h : zH) (k : (Int → zH → Option zRes)) (t : (Nat → zH → Option zRes)), Le_launchOf x0 x1 h k = some r → zKsp l true zi r 241 [x0, x1] h k t) {r2 : Int → Int → zH → Option zRes} (h2 : ∀ (x0 x1 : Int) (h : zH), r2 x0 x1 h = some r → GO 2 [some (102, x0), some (0, x1), none, none, none] [] h) (a0 a1 : Int) (h : zH) (hr : Co_giveBlocks_69 zin r2 a0 a1 h = some r) : GO 69 [some (102, a0), some (0, a1), none, none, none] [] h := by
  have e9 := Eq.trans (Eq.symm (qe_Co_giveBlocks_69 zin r2 a0 a1 h)) hr
  generalize (400 : Nat) = f9 at e9
  refine hS _ _ (zcal_s (SP := zKsp l true zi r) _ ?_) (zorc_s _ ?_) _ _ _ _ _ e9
  · exact trivial
  · exact ⟨zap2_s (P := fun xs h => GO 2 (zfl [some (102, none), some (0, none), none, none, none] xs).1 (zfs [] (zfl [some (102, none), some (0, none), none, none, none] xs).2) h) h2, trivial⟩
set_option maxRecDepth 100000 in
set_option maxHeartbeats 0 in
theorem s_Co_giveBlocks_24b {l : Launch} {zi : Nat → zinfo} {r : zRes} {GO : Nat → List (Option zV) → List zV → zH → Prop} (hS : zSg l true zi (zget (999, 0, 0, 0) zc_Co_giveBlocks) (zcut zu_Co_giveBlocks) zin (fun _ _ => none) r GO) (k183 : ∀ (x0 x1 : Int) (h : zH) (k : (Int → zH → Option zRes)) (t : (Nat → zH → Option zRes)), Co_unitFor x0 x1 h k = some r → zKsp l true zi r 183 [x0, x1] h k t) (k184 : ∀ (x0 x1 x2 : Int) (h : zH) (k : (Int → zH → Option zRes)) (t : (Nat → zH → Option zRes)), Co_give x0 x1 x2 h k = some r → zKsp l true zi r 184 [x0, x1, x2] h k t) (k235 : ∀ (x0 : Int) (h : zH) (k : (Int → zH → Option zRes)) (t : (Nat → zH → Option zRes)), La_hasBlockToGive x0 h k = some r → zKsp l true zi r 235 [x0] h k t) (k241 : ∀ (x0 x1 : Int) (h : zH) (k : (Int → zH → Option zRes)) (t : (Nat → zH → Option zRes)), Le_launchOf x0 x1 h k = some r → zKsp l true zi r 241 [x0, x1] h k t) {r2 : Int → Int → zH → Option zRes} (h2 : ∀ (x0 x1 : Int) (h : zH), r2 x0 x1 h = some r → GO 2 [some (102, x0), some (0, x1), none, none, none] [] h) {r24 : Int → Int → Int → Int → zH → Option zRes} (h24 : ∀ (x0 x1 x2 x3 : Int) (h : zH), r24 x0 x1 x2 x3 h = some r → GO 24 [some (102, x0), some (0, x1), some (109, x2), some (0, x3), none] [] h) (a0 a1 a2 a3 : Int) (h : zH) (hr : Co_giveBlocks_24b zin r2 r24 a0 a1 a2 a3 h = some r) : GO 24 [some (102, a0), some (0, a1), some (109, a2), some (0, a3), none] [] h := by
  have e9 := Eq.trans (Eq.symm (qe_Co_giveBlocks_24b zin r2 r24 a0 a1 a2 a3 h)) hr
  generalize (400 : Nat) = f9 at e9
  refine hS _ _ (zcal_s (SP := zKsp l true zi r) _ ?_) (zorc_s _ ?_) _ _ _ _ _ e9
  · exact ⟨zca2_s (SP := fun xs h k t => zKsp l true zi r 183 (zfc [none, none] xs) h k t) k183, ⟨zca3_s (SP := fun xs h k t => zKsp l true zi r 184 (zfc [none, none, none] xs) h k t) k184, ⟨zca1_s (SP := fun xs h k t => zKsp l true zi r 235 (zfc [none] xs) h k t) k235, trivial⟩⟩⟩
  · exact ⟨zap4_s (P := fun xs h => GO 24 (zfl [some (102, none), some (0, none), some (109, none), some (0, none), none] xs).1 (zfs [] (zfl [some (102, none), some (0, none), some (109, none), some (0, none), none] xs).2) h) h24, ⟨zap2_s (P := fun xs h => GO 69 (zfl [some (102, none), some (0, none), none, none, none] xs).1 (zfs [] (zfl [some (102, none), some (0, none), none, none, none] xs).2) h) (fun x0 x1 h hr => s_Co_giveBlocks_69 hS k183 k184 k235 k241 h2 x0 x1 h hr), trivial⟩⟩
set_option maxRecDepth 100000 in
set_option maxHeartbeats 0 in
theorem s_Co_giveBlocks_24 {l : Launch} {zi : Nat → zinfo} {r : zRes} {GO : Nat → List (Option zV) → List zV → zH → Prop} (hS : zSg l true zi (zget (999, 0, 0, 0) zc_Co_giveBlocks) (zcut zu_Co_giveBlocks) zin (fun _ _ => none) r GO) (k183 : ∀ (x0 x1 : Int) (h : zH) (k : (Int → zH → Option zRes)) (t : (Nat → zH → Option zRes)), Co_unitFor x0 x1 h k = some r → zKsp l true zi r 183 [x0, x1] h k t) (k184 : ∀ (x0 x1 x2 : Int) (h : zH) (k : (Int → zH → Option zRes)) (t : (Nat → zH → Option zRes)), Co_give x0 x1 x2 h k = some r → zKsp l true zi r 184 [x0, x1, x2] h k t) (k235 : ∀ (x0 : Int) (h : zH) (k : (Int → zH → Option zRes)) (t : (Nat → zH → Option zRes)), La_hasBlockToGive x0 h k = some r → zKsp l true zi r 235 [x0] h k t) (k241 : ∀ (x0 x1 : Int) (h : zH) (k : (Int → zH → Option zRes)) (t : (Nat → zH → Option zRes)), Le_launchOf x0 x1 h k = some r → zKsp l true zi r 241 [x0, x1] h k t) {r2 : Int → Int → zH → Option zRes} (h2 : ∀ (x0 x1 : Int) (h : zH), r2 x0 x1 h = some r → GO 2 [some (102, x0), some (0, x1), none, none, none] [] h) (a0 a1 a2 a3 : Int) (h : zH) (hr : Co_giveBlocks_24 zin r2 a0 a1 a2 a3 h = some r) : GO 24 [some (102, a0), some (0, a1), some (109, a2), some (0, a3), none] [] h := zit4_s (P := fun x0 x1 x2 x3 h => GO 24 [some (102, x0), some (0, x1), some (109, x2), some (0, x3), none] [] h) (fun rr hh a0 a1 a2 a3 h hr => s_Co_giveBlocks_24b hS k183 k184 k235 k241 h2 hh a0 a1 a2 a3 h hr) zN a0 a1 a2 a3 h hr
set_option maxRecDepth 100000 in
set_option maxHeartbeats 0 in
theorem s_Co_giveBlocks_2b {l : Launch} {zi : Nat → zinfo} {r : zRes} {GO : Nat → List (Option zV) → List zV → zH → Prop} (hS : zSg l true zi (zget (999, 0, 0, 0) zc_Co_giveBlocks) (zcut zu_Co_giveBlocks) zin (fun _ _ => none) r GO) (k183 : ∀ (x0 x1 : Int) (h : zH) (k : (Int → zH → Option zRes)) (t : (Nat → zH → Option zRes)), Co_unitFor x0 x1 h k = some r → zKsp l true zi r 183 [x0, x1] h k t) (k184 : ∀ (x0 x1 x2 : Int) (h : zH) (k : (Int → zH → Option zRes)) (t : (Nat → zH → Option zRes)), Co_give x0 x1 x2 h k = some r → zKsp l true zi r 184 [x0, x1, x2] h k t) (k235 : ∀ (x0 : Int) (h : zH) (k : (Int → zH → Option zRes)) (t : (Nat → zH → Option zRes)), La_hasBlockToGive x0 h k = some r → zKsp l true zi r 235 [x0] h k t) (k241 : ∀ (x0 x1 : Int) (h : zH) (k : (Int → zH → Option zRes)) (t : (Nat → zH → Option zRes)), Le_launchOf x0 x1 h k = some r → zKsp l true zi r 241 [x0, x1] h k t) {r2 : Int → Int → zH → Option zRes} (h2 : ∀ (x0 x1 : Int) (h : zH), r2 x0 x1 h = some r → GO 2 [some (102, x0), some (0, x1), none, none, none] [] h) (a0 a1 : Int) (h : zH) (hr : Co_giveBlocks_2b zin r2 a0 a1 h = some r) : GO 2 [some (102, a0), some (0, a1), none, none, none] [] h := by
  have e9 := Eq.trans (Eq.symm (qe_Co_giveBlocks_2b zin r2 a0 a1 h)) hr
  generalize (400 : Nat) = f9 at e9
  refine hS _ _ (zcal_s (SP := zKsp l true zi r) _ ?_) (zorc_s _ ?_) _ _ _ _ _ e9
  · exact ⟨zca2_s (SP := fun xs h k t => zKsp l true zi r 241 (zfc [none, none] xs) h k t) k241, trivial⟩
  · exact ⟨zap4_s (P := fun xs h => GO 24 (zfl [some (102, none), some (0, none), some (109, none), some (0, none), none] xs).1 (zfs [] (zfl [some (102, none), some (0, none), some (109, none), some (0, none), none] xs).2) h) (fun x0 x1 x2 x3 h hr => s_Co_giveBlocks_24 hS k183 k184 k235 k241 h2 x0 x1 x2 x3 h hr), trivial⟩
set_option maxRecDepth 100000 in
set_option maxHeartbeats 0 in
theorem s_Co_giveBlocks_2 {l : Launch} {zi : Nat → zinfo} {r : zRes} {GO : Nat → List (Option zV) → List zV → zH → Prop} (hS : zSg l true zi (zget (999, 0, 0, 0) zc_Co_giveBlocks) (zcut zu_Co_giveBlocks) zin (fun _ _ => none) r GO) (k183 : ∀ (x0 x1 : Int) (h : zH) (k : (Int → zH → Option zRes)) (t : (Nat → zH → Option zRes)), Co_unitFor x0 x1 h k = some r → zKsp l true zi r 183 [x0, x1] h k t) (k184 : ∀ (x0 x1 x2 : Int) (h : zH) (k : (Int → zH → Option zRes)) (t : (Nat → zH → Option zRes)), Co_give x0 x1 x2 h k = some r → zKsp l true zi r 184 [x0, x1, x2] h k t) (k235 : ∀ (x0 : Int) (h : zH) (k : (Int → zH → Option zRes)) (t : (Nat → zH → Option zRes)), La_hasBlockToGive x0 h k = some r → zKsp l true zi r 235 [x0] h k t) (k241 : ∀ (x0 x1 : Int) (h : zH) (k : (Int → zH → Option zRes)) (t : (Nat → zH → Option zRes)), Le_launchOf x0 x1 h k = some r → zKsp l true zi r 241 [x0, x1] h k t) (a0 a1 : Int) (h : zH) (hr : Co_giveBlocks_2 zin a0 a1 h = some r) : GO 2 [some (102, a0), some (0, a1), none, none, none] [] h := zit2_s (P := fun x0 x1 h => GO 2 [some (102, x0), some (0, x1), none, none, none] [] h) (fun rr hh a0 a1 h hr => s_Co_giveBlocks_2b hS k183 k184 k235 k241 hh a0 a1 h hr) zN a0 a1 h hr
set_option maxRecDepth 100000 in
set_option maxHeartbeats 0 in
theorem s_Co_giveBlocks {l : Launch} {zi : Nat → zinfo} {r : zRes} {GO : Nat → List (Option zV) → List zV → zH → Prop} (hS : zSg l true zi (zget (999, 0, 0, 0) zc_Co_giveBlocks) (zcut zu_Co_giveBlocks) zin (fun _ _ => none) r GO) (k183 : ∀ (x0 x1 : Int) (h : zH) (k : (Int → zH → Option zRes)) (t : (Nat → zH → Option zRes)), Co_unitFor x0 x1 h k = some r → zKsp l true zi r 183 [x0, x1] h k t) (k184 : ∀ (x0 x1 x2 : Int) (h : zH) (k : (Int → zH → Option zRes)) (t : (Nat → zH → Option zRes)), Co_give x0 x1 x2 h k = some r → zKsp l true zi r 184 [x0, x1, x2] h k t) (k235 : ∀ (x0 : Int) (h : zH) (k : (Int → zH → Option zRes)) (t : (Nat → zH → Option zRes)), La_hasBlockToGive x0 h k = some r → zKsp l true zi r 235 [x0] h k t) (k241 : ∀ (x0 x1 : Int) (h : zH) (k : (Int → zH → Option zRes)) (t : (Nat → zH → Option zRes)), Le_launchOf x0 x1 h k = some r → zKsp l true zi r 241 [x0, x1] h k t) (a0 : Int) (h : zH) (hr : Co_giveBlocks a0 h zin = some r) : GO 0 [some (102, a0), none, none, none, none] [] h := by
  have e9 := Eq.trans (Eq.symm (qe_Co_giveBlocks zin a0 h)) hr
  generalize (400 : Nat) = f9 at e9
  refine hS _ _ (zcal_s (SP := zKsp l true zi r) _ ?_) (zorc_s _ ?_) _ _ _ _ _ e9
  · exact trivial
  · exact ⟨zap2_s (P := fun xs h => GO 2 (zfl [some (102, none), some (0, none), none, none, none] xs).1 (zfs [] (zfl [some (102, none), some (0, none), none, none, none] xs).2) h) (fun x0 x1 h hr => s_Co_giveBlocks_2 hS k183 k184 k235 k241 x0 x1 h hr), trivial⟩
set_option maxRecDepth 100000 in
set_option maxHeartbeats 0 in
theorem s_Gr_writeFirst {l : Launch} {zi : Nat → zinfo} {r : zRes} {GO : Nat → List (Option zV) → List zV → zH → Prop} (hS : zSg l true zi (zget (999, 0, 0, 0) zc_Gr_writeFirst) (zcut zu_Gr_writeFirst) zin (fun _ _ => none) r GO) (a0 a1 : Int) (h : zH) (hr : Gr_writeFirst a0 a1 h zin = some r) : GO 0 [some (111, a0), some (122, a1)] [] h := by
  have e9 := Eq.trans (Eq.symm (qe_Gr_writeFirst zin a0 a1 h)) hr
  generalize (400 : Nat) = f9 at e9
  refine hS _ _ (zcal_s (SP := zKsp l true zi r) _ ?_) (zorc_s _ ?_) _ _ _ _ _ e9
  · exact trivial
  · exact trivial
set_option maxRecDepth 100000 in
set_option maxHeartbeats 0 in
theorem s_Co_writeFirstOfBuffers_9b {l : Launch} {zi : Nat → zinfo} {r : zRes} {GO : Nat → List (Option zV) → List zV → zH → Prop} (hS : zSg l true zi (zget (999, 0, 0, 0) zc_Co_writeFirstOfBuffers) (zcut zu_Co_writeFirstOfBuffers) zin (fun _ _ => none) r GO) (k216 : ∀ (x0 x1 : Int) (h : zH) (k : (Int → zH → Option zRes)) (t : (Nat → zH → Option zRes)), Gr_writeFirst x0 x1 h k = some r → zKsp l true zi r 216 [x0, x1] h k t) {r2 : Int → Int → zH → Option zRes} (h2 : ∀ (x0 x1 : Int) (h : zH), r2 x0 x1 h = some r → GO 2 [some (102, x0), some (0, x1), none] [] h) {r9 : Int → Int → Int → zH → Option zRes} (h9 : ∀ (x0 x1 x2 : Int) (h : zH), r9 x0 x1 x2 h = some r → GO 9 [some (102, x0), some (0, x1), some (0, x2)] [] h) (a0 a1 a2 : Int) (h : zH) (hr : Co_writeFirstOfBuffers_9b zin r2 r9 a0 a1 a2 h = some r) : GO 9 [some (102, a0), some (0, a1), some (0, a2)] [] h := by
  have e9 := Eq.trans (Eq.symm (qe_Co_writeFirstOfBuffers_9b zin r2 r9 a0 a1 a2 h)) hr
  generalize (400 : Nat) = f9 at e9
  refine hS _ _ (zcal_s (SP := zKsp l true zi r) _ ?_) (zorc_s _ ?_) _ _ _ _ _ e9
  · exact ⟨zca2_s (SP := fun xs h k t => zKsp l true zi r 216 (zfc [none, none] xs) h k t) k216, trivial⟩
  · exact ⟨zap2_s (P := fun xs h => GO 2 (zfl [some (102, none), some (0, none), none] xs).1 (zfs [] (zfl [some (102, none), some (0, none), none] xs).2) h) h2, ⟨zap3_s (P := fun xs h => GO 9 (zfl [some (102, none), some (0, none), some (0, none)] xs).1 (zfs [] (zfl [some (102, none), some (0, none), some (0, none)] xs).2) h) h9, trivial⟩⟩
set_option maxRecDepth 100000 in
set_option maxHeartbeats 0 in
theorem s_Co_writeFirstOfBuffers_9 {l : Launch} {zi : Nat → zinfo} {r : zRes} {GO : Nat → List (Option zV) → List zV → zH → Prop} (hS : zSg l true zi (zget (999, 0, 0, 0) zc_Co_writeFirstOfBuffers) (zcut zu_Co_writeFirstOfBuffers) zin (fun _ _ => none) r GO) (k216 : ∀ (x0 x1 : Int) (h : zH) (k : (Int → zH → Option zRes)) (t : (Nat → zH → Option zRes)), Gr_writeFirst x0 x1 h k = some r → zKsp l true zi r 216 [x0, x1] h k t) {r2 : Int → Int → zH → Option zRes} (h2 : ∀ (x0 x1 : Int) (h : zH), r2 x0 x1 h = some r → GO 2 [some (102, x0), some (0, x1), none] [] h) (a0 a1 a2 : Int) (h : zH) (hr : Co_writeFirstOfBuffers_9 zin r2 a0 a1 a2 h = some r) : GO 9 [some (102, a0), some (0, a1), some (0, a2)] [] h := zit3_s (P := fun x0 x1 x2 h => GO 9 [some (102, x0), some (0, x1), some (0, x2)] [] h) (fun rr hh a0 a1 a2 h hr => s_Co_writeFirstOfBuffers_9b hS k216 h2 hh a0 a1 a2 h hr) zN a0 a1 a2 h hr
set_option maxRecDepth 100000 in
set_option maxHeartbeats 0 in
theorem s_Co_writeFirstOfBuffers_2b {l : Launch} {zi : Nat → zinfo} {r : zRes} {GO : Nat → List (Option zV) → List zV → zH → Prop} (hS : zSg l true zi (zget (999, 0, 0, 0) zc_Co_writeFirstOfBuffers) (zcut zu_Co_writeFirstOfBuffers) zin (fun _ _ => none) r GO) (k216 : ∀ (x0 x1 : Int) (h : zH) (k : (Int → zH → Option zRes)) (t : (Nat → zH → Option zRes)), Gr_writeFirst x0 x1 h k = some r → zKsp l true zi r 216 [x0, x1] h k t) {r2 : Int → Int → zH → Option zRes} (h2 : ∀ (x0 x1 : Int) (h : zH), r2 x0 x1 h = some r → GO 2 [some (102, x0), some (0, x1), none] [] h) (a0 a1 : Int) (h : zH) (hr : Co_writeFirstOfBuffers_2b zin r2 a0 a1 h = some r) : GO 2 [some (102, a0), some (0, a1), none] [] h := by
  have e9 := Eq.trans (Eq.symm (qe_Co_writeFirstOfBuffers_2b zin r2 a0 a1 h)) hr
  generalize (400 : Nat) = f9 at e9
  refine hS _ _ (zcal_s (SP := zKsp l true zi r) _ ?_) (zorc_s _ ?_) _ _ _ _ _ e9
  · exact trivial
  · exact ⟨zap3_s (P := fun xs h => GO 9 (zfl [some (102, none), some (0, none), some (0, none)] xs).1 (zfs [] (zfl [some (102, none), some (0, none), some (0, none)] xs).2) h) (fun x0 x1 x2 h hr => s_Co_writeFirstOfBuffers_9 hS k216 h2 x0 x1 x2 h hr), trivial⟩
set_option maxRecDepth 100000 in
set_option maxHeartbeats 0 in
theorem s_Co_writeFirstOfBuffers_2 {l : Launch} {zi : Nat → zinfo} {r : zRes} {GO : Nat → List (Option zV) → List zV → zH → Prop} (hS : zSg l true zi (zget (999, 0, 0, 0) zc_Co_writeFirstOfBuffers) (zcut zu_Co_writeFirstOfBuffers) zin (fun _ _ => none) r GO) (k216 : ∀ (x0 x1 : Int) (h : zH) (k : (Int → zH → Option zRes)) (t : (Nat → zH → Option zRes)), Gr_writeFirst x0 x1 h k = some r → zKsp l true zi r 216 [x0, x1] h k t) (a0 a1 : Int) (h : zH) (hr : Co_writeFirstOfBuffers_2 zin a0 a1 h = some r) : GO 2 [some (102, a0), some (0, a1), none] [] h := zit2_s (P := fun x0 x1 h => GO 2 [some (102, x0), some (0, x1), none] [] h) (fun rr hh a0 a1 h hr => s_Co_writeFirstOfBuffers_2b hS k216 hh a0 a1 h hr) zN a0 a1 h hr
set_option maxRecDepth 100000 in
set_option maxHeartbeats 0 in
theorem s_Co_writeFirstOfBuffers {l : Launch} {zi : Nat → zinfo} {r : zRes} {GO : Nat → List (Option zV) → List zV → zH → Prop} (hS : zSg l true zi (zget (999, 0, 0, 0) zc_Co_writeFirstOfBuffers) (zcut zu_Co_writeFirstOfBuffers) zin (fun _ _ => none) r GO) (k216 : ∀ (x0 x1 : Int) (h : zH) (k : (Int → zH → Option zRes)) (t : (Nat → zH → Option zRes)), Gr_writeFirst x0 x1 h k = some r → zKsp l true zi r 216 [x0, x1] h k t) (a0 : Int) (h : zH) (hr : Co_writeFirstOfBuffers a0 h zin = some r) : GO 0 [some (102, a0), none, none] [] h := by
  have e9 := Eq.trans (Eq.symm (qe_Co_writeFirstOfBuffers zin a0 h)) hr
  generalize (400 : Nat) = f9 at e9
  refine hS _ _ (zcal_s (SP := zKsp l true zi r) _ ?_) (zorc_s _ ?_) _ _ _ _ _ e9
  · exact trivial
  · exact ⟨zap2_s (P := fun xs h => GO 2 (zfl [some (102, none), some (0, none), none] xs).1 (zfs [] (zfl [some (102, none), some (0, none), none] xs).2) h) (fun x0 x1 h hr => s_Co_writeFirstOfBuffers_2 hS k216 x0 x1 h hr), trivial⟩
set_option maxRecDepth 100000 in
set_option maxHeartbeats 0 in
theorem s_X_isIn_13 {l : Launch} {zi : Nat → zinfo} {r : zRes} {GO : Nat → List (Option zV) → List zV → zH → Prop} (hS : zSg l true zi (zget (999, 0, 0, 0) zc_X_isIn) (zcut zu_X_isIn) zin (fun _ _ => none) r GO) (t0 : Int) (h : zH) (hr : X_isIn_13 zin t0 h = some r) : GO 13 [none, none] [(0, t0)] h := by
  have e9 := Eq.trans (Eq.symm (qe_X_isIn_13 zin t0 h)) hr
  generalize (400 : Nat) = f9 at e9
  refine hS _ _ (zcal_s (SP := zKsp l true zi r) _ ?_) (zorc_s _ ?_) _ _ _ _ _ e9
  · exact trivial
  · exact trivial
set_option maxRecDepth 100000 in
set_option maxHeartbeats 0 in
theorem s_X_isIn {l : Launch} {zi : Nat → zinfo} {r : zRes} {GO : Nat → List (Option zV) → List zV → zH → Prop} (hS : zSg l true zi (zget (999, 0, 0, 0) zc_X_isIn) (zcut zu_X_isIn) zin (fun _ _ => none) r GO) (a0 a1 : Int) (h : zH) (hr : X_isIn a0 a1 h zin = some r) : GO 0 [some (0, a0), some (0, a1)] [] h := by
  have e9 := Eq.trans (Eq.symm (qe_X_isIn zin a0 a1 h)) hr
  generalize (400 : Nat) = f9 at e9
  refine hS _ _ (zcal_s (SP := zKsp l true zi r) _ ?_) (zorc_s _ ?_) _ _ _ _ _ e9
  · exact trivial
  · exact ⟨zap1_s (P := fun xs h => GO 13 (zfl [none, none] xs).1 (zfs [(0, none)] (zfl [none, none] xs).2) h) (fun x0 h hr => s_X_isIn_13 hS x0 h hr), trivial⟩
set_option maxRecDepth 100000 in
set_option maxHeartbeats 0 in
theorem s_Gr_threadIn_19 {l : Launch} {zi : Nat → zinfo} {r : zRes} {GO : Nat → List (Option zV) → List zV → zH → Prop} (hS : zSg l true zi (zget (999, 0, 0, 0) zc_Gr_threadIn) (zcut zu_Gr_threadIn) zin (fun _ _ => none) r GO) (t0 : Int) (h : zH) (hr : Gr_threadIn_19 zin t0 h = some r) : GO 19 [none, none] [(106, t0)] h := by
  have e9 := Eq.trans (Eq.symm (qe_Gr_threadIn_19 zin t0 h)) hr
  generalize (400 : Nat) = f9 at e9
  refine hS _ _ (zcal_s (SP := zKsp l true zi r) _ ?_) (zorc_s _ ?_) _ _ _ _ _ e9
  · exact trivial
  · exact trivial
set_option maxRecDepth 100000 in
set_option maxHeartbeats 0 in
theorem s_Gr_threadIn_18 {l : Launch} {zi : Nat → zinfo} {r : zRes} {GO : Nat → List (Option zV) → List zV → zH → Prop} (hS : zSg l true zi (zget (999, 0, 0, 0) zc_Gr_threadIn) (zcut zu_Gr_threadIn) zin (fun _ _ => none) r GO) (h : zH) (hr : Gr_threadIn_18 zin h = some r) : GO 18 [none, none] [] h := by
  have e9 := Eq.trans (Eq.symm (qe_Gr_threadIn_18 zin h)) hr
  generalize (400 : Nat) = f9 at e9
  refine hS _ _ (zcal_s (SP := zKsp l true zi r) _ ?_) (zorc_s _ ?_) _ _ _ _ _ e9
  · exact trivial
  · exact ⟨zap1_s (P := fun xs h => GO 19 (zfl [none, none] xs).1 (zfs [(106, none)] (zfl [none, none] xs).2) h) (fun x0 h hr => s_Gr_threadIn_19 hS x0 h hr), trivial⟩
set_option maxRecDepth 100000 in
set_option maxHeartbeats 0 in
theorem s_Gr_threadIn {l : Launch} {zi : Nat → zinfo} {r : zRes} {GO : Nat → List (Option zV) → List zV → zH → Prop} (hS : zSg l true zi (zget (999, 0, 0, 0) zc_Gr_threadIn) (zcut zu_Gr_threadIn) zin (fun _ _ => none) r GO) (a0 a1 : Int) (h : zH) (hr : Gr_threadIn a0 a1 h zin = some r) : GO 0 [some (111, a0), some (0, a1)] [] h := by
  have e9 := Eq.trans (Eq.symm (qe_Gr_threadIn zin a0 a1 h)) hr
  generalize (400 : Nat) = f9 at e9
  refine hS _ _ (zcal_s (SP := zKsp l true zi r) _ ?_) (zorc_s _ ?_) _ _ _ _ _ e9
  · exact trivial
  · exact ⟨zap0_s (P := fun xs h => GO 18 (zfl [none, none] xs).1 (zfs [] (zfl [none, none] xs).2) h) (fun  h hr => s_Gr_threadIn_18 hS  h hr), ⟨zap1_s (P := fun xs h => GO 19 (zfl [none, none] xs).1 (zfs [(106, none)] (zfl [none, none] xs).2) h) (fun x0 h hr => s_Gr_threadIn_19 hS x0 h hr), trivial⟩⟩
set_option maxRecDepth 100000 in
set_option maxHeartbeats 0 in
theorem s_Gr_writeAll_7b {l : Launch} {zi : Nat → zinfo} {r : zRes} {GO : Nat → List (Option zV) → List zV → zH → Prop} (hS : zSg l true zi (zget (999, 0, 0, 0) zc_Gr_writeAll) (zcut zu_Gr_writeAll) zin (fun _ _ => none) r GO) {r7 : Int → Int → Int → Int → zH → Option zRes} (h7 : ∀ (x0 x1 x2 x3 : Int) (h : zH), r7 x0 x1 x2 x3 h = some r → GO 7 [some (111, x0), some (122, x1), some (0, x2), some (0, x3)] [] h) (a0 a1 a2 a3 : Int) (h : zH) (hr : Gr_writeAll_7b zin r7 a0 a1 a2 a3 h = some r) : GO 7 [some (111, a0), some (122, a1), some (0, a2), some (0, a3)] [] h := by
  have e9 := Eq.trans (Eq.symm (qe_Gr_writeAll_7b zin r7 a0 a1 a2 a3 h)) hr
  generalize (400 : Nat) = f9 at e9
  refine hS _ _ (zcal_s (SP := zKsp l true zi r) _ ?_) (zorc_s _ ?_) _ _ _ _ _ e9
  · exact trivial
  · exact ⟨zap4_s (P := fun xs h => GO 7 (zfl [some (111, none), some (122, none), some (0, none), some (0, none)] xs).1 (zfs [] (zfl [some (111, none), some (122, none), some (0, none), some (0, none)] xs).2) h) h7, trivial⟩
set_option maxRecDepth 100000 in
set_option maxHeartbeats 0 in
theorem s_Gr_writeAll_7 {l : Launch} {zi : Nat → zinfo} {r : zRes} {GO : Nat → List (Option zV) → List zV → zH → Prop} (hS : zSg l true zi (zget (999, 0, 0, 0) zc_Gr_writeAll) (zcut zu_Gr_writeAll) zin (fun _ _ => none) r GO) (a0 a1 a2 a3 : Int) (h : zH) (hr : Gr_writeAll_7 zin a0 a1 a2 a3 h = some r) : GO 7 [some (111, a0), some (122, a1), some (0, a2), some (0, a3)] [] h := zit4_s (P := fun x0 x1 x2 x3 h => GO 7 [some (111, x0), some (122, x1), some (0, x2), some (0, x3)] [] h) (fun rr hh a0 a1 a2 a3 h hr => s_Gr_writeAll_7b hS hh a0 a1 a2 a3 h hr) zN a0 a1 a2 a3 h hr
set_option maxRecDepth 100000 in
set_option maxHeartbeats 0 in
theorem s_Gr_writeAll {l : Launch} {zi : Nat → zinfo} {r : zRes} {GO : Nat → List (Option zV) → List zV → zH → Prop} (hS : zSg l true zi (zget (999, 0, 0, 0) zc_Gr_writeAll) (zcut zu_Gr_writeAll) zin (fun _ _ => none) r GO) (a0 a1 : Int) (h : zH) (hr : Gr_writeAll a0 a1 h zin = some r) : GO 0 [some (111, a0), some (122, a1), none, none] [] h := by
  have e9 := Eq.trans (Eq.symm (qe_Gr_writeAll zin a0 a1 h)) hr
  generalize (400 : Nat) = f9 at e9
  refine hS _ _ (zcal_s (SP := zKsp l true zi r) _ ?_) (zorc_s _ ?_) _ _ _ _ _ e9
  · exact trivial
  · exact ⟨zap4_s (P := fun xs h => GO 7 (zfl [some (111, none), some (122, none), some (0, none), some (0, none)] xs).1 (zfs [] (zfl [some (111, none), some (122, none), some (0, none), some (0, none)] xs).2) h) (fun x0 x1 x2 x3 h hr => s_Gr_writeAll_7 hS x0 x1 x2 x3 h hr), trivial⟩
set_option maxRecDepth 100000 in
set_option maxHeartbeats 0 in
theorem s_In_cellRegister_20 {l : Launch} {zi : Nat → zinfo} {r : zRes} {GO : Nat → List (Option zV) → List zV → zH → Prop} (hS : zSg l true zi (zget (999, 0, 0, 0) zc_In_cellRegister) (zcut zu_In_cellRegister) zin (fun _ _ => none) r GO) (k219 : ∀ (x0 x1 : Int) (h : zH) (k : (Int → zH → Option zRes)) (t : (Nat → zH → Option zRes)), In_isOneOf x0 x1 h k = some r → zKsp l true zi r 219 [x0, x1] h k t) (t0 : Int) (h : zH) (hr : In_cellRegister_20 zin t0 h = some r) : GO 20 [none] [(0, t0)] h := by
  have e9 := Eq.trans (Eq.symm (qe_In_cellRegister_20 zin t0 h)) hr
  generalize (400 : Nat) = f9 at e9
  refine hS _ _ (zcal_s (SP := zKsp l true zi r) _ ?_) (zorc_s _ ?_) _ _ _ _ _ e9
  · exact trivial
  · exact trivial
set_option maxRecDepth 100000 in
set_option maxHeartbeats 0 in
theorem s_In_cellRegister {l : Launch} {zi : Nat → zinfo} {r : zRes} {GO : Nat → List (Option zV) → List zV → zH → Prop} (hS : zSg l true zi (zget (999, 0, 0, 0) zc_In_cellRegister) (zcut zu_In_cellRegister) zin (fun _ _ => none) r GO) (k219 : ∀ (x0 x1 : Int) (h : zH) (k : (Int → zH → Option zRes)) (t : (Nat → zH → Option zRes)), In_isOneOf x0 x1 h k = some r → zKsp l true zi r 219 [x0, x1] h k t) (a0 : Int) (h : zH) (hr : In_cellRegister a0 h zin = some r) : GO 0 [some (108, a0)] [] h := by
  have e9 := Eq.trans (Eq.symm (qe_In_cellRegister zin a0 h)) hr
  generalize (400 : Nat) = f9 at e9
  refine hS _ _ (zcal_s (SP := zKsp l true zi r) _ ?_) (zorc_s _ ?_) _ _ _ _ _ e9
  · exact ⟨zca2_s (SP := fun xs h k t => zKsp l true zi r 219 (zfc [none, none] xs) h k t) k219, trivial⟩
  · exact ⟨zap1_s (P := fun xs h => GO 20 (zfl [none] xs).1 (zfs [(0, none)] (zfl [none] xs).2) h) (fun x0 h hr => s_In_cellRegister_20 hS k219 x0 h hr), trivial⟩
set_option maxRecDepth 100000 in
set_option maxHeartbeats 0 in
theorem s_Th_at_23 {l : Launch} {zi : Nat → zinfo} {r : zRes} {GO : Nat → List (Option zV) → List zV → zH → Prop} (hS : zSg l true zi (zget (999, 0, 0, 0) zc_Th_at) (zcut zu_Th_at) zin (fun _ _ => none) r GO) (t0 : Int) (h : zH) (hr : Th_at_23 zin t0 h = some r) : GO 23 [none, none] [(0, t0)] h := by
  have e9 := Eq.trans (Eq.symm (qe_Th_at_23 zin t0 h)) hr
  generalize (400 : Nat) = f9 at e9
  refine hS _ _ (zcal_s (SP := zKsp l true zi r) _ ?_) (zorc_s _ ?_) _ _ _ _ _ e9
  · exact trivial
  · exact trivial
set_option maxRecDepth 100000 in
set_option maxHeartbeats 0 in
theorem s_Th_at_22 {l : Launch} {zi : Nat → zinfo} {r : zRes} {GO : Nat → List (Option zV) → List zV → zH → Prop} (hS : zSg l true zi (zget (999, 0, 0, 0) zc_Th_at) (zcut zu_Th_at) zin (fun _ _ => none) r GO) (h : zH) (hr : Th_at_22 zin h = some r) : GO 22 [none, none] [] h := by
  have e9 := Eq.trans (Eq.symm (qe_Th_at_22 zin h)) hr
  generalize (400 : Nat) = f9 at e9
  refine hS _ _ (zcal_s (SP := zKsp l true zi r) _ ?_) (zorc_s _ ?_) _ _ _ _ _ e9
  · exact trivial
  · exact ⟨zap1_s (P := fun xs h => GO 23 (zfl [none, none] xs).1 (zfs [(0, none)] (zfl [none, none] xs).2) h) (fun x0 h hr => s_Th_at_23 hS x0 h hr), trivial⟩
set_option maxRecDepth 100000 in
set_option maxHeartbeats 0 in
theorem s_Th_at {l : Launch} {zi : Nat → zinfo} {r : zRes} {GO : Nat → List (Option zV) → List zV → zH → Prop} (hS : zSg l true zi (zget (999, 0, 0, 0) zc_Th_at) (zcut zu_Th_at) zin (fun _ _ => none) r GO) (a0 a1 : Int) (h : zH) (hr : Th_at a0 a1 h zin = some r) : GO 0 [some (106, a0), some (0, a1)] [] h := by
  have e9 := Eq.trans (Eq.symm (qe_Th_at zin a0 a1 h)) hr
  generalize (400 : Nat) = f9 at e9
  refine hS _ _ (zcal_s (SP := zKsp l true zi r) _ ?_) (zorc_s _ ?_) _ _ _ _ _ e9
  · exact trivial
  · exact ⟨zap0_s (P := fun xs h => GO 22 (zfl [none, none] xs).1 (zfs [] (zfl [none, none] xs).2) h) (fun  h hr => s_Th_at_22 hS  h hr), ⟨zap1_s (P := fun xs h => GO 23 (zfl [none, none] xs).1 (zfs [(0, none)] (zfl [none, none] xs).2) h) (fun x0 h hr => s_Th_at_23 hS x0 h hr), trivial⟩⟩
set_option maxRecDepth 100000 in
set_option maxHeartbeats 0 in
theorem s_Co_lookAhead_99 {l : Launch} {zi : Nat → zinfo} {r : zRes} {GO : Nat → List (Option zV) → List zV → zH → Prop} (hS : zSg l true zi (zget (999, 0, 0, 0) zc_Co_lookAhead) (zcut zu_Co_lookAhead) zin (fun _ _ => none) r GO) (k56 : ∀ (x0 x1 : Int) (h : zH) (k : (Int → zH → Option zRes)) (t : (Nat → zH → Option zRes)), X_isIn x0 x1 h k = some r → zKsp l true zi r 56 [x0, x1] h k t) (k203 : ∀ (x0 x1 : Int) (h : zH) (k : (Int → zH → Option zRes)) (t : (Nat → zH → Option zRes)), Gr_threadIn x0 x1 h k = some r → zKsp l true zi r 203 [x0, x1] h k t) (k217 : ∀ (x0 x1 : Int) (h : zH) (k : (Int → zH → Option zRes)) (t : (Nat → zH → Option zRes)), Gr_writeAll x0 x1 h k = some r → zKsp l true zi r 217 [x0, x1] h k t) (k219 : ∀ (x0 x1 : Int) (h : zH) (k : (Int → zH → Option zRes)) (t : (Nat → zH → Option zRes)), In_isOneOf x0 x1 h k = some r → zKsp l true zi r 219 [x0, x1] h k t) (k221 : ∀ (x0 : Int) (h : zH) (k : (Int → zH → Option zRes)) (t : (Nat → zH → Option zRes)), In_cellRegister x0 h k = some r → zKsp l true zi r 221 [x0] h k t) (k258 : ∀ (x0 x1 : Int) (h : zH) (k : (Int → zH → Option zRes)) (t : (Nat → zH → Option zRes)), Th_at x0 x1 h k = some r → zKsp l true zi r 258 [x0, x1] h k t) {r7 : Int → Int → Int → Int → zH → Option zRes} (h7 : ∀ (x0 x1 x2 x3 : Int) (h : zH), r7 x0 x1 x2 x3 h = some r → GO 7 [some (102, x0), some (111, x1), some (108, x2), some (0, x3), none] [] h) (a0 a1 a2 a3 : Int) (h : zH) (hr : Co_lookAhead_99 zin r7 a0 a1 a2 a3 h = some r) : GO 99 [some (102, a0), some (111, a1), some (108, a2), some (0, a3), none] [] h := by
  have e9 := Eq.trans (Eq.symm (qe_Co_lookAhead_99 zin r7 a0 a1 a2 a3 h)) hr
  generalize (400 : Nat) = f9 at e9
  refine hS _ _ (zcal_s (SP := zKsp l true zi r) _ ?_) (zorc_s _ ?_) _ _ _ _ _ e9
  · exact trivial
  · exact ⟨zap4_s (P := fun xs h => GO 7 (zfl [some (102, none), some (111, none), some (108, none), some (0, none), none] xs).1 (zfs [] (zfl [some (102, none), some (111, none), some (108, none), some (0, none), none] xs).2) h) h7, trivial⟩
set_option maxRecDepth 100000 in
set_option maxHeartbeats 0 in
theorem s_Co_lookAhead_66 {l : Launch} {zi : Nat → zinfo} {r : zRes} {GO : Nat → List (Option zV) → List zV → zH → Prop} (hS : zSg l true zi (zget (999, 0, 0, 0) zc_Co_lookAhead) (zcut zu_Co_lookAhead) zin (fun _ _ => none) r GO) (k56 : ∀ (x0 x1 : Int) (h : zH) (k : (Int → zH → Option zRes)) (t : (Nat → zH → Option zRes)), X_isIn x0 x1 h k = some r → zKsp l true zi r 56 [x0, x1] h k t) (k203 : ∀ (x0 x1 : Int) (h : zH) (k : (Int → zH → Option zRes)) (t : (Nat → zH → Option zRes)), Gr_threadIn x0 x1 h k = some r → zKsp l true zi r 203 [x0, x1] h k t) (k217 : ∀ (x0 x1 : Int) (h : zH) (k : (Int → zH → Option zRes)) (t : (Nat → zH → Option zRes)), Gr_writeAll x0 x1 h k = some r → zKsp l true zi r 217 [x0, x1] h k t) (k219 : ∀ (x0 x1 : Int) (h : zH) (k : (Int → zH → Option zRes)) (t : (Nat → zH → Option zRes)), In_isOneOf x0 x1 h k = some r → zKsp l true zi r 219 [x0, x1] h k t) (k221 : ∀ (x0 : Int) (h : zH) (k : (Int → zH → Option zRes)) (t : (Nat → zH → Option zRes)), In_cellRegister x0 h k = some r → zKsp l true zi r 221 [x0] h k t) (k258 : ∀ (x0 x1 : Int) (h : zH) (k : (Int → zH → Option zRes)) (t : (Nat → zH → Option zRes)), Th_at x0 x1 h k = some r → zKsp l true zi r 258 [x0, x1] h k t) {r7 : Int → Int → Int → Int → zH → Option zRes} (h7 : ∀ (x0 x1 x2 x3 : Int) (h : zH), r7 x0 x1 x2 x3 h = some r → GO 7 [some (102, x0), some (111, x1), some (108, x2), some (0, x3), none] [] h) (a0 a1 a2 a3 t0 t1 t2 : Int) (h : zH) (hr : Co_lookAhead_66 zin r7 a0 a1 a2 a3 t0 t1 t2 h = some r) : GO 66 [some (102, a0), some (111, a1), some (108, a2), some (0, a3), none] [(0, t0), (0, t1), (125, t2)] h := by
  have e9 := Eq.trans (Eq.symm (qe_Co_lookAhead_66 zin r7 a0 a1 a2 a3 t0 t1 t2 h)) hr
  generalize (400 : Nat) = f9 at e9
  refine hS _ _ (zcal_s (SP := zKsp l true zi r) _ ?_) (zorc_s _ ?_) _ _ _ _ _ e9
  · exact ⟨zca2_s (SP := fun xs h k t => zKsp l true zi r 56 (zfc [none, none] xs) h k t) k56, trivial⟩
  · exact ⟨zap4_s (P := fun xs h => GO 99 (zfl [some (102, none), some (111, none), some (108, none), some (0, none), none] xs).1 (zfs [] (zfl [some (102, none), some (111, none), some (108, none), some (0, none), none] xs).2) h) (fun x0 x1 x2 x3 h hr => s_Co_lookAhead_99 hS k56 k203 k217 k219 k221 k258 h7 x0 x1 x2 x3 h hr), trivial⟩
set_option maxRecDepth 100000 in
set_option maxHeartbeats 0 in
theorem s_Co_lookAhead_42 {l : Launch} {zi : Nat → zinfo} {r : zRes} {GO : Nat → List (Option zV) → List zV → zH → Prop} (hS : zSg l true zi (zget (999, 0, 0, 0) zc_Co_lookAhead) (zcut zu_Co_lookAhead) zin (fun _ _ => none) r GO) (k56 : ∀ (x0 x1 : Int) (h : zH) (k : (Int → zH → Option zRes)) (t : (Nat → zH → Option zRes)), X_isIn x0 x1 h k = some r → zKsp l true zi r 56 [x0, x1] h k t) (k203 : ∀ (x0 x1 : Int) (h : zH) (k : (Int → zH → Option zRes)) (t : (Nat → zH → Option zRes)), Gr_threadIn x0 x1 h k = some r → zKsp l true zi r 203 [x0, x1] h k t) (k217 : ∀ (x0 x1 : Int) (h : zH) (k : (Int → zH → Option zRes)) (t : (Nat → zH → Option zRes)), Gr_writeAll x0 x1 h k = some r → zKsp l true zi r 217 [x0, x1] h k t) (k219 : ∀ (x0 x1 : Int) (h : zH) (k : (Int → zH → Option zRes)) (t : (Nat → zH → Option zRes)), In_isOneOf x0 x1 h k = some r → zKsp l true zi r 219 [x0, x1] h k t) (k221 : ∀ (x0 : Int) (h : zH) (k : (Int → zH → Option zRes)) (t : (Nat → zH → Option zRes)), In_cellRegister x0 h k = some r → zKsp l true zi r 221 [x0] h k t) (k258 : ∀ (x0 x1 : Int) (h : zH) (k : (Int → zH → Option zRes)) (t : (Nat → zH → Option zRes)), Th_at x0 x1 h k = some r → zKsp l true zi r 258 [x0, x1] h k t) {r7 : Int → Int → Int → Int → zH → Option zRes} (h7 : ∀ (x0 x1 x2 x3 : Int) (h : zH), r7 x0 x1 x2 x3 h = some r → GO 7 [some (102, x0), some (111, x1), some (108, x2), some (0, x3), none] [] h) (a0 a1 a2 a3 a4 t0 t1 t2 : Int) (h : zH) (hr : Co_lookAhead_42 zin r7 a0 a1 a2 a3 a4 t0 t1 t2 h = some r) : GO 42 [some (102, a0), some (111, a1), some (108, a2), some (0, a3), some (106, a4)] [(0, t0), (0, t1), (124, t2)] h := by
  have e9 := Eq.trans (Eq.symm (qe_Co_lookAhead_42 zin r7 a0 a1 a2 a3 a4 t0 t1 t2 h)) hr
  generalize (400 : Nat) = f9 at e9
  refine hS _ _ (zcal_s (SP := zKsp l true zi r) _ ?_) (zorc_s _ ?_) _ _ _ _ _ e9
  · exact ⟨zca2_s (SP := fun xs h k t => zKsp l true zi r 258 (zfc [none, none] xs) h k t) k258, trivial⟩
  · exact ⟨zap7_s (P := fun xs h => GO 66 (zfl [some (102, none), some (111, none), some (108, none), some (0, none), none] xs).1 (zfs [(0, none), (0, none), (125, none)] (zfl [some (102, none), some (111, none), some (108, none), some (0, none), none] xs).2) h) (fun x0 x1 x2 x3 x4 x5 x6 h hr => s_Co_lookAhead_66 hS k56 k203 k217 k219 k221 k258 h7 x0 x1 x2 x3 x4 x5 x6 h hr), trivial⟩
set_option maxRecDepth 100000 in
set_option maxHeartbeats 0 in
theorem s_Co_lookAhead_127 {l : Launch} {zi : Nat → zinfo} {r : zRes} {GO : Nat → List (Option zV) → List zV → zH → Prop} (hS : zSg l true zi (zget (999, 0, 0, 0) zc_Co_lookAhead) (zcut zu_Co_lookAhead) zin (fun _ _ => none) r GO) (k56 : ∀ (x0 x1 : Int) (h : zH) (k : (Int → zH → Option zRes)) (t : (Nat → zH → Option zRes)), X_isIn x0 x1 h k = some r → zKsp l true zi r 56 [x0, x1] h k t) (k203 : ∀ (x0 x1 : Int) (h : zH) (k : (Int → zH → Option zRes)) (t : (Nat → zH → Option zRes)), Gr_threadIn x0 x1 h k = some r → zKsp l true zi r 203 [x0, x1] h k t) (k217 : ∀ (x0 x1 : Int) (h : zH) (k : (Int → zH → Option zRes)) (t : (Nat → zH → Option zRes)), Gr_writeAll x0 x1 h k = some r → zKsp l true zi r 217 [x0, x1] h k t) (k219 : ∀ (x0 x1 : Int) (h : zH) (k : (Int → zH → Option zRes)) (t : (Nat → zH → Option zRes)), In_isOneOf x0 x1 h k = some r → zKsp l true zi r 219 [x0, x1] h k t) (k221 : ∀ (x0 : Int) (h : zH) (k : (Int → zH → Option zRes)) (t : (Nat → zH → Option zRes)), In_cellRegister x0 h k = some r → zKsp l true zi r 221 [x0] h k t) (k258 : ∀ (x0 x1 : Int) (h : zH) (k : (Int → zH → Option zRes)) (t : (Nat → zH → Option zRes)), Th_at x0 x1 h k = some r → zKsp l true zi r 258 [x0, x1] h k t) (t0 t1 : Int) (h : zH) (hr : Co_lookAhead_127 zin t0 t1 h = some r) : GO 127 [none, none, none, none, none] [(0, t0), (102, t1)] h := by
  have e9 := Eq.trans (Eq.symm (qe_Co_lookAhead_127 zin t0 t1 h)) hr
  generalize (400 : Nat) = f9 at e9
  refine hS _ _ (zcal_s (SP := zKsp l true zi r) _ ?_) (zorc_s _ ?_) _ _ _ _ _ e9
  · exact trivial
  · exact trivial
set_option maxRecDepth 100000 in
set_option maxHeartbeats 0 in
theorem s_Co_lookAhead_7b {l : Launch} {zi : Nat → zinfo} {r : zRes} {GO : Nat → List (Option zV) → List zV → zH → Prop} (hS : zSg l true zi (zget (999, 0, 0, 0) zc_Co_lookAhead) (zcut zu_Co_lookAhead) zin (fun _ _ => none) r GO) (k56 : ∀ (x0 x1 : Int) (h : zH) (k : (Int → zH → Option zRes)) (t : (Nat → zH → Option zRes)), X_isIn x0 x1 h k = some r → zKsp l true zi r 56 [x0, x1] h k t) (k203 : ∀ (x0 x1 : Int) (h : zH) (k : (Int → zH → Option zRes)) (t : (Nat → zH → Option zRes)), Gr_threadIn x0 x1 h k = some r → zKsp l true zi r 203 [x0, x1] h k t) (k217 : ∀ (x0 x1 : Int) (h : zH) (k : (Int → zH → Option zRes)) (t : (Nat → zH → Option zRes)), Gr_writeAll x0 x1 h k = some r → zKsp l true zi r 217 [x0, x1] h k t) (k219 : ∀ (x0 x1 : Int) (h : zH) (k : (Int → zH → Option zRes)) (t : (Nat → zH → Option zRes)), In_isOneOf x0 x1 h k = some r → zKsp l true zi r 219 [x0, x1] h k t) (k221 : ∀ (x0 : Int) (h : zH) (k : (Int → zH → Option zRes)) (t : (Nat → zH → Option zRes)), In_cellRegister x0 h k = some r → zKsp l true zi r 221 [x0] h k t) (k258 : ∀ (x0 x1 : Int) (h : zH) (k : (Int → zH → Option zRes)) (t : (Nat → zH → Option zRes)), Th_at x0 x1 h k = some r → zKsp l true zi r 258 [x0, x1] h k t) {r7 : Int → Int → Int → Int → zH → Option zRes} (h7 : ∀ (x0 x1 x2 x3 : Int) (h : zH), r7 x0 x1 x2 x3 h = some r → GO 7 [some (102, x0), some (111, x1), some (108, x2), some (0, x3), none] [] h) (a0 a1 a2 a3 : Int) (h : zH) (hr : Co_lookAhead_7b zin r7 a0 a1 a2 a3 h = some r) : GO 7 [some (102, a0), some (111, a1), some (108, a2), some (0, a3), none] [] h := by
  have e9 := Eq.trans (Eq.symm (qe_Co_lookAhead_7b zin r7 a0 a1 a2 a3 h)) hr
  generalize (400 : Nat) = f9 at e9
  refine hS _ _ (zcal_s (SP := zKsp l true zi r) _ ?_) (zorc_s _ ?_) _ _ _ _ _ e9
  · exact ⟨zca2_s (SP := fun xs h k t => zKsp l true zi r 203 (zfc [none, none] xs) h k t) k203, ⟨zca2_s (SP := fun xs h k t => zKsp l true zi r 217 (zfc [none, none] xs) h k t) k217, ⟨zca2_s (SP := fun xs h k t => zKsp l true zi r 219 (zfc [none, none] xs) h k t) k219, ⟨zca1_s (SP := fun xs h k t => zKsp l true zi r 221 (zfc [none] xs) h k t) k221, ⟨zca2_s (SP := fun xs h k t => zKsp l true zi r 258 (zfc [none, none] xs) h k t) k258, trivial⟩⟩⟩⟩⟩
  · exact ⟨zap8_s (P := fun xs h => GO 42 (zfl [some (102, none), some (111, none), some (108, none), some (0, none), some (106, none)] xs).1 (zfs [(0, none), (0, none), (124, none)] (zfl [some (102, none), some (111, none), some (108, none), some (0, none), some (106, none)] xs).2) h) (fun x0 x1 x2 x3 x4 x5 x6 x7 h hr => s_Co_lookAhead_42 hS k56 k203 k217 k219 k221 k258 h7 x0 x1 x2 x3 x4 x5 x6 x7 h hr), ⟨zap2_s (P := fun xs h => GO 127 (zfl [none, none, none, none, none] xs).1 (zfs [(0, none), (102, none)] (zfl [none, none, none, none, none] xs).2) h) (fun x0 x1 h hr => s_Co_lookAhead_127 hS k56 k203 k217 k219 k221 k258 x0 x1 h hr), trivial⟩⟩
set_option maxRecDepth 100000 in
set_option maxHeartbeats 0 in
theorem s_Co_lookAhead_7 {l : Launch} {zi : Nat → zinfo} {r : zRes} {GO : Nat → List (Option zV) → List zV → zH → Prop} (hS : zSg l true zi (zget (999, 0, 0, 0) zc_Co_lookAhead) (zcut zu_Co_lookAhead) zin (fun _ _ => none) r GO) (k56 : ∀ (x0 x1 : Int) (h : zH) (k : (Int → zH → Option zRes)) (t : (Nat → zH → Option zRes)), X_isIn x0 x1 h k = some r → zKsp l true zi r 56 [x0, x1] h k t) (k203 : ∀ (x0 x1 : Int) (h : zH) (k : (Int → zH → Option zRes)) (t : (Nat → zH → Option zRes)), Gr_threadIn x0 x1 h k = some r → zKsp l true zi r 203 [x0, x1] h k t) (k217 : ∀ (x0 x1 : Int) (h : zH) (k : (Int → zH → Option zRes)) (t : (Nat → zH → Option zRes)), Gr_writeAll x0 x1 h k = some r → zKsp l true zi r 217 [x0, x1] h k t) (k219 : ∀ (x0 x1 : Int) (h : zH) (k : (Int → zH → Option zRes)) (t : (Nat → zH → Option zRes)), In_isOneOf x0 x1 h k = some r → zKsp l true zi r 219 [x0, x1] h k t) (k221 : ∀ (x0 : Int) (h : zH) (k : (Int → zH → Option zRes)) (t : (Nat → zH → Option zRes)), In_cellRegister x0 h k = some r → zKsp l true zi r 221 [x0] h k t) (k258 : ∀ (x0 x1 : Int) (h : zH) (k : (Int → zH → Option zRes)) (t : (Nat → zH → Option zRes)), Th_at x0 x1 h k = some r → zKsp l true zi r 258 [x0, x1] h k t) (a0 a1 a2 a3 : Int) (h : zH) (hr : Co_lookAhead_7 zin a0 a1 a2 a3 h = some r) : GO 7 [some (102, a0), some (111, a1), some (108, a2), some (0, a3), none] [] h := zit4_s (P := fun x0 x1 x2 x3 h => GO 7 [some (102, x0), some (111, x1), some (108, x2), some (0, x3), none] [] h) (fun rr hh a0 a1 a2 a3 h hr => s_Co_lookAhead_7b hS k56 k203 k217 k219 k221 k258 hh a0 a1 a2 a3 h hr) zN a0 a1 a2 a3 h hr
set_option maxRecDepth 100000 in
set_option maxHeartbeats 0 in
theorem s_Co_lookAhead {l : Launch} {zi : Nat → zinfo} {r : zRes} {GO : Nat → List (Option zV) → List zV → zH → Prop} (hS : zSg l true zi (zget (999, 0, 0, 0) zc_Co_lookAhead) (zcut zu_Co_lookAhead) zin (fun _ _ => none) r GO) (k56 : ∀ (x0 x1 : Int) (h : zH) (k : (Int → zH → Option zRes)) (t : (Nat → zH → Option zRes)), X_isIn x0 x1 h k = some r → zKsp l true zi r 56 [x0, x1] h k t) (k203 : ∀ (x0 x1 : Int) (h : zH) (k : (Int → zH → Option zRes)) (t : (Nat → zH → Option zRes)), Gr_threadIn x0 x1 h k = some r → zKsp l true zi r 203 [x0, x1] h k t) (k217 : ∀ (x0 x1 : Int) (h : zH) (k : (Int → zH → Option zRes)) (t : (Nat → zH → Option zRes)), Gr_writeAll x0 x1 h k = some r → zKsp l true zi r 217 [x0, x1] h k t) (k219 : ∀ (x0 x1 : Int) (h : zH) (k : (Int → zH → Option zRes)) (t : (Nat → zH → Option zRes)), In_isOneOf x0 x1 h k = some r → zKsp l true zi r 219 [x0, x1] h k t) (k221 : ∀ (x0 : Int) (h : zH) (k : (Int → zH → Option zRes)) (t : (Nat → zH → Option zRes)), In_cellRegister x0 h k = some r → zKsp l true zi r 221 [x0] h k t) (k258 : ∀ (x0 x1 : Int) (h : zH) (k : (Int → zH → Option zRes)) (t : (Nat → zH → Option zRes)), Th_at x0 x1 h k = some r → zKsp l true zi r 258 [x0, x1] h k t) (a0 a1 a2 : Int) (h : zH) (hr : Co_lookAhead a0 a1 a2 h zin = some r) : GO 0 [some (102, a0), some (111, a1), some (108, a2), none, none] [] h := by
  have e9 := Eq.trans (Eq.symm (qe_Co_lookAhead zin a0 a1 a2 h)) hr
  generalize (400 : Nat) = f9 at e9
  refine hS _ _ (zcal_s (SP := zKsp l true zi r) _ ?_) (zorc_s _ ?_) _ _ _ _ _ e9
  · exact trivial
  · exact ⟨zap4_s (P := fun xs h => GO 7 (zfl [some (102, none), some (111, none), some (108, none), some (0, none), none] xs).1 (zfs [] (zfl [some (102, none), some (111, none), some (108, none), some (0, none), none] xs).2) h) (fun x0 x1 x2 x3 h hr => s_Co_lookAhead_7 hS k56 k203 k217 k219 k221 k258 x0 x1 x2 x3 h hr), trivial⟩
