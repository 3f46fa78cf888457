set_option maxRecDepth 100000 in
set_option maxHeartbeats 0 in
theorem s_X_shared {l : Launch} {zi : Nat → zinfo} {r : zRes} {GO : Nat → List (Option zV) → List zV → zH → Prop} (hS : zSg l true zi (zget (999, 0, 0, 0) zc_X_shared) (zcut zu_X_shared) zin zth r GO) (k51 : ∀ (x0 x1 x2 : Int) (h : zH) (k : (Int → zH → Option zRes)) (t : (Nat → zH → Option zRes)), X_groupAt x0 x1 x2 h t k = some r → zKsp l true zi r 51 [x0, x1, x2] h k t) (k171 : ∀ (x0 x1 : Int) (h : zH) (k : (Int → zH → Option zRes)) (t : (Nat → zH → Option zRes)), Bl_hasShared x0 x1 h k = some r → zKsp l true zi r 171 [x0, x1] h k t) (a0 a1 a2 a3 : Int) (h : zH) (hr : X_shared a0 a1 a2 a3 h zth zin = some r) : GO 0 [some (100, a0), some (0, a1), some (0, a2), some (0, a3), none] [] h := by
  have e9 := Eq.trans (Eq.symm (qe_X_shared zin zth a0 a1 a2 a3 h)) hr
  generalize (400 : Nat) = f9 at e9
  refine hS _ _ (zcal_s (SP := zKsp l true zi r) _ ?_) (zorc_s _ ?_) _ _ _ _ _ e9
  · exact ⟨zcx3_s (SP := fun xs h k t => zKsp l true zi r 51 (zfc [none, none, none] xs) h k t) k51, ⟨zca2_s (SP := fun xs h k t => zKsp l true zi r 171 (zfc [none, none] xs) h k t) k171, trivial⟩⟩
  · exact trivial
set_option maxRecDepth 100000 in
set_option maxHeartbeats 0 in
theorem s_X_buffered {l : Launch} {zi : Nat → zinfo} {r : zRes} {GO : Nat → List (Option zV) → List zV → zH → Prop} (hS : zSg l true zi (zget (999, 0, 0, 0) zc_X_buffered) (zcut zu_X_buffered) zin zth r GO) (k51 : ∀ (x0 x1 x2 : Int) (h : zH) (k : (Int → zH → Option zRes)) (t : (Nat → zH → Option zRes)), X_groupAt x0 x1 x2 h t k = some r → zKsp l true zi r 51 [x0, x1, x2] h k t) (a0 a1 a2 : Int) (h : zH) (hr : X_buffered a0 a1 a2 h zth zin = some r) : GO 0 [some (100, a0), some (0, a1), some (0, a2)] [] h := by
  have e9 := Eq.trans (Eq.symm (qe_X_buffered zin zth a0 a1 a2 h)) hr
  generalize (400 : Nat) = f9 at e9
  refine hS _ _ (zcal_s (SP := zKsp l true zi r) _ ?_) (zorc_s _ ?_) _ _ _ _ _ e9
  · exact ⟨zcx3_s (SP := fun xs h k t => zKsp l true zi r 51 (zfc [none, none, none] xs) h k t) k51, trivial⟩
  · exact trivial
set_option maxRecDepth 100000 in
set_option maxHeartbeats 0 in
theorem s_X_failedAt {l : Launch} {zi : Nat → zinfo} {r : zRes} {GO : Nat → List (Option zV) → List zV → zH → Prop} (hS : zSg l true zi (zget (999, 0, 0, 0) zc_X_failedAt) (zcut zu_X_failedAt) zin zth r GO) (k48 : ∀ (x0 x1 : Int) (h : zH) (k : (Int → zH → Option zRes)) (t : (Nat → zH → Option zRes)), X_launchAt x0 x1 h t k = some r → zKsp l true zi r 48 [x0, x1] h k t) (a0 a1 : Int) (h : zH) (hr : X_failedAt a0 a1 h zth zin = some r) : GO 0 [some (100, a0), some (0, a1), none] [] h := by
  have e9 := Eq.trans (Eq.symm (qe_X_failedAt zin zth a0 a1 h)) hr
  generalize (400 : Nat) = f9 at e9
  refine hS _ _ (zcal_s (SP := zKsp l true zi r) _ ?_) (zorc_s _ ?_) _ _ _ _ _ e9
  · exact ⟨zcx2_s (SP := fun xs h k t => zKsp l true zi r 48 (zfc [none, none] xs) h k t) k48, trivial⟩
  · exact trivial
set_option maxRecDepth 100000 in
set_option maxHeartbeats 0 in
theorem s_X_fault {l : Launch} {zi : Nat → zinfo} {r : zRes} {GO : Nat → List (Option zV) → List zV → zH → Prop} (hS : zSg l true zi (zget (999, 0, 0, 0) zc_X_fault) (zcut zu_X_fault) zin zth r GO) (k49 : ∀ (x0 x1 : Int) (h : zH) (k : (Int → zH → Option zRes)) (t : (Nat → zH → Option zRes)), X_failedAt x0 x1 h t k = some r → zKsp l true zi r 49 [x0, x1] h k t) (a0 a1 : Int) (h : zH) (hr : X_fault a0 a1 h zth zin = some r) : GO 0 [some (100, a0), some (0, a1)] [] h := by
  have e9 := Eq.trans (Eq.symm (qe_X_fault zin zth a0 a1 h)) hr
  generalize (400 : Nat) = f9 at e9
  refine hS _ _ (zcal_s (SP := zKsp l true zi r) _ ?_) (zorc_s _ ?_) _ _ _ _ _ e9
  · exact ⟨zcx2_s (SP := fun xs h k t => zKsp l true zi r 49 (zfc [none, none] xs) h k t) k49, trivial⟩
  · exact trivial
set_option maxRecDepth 100000 in
set_option maxHeartbeats 0 in
theorem s_X_faultAt {l : Launch} {zi : Nat → zinfo} {r : zRes} {GO : Nat → List (Option zV) → List zV → zH → Prop} (hS : zSg l true zi (zget (999, 0, 0, 0) zc_X_faultAt) (zcut zu_X_faultAt) zin zth r GO) (k49 : ∀ (x0 x1 : Int) (h : zH) (k : (Int → zH → Option zRes)) (t : (Nat → zH → Option zRes)), X_failedAt x0 x1 h t k = some r → zKsp l true zi r 49 [x0, x1] h k t) (a0 a1 : Int) (h : zH) (hr : X_faultAt a0 a1 h zth zin = some r) : GO 0 [some (100, a0), some (0, a1)] [] h := by
  have e9 := Eq.trans (Eq.symm (qe_X_faultAt zin zth a0 a1 h)) hr
  generalize (400 : Nat) = f9 at e9
  refine hS _ _ (zcal_s (SP := zKsp l true zi r) _ ?_) (zorc_s _ ?_) _ _ _ _ _ e9
  · exact ⟨zcx2_s (SP := fun xs h k t => zKsp l true zi r 49 (zfc [none, none] xs) h k t) k49, trivial⟩
  · exact trivial
set_option maxRecDepth 100000 in
set_option maxHeartbeats 0 in
theorem s_X_isRacing {l : Launch} {zi : Nat → zinfo} {r : zRes} {GO : Nat → List (Option zV) → List zV → zH → Prop} (hS : zSg l true zi (zget (999, 0, 0, 0) zc_X_isRacing) (zcut zu_X_isRacing) zin zth r GO) (k48 : ∀ (x0 x1 : Int) (h : zH) (k : (Int → zH → Option zRes)) (t : (Nat → zH → Option zRes)), X_launchAt x0 x1 h t k = some r → zKsp l true zi r 48 [x0, x1] h k t) (k55 : ∀ (x0 : Int) (h : zH) (k : (Int → zH → Option zRes)) (t : (Nat → zH → Option zRes)), X_isCell x0 h k = some r → zKsp l true zi r 55 [x0] h k t) (a0 a1 a2 : Int) (h : zH) (hr : X_isRacing a0 a1 a2 h zth zin = some r) : GO 0 [some (100, a0), some (0, a1), some (0, a2), none] [] h := by
  have e9 := Eq.trans (Eq.symm (qe_X_isRacing zin zth a0 a1 a2 h)) hr
  generalize (400 : Nat) = f9 at e9
  refine hS _ _ (zcal_s (SP := zKsp l true zi r) _ ?_) (zorc_s _ ?_) _ _ _ _ _ e9
  · exact ⟨zcx2_s (SP := fun xs h k t => zKsp l true zi r 48 (zfc [none, none] xs) h k t) k48, ⟨zca1_s (SP := fun xs h k t => zKsp l true zi r 55 (zfc [none] xs) h k t) k55, trivial⟩⟩
  · exact trivial
set_option maxRecDepth 100000 in
set_option maxHeartbeats 0 in
theorem s_X_races {l : Launch} {zi : Nat → zinfo} {r : zRes} {GO : Nat → List (Option zV) → List zV → zH → Prop} (hS : zSg l true zi (zget (999, 0, 0, 0) zc_X_races) (zcut zu_X_races) zin zth r GO) (k48 : ∀ (x0 x1 : Int) (h : zH) (k : (Int → zH → Option zRes)) (t : (Nat → zH → Option zRes)), X_launchAt x0 x1 h t k = some r → zKsp l true zi r 48 [x0, x1] h k t) (a0 a1 : Int) (h : zH) (hr : X_races a0 a1 h zth zin = some r) : GO 0 [some (100, a0), some (0, a1)] [] h := by
  have e9 := Eq.trans (Eq.symm (qe_X_races zin zth a0 a1 h)) hr
  generalize (400 : Nat) = f9 at e9
  refine hS _ _ (zcal_s (SP := zKsp l true zi r) _ ?_) (zorc_s _ ?_) _ _ _ _ _ e9
  · exact ⟨zcx2_s (SP := fun xs h k t => zKsp l true zi r 48 (zfc [none, none] xs) h k t) k48, trivial⟩
  · exact trivial
set_option maxRecDepth 100000 in
set_option maxHeartbeats 0 in
theorem s_Ke_hasLetterOf_2b {l : Launch} {zi : Nat → zinfo} {r : zRes} {GO : Nat → List (Option zV) → List zV → zH → Prop} (hS : zSg l true zi (zget (999, 0, 0, 0) zc_Ke_hasLetterOf) (zcut zu_Ke_hasLetterOf) zin (fun _ _ => none) r GO) (k219 : ∀ (x0 x1 : Int) (h : zH) (k : (Int → zH → Option zRes)) (t : (Nat → zH → Option zRes)), In_isOneOf x0 x1 h k = some r → zKsp l true zi r 219 [x0, x1] h k t) {r2 : Int → Int → Int → zH → Option zRes} (h2 : ∀ (x0 x1 x2 : Int) (h : zH), r2 x0 x1 x2 h = some r → GO 2 [some (107, x0), some (3, x1), some (0, x2)] [] h) (a0 a1 a2 : Int) (h : zH) (hr : Ke_hasLetterOf_2b zin r2 a0 a1 a2 h = some r) : GO 2 [some (107, a0), some (3, a1), some (0, a2)] [] h := by
  have e9 := Eq.trans (Eq.symm (qe_Ke_hasLetterOf_2b zin r2 a0 a1 a2 h)) hr
  generalize (400 : Nat) = f9 at e9
  refine hS _ _ (zcal_s (SP := zKsp l true zi r) _ ?_) (zorc_s _ ?_) _ _ _ _ _ e9
  · exact ⟨zca2_s (SP := fun xs h k t => zKsp l true zi r 219 (zfc [none, none] xs) h k t) k219, trivial⟩
  · exact ⟨zap3_s (P := fun xs h => GO 2 (zfl [some (107, none), some (3, none), some (0, none)] xs).1 (zfs [] (zfl [some (107, none), some (3, none), some (0, none)] xs).2) h) h2, trivial⟩
set_option maxRecDepth 100000 in
set_option maxHeartbeats 0 in
theorem s_Ke_hasLetterOf_2 {l : Launch} {zi : Nat → zinfo} {r : zRes} {GO : Nat → List (Option zV) → List zV → zH → Prop} (hS : zSg l true zi (zget (999, 0, 0, 0) zc_Ke_hasLetterOf) (zcut zu_Ke_hasLetterOf) zin (fun _ _ => none) r GO) (k219 : ∀ (x0 x1 : Int) (h : zH) (k : (Int → zH → Option zRes)) (t : (Nat → zH → Option zRes)), In_isOneOf x0 x1 h k = some r → zKsp l true zi r 219 [x0, x1] h k t) (a0 a1 a2 : Int) (h : zH) (hr : Ke_hasLetterOf_2 zin a0 a1 a2 h = some r) : GO 2 [some (107, a0), some (3, a1), some (0, a2)] [] h := zit3_s (P := fun x0 x1 x2 h => GO 2 [some (107, x0), some (3, x1), some (0, x2)] [] h) (fun rr hh a0 a1 a2 h hr => s_Ke_hasLetterOf_2b hS k219 hh a0 a1 a2 h hr) zN a0 a1 a2 h hr
set_option maxRecDepth 100000 in
set_option maxHeartbeats 0 in
theorem s_Ke_hasLetterOf {l : Launch} {zi : Nat → zinfo} {r : zRes} {GO : Nat → List (Option zV) → List zV → zH → Prop} (hS : zSg l true zi (zget (999, 0, 0, 0) zc_Ke_hasLetterOf) (zcut zu_Ke_hasLetterOf) zin (fun _ _ => none) r GO) (k219 : ∀ (x0 x1 : Int) (h : zH) (k : (Int → zH → Option zRes)) (t : (Nat → zH → Option zRes)), In_isOneOf x0 x1 h k = some r → zKsp l true zi r 219 [x0, x1] h k t) (a0 a1 : Int) (h : zH) (hr : Ke_hasLetterOf a0 a1 h zin = some r) : GO 0 [some (107, a0), some (3, a1), none] [] h := by
  have e9 := Eq.trans (Eq.symm (qe_Ke_hasLetterOf zin a0 a1 h)) hr
  generalize (400 : Nat) = f9 at e9
  refine hS _ _ (zcal_s (SP := zKsp l true zi r) _ ?_) (zorc_s _ ?_) _ _ _ _ _ e9
  · exact trivial
  · exact ⟨zap3_s (P := fun xs h => GO 2 (zfl [some (107, none), some (3, none), some (0, none)] xs).1 (zfs [] (zfl [some (107, none), some (3, none), some (0, none)] xs).2) h) (fun x0 x1 x2 h hr => s_Ke_hasLetterOf_2 hS k219 x0 x1 x2 h hr), trivial⟩
set_option maxRecDepth 100000 in
set_option maxHeartbeats 0 in
theorem s_Re_begin_56 {l : Launch} {zi : Nat → zinfo} {r : zRes} {GO : Nat → List (Option zV) → List zV → zH → Prop} (hS : zSg l true zi (zget (999, 0, 0, 0) zc_Re_begin) (zcut zu_Re_begin) zin (fun _ _ => none) r GO) (k3 : ∀ (x0 x1 : Int) (h : zH) (k : (Int → zH → Option zRes)) (t : (Nat → zH → Option zRes)), Ma_min x0 x1 h k = some r → zKsp l true zi r 3 [x0, x1] h k t) (h : zH) (hr : Re_begin_56 zin h = some r) : GO 56 [none, none, none, none, none, none] [] h := by
  have e9 := Eq.trans (Eq.symm (qe_Re_begin_56 zin h)) hr
  generalize (400 : Nat) = f9 at e9
  refine hS _ _ (zcal_s (SP := zKsp l true zi r) _ ?_) (zorc_s _ ?_) _ _ _ _ _ e9
  · exact trivial
  · exact trivial
set_option maxRecDepth 100000 in
set_option maxHeartbeats 0 in
theorem s_Re_begin_23b {l : Launch} {zi : Nat → zinfo} {r : zRes} {GO : Nat → List (Option zV) → List zV → zH → Prop} (hS : zSg l true zi (zget (999, 0, 0, 0) zc_Re_begin) (zcut zu_Re_begin) zin (fun _ _ => none) r GO) (k3 : ∀ (x0 x1 : Int) (h : zH) (k : (Int → zH → Option zRes)) (t : (Nat → zH → Option zRes)), Ma_min x0 x1 h k = some r → zKsp l true zi r 3 [x0, x1] h k t) {r23 : Int → Int → Int → zH → Option zRes} (h23 : ∀ (x0 x1 x2 : Int) (h : zH), r23 x0 x1 x2 h = some r → GO 23 [some (105, x0), none, none, none, some (122, x1), some (0, x2)] [] h) (a0 a4 a5 : Int) (h : zH) (hr : Re_begin_23b zin r23 a0 a4 a5 h = some r) : GO 23 [some (105, a0), none, none, none, some (122, a4), some (0, a5)] [] h := by
  have e9 := Eq.trans (Eq.symm (qe_Re_begin_23b zin r23 a0 a4 a5 h)) hr
  generalize (400 : Nat) = f9 at e9
  refine hS _ _ (zcal_s (SP := zKsp l true zi r) _ ?_) (zorc_s _ ?_) _ _ _ _ _ e9
  · exact trivial
  · exact ⟨zap3_s (P := fun xs h => GO 23 (zfl [some (105, none), none, none, none, some (122, none), some (0, none)] xs).1 (zfs [] (zfl [some (105, none), none, none, none, some (122, none), some (0, none)] xs).2) h) h23, ⟨zap0_s (P := fun xs h => GO 56 (zfl [none, none, none, none, none, none] xs).1 (zfs [] (zfl [none, none, none, none, none, none] xs).2) h) (fun  h hr => s_Re_begin_56 hS k3  h hr), trivial⟩⟩
set_option maxRecDepth 100000 in
set_option maxHeartbeats 0 in
theorem s_Re_begin_23 {l : Launch} {zi : Nat → zinfo} {r : zRes} {GO : Nat → List (Option zV) → List zV → zH → Prop} (hS : zSg l true zi (zget (999, 0, 0, 0) zc_Re_begin) (zcut zu_Re_begin) zin (fun _ _ => none) r GO) (k3 : ∀ (x0 x1 : Int) (h : zH) (k : (Int → zH → Option zRes)) (t : (Nat → zH → Option zRes)), Ma_min x0 x1 h k = some r → zKsp l true zi r 3 [x0, x1] h k t) (a0 a4 a5 : Int) (h : zH) (hr : Re_begin_23 zin a0 a4 a5 h = some r) : GO 23 [some (105, a0), none, none, none, some (122, a4), some (0, a5)] [] h := zit3_s (P := fun x0 x1 x2 h => GO 23 [some (105, x0), none, none, none, some (122, x1), some (0, x2)] [] h) (fun rr hh a0 a4 a5 h hr => s_Re_begin_23b hS k3 hh a0 a4 a5 h hr) zN a0 a4 a5 h hr
set_option maxRecDepth 100000 in
set_option maxHeartbeats 0 in
theorem s_Re_begin {l : Launch} {zi : Nat → zinfo} {r : zRes} {GO : Nat → List (Option zV) → List zV → zH → Prop} (hS : zSg l true zi (zget (999, 0, 0, 0) zc_Re_begin) (zcut zu_Re_begin) zin (fun _ _ => none) r GO) (k3 : ∀ (x0 x1 : Int) (h : zH) (k : (Int → zH → Option zRes)) (t : (Nat → zH → Option zRes)), Ma_min x0 x1 h k = some r → zKsp l true zi r 3 [x0, x1] h k t) (a0 a1 a2 a3 a4 : Int) (h : zH) (hr : Re_begin a0 a1 a2 a3 a4 h zin = some r) : GO 0 [some (105, a0), some (107, a1), some (0, a2), some (0, a3), some (122, a4), none] [] h := by
  have e9 := Eq.trans (Eq.symm (qe_Re_begin zin a0 a1 a2 a3 a4 h)) hr
  generalize (400 : Nat) = f9 at e9
  refine hS _ _ (zcal_s (SP := zKsp l true zi r) _ ?_) (zorc_s _ ?_) _ _ _ _ _ e9
  · exact ⟨zca2_s (SP := fun xs h k t => zKsp l true zi r 3 (zfc [none, none] xs) h k t) k3, trivial⟩
  · exact ⟨zap3_s (P := fun xs h => GO 23 (zfl [some (105, none), none, none, none, some (122, none), some (0, none)] xs).1 (zfs [] (zfl [some (105, none), none, none, none, some (122, none), some (0, none)] xs).2) h) (fun x0 x1 x2 h hr => s_Re_begin_23 hS k3 x0 x1 x2 h hr), trivial⟩
set_option maxRecDepth 100000 in
set_option maxHeartbeats 0 in
theorem s_Th_lowestOfWaiting_30_32 {l : Launch} {zi : Nat → zinfo} {r : zRes} {GO : Nat → List (Option zV) → List zV → zH → Prop} (hS : zSg l true zi (zget (999, 0, 0, 0) zc_Th_lowestOfWaiting_30) (zcut zu_Th_lowestOfWaiting_30) zin (fun _ _ => none) r GO) (k256 : ∀ (x0 : Int) (h : zH) (k : (Int → zH → Option zRes)) (t : (Nat → zH → Option zRes)), Th_isWaiting x0 h k = some r → zKsp l true zi r 256 [x0] h k t) (h : zH) (hr : Th_lowestOfWaiting_30_32 zin h = some r) : GO 32 [none, none, none] [] h := by
  have e9 := Eq.trans (Eq.symm (qe_Th_lowestOfWaiting_30_32 zin h)) hr
  generalize (400 : Nat) = f9 at e9
  refine hS _ _ (zcal_s (SP := zKsp l true zi r) _ ?_) (zorc_s _ ?_) _ _ _ _ _ e9
  · exact trivial
  · exact trivial
set_option maxRecDepth 100000 in
set_option maxHeartbeats 0 in
theorem s_Th_lowestOfWaiting_30_2b {l : Launch} {zi : Nat → zinfo} {r : zRes} {GO : Nat → List (Option zV) → List zV → zH → Prop} (hS : zSg l true zi (zget (999, 0, 0, 0) zc_Th_lowestOfWaiting_30) (zcut zu_Th_lowestOfWaiting_30) zin (fun _ _ => none) r GO) (k256 : ∀ (x0 : Int) (h : zH) (k : (Int → zH → Option zRes)) (t : (Nat → zH → Option zRes)), Th_isWaiting x0 h k = some r → zKsp l true zi r 256 [x0] h k t) {r2 : Int → Int → Int → zH → Option zRes} (h2 : ∀ (x0 x1 x2 : Int) (h : zH), r2 x0 x1 x2 h = some r → GO 2 [some (130, x0), some (0, x1), some (0, x2)] [] h) (a0 a1 a2 : Int) (h : zH) (hr : Th_lowestOfWaiting_30_2b zin r2 a0 a1 a2 h = some r) : GO 2 [some (130, a0), some (0, a1), some (0, a2)] [] h := by
  have e9 := Eq.trans (Eq.symm (qe_Th_lowestOfWaiting_30_2b zin r2 a0 a1 a2 h)) hr
  generalize (400 : Nat) = f9 at e9
  refine hS _ _ (zcal_s (SP := zKsp l true zi r) _ ?_) (zorc_s _ ?_) _ _ _ _ _ e9
  · exact ⟨zca1_s (SP := fun xs h k t => zKsp l true zi r 256 (zfc [none] xs) h k t) k256, trivial⟩
  · exact ⟨zap3_s (P := fun xs h => GO 2 (zfl [some (130, none), some (0, none), some (0, none)] xs).1 (zfs [] (zfl [some (130, none), some (0, none), some (0, none)] xs).2) h) h2, ⟨zap0_s (P := fun xs h => GO 32 (zfl [none, none, none] xs).1 (zfs [] (zfl [none, none, none] xs).2) h) (fun  h hr => s_Th_lowestOfWaiting_30_32 hS k256  h hr), trivial⟩⟩
set_option maxRecDepth 100000 in
set_option maxHeartbeats 0 in
theorem s_Th_lowestOfWaiting_30_2 {l : Launch} {zi : Nat → zinfo} {r : zRes} {GO : Nat → List (Option zV) → List zV → zH → Prop} (hS : zSg l true zi (zget (999, 0, 0, 0) zc_Th_lowestOfWaiting_30) (zcut zu_Th_lowestOfWaiting_30) zin (fun _ _ => none) r GO) (k256 : ∀ (x0 : Int) (h : zH) (k : (Int → zH → Option zRes)) (t : (Nat → zH → Option zRes)), Th_isWaiting x0 h k = some r → zKsp l true zi r 256 [x0] h k t) (a0 a1 a2 : Int) (h : zH) (hr : Th_lowestOfWaiting_30_2 zin a0 a1 a2 h = some r) : GO 2 [some (130, a0), some (0, a1), some (0, a2)] [] h := zit3_s (P := fun x0 x1 x2 h => GO 2 [some (130, x0), some (0, x1), some (0, x2)] [] h) (fun rr hh a0 a1 a2 h hr => s_Th_lowestOfWaiting_30_2b hS k256 hh a0 a1 a2 h hr) zN a0 a1 a2 h hr
set_option maxRecDepth 100000 in
set_option maxHeartbeats 0 in
theorem s_Th_lowestOfWaiting_30 {l : Launch} {zi : Nat → zinfo} {r : zRes} {GO : Nat → List (Option zV) → List zV → zH → Prop} (hS : zSg l true zi (zget (999, 0, 0, 0) zc_Th_lowestOfWaiting_30) (zcut zu_Th_lowestOfWaiting_30) zin (fun _ _ => none) r GO) (k256 : ∀ (x0 : Int) (h : zH) (k : (Int → zH → Option zRes)) (t : (Nat → zH → Option zRes)), Th_isWaiting x0 h k = some r → zKsp l true zi r 256 [x0] h k t) (a0 a1 : Int) (h : zH) (hr : Th_lowestOfWaiting_30 a0 a1 h zin = some r) : GO 0 [some (130, a0), some (0, a1), none] [] h := by
  have e9 := Eq.trans (Eq.symm (qe_Th_lowestOfWaiting_30 zin a0 a1 h)) hr
  generalize (400 : Nat) = f9 at e9
  refine hS _ _ (zcal_s (SP := zKsp l true zi r) _ ?_) (zorc_s _ ?_) _ _ _ _ _ e9
  · exact trivial
  · exact ⟨zap3_s (P := fun xs h => GO 2 (zfl [some (130, none), some (0, none), some (0, none)] xs).1 (zfs [] (zfl [some (130, none), some (0, none), some (0, none)] xs).2) h) (fun x0 x1 x2 h hr => s_Th_lowestOfWaiting_30_2 hS k256 x0 x1 x2 h hr), trivial⟩
set_option maxRecDepth 100000 in
set_option maxHeartbeats 0 in
theorem s_Th_release_30_39 {l : Launch} {zi : Nat → zinfo} {r : zRes} {GO : Nat → List (Option zV) → List zV → zH → Prop} (hS : zSg l true zi (zget (999, 0, 0, 0) zc_Th_release_30) (zcut zu_Th_release_30) zin (fun _ _ => none) r GO) (k256 : ∀ (x0 : Int) (h : zH) (k : (Int → zH → Option zRes)) (t : (Nat → zH → Option zRes)), Th_isWaiting x0 h k = some r → zKsp l true zi r 256 [x0] h k t) (k262 : ∀ (x0 x1 x2 : Int) (h : zH) (k : (Int → zH → Option zRes)) (t : (Nat → zH → Option zRes)), Th_goTo x0 x1 x2 h k = some r → zKsp l true zi r 262 [x0, x1, x2] h k t) {r3 : Int → Int → Int → Int → Int → zH → Option zRes} (h3 : ∀ (x0 x1 x2 x3 x4 : Int) (h : zH), r3 x0 x1 x2 x3 x4 h = some r → GO 3 [some (130, x0), some (0, x1), some (0, x2), some (0, x3), some (0, x4)] [] h) (a0 a1 a2 a3 a4 : Int) (h : zH) (hr : Th_release_30_39 zin r3 a0 a1 a2 a3 a4 h = some r) : GO 39 [some (130, a0), some (0, a1), some (0, a2), some (0, a3), some (0, a4)] [] h := by
  have e9 := Eq.trans (Eq.symm (qe_Th_release_30_39 zin r3 a0 a1 a2 a3 a4 h)) hr
  generalize (400 : Nat) = f9 at e9
  refine hS _ _ (zcal_s (SP := zKsp l true zi r) _ ?_) (zorc_s _ ?_) _ _ _ _ _ e9
  · exact trivial
  · exact ⟨zap5_s (P := fun xs h => GO 3 (zfl [some (130, none), some (0, none), some (0, none), some (0, none), some (0, none)] xs).1 (zfs [] (zfl [some (130, none), some (0, none), some (0, none), some (0, none), some (0, none)] xs).2) h) h3, trivial⟩
set_option maxRecDepth 100000 in
set_option maxHeartbeats 0 in
theorem s_Th_release_30_91 {l : Launch} {zi : Nat → zinfo} {r : zRes} {GO : Nat → List (Option zV) → List zV → zH → Prop} (hS : zSg l true zi (zget (999, 0, 0, 0) zc_Th_release_30) (zcut zu_Th_release_30) zin (fun _ _ => none) r GO) (k256 : ∀ (x0 : Int) (h : zH) (k : (Int → zH → Option zRes)) (t : (Nat → zH → Option zRes)), Th_isWaiting x0 h k = some r → zKsp l true zi r 256 [x0] h k t) (k262 : ∀ (x0 x1 x2 : Int) (h : zH) (k : (Int → zH → Option zRes)) (t : (Nat → zH → Option zRes)), Th_goTo x0 x1 x2 h k = some r → zKsp l true zi r 262 [x0, x1, x2] h k t) {r48 : Int → Int → Int → Int → Int → zH → Option zRes} (h48 : ∀ (x0 x1 x2 x3 x4 : Int) (h : zH), r48 x0 x1 x2 x3 x4 h = some r → GO 48 [some (130, x0), some (0, x1), some (0, x2), some (0, x3), some (0, x4)] [] h) (a0 a1 a2 a3 a4 : Int) (h : zH) (hr : Th_release_30_91 zin r48 a0 a1 a2 a3 a4 h = some r) : GO 91 [some (130, a0), some (0, a1), some (0, a2), some (0, a3), some (0, a4)] [] h := by
  have e9 := Eq.trans (Eq.symm (qe_Th_release_30_91 zin r48 a0 a1 a2 a3 a4 h)) hr
  generalize (400 : Nat) = f9 at e9
  refine hS _ _ (zcal_s (SP := zKsp l true zi r) _ ?_) (zorc_s _ ?_) _ _ _ _ _ e9
  · exact trivial
  · exact ⟨zap5_s (P := fun xs h => GO 48 (zfl [some (130, none), some (0, none), some (0, none), some (0, none), some (0, none)] xs).1 (zfs [] (zfl [some (130, none), some (0, none), some (0, none), some (0, none), some (0, none)] xs).2) h) h48, trivial⟩
set_option maxRecDepth 100000 in
set_option maxHeartbeats 0 in
theorem s_Th_release_30_97 {l : Launch} {zi : Nat → zinfo} {r : zRes} {GO : Nat → List (Option zV) → List zV → zH → Prop} (hS : zSg l true zi (zget (999, 0, 0, 0) zc_Th_release_30) (zcut zu_Th_release_30) zin (fun _ _ => none) r GO) (k256 : ∀ (x0 : Int) (h : zH) (k : (Int → zH → Option zRes)) (t : (Nat → zH → Option zRes)), Th_isWaiting x0 h k = some r → zKsp l true zi r 256 [x0] h k t) (k262 : ∀ (x0 x1 x2 : Int) (h : zH) (k : (Int → zH → Option zRes)) (t : (Nat → zH → Option zRes)), Th_goTo x0 x1 x2 h k = some r → zKsp l true zi r 262 [x0, x1, x2] h k t) (h : zH) (hr : Th_release_30_97 zin h = some r) : GO 97 [none, none, none, none, none] [] h := by
  have e9 := Eq.trans (Eq.symm (qe_Th_release_30_97 zin h)) hr
  generalize (400 : Nat) = f9 at e9
  refine hS _ _ (zcal_s (SP := zKsp l true zi r) _ ?_) (zorc_s _ ?_) _ _ _ _ _ e9
  · exact trivial
  · exact trivial
set_option maxRecDepth 100000 in
set_option maxHeartbeats 0 in
theorem s_Th_release_30_48b {l : Launch} {zi : Nat → zinfo} {r : zRes} {GO : Nat → List (Option zV) → List zV → zH → Prop} (hS : zSg l true zi (zget (999, 0, 0, 0) zc_Th_release_30) (zcut zu_Th_release_30) zin (fun _ _ => none) r GO) (k256 : ∀ (x0 : Int) (h : zH) (k : (Int → zH → Option zRes)) (t : (Nat → zH → Option zRes)), Th_isWaiting x0 h k = some r → zKsp l true zi r 256 [x0] h k t) (k262 : ∀ (x0 x1 x2 : Int) (h : zH) (k : (Int → zH → Option zRes)) (t : (Nat → zH → Option zRes)), Th_goTo x0 x1 x2 h k = some r → zKsp l true zi r 262 [x0, x1, x2] h k t) {r48 : Int → Int → Int → Int → Int → zH → Option zRes} (h48 : ∀ (x0 x1 x2 x3 x4 : Int) (h : zH), r48 x0 x1 x2 x3 x4 h = some r → GO 48 [some (130, x0), some (0, x1), some (0, x2), some (0, x3), some (0, x4)] [] h) (a0 a1 a2 a3 a4 : Int) (h : zH) (hr : Th_release_30_48b zin r48 a0 a1 a2 a3 a4 h = some r) : GO 48 [some (130, a0), some (0, a1), some (0, a2), some (0, a3), some (0, a4)] [] h := by
  have e9 := Eq.trans (Eq.symm (qe_Th_release_30_48b zin r48 a0 a1 a2 a3 a4 h)) hr
  generalize (400 : Nat) = f9 at e9
  refine hS _ _ (zcal_s (SP := zKsp l true zi r) _ ?_) (zorc_s _ ?_) _ _ _ _ _ e9
  · exact ⟨zca1_s (SP := fun xs h k t => zKsp l true zi r 256 (zfc [none] xs) h k t) k256, ⟨zca3_s (SP := fun xs h k t => zKsp l true zi r 262 (zfc [none, none, none] xs) h k t) k262, trivial⟩⟩
  · exact ⟨zap5_s (P := fun xs h => GO 91 (zfl [some (130, none), some (0, none), some (0, none), some (0, none), some (0, none)] xs).1 (zfs [] (zfl [some (130, none), some (0, none), some (0, none), some (0, none), some (0, none)] xs).2) h) (fun x0 x1 x2 x3 x4 h hr => s_Th_release_30_91 hS k256 k262 h48 x0 x1 x2 x3 x4 h hr), ⟨zap0_s (P := fun xs h => GO 97 (zfl [none, none, none, none, none] xs).1 (zfs [] (zfl [none, none, none, none, none] xs).2) h) (fun  h hr => s_Th_release_30_97 hS k256 k262  h hr), trivial⟩⟩
set_option maxRecDepth 100000 in
set_option maxHeartbeats 0 in
theorem s_Th_release_30_48 {l : Launch} {zi : Nat → zinfo} {r : zRes} {GO : Nat → List (Option zV) → List zV → zH → Prop} (hS : zSg l true zi (zget (999, 0, 0, 0) zc_Th_release_30) (zcut zu_Th_release_30) zin (fun _ _ => none) r GO) (k256 : ∀ (x0 : Int) (h : zH) (k : (Int → zH → Option zRes)) (t : (Nat → zH → Option zRes)), Th_isWaiting x0 h k = some r → zKsp l true zi r 256 [x0] h k t) (k262 : ∀ (x0 x1 x2 : Int) (h : zH) (k : (Int → zH → Option zRes)) (t : (Nat → zH → Option zRes)), Th_goTo x0 x1 x2 h k = some r → zKsp l true zi r 262 [x0, x1, x2] h k t) (a0 a1 a2 a3 a4 : Int) (h : zH) (hr : Th_release_30_48 zin a0 a1 a2 a3 a4 h = some r) : GO 48 [some (130, a0), some (0, a1), some (0, a2), some (0, a3), some (0, a4)] [] h := zit5_s (P := fun x0 x1 x2 x3 x4 h => GO 48 [some (130, x0), some (0, x1), some (0, x2), some (0, x3), some (0, x4)] [] h) (fun rr hh a0 a1 a2 a3 a4 h hr => s_Th_release_30_48b hS k256 k262 hh a0 a1 a2 a3 a4 h hr) zN a0 a1 a2 a3 a4 h hr
set_option maxRecDepth 100000 in
set_option maxHeartbeats 0 in
theorem s_Th_release_30_45 {l : Launch} {zi : Nat → zinfo} {r : zRes} {GO : Nat → List (Option zV) → List zV → zH → Prop} (hS : zSg l true zi (zget (999, 0, 0, 0) zc_Th_release_30) (zcut zu_Th_release_30) zin (fun _ _ => none) r GO) (k256 : ∀ (x0 : Int) (h : zH) (k : (Int → zH → Option zRes)) (t : (Nat → zH → Option zRes)), Th_isWaiting x0 h k = some r → zKsp l true zi r 256 [x0] h k t) (k262 : ∀ (x0 x1 x2 : Int) (h : zH) (k : (Int → zH → Option zRes)) (t : (Nat → zH → Option zRes)), Th_goTo x0 x1 x2 h k = some r → zKsp l true zi r 262 [x0, x1, x2] h k t) (a0 a1 a2 a3 : Int) (h : zH) (hr : Th_release_30_45 zin a0 a1 a2 a3 h = some r) : GO 45 [some (130, a0), some (0, a1), some (0, a2), some (0, a3), none] [] h := by
  have e9 := Eq.trans (Eq.symm (qe_Th_release_30_45 zin a0 a1 a2 a3 h)) hr
  generalize (400 : Nat) = f9 at e9
  refine hS _ _ (zcal_s (SP := zKsp l true zi r) _ ?_) (zorc_s _ ?_) _ _ _ _ _ e9
  · exact trivial
  · exact ⟨zap5_s (P := fun xs h => GO 48 (zfl [some (130, none), some (0, none), some (0, none), some (0, none), some (0, none)] xs).1 (zfs [] (zfl [some (130, none), some (0, none), some (0, none), some (0, none), some (0, none)] xs).2) h) (fun x0 x1 x2 x3 x4 h hr => s_Th_release_30_48 hS k256 k262 x0 x1 x2 x3 x4 h hr), trivial⟩
set_option maxRecDepth 100000 in
set_option maxHeartbeats 0 in
theorem s_Th_release_30_3b {l : Launch} {zi : Nat → zinfo} {r : zRes} {GO : Nat → List (Option zV) → List zV → zH → Prop} (hS : zSg l true zi (zget (999, 0, 0, 0) zc_Th_release_30) (zcut zu_Th_release_30) zin (fun _ _ => none) r GO) (k256 : ∀ (x0 : Int) (h : zH) (k : (Int → zH → Option zRes)) (t : (Nat → zH → Option zRes)), Th_isWaiting x0 h k = some r → zKsp l true zi r 256 [x0] h k t) (k262 : ∀ (x0 x1 x2 : Int) (h : zH) (k : (Int → zH → Option zRes)) (t : (Nat → zH → Option zRes)), Th_goTo x0 x1 x2 h k = some r → zKsp l true zi r 262 [x0, x1, x2] h k t) {r3 : Int → Int → Int → Int → Int → zH → Option zRes} (h3 : ∀ (x0 x1 x2 x3 x4 : Int) (h : zH), r3 x0 x1 x2 x3 x4 h = some r → GO 3 [some (130, x0), some (0, x1), some (0, x2), some (0, x3), some (0, x4)] [] h) (a0 a1 a2 a3 a4 : Int) (h : zH) (hr : Th_release_30_3b zin r3 a0 a1 a2 a3 a4 h = some r) : GO 3 [some (130, a0), some (0, a1), some (0, a2), some (0, a3), some (0, a4)] [] h := by
  have e9 := Eq.trans (Eq.symm (qe_Th_release_30_3b zin r3 a0 a1 a2 a3 a4 h)) hr
  generalize (400 : Nat) = f9 at e9
  refine hS _ _ (zcal_s (SP := zKsp l true zi r) _ ?_) (zorc_s _ ?_) _ _ _ _ _ e9
  · exact ⟨zca1_s (SP := fun xs h k t => zKsp l true zi r 256 (zfc [none] xs) h k t) k256, trivial⟩
  · exact ⟨zap5_s (P := fun xs h => GO 39 (zfl [some (130, none), some (0, none), some (0, none), some (0, none), some (0, none)] xs).1 (zfs [] (zfl [some (130, none), some (0, none), some (0, none), some (0, none), some (0, none)] xs).2) h) (fun x0 x1 x2 x3 x4 h hr => s_Th_release_30_39 hS k256 k262 h3 x0 x1 x2 x3 x4 h hr), ⟨zap4_s (P := fun xs h => GO 45 (zfl [some (130, none), some (0, none), some (0, none), some (0, none), none] xs).1 (zfs [] (zfl [some (130, none), some (0, none), some (0, none), some (0, none), none] xs).2) h) (fun x0 x1 x2 x3 h hr => s_Th_release_30_45 hS k256 k262 x0 x1 x2 x3 h hr), trivial⟩⟩
set_option maxRecDepth 100000 in
set_option maxHeartbeats 0 in
theorem s_Th_release_30_3 {l : Launch} {zi : Nat → zinfo} {r : zRes} {GO : Nat → List (Option zV) → List zV → zH → Prop} (hS : zSg l true zi (zget (999, 0, 0, 0) zc_Th_release_30) (zcut zu_Th_release_30) zin (fun _ _ => none) r GO) (k256 : ∀ (x0 : Int) (h : zH) (k : (Int → zH → Option zRes)) (t : (Nat → zH → Option zRes)), Th_isWaiting x0 h k = some r → zKsp l true zi r 256 [x0] h k t) (k262 : ∀ (x0 x1 x2 : Int) (h : zH) (k : (Int → zH → Option zRes)) (t : (Nat → zH → Option zRes)), Th_goTo x0 x1 x2 h k = some r → zKsp l true zi r 262 [x0, x1, x2] h k t) (a0 a1 a2 a3 a4 : Int) (h : zH) (hr : Th_release_30_3 zin a0 a1 a2 a3 a4 h = some r) : GO 3 [some (130, a0), some (0, a1), some (0, a2), some (0, a3), some (0, a4)] [] h := zit5_s (P := fun x0 x1 x2 x3 x4 h => GO 3 [some (130, x0), some (0, x1), some (0, x2), some (0, x3), some (0, x4)] [] h) (fun rr hh a0 a1 a2 a3 a4 h hr => s_Th_release_30_3b hS k256 k262 hh a0 a1 a2 a3 a4 h hr) zN a0 a1 a2 a3 a4 h hr
set_option maxRecDepth 100000 in
set_option maxHeartbeats 0 in
theorem s_Th_release_30 {l : Launch} {zi : Nat → zinfo} {r : zRes} {GO : Nat → List (Option zV) → List zV → zH → Prop} (hS : zSg l true zi (zget (999, 0, 0, 0) zc_Th_release_30) (zcut zu_Th_release_30) zin (fun _ _ => none) r GO) (k256 : ∀ (x0 : Int) (h : zH) (k : (Int → zH → Option zRes)) (t : (Nat → zH → Option zRes)), Th_isWaiting x0 h k = some r → zKsp l true zi r 256 [x0] h k t) (k262 : ∀ (x0 x1 x2 : Int) (h : zH) (k : (Int → zH → Option zRes)) (t : (Nat → zH → Option zRes)), Th_goTo x0 x1 x2 h k = some r → zKsp l true zi r 262 [x0, x1, x2] h k t) (a0 a1 a2 a3 : Int) (h : zH) (hr : Th_release_30 a0 a1 a2 a3 h zin = some r) : GO 0 [some (130, a0), some (0, a1), some (0, a2), some (0, a3), none] [] h := by
  have e9 := Eq.trans (Eq.symm (qe_Th_release_30 zin a0 a1 a2 a3 h)) hr
  generalize (400 : Nat) = f9 at e9
  refine hS _ _ (zcal_s (SP := zKsp l true zi r) _ ?_) (zorc_s _ ?_) _ _ _ _ _ e9
  · exact trivial
  · exact ⟨zap5_s (P := fun xs h => GO 3 (zfl [some (130, none), some (0, none), some (0, none), some (0, none), some (0, none)] xs).1 (zfs [] (zfl [some (130, none), some (0, none), some (0, none), some (0, none), some (0, none)] xs).2) h) (fun x0 x1 x2 x3 x4 h hr => s_Th_release_30_3 hS k256 k262 x0 x1 x2 x3 x4 h hr), trivial⟩
set_option maxRecDepth 100000 in
set_option maxHeartbeats 0 in
theorem s_X_exchange_28_36 {l : Launch} {zi : Nat → zinfo} {r : zRes} {GO : Nat → List (Option zV) → List zV → zH → Prop} (hS : zSg l true zi (zget (999, 0, 0, 0) zc_X_exchange_28) (zcut zu_X_exchange_28) zin (fun _ _ => none) r GO) (k258 : ∀ (x0 x1 : Int) (h : zH) (k : (Int → zH → Option zRes)) (t : (Nat → zH → Option zRes)), Th_at x0 x1 h k = some r → zKsp l true zi r 258 [x0, x1] h k t) (k259 : ∀ (x0 x1 x2 : Int) (h : zH) (k : (Int → zH → Option zRes)) (t : (Nat → zH → Option zRes)), Th_set x0 x1 x2 h k = some r → zKsp l true zi r 259 [x0, x1, x2] h k t) (a2 a3 a4 t0 t1 t2 : Int) (h : zH) (hr : X_exchange_28_36 zin a2 a3 a4 t0 t1 t2 h = some r) : GO 36 [none, none, some (106, a2), some (108, a3), some (0, a4), none] [(0, t0), (0, t1), (128, t2)] h := by
  have e9 := Eq.trans (Eq.symm (qe_X_exchange_28_36 zin a2 a3 a4 t0 t1 t2 h)) hr
  generalize (400 : Nat) = f9 at e9
  refine hS _ _ (zcal_s (SP := zKsp l true zi r) _ ?_) (zorc_s _ ?_) _ _ _ _ _ e9
  · exact ⟨zca3_s (SP := fun xs h k t => zKsp l true zi r 259 (zfc [none, none, none] xs) h k t) k259, trivial⟩
  · exact trivial
set_option maxRecDepth 100000 in
set_option maxHeartbeats 0 in
theorem s_X_exchange_28 {l : Launch} {zi : Nat → zinfo} {r : zRes} {GO : Nat → List (Option zV) → List zV → zH → Prop} (hS : zSg l true zi (zget (999, 0, 0, 0) zc_X_exchange_28) (zcut zu_X_exchange_28) zin (fun _ _ => none) r GO) (k258 : ∀ (x0 x1 : Int) (h : zH) (k : (Int → zH → Option zRes)) (t : (Nat → zH → Option zRes)), Th_at x0 x1 h k = some r → zKsp l true zi r 258 [x0, x1] h k t) (k259 : ∀ (x0 x1 x2 : Int) (h : zH) (k : (Int → zH → Option zRes)) (t : (Nat → zH → Option zRes)), Th_set x0 x1 x2 h k = some r → zKsp l true zi r 259 [x0, x1, x2] h k t) (a0 a1 a2 a3 : Int) (h : zH) (hr : X_exchange_28 a0 a1 a2 a3 h zin = some r) : GO 0 [some (128, a0), some (0, a1), some (106, a2), some (108, a3), none, none] [] h := by
  have e9 := Eq.trans (Eq.symm (qe_X_exchange_28 zin a0 a1 a2 a3 h)) hr
  generalize (400 : Nat) = f9 at e9
  refine hS _ _ (zcal_s (SP := zKsp l true zi r) _ ?_) (zorc_s _ ?_) _ _ _ _ _ e9
  · exact ⟨zca2_s (SP := fun xs h k t => zKsp l true zi r 258 (zfc [none, none] xs) h k t) k258, trivial⟩
  · exact ⟨zap6_s (P := fun xs h => GO 36 (zfl [none, none, some (106, none), some (108, none), some (0, none), none] xs).1 (zfs [(0, none), (0, none), (128, none)] (zfl [none, none, some (106, none), some (108, none), some (0, none), none] xs).2) h) (fun x0 x1 x2 x3 x4 x5 h hr => s_X_exchange_28_36 hS k258 k259 x0 x1 x2 x3 x4 x5 h hr), trivial⟩
set_option maxRecDepth 100000 in
set_option maxHeartbeats 0 in
theorem s_Re_carryGlobal_71 {l : Launch} {zi : Nat → zinfo} {r : zRes} {GO : Nat → List (Option zV) → List zV → zH → Prop} (hS : zSg l true zi (zget (999, 0, 0, 0) zc_Re_carryGlobal) (zcut zu_Re_carryGlobal) zin (fun _ _ => none) r GO) (k55 : ∀ (x0 : Int) (h : zH) (k : (Int → zH → Option zRes)) (t : (Nat → zH → Option zRes)), X_isCell x0 h k = some r → zKsp l true zi r 55 [x0] h k t) (k61 : ∀ (x0 x1 x2 x3 : Int) (h : zH) (k : (Int → zH → Option zRes)) (t : (Nat → zH → Option zRes)), X_exchange_28 x0 x1 x2 x3 h k = some r → zKsp l true zi r 61 [x0, x1, x2, x3] h k t) (k258 : ∀ (x0 x1 : Int) (h : zH) (k : (Int → zH → Option zRes)) (t : (Nat → zH → Option zRes)), Th_at x0 x1 h k = some r → zKsp l true zi r 258 [x0, x1] h k t) (k259 : ∀ (x0 x1 x2 : Int) (h : zH) (k : (Int → zH → Option zRes)) (t : (Nat → zH → Option zRes)), Th_set x0 x1 x2 h k = some r → zKsp l true zi r 259 [x0, x1, x2] h k t) (h : zH) (hr : Re_carryGlobal_71 zin h = some r) : GO 71 [none, none, none, none] [] h := by
  have e9 := Eq.trans (Eq.symm (qe_Re_carryGlobal_71 zin h)) hr
  generalize (400 : Nat) = f9 at e9
  refine hS _ _ (zcal_s (SP := zKsp l true zi r) _ ?_) (zorc_s _ ?_) _ _ _ _ _ e9
  · exact trivial
  · exact trivial
set_option maxRecDepth 100000 in
set_option maxHeartbeats 0 in
theorem s_Re_carryGlobal {l : Launch} {zi : Nat → zinfo} {r : zRes} {GO : Nat → List (Option zV) → List zV → zH → Prop} (hS : zSg l true zi (zget (999, 0, 0, 0) zc_Re_carryGlobal) (zcut zu_Re_carryGlobal) zin (fun _ _ => none) r GO) (k55 : ∀ (x0 : Int) (h : zH) (k : (Int → zH → Option zRes)) (t : (Nat → zH → Option zRes)), X_isCell x0 h k = some r → zKsp l true zi r 55 [x0] h k t) (k61 : ∀ (x0 x1 x2 x3 : Int) (h : zH) (k : (Int → zH → Option zRes)) (t : (Nat → zH → Option zRes)), X_exchange_28 x0 x1 x2 x3 h k = some r → zKsp l true zi r 61 [x0, x1, x2, x3] h k t) (k258 : ∀ (x0 x1 : Int) (h : zH) (k : (Int → zH → Option zRes)) (t : (Nat → zH → Option zRes)), Th_at x0 x1 h k = some r → zKsp l true zi r 258 [x0, x1] h k t) (k259 : ∀ (x0 x1 x2 : Int) (h : zH) (k : (Int → zH → Option zRes)) (t : (Nat → zH → Option zRes)), Th_set x0 x1 x2 h k = some r → zKsp l true zi r 259 [x0, x1, x2] h k t) (a0 a1 a2 a3 : Int) (h : zH) (hr : Re_carryGlobal a0 a1 a2 a3 h zin = some r) : GO 0 [some (105, a0), some (106, a1), some (108, a2), some (0, a3)] [] h := by
  have e9 := Eq.trans (Eq.symm (qe_Re_carryGlobal zin a0 a1 a2 a3 h)) hr
  generalize (400 : Nat) = f9 at e9
  refine hS _ _ (zcal_s (SP := zKsp l true zi r) _ ?_) (zorc_s _ ?_) _ _ _ _ _ e9
  · exact ⟨zca1_s (SP := fun xs h k t => zKsp l true zi r 55 (zfc [none] xs) h k t) k55, ⟨zca4_s (SP := fun xs h k t => zKsp l true zi r 61 (zfc [none, none, none, none] xs) h k t) k61, ⟨zca2_s (SP := fun xs h k t => zKsp l true zi r 258 (zfc [none, none] xs) h k t) k258, ⟨zca3_s (SP := fun xs h k t => zKsp l true zi r 259 (zfc [none, none, none] xs) h k t) k259, trivial⟩⟩⟩⟩
  · exact ⟨zap0_s (P := fun xs h => GO 71 (zfl [none, none, none, none] xs).1 (zfs [] (zfl [none, none, none, none] xs).2) h) (fun  h hr => s_Re_carryGlobal_71 hS k55 k61 k258 k259  h hr), trivial⟩
set_option maxRecDepth 100000 in
set_option maxHeartbeats 0 in
theorem s_Re_carryShared_59 {l : Launch} {zi : Nat → zinfo} {r : zRes} {GO : Nat → List (Option zV) → List zV → zH → Prop} (hS : zSg l true zi (zget (999, 0, 0, 0) zc_Re_carryShared) (zcut zu_Re_carryShared) zin (fun _ _ => none) r GO) (k54 : ∀ (x0 x1 x2 : Int) (h : zH) (k : (Int → zH → Option zRes)) (t : (Nat → zH → Option zRes)), X_isWithin x0 x1 x2 h k = some r → zKsp l true zi r 54 [x0, x1, x2] h k t) (k258 : ∀ (x0 x1 : Int) (h : zH) (k : (Int → zH → Option zRes)) (t : (Nat → zH → Option zRes)), Th_at x0 x1 h k = some r → zKsp l true zi r 258 [x0, x1] h k t) (k259 : ∀ (x0 x1 x2 : Int) (h : zH) (k : (Int → zH → Option zRes)) (t : (Nat → zH → Option zRes)), Th_set x0 x1 x2 h k = some r → zKsp l true zi r 259 [x0, x1, x2] h k t) (h : zH) (hr : Re_carryShared_59 zin h = some r) : GO 59 [none, none, none, none] [] h := by
  have e9 := Eq.trans (Eq.symm (qe_Re_carryShared_59 zin h)) hr
  generalize (400 : Nat) = f9 at e9
  refine hS _ _ (zcal_s (SP := zKsp l true zi r) _ ?_) (zorc_s _ ?_) _ _ _ _ _ e9
  · exact trivial
  · exact trivial
set_option maxRecDepth 100000 in
set_option maxHeartbeats 0 in
theorem s_Re_carryShared {l : Launch} {zi : Nat → zinfo} {r : zRes} {GO : Nat → List (Option zV) → List zV → zH → Prop} (hS : zSg l true zi (zget (999, 0, 0, 0) zc_Re_carryShared) (zcut zu_Re_carryShared) zin (fun _ _ => none) r GO) (k54 : ∀ (x0 x1 x2 : Int) (h : zH) (k : (Int → zH → Option zRes)) (t : (Nat → zH → Option zRes)), X_isWithin x0 x1 x2 h k = some r → zKsp l true zi r 54 [x0, x1, x2] h k t) (k258 : ∀ (x0 x1 : Int) (h : zH) (k : (Int → zH → Option zRes)) (t : (Nat → zH → Option zRes)), Th_at x0 x1 h k = some r → zKsp l true zi r 258 [x0, x1] h k t) (k259 : ∀ (x0 x1 x2 : Int) (h : zH) (k : (Int → zH → Option zRes)) (t : (Nat → zH → Option zRes)), Th_set x0 x1 x2 h k = some r → zKsp l true zi r 259 [x0, x1, x2] h k t) (a0 a1 a2 a3 : Int) (h : zH) (hr : Re_carryShared a0 a1 a2 a3 h zin = some r) : GO 0 [some (105, a0), some (106, a1), some (108, a2), some (0, a3)] [] h := by
  have e9 := Eq.trans (Eq.symm (qe_Re_carryShared zin a0 a1 a2 a3 h)) hr
  generalize (400 : Nat) = f9 at e9
  refine hS _ _ (zcal_s (SP := zKsp l true zi r) _ ?_) (zorc_s _ ?_) _ _ _ _ _ e9
  · exact ⟨zca3_s (SP := fun xs h k t => zKsp l true zi r 54 (zfc [none, none, none] xs) h k t) k54, ⟨zca2_s (SP := fun xs h k t => zKsp l true zi r 258 (zfc [none, none] xs) h k t) k258, ⟨zca3_s (SP := fun xs h k t => zKsp l true zi r 259 (zfc [none, none, none] xs) h k t) k259, trivial⟩⟩⟩
  · exact ⟨zap0_s (P := fun xs h => GO 59 (zfl [none, none, none, none] xs).1 (zfs [] (zfl [none, none, none, none] xs).2) h) (fun  h hr => s_Re_carryShared_59 hS k54 k258 k259  h hr), trivial⟩
set_option maxRecDepth 100000 in
set_option maxHeartbeats 0 in
theorem s_Re_carry {l : Launch} {zi : Nat → zinfo} {r : zRes} {GO : Nat → List (Option zV) → List zV → zH → Prop} (hS : zSg l true zi (zget (999, 0, 0, 0) zc_Re_carry) (zcut zu_Re_carry) zin (fun _ _ => none) r GO) (k219 : ∀ (x0 x1 : Int) (h : zH) (k : (Int → zH → Option zRes)) (t : (Nat → zH → Option zRes)), In_isOneOf x0 x1 h k = some r → zKsp l true zi r 219 [x0, x1] h k t) (k221 : ∀ (x0 : Int) (h : zH) (k : (Int → zH → Option zRes)) (t : (Nat → zH → Option zRes)), In_cellRegister x0 h k = some r → zKsp l true zi r 221 [x0] h k t) (k258 : ∀ (x0 x1 : Int) (h : zH) (k : (Int → zH → Option zRes)) (t : (Nat → zH → Option zRes)), Th_at x0 x1 h k = some r → zKsp l true zi r 258 [x0, x1] h k t) (k260 : ∀ (x0 x1 : Int) (h : zH) (k : (Int → zH → Option zRes)) (t : (Nat → zH → Option zRes)), Th_reckon x0 x1 h k = some r → zKsp l true zi r 260 [x0, x1] h k t) (k274 : ∀ (x0 x1 x2 x3 : Int) (h : zH) (k : (Int → zH → Option zRes)) (t : (Nat → zH → Option zRes)), Re_carryGlobal x0 x1 x2 x3 h k = some r → zKsp l true zi r 274 [x0, x1, x2, x3] h k t) (k275 : ∀ (x0 x1 x2 x3 : Int) (h : zH) (k : (Int → zH → Option zRes)) (t : (Nat → zH → Option zRes)), Re_carryShared x0 x1 x2 x3 h k = some r → zKsp l true zi r 275 [x0, x1, x2, x3] h k t) (a0 a1 a2 : Int) (h : zH) (hr : Re_carry a0 a1 a2 h zin = some r) : GO 0 [some (105, a0), some (106, a1), some (108, a2), none] [] h := by
  have e9 := Eq.trans (Eq.symm (qe_Re_carry zin a0 a1 a2 h)) hr
  generalize (400 : Nat) = f9 at e9
  refine hS _ _ (zcal_s (SP := zKsp l true zi r) _ ?_) (zorc_s _ ?_) _ _ _ _ _ e9
  · exact ⟨zca2_s (SP := fun xs h k t => zKsp l true zi r 219 (zfc [none, none] xs) h k t) k219, ⟨zca1_s (SP := fun xs h k t => zKsp l true zi r 221 (zfc [none] xs) h k t) k221, ⟨zca2_s (SP := fun xs h k t => zKsp l true zi r 258 (zfc [none, none] xs) h k t) k258, ⟨zca2_s (SP := fun xs h k t => zKsp l true zi r 260 (zfc [none, none] xs) h k t) k260, ⟨zca4_s (SP := fun xs h k t => zKsp l true zi r 274 (zfc [none, none, none, none] xs) h k t) k274, ⟨zca4_s (SP := fun xs h k t => zKsp l true zi r 275 (zfc [none, none, none, none] xs) h k t) k275, trivial⟩⟩⟩⟩⟩⟩
  · exact trivial
set_option maxRecDepth 100000 in
set_option maxHeartbeats 0 in
theorem s_Re_runThread_56 {l : Launch} {zi : Nat → zinfo} {r : zRes} {GO : Nat → List (Option zV) → List zV → zH → Prop} (hS : zSg l true zi (zget (999, 0, 0, 0) zc_Re_runThread) (zcut zu_Re_runThread) zin (fun _ _ => none) r GO) (k224 : ∀ (x0 x1 : Int) (h : zH) (k : (Int → zH → Option zRes)) (t : (Nat → zH → Option zRes)), Ke_instructionAt x0 x1 h k = some r → zKsp l true zi r 224 [x0, x1] h k t) (k255 : ∀ (x0 : Int) (h : zH) (k : (Int → zH → Option zRes)) (t : (Nat → zH → Option zRes)), Th_isRunning x0 h k = some r → zKsp l true zi r 255 [x0] h k t) (k261 : ∀ (x0 x1 x2 : Int) (h : zH) (k : (Int → zH → Option zRes)) (t : (Nat → zH → Option zRes)), Th_goOn x0 x1 x2 h k = some r → zKsp l true zi r 261 [x0, x1, x2] h k t) (k273 : ∀ (x0 x1 x2 : Int) (h : zH) (k : (Int → zH → Option zRes)) (t : (Nat → zH → Option zRes)), Re_carry x0 x1 x2 h k = some r → zKsp l true zi r 273 [x0, x1, x2] h k t) (h : zH) (hr : Re_runThread_56 zin h = some r) : GO 56 [none, none, none, none] [] h := by
  have e9 := Eq.trans (Eq.symm (qe_Re_runThread_56 zin h)) hr
  generalize (400 : Nat) = f9 at e9
  refine hS _ _ (zcal_s (SP := zKsp l true zi r) _ ?_) (zorc_s _ ?_) _ _ _ _ _ e9
  · exact trivial
  · exact trivial
set_option maxRecDepth 100000 in
set_option maxHeartbeats 0 in
theorem s_Re_runThread_101 {l : Launch} {zi : Nat → zinfo} {r : zRes} {GO : Nat → List (Option zV) → List zV → zH → Prop} (hS : zSg l true zi (zget (999, 0, 0, 0) zc_Re_runThread) (zcut zu_Re_runThread) zin (fun _ _ => none) r GO) (k224 : ∀ (x0 x1 : Int) (h : zH) (k : (Int → zH → Option zRes)) (t : (Nat → zH → Option zRes)), Ke_instructionAt x0 x1 h k = some r → zKsp l true zi r 224 [x0, x1] h k t) (k255 : ∀ (x0 : Int) (h : zH) (k : (Int → zH → Option zRes)) (t : (Nat → zH → Option zRes)), Th_isRunning x0 h k = some r → zKsp l true zi r 255 [x0] h k t) (k261 : ∀ (x0 x1 x2 : Int) (h : zH) (k : (Int → zH → Option zRes)) (t : (Nat → zH → Option zRes)), Th_goOn x0 x1 x2 h k = some r → zKsp l true zi r 261 [x0, x1, x2] h k t) (k273 : ∀ (x0 x1 x2 : Int) (h : zH) (k : (Int → zH → Option zRes)) (t : (Nat → zH → Option zRes)), Re_carry x0 x1 x2 h k = some r → zKsp l true zi r 273 [x0, x1, x2] h k t) (t0 : Int) (h : zH) (hr : Re_runThread_101 zin t0 h = some r) : GO 101 [none, none, none, none] [(0, t0)] h := by
  have e9 := Eq.trans (Eq.symm (qe_Re_runThread_101 zin t0 h)) hr
  generalize (400 : Nat) = f9 at e9
  refine hS _ _ (zcal_s (SP := zKsp l true zi r) _ ?_) (zorc_s _ ?_) _ _ _ _ _ e9
  · exact trivial
  · exact trivial
set_option maxRecDepth 100000 in
set_option maxHeartbeats 0 in
theorem s_Re_runThread_89 {l : Launch} {zi : Nat → zinfo} {r : zRes} {GO : Nat → List (Option zV) → List zV → zH → Prop} (hS : zSg l true zi (zget (999, 0, 0, 0) zc_Re_runThread) (zcut zu_Re_runThread) zin (fun _ _ => none) r GO) (k224 : ∀ (x0 x1 : Int) (h : zH) (k : (Int → zH → Option zRes)) (t : (Nat → zH → Option zRes)), Ke_instructionAt x0 x1 h k = some r → zKsp l true zi r 224 [x0, x1] h k t) (k255 : ∀ (x0 : Int) (h : zH) (k : (Int → zH → Option zRes)) (t : (Nat → zH → Option zRes)), Th_isRunning x0 h k = some r → zKsp l true zi r 255 [x0] h k t) (k261 : ∀ (x0 x1 x2 : Int) (h : zH) (k : (Int → zH → Option zRes)) (t : (Nat → zH → Option zRes)), Th_goOn x0 x1 x2 h k = some r → zKsp l true zi r 261 [x0, x1, x2] h k t) (k273 : ∀ (x0 x1 x2 : Int) (h : zH) (k : (Int → zH → Option zRes)) (t : (Nat → zH → Option zRes)), Re_carry x0 x1 x2 h k = some r → zKsp l true zi r 273 [x0, x1, x2] h k t) (a1 : Int) (h : zH) (hr : Re_runThread_89 zin a1 h = some r) : GO 89 [none, some (106, a1), none, none] [] h := by
  have e9 := Eq.trans (Eq.symm (qe_Re_runThread_89 zin a1 h)) hr
  generalize (400 : Nat) = f9 at e9
  refine hS _ _ (zcal_s (SP := zKsp l true zi r) _ ?_) (zorc_s _ ?_) _ _ _ _ _ e9
  · exact ⟨zca1_s (SP := fun xs h k t => zKsp l true zi r 255 (zfc [none] xs) h k t) k255, trivial⟩
  · exact ⟨zap1_s (P := fun xs h => GO 101 (zfl [none, none, none, none] xs).1 (zfs [(0, none)] (zfl [none, none, none, none] xs).2) h) (fun x0 h hr => s_Re_runThread_101 hS k224 k255 k261 k273 x0 h hr), trivial⟩
set_option maxRecDepth 100000 in
set_option maxHeartbeats 0 in
theorem s_Re_runThread_2b {l : Launch} {zi : Nat → zinfo} {r : zRes} {GO : Nat → List (Option zV) → List zV → zH → Prop} (hS : zSg l true zi (zget (999, 0, 0, 0) zc_Re_runThread) (zcut zu_Re_runThread) zin (fun _ _ => none) r GO) (k224 : ∀ (x0 x1 : Int) (h : zH) (k : (Int → zH → Option zRes)) (t : (Nat → zH → Option zRes)), Ke_instructionAt x0 x1 h k = some r → zKsp l true zi r 224 [x0, x1] h k t) (k255 : ∀ (x0 : Int) (h : zH) (k : (Int → zH → Option zRes)) (t : (Nat → zH → Option zRes)), Th_isRunning x0 h k = some r → zKsp l true zi r 255 [x0] h k t) (k261 : ∀ (x0 x1 x2 : Int) (h : zH) (k : (Int → zH → Option zRes)) (t : (Nat → zH → Option zRes)), Th_goOn x0 x1 x2 h k = some r → zKsp l true zi r 261 [x0, x1, x2] h k t) (k273 : ∀ (x0 x1 x2 : Int) (h : zH) (k : (Int → zH → Option zRes)) (t : (Nat → zH → Option zRes)), Re_carry x0 x1 x2 h k = some r → zKsp l true zi r 273 [x0, x1, x2] h k t) {r2 : Int → Int → Int → zH → Option zRes} (h2 : ∀ (x0 x1 x2 : Int) (h : zH), r2 x0 x1 x2 h = some r → GO 2 [some (105, x0), some (106, x1), some (0, x2), none] [] h) (a0 a1 a2 : Int) (h : zH) (hr : Re_runThread_2b zin r2 a0 a1 a2 h = some r) : GO 2 [some (105, a0), some (106, a1), some (0, a2), none] [] h := by
  have e9 := Eq.trans (Eq.symm (qe_Re_runThread_2b zin r2 a0 a1 a2 h)) hr
  generalize (400 : Nat) = f9 at e9
  refine hS _ _ (zcal_s (SP := zKsp l true zi r) _ ?_) (zorc_s _ ?_) _ _ _ _ _ e9
  · exact ⟨zca2_s (SP := fun xs h k t => zKsp l true zi r 224 (zfc [none, none] xs) h k t) k224, ⟨zca1_s (SP := fun xs h k t => zKsp l true zi r 255 (zfc [none] xs) h k t) k255, ⟨zca3_s (SP := fun xs h k t => zKsp l true zi r 261 (zfc [none, none, none] xs) h k t) k261, ⟨zca3_s (SP := fun xs h k t => zKsp l true zi r 273 (zfc [none, none, none] xs) h k t) k273, trivial⟩⟩⟩⟩
  · exact ⟨zap3_s (P := fun xs h => GO 2 (zfl [some (105, none), some (106, none), some (0, none), none] xs).1 (zfs [] (zfl [some (105, none), some (106, none), some (0, none), none] xs).2) h) h2, ⟨zap0_s (P := fun xs h => GO 56 (zfl [none, none, none, none] xs).1 (zfs [] (zfl [none, none, none, none] xs).2) h) (fun  h hr => s_Re_runThread_56 hS k224 k255 k261 k273  h hr), ⟨zap1_s (P := fun xs h => GO 89 (zfl [none, some (106, none), none, none] xs).1 (zfs [] (zfl [none, some (106, none), none, none] xs).2) h) (fun x0 h hr => s_Re_runThread_89 hS k224 k255 k261 k273 x0 h hr), trivial⟩⟩⟩
set_option maxRecDepth 100000 in
set_option maxHeartbeats 0 in
theorem s_Re_runThread_2 {l : Launch} {zi : Nat → zinfo} {r : zRes} {GO : Nat → List (Option zV) → List zV → zH → Prop} (hS : zSg l true zi (zget (999, 0, 0, 0) zc_Re_runThread) (zcut zu_Re_runThread) zin (fun _ _ => none) r GO) (k224 : ∀ (x0 x1 : Int) (h : zH) (k : (Int → zH → Option zRes)) (t : (Nat → zH → Option zRes)), Ke_instructionAt x0 x1 h k = some r → zKsp l true zi r 224 [x0, x1] h k t) (k255 : ∀ (x0 : Int) (h : zH) (k : (Int → zH → Option zRes)) (t : (Nat → zH → Option zRes)), Th_isRunning x0 h k = some r → zKsp l true zi r 255 [x0] h k t) (k261 : ∀ (x0 x1 x2 : Int) (h : zH) (k : (Int → zH → Option zRes)) (t : (Nat → zH → Option zRes)), Th_goOn x0 x1 x2 h k = some r → zKsp l true zi r 261 [x0, x1, x2] h k t) (k273 : ∀ (x0 x1 x2 : Int) (h : zH) (k : (Int → zH → Option zRes)) (t : (Nat → zH → Option zRes)), Re_carry x0 x1 x2 h k = some r → zKsp l true zi r 273 [x0, x1, x2] h k t) (a0 a1 a2 : Int) (h : zH) (hr : Re_runThread_2 zin a0 a1 a2 h = some r) : GO 2 [some (105, a0), some (106, a1), some (0, a2), none] [] h := zit3_s (P := fun x0 x1 x2 h => GO 2 [some (105, x0), some (106, x1), some (0, x2), none] [] h) (fun rr hh a0 a1 a2 h hr => s_Re_runThread_2b hS k224 k255 k261 k273 hh a0 a1 a2 h hr) zN a0 a1 a2 h hr
set_option maxRecDepth 100000 in
set_option maxHeartbeats 0 in
theorem s_Re_runThread {l : Launch} {zi : Nat → zinfo} {r : zRes} {GO : Nat → List (Option zV) → List zV → zH → Prop} (hS : zSg l true zi (zget (999, 0, 0, 0) zc_Re_runThread) (zcut zu_Re_runThread) zin (fun _ _ => none) r GO) (k224 : ∀ (x0 x1 : Int) (h : zH) (k : (Int → zH → Option zRes)) (t : (Nat → zH → Option zRes)), Ke_instructionAt x0 x1 h k = some r → zKsp l true zi r 224 [x0, x1] h k t) (k255 : ∀ (x0 : Int) (h : zH) (k : (Int → zH → Option zRes)) (t : (Nat → zH → Option zRes)), Th_isRunning x0 h k = some r → zKsp l true zi r 255 [x0] h k t) (k261 : ∀ (x0 x1 x2 : Int) (h : zH) (k : (Int → zH → Option zRes)) (t : (Nat → zH → Option zRes)), Th_goOn x0 x1 x2 h k = some r → zKsp l true zi r 261 [x0, x1, x2] h k t) (k273 : ∀ (x0 x1 x2 : Int) (h : zH) (k : (Int → zH → Option zRes)) (t : (Nat → zH → Option zRes)), Re_carry x0 x1 x2 h k = some r → zKsp l true zi r 273 [x0, x1, x2] h k t) (a0 a1 : Int) (h : zH) (hr : Re_runThread a0 a1 h zin = some r) : GO 0 [some (105, a0), some (106, a1), none, none] [] h := by
  have e9 := Eq.trans (Eq.symm (qe_Re_runThread zin a0 a1 h)) hr
  generalize (400 : Nat) = f9 at e9
  refine hS _ _ (zcal_s (SP := zKsp l true zi r) _ ?_) (zorc_s _ ?_) _ _ _ _ _ e9
  · exact trivial
  · exact ⟨zap3_s (P := fun xs h => GO 2 (zfl [some (105, none), some (106, none), some (0, none), none] xs).1 (zfs [] (zfl [some (105, none), some (106, none), some (0, none), none] xs).2) h) (fun x0 x1 x2 h hr => s_Re_runThread_2 hS k224 k255 k261 k273 x0 x1 x2 h hr), trivial⟩
set_option maxRecDepth 100000 in
set_option maxHeartbeats 0 in
theorem s_Re_runBlock_92 {l : Launch} {zi : Nat → zinfo} {r : zRes} {GO : Nat → List (Option zV) → List zV → zH → Prop} (hS : zSg l true zi (zget (999, 0, 0, 0) zc_Re_runBlock) (zcut zu_Re_runBlock) zin (fun _ _ => none) r GO) (k4 : ∀ (x0 x1 : Int) (h : zH) (k : (Int → zH → Option zRes)) (t : (Nat → zH → Option zRes)), Ar_fill_29 x0 x1 h k = some r → zKsp l true zi r 4 [x0, x1] h k t) (k5 : ∀ (x0 x1 : Int) (h : zH) (k : (Int → zH → Option zRes)) (t : (Nat → zH → Option zRes)), Ar_fill_31 x0 x1 h k = some r → zKsp l true zi r 5 [x0, x1] h k t) (k254 : ∀ (x0 x1 x2 : Int) (h : zH) (k : (Int → zH → Option zRes)) (t : (Nat → zH → Option zRes)), Th_begin x0 x1 x2 h k = some r → zKsp l true zi r 254 [x0, x1, x2] h k t) (k264 : ∀ (x0 x1 : Int) (h : zH) (k : (Int → zH → Option zRes)) (t : (Nat → zH → Option zRes)), Th_lowestOfWaiting_30 x0 x1 h k = some r → zKsp l true zi r 264 [x0, x1] h k t) (k266 : ∀ (x0 x1 x2 x3 : Int) (h : zH) (k : (Int → zH → Option zRes)) (t : (Nat → zH → Option zRes)), Th_release_30 x0 x1 x2 x3 h k = some r → zKsp l true zi r 266 [x0, x1, x2, x3] h k t) (k272 : ∀ (x0 x1 : Int) (h : zH) (k : (Int → zH → Option zRes)) (t : (Nat → zH → Option zRes)), Re_runThread x0 x1 h k = some r → zKsp l true zi r 272 [x0, x1] h k t) {r51 : Int → Int → zH → Option zRes} (h51 : ∀ (x0 x1 : Int) (h : zH), r51 x0 x1 h = some r → GO 51 [some (105, x0), none, some (0, x1), none] [] h) {r60 : Int → Int → Int → zH → Option zRes} (h60 : ∀ (x0 x1 x2 : Int) (h : zH), r60 x0 x1 x2 h = some r → GO 60 [some (105, x0), none, some (0, x1), some (0, x2)] [] h) (a0 a2 a3 t0 t1 t2 : Int) (h : zH) (hr : Re_runBlock_92 zin r51 r60 a0 a2 a3 t0 t1 t2 h = some r) : GO 92 [some (105, a0), none, some (0, a2), some (0, a3)] [(0, t0), (130, t1), (105, t2)] h := by
  have e9 := Eq.trans (Eq.symm (qe_Re_runBlock_92 zin r51 r60 a0 a2 a3 t0 t1 t2 h)) hr
  generalize (400 : Nat) = f9 at e9
  refine hS _ _ (zcal_s (SP := zKsp l true zi r) _ ?_) (zorc_s _ ?_) _ _ _ _ _ e9
  · exact ⟨zca2_s (SP := fun xs h k t => zKsp l true zi r 272 (zfc [none, none] xs) h k t) k272, trivial⟩
  · exact ⟨zap3_s (P := fun xs h => GO 60 (zfl [some (105, none), none, some (0, none), some (0, none)] xs).1 (zfs [] (zfl [some (105, none), none, some (0, none), some (0, none)] xs).2) h) h60, trivial⟩
set_option maxRecDepth 100000 in
set_option maxHeartbeats 0 in
theorem s_Re_runBlock_60b {l : Launch} {zi : Nat → zinfo} {r : zRes} {GO : Nat → List (Option zV) → List zV → zH → Prop} (hS : zSg l true zi (zget (999, 0, 0, 0) zc_Re_runBlock) (zcut zu_Re_runBlock) zin (fun _ _ => none) r GO) (k4 : ∀ (x0 x1 : Int) (h : zH) (k : (Int → zH → Option zRes)) (t : (Nat → zH → Option zRes)), Ar_fill_29 x0 x1 h k = some r → zKsp l true zi r 4 [x0, x1] h k t) (k5 : ∀ (x0 x1 : Int) (h : zH) (k : (Int → zH → Option zRes)) (t : (Nat → zH → Option zRes)), Ar_fill_31 x0 x1 h k = some r → zKsp l true zi r 5 [x0, x1] h k t) (k254 : ∀ (x0 x1 x2 : Int) (h : zH) (k : (Int → zH → Option zRes)) (t : (Nat → zH → Option zRes)), Th_begin x0 x1 x2 h k = some r → zKsp l true zi r 254 [x0, x1, x2] h k t) (k264 : ∀ (x0 x1 : Int) (h : zH) (k : (Int → zH → Option zRes)) (t : (Nat → zH → Option zRes)), Th_lowestOfWaiting_30 x0 x1 h k = some r → zKsp l true zi r 264 [x0, x1] h k t) (k266 : ∀ (x0 x1 x2 x3 : Int) (h : zH) (k : (Int → zH → Option zRes)) (t : (Nat → zH → Option zRes)), Th_release_30 x0 x1 x2 x3 h k = some r → zKsp l true zi r 266 [x0, x1, x2, x3] h k t) (k272 : ∀ (x0 x1 : Int) (h : zH) (k : (Int → zH → Option zRes)) (t : (Nat → zH → Option zRes)), Re_runThread x0 x1 h k = some r → zKsp l true zi r 272 [x0, x1] h k t) {r51 : Int → Int → zH → Option zRes} (h51 : ∀ (x0 x1 : Int) (h : zH), r51 x0 x1 h = some r → GO 51 [some (105, x0), none, some (0, x1), none] [] h) {r60 : Int → Int → Int → zH → Option zRes} (h60 : ∀ (x0 x1 x2 : Int) (h : zH), r60 x0 x1 x2 h = some r → GO 60 [some (105, x0), none, some (0, x1), some (0, x2)] [] h) (a0 a2 a3 : Int) (h : zH) (hr : Re_runBlock_60b zin r51 r60 a0 a2 a3 h = some r) : GO 60 [some (105, a0), none, some (0, a2), some (0, a3)] [] h := by
  have e9 := Eq.trans (Eq.symm (qe_Re_runBlock_60b zin r51 r60 a0 a2 a3 h)) hr
  generalize (400 : Nat) = f9 at e9
  refine hS _ _ (zcal_s (SP := zKsp l true zi r) _ ?_) (zorc_s _ ?_) _ _ _ _ _ e9
  · exact ⟨zca2_s (SP := fun xs h k t => zKsp l true zi r 264 (zfc [none, none] xs) h k t) k264, ⟨zca4_s (SP := fun xs h k t => zKsp l true zi r 266 (zfc [none, none, none, none] xs) h k t) k266, trivial⟩⟩
  · exact ⟨zap2_s (P := fun xs h => GO 51 (zfl [some (105, none), none, some (0, none), none] xs).1 (zfs [] (zfl [some (105, none), none, some (0, none), none] xs).2) h) h51, ⟨zap6_s (P := fun xs h => GO 92 (zfl [some (105, none), none, some (0, none), some (0, none)] xs).1 (zfs [(0, none), (130, none), (105, none)] (zfl [some (105, none), none, some (0, none), some (0, none)] xs).2) h) (fun x0 x1 x2 x3 x4 x5 h hr => s_Re_runBlock_92 hS k4 k5 k254 k264 k266 k272 h51 h60 x0 x1 x2 x3 x4 x5 h hr), trivial⟩⟩
set_option maxRecDepth 100000 in
set_option maxHeartbeats 0 in
theorem s_Re_runBlock_60 {l : Launch} {zi : Nat → zinfo} {r : zRes} {GO : Nat → List (Option zV) → List zV → zH → Prop} (hS : zSg l true zi (zget (999, 0, 0, 0) zc_Re_runBlock) (zcut zu_Re_runBlock) zin (fun _ _ => none) r GO) (k4 : ∀ (x0 x1 : Int) (h : zH) (k : (Int → zH → Option zRes)) (t : (Nat → zH → Option zRes)), Ar_fill_29 x0 x1 h k = some r → zKsp l true zi r 4 [x0, x1] h k t) (k5 : ∀ (x0 x1 : Int) (h : zH) (k : (Int → zH → Option zRes)) (t : (Nat → zH → Option zRes)), Ar_fill_31 x0 x1 h k = some r → zKsp l true zi r 5 [x0, x1] h k t) (k254 : ∀ (x0 x1 x2 : Int) (h : zH) (k : (Int → zH → Option zRes)) (t : (Nat → zH → Option zRes)), Th_begin x0 x1 x2 h k = some r → zKsp l true zi r 254 [x0, x1, x2] h k t) (k264 : ∀ (x0 x1 : Int) (h : zH) (k : (Int → zH → Option zRes)) (t : (Nat → zH → Option zRes)), Th_lowestOfWaiting_30 x0 x1 h k = some r → zKsp l true zi r 264 [x0, x1] h k t) (k266 : ∀ (x0 x1 x2 x3 : Int) (h : zH) (k : (Int → zH → Option zRes)) (t : (Nat → zH → Option zRes)), Th_release_30 x0 x1 x2 x3 h k = some r → zKsp l true zi r 266 [x0, x1, x2, x3] h k t) (k272 : ∀ (x0 x1 : Int) (h : zH) (k : (Int → zH → Option zRes)) (t : (Nat → zH → Option zRes)), Re_runThread x0 x1 h k = some r → zKsp l true zi r 272 [x0, x1] h k t) {r51 : Int → Int → zH → Option zRes} (h51 : ∀ (x0 x1 : Int) (h : zH), r51 x0 x1 h = some r → GO 51 [some (105, x0), none, some (0, x1), none] [] h) (a0 a2 a3 : Int) (h : zH) (hr : Re_runBlock_60 zin r51 a0 a2 a3 h = some r) : GO 60 [some (105, a0), none, some (0, a2), some (0, a3)] [] h := zit3_s (P := fun x0 x1 x2 h => GO 60 [some (105, x0), none, some (0, x1), some (0, x2)] [] h) (fun rr hh a0 a2 a3 h hr => s_Re_runBlock_60b hS k4 k5 k254 k264 k266 k272 h51 hh a0 a2 a3 h hr) zN a0 a2 a3 h hr
set_option maxRecDepth 100000 in
set_option maxHeartbeats 0 in
theorem s_Re_runBlock_51b {l : Launch} {zi : Nat → zinfo} {r : zRes} {GO : Nat → List (Option zV) → List zV → zH → Prop} (hS : zSg l true zi (zget (999, 0, 0, 0) zc_Re_runBlock) (zcut zu_Re_runBlock) zin (fun _ _ => none) r GO) (k4 : ∀ (x0 x1 : Int) (h : zH) (k : (Int → zH → Option zRes)) (t : (Nat → zH → Option zRes)), Ar_fill_29 x0 x1 h k = some r → zKsp l true zi r 4 [x0, x1] h k t) (k5 : ∀ (x0 x1 : Int) (h : zH) (k : (Int → zH → Option zRes)) (t : (Nat → zH → Option zRes)), Ar_fill_31 x0 x1 h k = some r → zKsp l true zi r 5 [x0, x1] h k t) (k254 : ∀ (x0 x1 x2 : Int) (h : zH) (k : (Int → zH → Option zRes)) (t : (Nat → zH → Option zRes)), Th_begin x0 x1 x2 h k = some r → zKsp l true zi r 254 [x0, x1, x2] h k t) (k264 : ∀ (x0 x1 : Int) (h : zH) (k : (Int → zH → Option zRes)) (t : (Nat → zH → Option zRes)), Th_lowestOfWaiting_30 x0 x1 h k = some r → zKsp l true zi r 264 [x0, x1] h k t) (k266 : ∀ (x0 x1 x2 x3 : Int) (h : zH) (k : (Int → zH → Option zRes)) (t : (Nat → zH → Option zRes)), Th_release_30 x0 x1 x2 x3 h k = some r → zKsp l true zi r 266 [x0, x1, x2, x3] h k t) (k272 : ∀ (x0 x1 : Int) (h : zH) (k : (Int → zH → Option zRes)) (t : (Nat → zH → Option zRes)), Re_runThread x0 x1 h k = some r → zKsp l true zi r 272 [x0, x1] h k t) {r51 : Int → Int → zH → Option zRes} (h51 : ∀ (x0 x1 : Int) (h : zH), r51 x0 x1 h = some r → GO 51 [some (105, x0), none, some (0, x1), none] [] h) (a0 a2 : Int) (h : zH) (hr : Re_runBlock_51b zin r51 a0 a2 h = some r) : GO 51 [some (105, a0), none, some (0, a2), none] [] h := by
  have e9 := Eq.trans (Eq.symm (qe_Re_runBlock_51b zin r51 a0 a2 h)) hr
  generalize (400 : Nat) = f9 at e9
  refine hS _ _ (zcal_s (SP := zKsp l true zi r) _ ?_) (zorc_s _ ?_) _ _ _ _ _ e9
  · exact trivial
  · exact ⟨zap3_s (P := fun xs h => GO 60 (zfl [some (105, none), none, some (0, none), some (0, none)] xs).1 (zfs [] (zfl [some (105, none), none, some (0, none), some (0, none)] xs).2) h) (fun x0 x1 x2 h hr => s_Re_runBlock_60 hS k4 k5 k254 k264 k266 k272 h51 x0 x1 x2 h hr), trivial⟩
set_option maxRecDepth 100000 in
set_option maxHeartbeats 0 in
theorem s_Re_runBlock_51 {l : Launch} {zi : Nat → zinfo} {r : zRes} {GO : Nat → List (Option zV) → List zV → zH → Prop} (hS : zSg l true zi (zget (999, 0, 0, 0) zc_Re_runBlock) (zcut zu_Re_runBlock) zin (fun _ _ => none) r GO) (k4 : ∀ (x0 x1 : Int) (h : zH) (k : (Int → zH → Option zRes)) (t : (Nat → zH → Option zRes)), Ar_fill_29 x0 x1 h k = some r → zKsp l true zi r 4 [x0, x1] h k t) (k5 : ∀ (x0 x1 : Int) (h : zH) (k : (Int → zH → Option zRes)) (t : (Nat → zH → Option zRes)), Ar_fill_31 x0 x1 h k = some r → zKsp l true zi r 5 [x0, x1] h k t) (k254 : ∀ (x0 x1 x2 : Int) (h : zH) (k : (Int → zH → Option zRes)) (t : (Nat → zH → Option zRes)), Th_begin x0 x1 x2 h k = some r → zKsp l true zi r 254 [x0, x1, x2] h k t) (k264 : ∀ (x0 x1 : Int) (h : zH) (k : (Int → zH → Option zRes)) (t : (Nat → zH → Option zRes)), Th_lowestOfWaiting_30 x0 x1 h k = some r → zKsp l true zi r 264 [x0, x1] h k t) (k266 : ∀ (x0 x1 x2 x3 : Int) (h : zH) (k : (Int → zH → Option zRes)) (t : (Nat → zH → Option zRes)), Th_release_30 x0 x1 x2 x3 h k = some r → zKsp l true zi r 266 [x0, x1, x2, x3] h k t) (k272 : ∀ (x0 x1 : Int) (h : zH) (k : (Int → zH → Option zRes)) (t : (Nat → zH → Option zRes)), Re_runThread x0 x1 h k = some r → zKsp l true zi r 272 [x0, x1] h k t) (a0 a2 : Int) (h : zH) (hr : Re_runBlock_51 zin a0 a2 h = some r) : GO 51 [some (105, a0), none, some (0, a2), none] [] h := zit2_s (P := fun x0 x1 h => GO 51 [some (105, x0), none, some (0, x1), none] [] h) (fun rr hh a0 a2 h hr => s_Re_runBlock_51b hS k4 k5 k254 k264 k266 k272 hh a0 a2 h hr) zN a0 a2 h hr
set_option maxRecDepth 100000 in
set_option maxHeartbeats 0 in
theorem s_Re_runBlock_18b {l : Launch} {zi : Nat → zinfo} {r : zRes} {GO : Nat → List (Option zV) → List zV → zH → Prop} (hS : zSg l true zi (zget (999, 0, 0, 0) zc_Re_runBlock) (zcut zu_Re_runBlock) zin (fun _ _ => none) r GO) (k4 : ∀ (x0 x1 : Int) (h : zH) (k : (Int → zH → Option zRes)) (t : (Nat → zH → Option zRes)), Ar_fill_29 x0 x1 h k = some r → zKsp l true zi r 4 [x0, x1] h k t) (k5 : ∀ (x0 x1 : Int) (h : zH) (k : (Int → zH → Option zRes)) (t : (Nat → zH → Option zRes)), Ar_fill_31 x0 x1 h k = some r → zKsp l true zi r 5 [x0, x1] h k t) (k254 : ∀ (x0 x1 x2 : Int) (h : zH) (k : (Int → zH → Option zRes)) (t : (Nat → zH → Option zRes)), Th_begin x0 x1 x2 h k = some r → zKsp l true zi r 254 [x0, x1, x2] h k t) (k264 : ∀ (x0 x1 : Int) (h : zH) (k : (Int → zH → Option zRes)) (t : (Nat → zH → Option zRes)), Th_lowestOfWaiting_30 x0 x1 h k = some r → zKsp l true zi r 264 [x0, x1] h k t) (k266 : ∀ (x0 x1 x2 x3 : Int) (h : zH) (k : (Int → zH → Option zRes)) (t : (Nat → zH → Option zRes)), Th_release_30 x0 x1 x2 x3 h k = some r → zKsp l true zi r 266 [x0, x1, x2, x3] h k t) (k272 : ∀ (x0 x1 : Int) (h : zH) (k : (Int → zH → Option zRes)) (t : (Nat → zH → Option zRes)), Re_runThread x0 x1 h k = some r → zKsp l true zi r 272 [x0, x1] h k t) {r18 : Int → Int → Int → zH → Option zRes} (h18 : ∀ (x0 x1 x2 : Int) (h : zH), r18 x0 x1 x2 h = some r → GO 18 [some (105, x0), some (0, x1), some (0, x2), none] [] h) (a0 a1 a2 : Int) (h : zH) (hr : Re_runBlock_18b zin r18 a0 a1 a2 h = some r) : GO 18 [some (105, a0), some (0, a1), some (0, a2), none] [] h := by
  have e9 := Eq.trans (Eq.symm (qe_Re_runBlock_18b zin r18 a0 a1 a2 h)) hr
  generalize (400 : Nat) = f9 at e9
  refine hS _ _ (zcal_s (SP := zKsp l true zi r) _ ?_) (zorc_s _ ?_) _ _ _ _ _ e9
  · exact ⟨zca3_s (SP := fun xs h k t => zKsp l true zi r 254 (zfc [none, none, none] xs) h k t) k254, trivial⟩
  · exact ⟨zap3_s (P := fun xs h => GO 18 (zfl [some (105, none), some (0, none), some (0, none), none] xs).1 (zfs [] (zfl [some (105, none), some (0, none), some (0, none), none] xs).2) h) h18, ⟨zap2_s (P := fun xs h => GO 51 (zfl [some (105, none), none, some (0, none), none] xs).1 (zfs [] (zfl [some (105, none), none, some (0, none), none] xs).2) h) (fun x0 x1 h hr => s_Re_runBlock_51 hS k4 k5 k254 k264 k266 k272 x0 x1 h hr), trivial⟩⟩
set_option maxRecDepth 100000 in
set_option maxHeartbeats 0 in
theorem s_Re_runBlock_18 {l : Launch} {zi : Nat → zinfo} {r : zRes} {GO : Nat → List (Option zV) → List zV → zH → Prop} (hS : zSg l true zi (zget (999, 0, 0, 0) zc_Re_runBlock) (zcut zu_Re_runBlock) zin (fun _ _ => none) r GO) (k4 : ∀ (x0 x1 : Int) (h : zH) (k : (Int → zH → Option zRes)) (t : (Nat → zH → Option zRes)), Ar_fill_29 x0 x1 h k = some r → zKsp l true zi r 4 [x0, x1] h k t) (k5 : ∀ (x0 x1 : Int) (h : zH) (k : (Int → zH → Option zRes)) (t : (Nat → zH → Option zRes)), Ar_fill_31 x0 x1 h k = some r → zKsp l true zi r 5 [x0, x1] h k t) (k254 : ∀ (x0 x1 x2 : Int) (h : zH) (k : (Int → zH → Option zRes)) (t : (Nat → zH → Option zRes)), Th_begin x0 x1 x2 h k = some r → zKsp l true zi r 254 [x0, x1, x2] h k t) (k264 : ∀ (x0 x1 : Int) (h : zH) (k : (Int → zH → Option zRes)) (t : (Nat → zH → Option zRes)), Th_lowestOfWaiting_30 x0 x1 h k = some r → zKsp l true zi r 264 [x0, x1] h k t) (k266 : ∀ (x0 x1 x2 x3 : Int) (h : zH) (k : (Int → zH → Option zRes)) (t : (Nat → zH → Option zRes)), Th_release_30 x0 x1 x2 x3 h k = some r → zKsp l true zi r 266 [x0, x1, x2, x3] h k t) (k272 : ∀ (x0 x1 : Int) (h : zH) (k : (Int → zH → Option zRes)) (t : (Nat → zH → Option zRes)), Re_runThread x0 x1 h k = some r → zKsp l true zi r 272 [x0, x1] h k t) (a0 a1 a2 : Int) (h : zH) (hr : Re_runBlock_18 zin a0 a1 a2 h = some r) : GO 18 [some (105, a0), some (0, a1), some (0, a2), none] [] h := zit3_s (P := fun x0 x1 x2 h => GO 18 [some (105, x0), some (0, x1), some (0, x2), none] [] h) (fun rr hh a0 a1 a2 h hr => s_Re_runBlock_18b hS k4 k5 k254 k264 k266 k272 hh a0 a1 a2 h hr) zN a0 a1 a2 h hr
set_option maxRecDepth 100000 in
set_option maxHeartbeats 0 in
theorem s_Re_runBlock {l : Launch} {zi : Nat → zinfo} {r : zRes} {GO : Nat → List (Option zV) → List zV → zH → Prop} (hS : zSg l true zi (zget (999, 0, 0, 0) zc_Re_runBlock) (zcut zu_Re_runBlock) zin (fun _ _ => none) r GO) (k4 : ∀ (x0 x1 : Int) (h : zH) (k : (Int → zH → Option zRes)) (t : (Nat → zH → Option zRes)), Ar_fill_29 x0 x1 h k = some r → zKsp l true zi r 4 [x0, x1] h k t) (k5 : ∀ (x0 x1 : Int) (h : zH) (k : (Int → zH → Option zRes)) (t : (Nat → zH → Option zRes)), Ar_fill_31 x0 x1 h k = some r → zKsp l true zi r 5 [x0, x1] h k t) (k254 : ∀ (x0 x1 x2 : Int) (h : zH) (k : (Int → zH → Option zRes)) (t : (Nat → zH → Option zRes)), Th_begin x0 x1 x2 h k = some r → zKsp l true zi r 254 [x0, x1, x2] h k t) (k264 : ∀ (x0 x1 : Int) (h : zH) (k : (Int → zH → Option zRes)) (t : (Nat → zH → Option zRes)), Th_lowestOfWaiting_30 x0 x1 h k = some r → zKsp l true zi r 264 [x0, x1] h k t) (k266 : ∀ (x0 x1 x2 x3 : Int) (h : zH) (k : (Int → zH → Option zRes)) (t : (Nat → zH → Option zRes)), Th_release_30 x0 x1 x2 x3 h k = some r → zKsp l true zi r 266 [x0, x1, x2, x3] h k t) (k272 : ∀ (x0 x1 : Int) (h : zH) (k : (Int → zH → Option zRes)) (t : (Nat → zH → Option zRes)), Re_runThread x0 x1 h k = some r → zKsp l true zi r 272 [x0, x1] h k t) (a0 a1 : Int) (h : zH) (hr : Re_runBlock a0 a1 h zin = some r) : GO 0 [some (105, a0), some (0, a1), none, none] [] h := by
  have e9 := Eq.trans (Eq.symm (qe_Re_runBlock zin a0 a1 h)) hr
  generalize (400 : Nat) = f9 at e9
  refine hS _ _ (zcal_s (SP := zKsp l true zi r) _ ?_) (zorc_s _ ?_) _ _ _ _ _ e9
  · exact ⟨zca2_s (SP := fun xs h k t => zKsp l true zi r 4 (zfc [none, none] xs) h k t) k4, ⟨zca2_s (SP := fun xs h k t => zKsp l true zi r 5 (zfc [none, none] xs) h k t) k5, trivial⟩⟩
  · exact ⟨zap3_s (P := fun xs h => GO 18 (zfl [some (105, none), some (0, none), some (0, none), none] xs).1 (zfs [] (zfl [some (105, none), some (0, none), some (0, none), none] xs).2) h) (fun x0 x1 x2 h hr => s_Re_runBlock_18 hS k4 k5 k254 k264 k266 k272 x0 x1 x2 h hr), trivial⟩
set_option maxRecDepth 100000 in
set_option maxHeartbeats 0 in
theorem s_Re_runBlocks_24 {l : Launch} {zi : Nat → zinfo} {r : zRes} {GO : Nat → List (Option zV) → List zV → zH → Prop} (hS : zSg l true zi (zget (999, 0, 0, 0) zc_Re_runBlocks) (zcut zu_Re_runBlocks) zin (fun _ _ => none) r GO) (k271 : ∀ (x0 x1 : Int) (h : zH) (k : (Int → zH → Option zRes)) (t : (Nat → zH → Option zRes)), Re_runBlock x0 x1 h k = some r → zKsp l true zi r 271 [x0, x1] h k t) {r2 : Int → Int → Int → zH → Option zRes} (h2 : ∀ (x0 x1 x2 : Int) (h : zH), r2 x0 x1 x2 h = some r → GO 2 [some (105, x0), some (0, x1), some (0, x2)] [] h) (a0 a1 a2 t0 t1 : Int) (h : zH) (hr : Re_runBlocks_24 zin r2 a0 a1 a2 t0 t1 h = some r) : GO 24 [some (105, a0), some (0, a1), some (0, a2)] [(0, t0), (105, t1)] h := by
  have e9 := Eq.trans (Eq.symm (qe_Re_runBlocks_24 zin r2 a0 a1 a2 t0 t1 h)) hr
  generalize (400 : Nat) = f9 at e9
  refine hS _ _ (zcal_s (SP := zKsp l true zi r) _ ?_) (zorc_s _ ?_) _ _ _ _ _ e9
  · exact ⟨zca2_s (SP := fun xs h k t => zKsp l true zi r 271 (zfc [none, none] xs) h k t) k271, trivial⟩
  · exact ⟨zap3_s (P := fun xs h => GO 2 (zfl [some (105, none), some (0, none), some (0, none)] xs).1 (zfs [] (zfl [some (105, none), some (0, none), some (0, none)] xs).2) h) h2, trivial⟩
set_option maxRecDepth 100000 in
set_option maxHeartbeats 0 in
theorem s_Re_runBlocks_2b {l : Launch} {zi : Nat → zinfo} {r : zRes} {GO : Nat → List (Option zV) → List zV → zH → Prop} (hS : zSg l true zi (zget (999, 0, 0, 0) zc_Re_runBlocks) (zcut zu_Re_runBlocks) zin (fun _ _ => none) r GO) (k271 : ∀ (x0 x1 : Int) (h : zH) (k : (Int → zH → Option zRes)) (t : (Nat → zH → Option zRes)), Re_runBlock x0 x1 h k = some r → zKsp l true zi r 271 [x0, x1] h k t) {r2 : Int → Int → Int → zH → Option zRes} (h2 : ∀ (x0 x1 x2 : Int) (h : zH), r2 x0 x1 x2 h = some r → GO 2 [some (105, x0), some (0, x1), some (0, x2)] [] h) (a0 a1 a2 : Int) (h : zH) (hr : Re_runBlocks_2b zin r2 a0 a1 a2 h = some r) : GO 2 [some (105, a0), some (0, a1), some (0, a2)] [] h := by
  have e9 := Eq.trans (Eq.symm (qe_Re_runBlocks_2b zin r2 a0 a1 a2 h)) hr
  generalize (400 : Nat) = f9 at e9
  refine hS _ _ (zcal_s (SP := zKsp l true zi r) _ ?_) (zorc_s _ ?_) _ _ _ _ _ e9
  · exact trivial
  · exact ⟨zap5_s (P := fun xs h => GO 24 (zfl [some (105, none), some (0, none), some (0, none)] xs).1 (zfs [(0, none), (105, none)] (zfl [some (105, none), some (0, none), some (0, none)] xs).2) h) (fun x0 x1 x2 x3 x4 h hr => s_Re_runBlocks_24 hS k271 h2 x0 x1 x2 x3 x4 h hr), trivial⟩
set_option maxRecDepth 100000 in
set_option maxHeartbeats 0 in
theorem s_Re_runBlocks_2 {l : Launch} {zi : Nat → zinfo} {r : zRes} {GO : Nat → List (Option zV) → List zV → zH → Prop} (hS : zSg l true zi (zget (999, 0, 0, 0) zc_Re_runBlocks) (zcut zu_Re_runBlocks) zin (fun _ _ => none) r GO) (k271 : ∀ (x0 x1 : Int) (h : zH) (k : (Int → zH → Option zRes)) (t : (Nat → zH → Option zRes)), Re_runBlock x0 x1 h k = some r → zKsp l true zi r 271 [x0, x1] h k t) (a0 a1 a2 : Int) (h : zH) (hr : Re_runBlocks_2 zin a0 a1 a2 h = some r) : GO 2 [some (105, a0), some (0, a1), some (0, a2)] [] h := zit3_s (P := fun x0 x1 x2 h => GO 2 [some (105, x0), some (0, x1), some (0, x2)] [] h) (fun rr hh a0 a1 a2 h hr => s_Re_runBlocks_2b hS k271 hh a0 a1 a2 h hr) zN a0 a1 a2 h hr
set_option maxRecDepth 100000 in
set_option maxHeartbeats 0 in
theorem s_Re_runBlocks {l : Launch} {zi : Nat → zinfo} {r : zRes} {GO : Nat → List (Option zV) → List zV → zH → Prop} (hS : zSg l true zi (zget (999, 0, 0, 0) zc_Re_runBlocks) (zcut zu_Re_runBlocks) zin (fun _ _ => none) r GO) (k271 : ∀ (x0 x1 : Int) (h : zH) (k : (Int → zH → Option zRes)) (t : (Nat → zH → Option zRes)), Re_runBlock x0 x1 h k = some r → zKsp l true zi r 271 [x0, x1] h k t) (a0 a1 : Int) (h : zH) (hr : Re_runBlocks a0 a1 h zin = some r) : GO 0 [some (105, a0), some (0, a1), none] [] h := by
  have e9 := Eq.trans (Eq.symm (qe_Re_runBlocks zin a0 a1 h)) hr
  generalize (400 : Nat) = f9 at e9
  refine hS _ _ (zcal_s (SP := zKsp l true zi r) _ ?_) (zorc_s _ ?_) _ _ _ _ _ e9
  · exact trivial
  · exact ⟨zap3_s (P := fun xs h => GO 2 (zfl [some (105, none), some (0, none), some (0, none)] xs).1 (zfs [] (zfl [some (105, none), some (0, none), some (0, none)] xs).2) h) (fun x0 x1 x2 h hr => s_Re_runBlocks_2 hS k271 x0 x1 x2 h hr), trivial⟩
set_option maxRecDepth 100000 in
set_option maxHeartbeats 0 in
theorem s_X_serial_43 {l : Launch} {zi : Nat → zinfo} {r : zRes} {GO : Nat → List (Option zV) → List zV → zH → Prop} (hS : zSg l true zi (zget (999, 0, 0, 0) zc_X_serial) (zcut zu_X_serial) zin zth r GO) (k47 : ∀ (x0 x1 : Int) (h : zH) (k : (Int → zH → Option zRes)) (t : (Nat → zH → Option zRes)), X_kernelAt x0 x1 h t k = some r → zKsp l true zi r 47 [x0, x1] h k t) (k54 : ∀ (x0 x1 x2 : Int) (h : zH) (k : (Int → zH → Option zRes)) (t : (Nat → zH → Option zRes)), X_isWithin x0 x1 x2 h k = some r → zKsp l true zi r 54 [x0, x1, x2] h k t) (k55 : ∀ (x0 : Int) (h : zH) (k : (Int → zH → Option zRes)) (t : (Nat → zH → Option zRes)), X_isCell x0 h k = some r → zKsp l true zi r 55 [x0] h k t) (k226 : ∀ (x0 x1 : Int) (h : zH) (k : (Int → zH → Option zRes)) (t : (Nat → zH → Option zRes)), Ke_hasLetterOf x0 x1 h k = some r → zKsp l true zi r 226 [x0, x1] h k t) (k269 : ∀ (x0 x1 x2 x3 x4 : Int) (h : zH) (k : (Int → zH → Option zRes)) (t : (Nat → zH → Option zRes)), Re_begin x0 x1 x2 x3 x4 h k = some r → zKsp l true zi r 269 [x0, x1, x2, x3, x4] h k t) (k270 : ∀ (x0 x1 : Int) (h : zH) (k : (Int → zH → Option zRes)) (t : (Nat → zH → Option zRes)), Re_runBlocks x0 x1 h k = some r → zKsp l true zi r 270 [x0, x1] h k t) (h : zH) (hr : X_serial_43 zin zth h = some r) : GO 43 [none, none, none, none, none, none, none] [] h := by
  have e9 := Eq.trans (Eq.symm (qe_X_serial_43 zin zth h)) hr
  generalize (400 : Nat) = f9 at e9
  refine hS _ _ (zcal_s (SP := zKsp l true zi r) _ ?_) (zorc_s _ ?_) _ _ _ _ _ e9
  · exact trivial
  · exact trivial
set_option maxRecDepth 100000 in
set_option maxHeartbeats 0 in
theorem s_X_serial {l : Launch} {zi : Nat → zinfo} {r : zRes} {GO : Nat → List (Option zV) → List zV → zH → Prop} (hS : zSg l true zi (zget (999, 0, 0, 0) zc_X_serial) (zcut zu_X_serial) zin zth r GO) (k47 : ∀ (x0 x1 : Int) (h : zH) (k : (Int → zH → Option zRes)) (t : (Nat → zH → Option zRes)), X_kernelAt x0 x1 h t k = some r → zKsp l true zi r 47 [x0, x1] h k t) (k54 : ∀ (x0 x1 x2 : Int) (h : zH) (k : (Int → zH → Option zRes)) (t : (Nat → zH → Option zRes)), X_isWithin x0 x1 x2 h k = some r → zKsp l true zi r 54 [x0, x1, x2] h k t) (k55 : ∀ (x0 : Int) (h : zH) (k : (Int → zH → Option zRes)) (t : (Nat → zH → Option zRes)), X_isCell x0 h k = some r → zKsp l true zi r 55 [x0] h k t) (k226 : ∀ (x0 x1 : Int) (h : zH) (k : (Int → zH → Option zRes)) (t : (Nat → zH → Option zRes)), Ke_hasLetterOf x0 x1 h k = some r → zKsp l true zi r 226 [x0, x1] h k t) (k269 : ∀ (x0 x1 x2 x3 x4 : Int) (h : zH) (k : (Int → zH → Option zRes)) (t : (Nat → zH → Option zRes)), Re_begin x0 x1 x2 x3 x4 h k = some r → zKsp l true zi r 269 [x0, x1, x2, x3, x4] h k t) (k270 : ∀ (x0 x1 : Int) (h : zH) (k : (Int → zH → Option zRes)) (t : (Nat → zH → Option zRes)), Re_runBlocks x0 x1 h k = some r → zKsp l true zi r 270 [x0, x1] h k t) (a0 a1 a2 a3 a4 a5 : Int) (h : zH) (hr : X_serial a0 a1 a2 a3 a4 a5 h zth zin = some r) : GO 0 [some (100, a0), some (0, a1), some (0, a2), some (0, a3), some (0, a4), some (0, a5), none] [] h := by
  have e9 := Eq.trans (Eq.symm (qe_X_serial zin zth a0 a1 a2 a3 a4 a5 h)) hr
  generalize (400 : Nat) = f9 at e9
  refine hS _ _ (zcal_s (SP := zKsp l true zi r) _ ?_) (zorc_s _ ?_) _ _ _ _ _ e9
  · exact ⟨zcx2_s (SP := fun xs h k t => zKsp l true zi r 47 (zfc [none, none] xs) h k t) k47, ⟨zca3_s (SP := fun xs h k t => zKsp l true zi r 54 (zfc [none, none, none] xs) h k t) k54, ⟨zca1_s (SP := fun xs h k t => zKsp l true zi r 55 (zfc [none] xs) h k t) k55, ⟨zca2_s (SP := fun xs h k t => zKsp l true zi r 226 (zfc [none, none] xs) h k t) k226, ⟨zca5_s (SP := fun xs h k t => zKsp l true zi r 269 (zfc [none, none, none, none, none] xs) h k t) k269, ⟨zca2_s (SP := fun xs h k t => zKsp l true zi r 270 (zfc [none, none] xs) h k t) k270, trivial⟩⟩⟩⟩⟩⟩
  · exact ⟨zap0_s (P := fun xs h => GO 43 (zfl [none, none, none, none, none, none, none] xs).1 (zfs [] (zfl [none, none, none, none, none, none, none] xs).2) h) (fun  h hr => s_X_serial_43 hS k47 k54 k55 k226 k269 k270  h hr), trivial⟩
set_option maxRecDepth 100000 in
set_option maxHeartbeats 0 in
theorem s_X_lanes {l : Launch} {zi : Nat → zinfo} {r : zRes} {GO : Nat → List (Option zV) → List zV → zH → Prop} (hS : zSg l true zi (zget (999, 0, 0, 0) zc_X_lanes) (zcut zu_X_lanes) zin (fun _ _ => none) r GO) (a0 : Int) (h : zH) (hr : X_lanes a0 h zin = some r) : GO 0 [some (100, a0)] [] h := by
  have e9 := Eq.trans (Eq.symm (qe_X_lanes zin a0 h)) hr
  generalize (400 : Nat) = f9 at e9
  refine hS _ _ (zcal_s (SP := zKsp l true zi r) _ ?_) (zorc_s _ ?_) _ _ _ _ _ e9
  · exact trivial
  · exact trivial
set_option maxRecDepth 100000 in
set_option maxHeartbeats 0 in
theorem s_X_misses {l : Launch} {zi : Nat → zinfo} {r : zRes} {GO : Nat → List (Option zV) → List zV → zH → Prop} (hS : zSg l true zi (zget (999, 0, 0, 0) zc_X_misses) (zcut zu_X_misses) zin (fun _ _ => none) r GO) (a0 : Int) (h : zH) (hr : X_misses a0 h zin = some r) : GO 0 [some (100, a0)] [] h := by
  have e9 := Eq.trans (Eq.symm (qe_X_misses zin a0 h)) hr
  generalize (400 : Nat) = f9 at e9
  refine hS _ _ (zcal_s (SP := zKsp l true zi r) _ ?_) (zorc_s _ ?_) _ _ _ _ _ e9
  · exact trivial
  · exact trivial
set_option maxRecDepth 100000 in
set_option maxHeartbeats 0 in
theorem s_X_lost {l : Launch} {zi : Nat → zinfo} {r : zRes} {GO : Nat → List (Option zV) → List zV → zH → Prop} (hS : zSg l true zi (zget (999, 0, 0, 0) zc_X_lost) (zcut zu_X_lost) zin (fun _ _ => none) r GO) (a0 : Int) (h : zH) (hr : X_lost a0 h zin = some r) : GO 0 [some (100, a0)] [] h := by
  have e9 := Eq.trans (Eq.symm (qe_X_lost zin a0 h)) hr
  generalize (400 : Nat) = f9 at e9
  refine hS _ _ (zcal_s (SP := zKsp l true zi r) _ ?_) (zorc_s _ ?_) _ _ _ _ _ e9
  · exact trivial
  · exact trivial
set_option maxRecDepth 100000 in
set_option maxHeartbeats 0 in
theorem s_X_barriers {l : Launch} {zi : Nat → zinfo} {r : zRes} {GO : Nat → List (Option zV) → List zV → zH → Prop} (hS : zSg l true zi (zget (999, 0, 0, 0) zc_X_barriers) (zcut zu_X_barriers) zin (fun _ _ => none) r GO) (a0 : Int) (h : zH) (hr : X_barriers a0 h zin = some r) : GO 0 [some (100, a0)] [] h := by
  have e9 := Eq.trans (Eq.symm (qe_X_barriers zin a0 h)) hr
  generalize (400 : Nat) = f9 at e9
  refine hS _ _ (zcal_s (SP := zKsp l true zi r) _ ?_) (zorc_s _ ?_) _ _ _ _ _ e9
  · exact trivial
  · exact trivial
set_option maxRecDepth 100000 in
set_option maxHeartbeats 0 in
theorem s_X_refused {l : Launch} {zi : Nat → zinfo} {r : zRes} {GO : Nat → List (Option zV) → List zV → zH → Prop} (hS : zSg l true zi (zget (999, 0, 0, 0) zc_X_refused) (zcut zu_X_refused) zin (fun _ _ => none) r GO) (a0 : Int) (h : zH) (hr : X_refused a0 h zin = some r) : GO 0 [some (100, a0)] [] h := by
  have e9 := Eq.trans (Eq.symm (qe_X_refused zin a0 h)) hr
  generalize (400 : Nat) = f9 at e9
  refine hS _ _ (zcal_s (SP := zKsp l true zi r) _ ?_) (zorc_s _ ?_) _ _ _ _ _ e9
  · exact trivial
  · exact trivial
set_option maxRecDepth 100000 in
set_option maxHeartbeats 0 in
theorem s_X_usedShare {l : Launch} {zi : Nat → zinfo} {r : zRes} {GO : Nat → List (Option zV) → List zV → zH → Prop} (hS : zSg l true zi (zget (999, 0, 0, 0) zc_X_usedShare) (zcut zu_X_usedShare) zin zth r GO) (a0 : Int) (h : zH) (hr : X_usedShare a0 h zth zin = some r) : GO 0 [some (100, a0), none, none] [] h := by
  have e9 := Eq.trans (Eq.symm (qe_X_usedShare zin zth a0 h)) hr
  generalize (400 : Nat) = f9 at e9
  refine hS _ _ (zcal_s (SP := zKsp l true zi r) _ ?_) (zorc_s _ ?_) _ _ _ _ _ e9
  · exact trivial
  · exact trivial
set_option maxRecDepth 100000 in
set_option maxHeartbeats 0 in
theorem s_X_meanDelay {l : Launch} {zi : Nat → zinfo} {r : zRes} {GO : Nat → List (Option zV) → List zV → zH → Prop} (hS : zSg l true zi (zget (999, 0, 0, 0) zc_X_meanDelay) (zcut zu_X_meanDelay) zin zth r GO) (a0 : Int) (h : zH) (hr : X_meanDelay a0 h zth zin = some r) : GO 0 [some (100, a0), none, none] [] h := by
  have e9 := Eq.trans (Eq.symm (qe_X_meanDelay zin zth a0 h)) hr
  generalize (400 : Nat) = f9 at e9
  refine hS _ _ (zcal_s (SP := zKsp l true zi r) _ ?_) (zorc_s _ ?_) _ _ _ _ _ e9
  · exact trivial
  · exact trivial
set_option maxRecDepth 100000 in
set_option maxHeartbeats 0 in
theorem s_Gr_isBufferWithinRoom_13 {l : Launch} {zi : Nat → zinfo} {r : zRes} {GO : Nat → List (Option zV) → List zV → zH → Prop} (hS : zSg l true zi (zget (999, 0, 0, 0) zc_Gr_isBufferWithinRoom) (zcut zu_Gr_isBufferWithinRoom) zin (fun _ _ => none) r GO) (t0 : Int) (h : zH) (hr : Gr_isBufferWithinRoom_13 zin t0 h = some r) : GO 13 [none] [(0, t0)] h := by
  have e9 := Eq.trans (Eq.symm (qe_Gr_isBufferWithinRoom_13 zin t0 h)) hr
  generalize (400 : Nat) = f9 at e9
  refine hS _ _ (zcal_s (SP := zKsp l true zi r) _ ?_) (zorc_s _ ?_) _ _ _ _ _ e9
  · exact trivial
  · exact trivial
set_option maxRecDepth 100000 in
set_option maxHeartbeats 0 in
theorem s_Gr_isBufferWithinRoom {l : Launch} {zi : Nat → zinfo} {r : zRes} {GO : Nat → List (Option zV) → List zV → zH → Prop} (hS : zSg l true zi (zget (999, 0, 0, 0) zc_Gr_isBufferWithinRoom) (zcut zu_Gr_isBufferWithinRoom) zin (fun _ _ => none) r GO) (a0 : Int) (h : zH) (hr : Gr_isBufferWithinRoom a0 h zin = some r) : GO 0 [some (111, a0)] [] h := by
  have e9 := Eq.trans (Eq.symm (qe_Gr_isBufferWithinRoom zin a0 h)) hr
  generalize (400 : Nat) = f9 at e9
  refine hS _ _ (zcal_s (SP := zKsp l true zi r) _ ?_) (zorc_s _ ?_) _ _ _ _ _ e9
  · exact trivial
  · exact ⟨zap1_s (P := fun xs h => GO 13 (zfl [none] xs).1 (zfs [(0, none)] (zfl [none] xs).2) h) (fun x0 h hr => s_Gr_isBufferWithinRoom_13 hS x0 h hr), trivial⟩
set_option maxRecDepth 100000 in
set_option maxHeartbeats 0 in
theorem s_Un_isInOrder_40 {l : Launch} {zi : Nat → zinfo} {r : zRes} {GO : Nat → List (Option zV) → List zV → zH → Prop} (hS : zSg l true zi (zget (999, 0, 0, 0) zc_Un_isInOrder) (zcut zu_Un_isInOrder) zin (fun _ _ => none) r GO) (k213 : ∀ (x0 : Int) (h : zH) (k : (Int → zH → Option zRes)) (t : (Nat → zH → Option zRes)), Gr_isBufferWithinRoom x0 h k = some r → zKsp l true zi r 213 [x0] h k t) (k231 : ∀ (x0 : Int) (h : zH) (k : (Int → zH → Option zRes)) (t : (Nat → zH → Option zRes)), La_isOver x0 h k = some r → zKsp l true zi r 231 [x0] h k t) (k279 : ∀ (x0 : Int) (h : zH) (k : (Int → zH → Option zRes)) (t : (Nat → zH → Option zRes)), Un_usedRegisters x0 h k = some r → zKsp l true zi r 279 [x0] h k t) (k280 : ∀ (x0 : Int) (h : zH) (k : (Int → zH → Option zRes)) (t : (Nat → zH → Option zRes)), Un_usedShared x0 h k = some r → zKsp l true zi r 280 [x0] h k t) (h : zH) (hr : Un_isInOrder_40 zin h = some r) : GO 40 [none, none] [] h := by
  have e9 := Eq.trans (Eq.symm (qe_Un_isInOrder_40 zin h)) hr
  generalize (400 : Nat) = f9 at e9
  refine hS _ _ (zcal_s (SP := zKsp l true zi r) _ ?_) (zorc_s _ ?_) _ _ _ _ _ e9
  · exact trivial
  · exact trivial
set_option maxRecDepth 100000 in
set_option maxHeartbeats 0 in
theorem s_Un_isInOrder_79 {l : Launch} {zi : Nat → zinfo} {r : zRes} {GO : Nat → List (Option zV) → List zV → zH → Prop} (hS : zSg l true zi (zget (999, 0, 0, 0) zc_Un_isInOrder) (zcut zu_Un_isInOrder) zin (fun _ _ => none) r GO) (k213 : ∀ (x0 : Int) (h : zH) (k : (Int → zH → Option zRes)) (t : (Nat → zH → Option zRes)), Gr_isBufferWithinRoom x0 h k = some r → zKsp l true zi r 213 [x0] h k t) (k231 : ∀ (x0 : Int) (h : zH) (k : (Int → zH → Option zRes)) (t : (Nat → zH → Option zRes)), La_isOver x0 h k = some r → zKsp l true zi r 231 [x0] h k t) (k279 : ∀ (x0 : Int) (h : zH) (k : (Int → zH → Option zRes)) (t : (Nat → zH → Option zRes)), Un_usedRegisters x0 h k = some r → zKsp l true zi r 279 [x0] h k t) (k280 : ∀ (x0 : Int) (h : zH) (k : (Int → zH → Option zRes)) (t : (Nat → zH → Option zRes)), Un_usedShared x0 h k = some r → zKsp l true zi r 280 [x0] h k t) (t0 : Int) (h : zH) (hr : Un_isInOrder_79 zin t0 h = some r) : GO 79 [none, none] [(0, t0)] h := by
  have e9 := Eq.trans (Eq.symm (qe_Un_isInOrder_79 zin t0 h)) hr
  generalize (400 : Nat) = f9 at e9
  refine hS _ _ (zcal_s (SP := zKsp l true zi r) _ ?_) (zorc_s _ ?_) _ _ _ _ _ e9
  · exact trivial
  · exact trivial
set_option maxRecDepth 100000 in
set_option maxHeartbeats 0 in
theorem s_Un_isInOrder_78 {l : Launch} {zi : Nat → zinfo} {r : zRes} {GO : Nat → List (Option zV) → List zV → zH → Prop} (hS : zSg l true zi (zget (999, 0, 0, 0) zc_Un_isInOrder) (zcut zu_Un_isInOrder) zin (fun _ _ => none) r GO) (k213 : ∀ (x0 : Int) (h : zH) (k : (Int → zH → Option zRes)) (t : (Nat → zH → Option zRes)), Gr_isBufferWithinRoom x0 h k = some r → zKsp l true zi r 213 [x0] h k t) (k231 : ∀ (x0 : Int) (h : zH) (k : (Int → zH → Option zRes)) (t : (Nat → zH → Option zRes)), La_isOver x0 h k = some r → zKsp l true zi r 231 [x0] h k t) (k279 : ∀ (x0 : Int) (h : zH) (k : (Int → zH → Option zRes)) (t : (Nat → zH → Option zRes)), Un_usedRegisters x0 h k = some r → zKsp l true zi r 279 [x0] h k t) (k280 : ∀ (x0 : Int) (h : zH) (k : (Int → zH → Option zRes)) (t : (Nat → zH → Option zRes)), Un_usedShared x0 h k = some r → zKsp l true zi r 280 [x0] h k t) (h : zH) (hr : Un_isInOrder_78 zin h = some r) : GO 78 [none, none] [] h := by
  have e9 := Eq.trans (Eq.symm (qe_Un_isInOrder_78 zin h)) hr
  generalize (400 : Nat) = f9 at e9
  refine hS _ _ (zcal_s (SP := zKsp l true zi r) _ ?_) (zorc_s _ ?_) _ _ _ _ _ e9
  · exact trivial
  · exact ⟨zap1_s (P := fun xs h => GO 79 (zfl [none, none] xs).1 (zfs [(0, none)] (zfl [none, none] xs).2) h) (fun x0 h hr => s_Un_isInOrder_79 hS k213 k231 k279 k280 x0 h hr), trivial⟩
set_option maxRecDepth 100000 in
set_option maxHeartbeats 0 in
theorem s_Un_isInOrder_2b {l : Launch} {zi : Nat → zinfo} {r : zRes} {GO : Nat → List (Option zV) → List zV → zH → Prop} (hS : zSg l true zi (zget (999, 0, 0, 0) zc_Un_isInOrder) (zcut zu_Un_isInOrder) zin (fun _ _ => none) r GO) (k213 : ∀ (x0 : Int) (h : zH) (k : (Int → zH → Option zRes)) (t : (Nat → zH → Option zRes)), Gr_isBufferWithinRoom x0 h k = some r → zKsp l true zi r 213 [x0] h k t) (k231 : ∀ (x0 : Int) (h : zH) (k : (Int → zH → Option zRes)) (t : (Nat → zH → Option zRes)), La_isOver x0 h k = some r → zKsp l true zi r 231 [x0] h k t) (k279 : ∀ (x0 : Int) (h : zH) (k : (Int → zH → Option zRes)) (t : (Nat → zH → Option zRes)), Un_usedRegisters x0 h k = some r → zKsp l true zi r 279 [x0] h k t) (k280 : ∀ (x0 : Int) (h : zH) (k : (Int → zH → Option zRes)) (t : (Nat → zH → Option zRes)), Un_usedShared x0 h k = some r → zKsp l true zi r 280 [x0] h k t) {r2 : Int → Int → zH → Option zRes} (h2 : ∀ (x0 x1 : Int) (h : zH), r2 x0 x1 h = some r → GO 2 [some (103, x0), some (0, x1)] [] h) (a0 a1 : Int) (h : zH) (hr : Un_isInOrder_2b zin r2 a0 a1 h = some r) : GO 2 [some (103, a0), some (0, a1)] [] h := by
  have e9 := Eq.trans (Eq.symm (qe_Un_isInOrder_2b zin r2 a0 a1 h)) hr
  generalize (400 : Nat) = f9 at e9
  refine hS _ _ (zcal_s (SP := zKsp l true zi r) _ ?_) (zorc_s _ ?_) _ _ _ _ _ e9
  · exact ⟨zca1_s (SP := fun xs h k t => zKsp l true zi r 213 (zfc [none] xs) h k t) k213, ⟨zca1_s (SP := fun xs h k t => zKsp l true zi r 231 (zfc [none] xs) h k t) k231, ⟨zca1_s (SP := fun xs h k t => zKsp l true zi r 279 (zfc [none] xs) h k t) k279, ⟨zca1_s (SP := fun xs h k t => zKsp l true zi r 280 (zfc [none] xs) h k t) k280, trivial⟩⟩⟩⟩
  · exact ⟨zap2_s (P := fun xs h => GO 2 (zfl [some (103, none), some (0, none)] xs).1 (zfs [] (zfl [some (103, none), some (0, none)] xs).2) h) h2, ⟨zap0_s (P := fun xs h => GO 40 (zfl [none, none] xs).1 (zfs [] (zfl [none, none] xs).2) h) (fun  h hr => s_Un_isInOrder_40 hS k213 k231 k279 k280  h hr), ⟨zap0_s (P := fun xs h => GO 78 (zfl [none, none] xs).1 (zfs [] (zfl [none, none] xs).2) h) (fun  h hr => s_Un_isInOrder_78 hS k213 k231 k279 k280  h hr), ⟨zap1_s (P := fun xs h => GO 79 (zfl [none, none] xs).1 (zfs [(0, none)] (zfl [none, none] xs).2) h) (fun x0 h hr => s_Un_isInOrder_79 hS k213 k231 k279 k280 x0 h hr), trivial⟩⟩⟩⟩
set_option maxRecDepth 100000 in
set_option maxHeartbeats 0 in
theorem s_Un_isInOrder_2 {l : Launch} {zi : Nat → zinfo} {r : zRes} {GO : Nat → List (Option zV) → List zV → zH → Prop} (hS : zSg l true zi (zget (999, 0, 0, 0) zc_Un_isInOrder) (zcut zu_Un_isInOrder) zin (fun _ _ => none) r GO) (k213 : ∀ (x0 : Int) (h : zH) (k : (Int → zH → Option zRes)) (t : (Nat → zH → Option zRes)), Gr_isBufferWithinRoom x0 h k = some r → zKsp l true zi r 213 [x0] h k t) (k231 : ∀ (x0 : Int) (h : zH) (k : (Int → zH → Option zRes)) (t : (Nat → zH → Option zRes)), La_isOver x0 h k = some r → zKsp l true zi r 231 [x0] h k t) (k279 : ∀ (x0 : Int) (h : zH) (k : (Int → zH → Option zRes)) (t : (Nat → zH → Option zRes)), Un_usedRegisters x0 h k = some r → zKsp l true zi r 279 [x0] h k t) (k280 : ∀ (x0 : Int) (h : zH) (k : (Int → zH → Option zRes)) (t : (Nat → zH → Option zRes)), Un_usedShared x0 h k = some r → zKsp l true zi r 280 [x0] h k t) (a0 a1 : Int) (h : zH) (hr : Un_isInOrder_2 zin a0 a1 h = some r) : GO 2 [some (103, a0), some (0, a1)] [] h := zit2_s (P := fun x0 x1 h => GO 2 [some (103, x0), some (0, x1)] [] h) (fun rr hh a0 a1 h hr => s_Un_isInOrder_2b hS k213 k231 k279 k280 hh a0 a1 h hr) zN a0 a1 h hr
set_option maxRecDepth 100000 in
set_option maxHeartbeats 0 in
theorem s_Un_isInOrder {l : Launch} {zi : Nat → zinfo} {r : zRes} {GO : Nat → List (Option zV) → List zV → zH → Prop} (hS : zSg l true zi (zget (999, 0, 0, 0) zc_Un_isInOrder) (zcut zu_Un_isInOrder) zin (fun _ _ => none) r GO) (k213 : ∀ (x0 : Int) (h : zH) (k : (Int → zH → Option zRes)) (t : (Nat → zH → Option zRes)), Gr_isBufferWithinRoom x0 h k = some r → zKsp l true zi r 213 [x0] h k t) (k231 : ∀ (x0 : Int) (h : zH) (k : (Int → zH → Option zRes)) (t : (Nat → zH → Option zRes)), La_isOver x0 h k = some r → zKsp l true zi r 231 [x0] h k t) (k279 : ∀ (x0 : Int) (h : zH) (k : (Int → zH → Option zRes)) (t : (Nat → zH → Option zRes)), Un_usedRegisters x0 h k = some r → zKsp l true zi r 279 [x0] h k t) (k280 : ∀ (x0 : Int) (h : zH) (k : (Int → zH → Option zRes)) (t : (Nat → zH → Option zRes)), Un_usedShared x0 h k = some r → zKsp l true zi r 280 [x0] h k t) (a0 : Int) (h : zH) (hr : Un_isInOrder a0 h zin = some r) : GO 0 [some (103, a0), none] [] h := by
  have e9 := Eq.trans (Eq.symm (qe_Un_isInOrder zin a0 h)) hr
  generalize (400 : Nat) = f9 at e9
  refine hS _ _ (zcal_s (SP := zKsp l true zi r) _ ?_) (zorc_s _ ?_) _ _ _ _ _ e9
  · exact trivial
  · exact ⟨zap2_s (P := fun xs h => GO 2 (zfl [some (103, none), some (0, none)] xs).1 (zfs [] (zfl [some (103, none), some (0, none)] xs).2) h) (fun x0 x1 h hr => s_Un_isInOrder_2 hS k213 k231 k279 k280 x0 x1 h hr), trivial⟩
set_option maxRecDepth 100000 in
set_option maxHeartbeats 0 in
theorem s_X_isSound_2b {l : Launch} {zi : Nat → zinfo} {r : zRes} {GO : Nat → List (Option zV) → List zV → zH → Prop} (hS : zSg l true zi (zget (999, 0, 0, 0) zc_X_isSound) (zcut zu_X_isSound) zin (fun _ _ => none) r GO) (k288 : ∀ (x0 : Int) (h : zH) (k : (Int → zH → Option zRes)) (t : (Nat → zH → Option zRes)), Un_isInOrder x0 h k = some r → zKsp l true zi r 288 [x0] h k t) {r2 : Int → Int → zH → Option zRes} (h2 : ∀ (x0 x1 : Int) (h : zH), r2 x0 x1 h = some r → GO 2 [some (100, x0), some (0, x1)] [] h) (a0 a1 : Int) (h : zH) (hr : X_isSound_2b zin r2 a0 a1 h = some r) : GO 2 [some (100, a0), some (0, a1)] [] h := by
  have e9 := Eq.trans (Eq.symm (qe_X_isSound_2b zin r2 a0 a1 h)) hr
  generalize (400 : Nat) = f9 at e9
  refine hS _ _ (zcal_s (SP := zKsp l true zi r) _ ?_) (zorc_s _ ?_) _ _ _ _ _ e9
  · exact ⟨zca1_s (SP := fun xs h k t => zKsp l true zi r 288 (zfc [none] xs) h k t) k288, trivial⟩
  · exact ⟨zap2_s (P := fun xs h => GO 2 (zfl [some (100, none), some (0, none)] xs).1 (zfs [] (zfl [some (100, none), some (0, none)] xs).2) h) h2, trivial⟩
set_option maxRecDepth 100000 in
set_option maxHeartbeats 0 in
theorem s_X_isSound_2 {l : Launch} {zi : Nat → zinfo} {r : zRes} {GO : Nat → List (Option zV) → List zV → zH → Prop} (hS : zSg l true zi (zget (999, 0, 0, 0) zc_X_isSound) (zcut zu_X_isSound) zin (fun _ _ => none) r GO) (k288 : ∀ (x0 : Int) (h : zH) (k : (Int → zH → Option zRes)) (t : (Nat → zH → Option zRes)), Un_isInOrder x0 h k = some r → zKsp l true zi r 288 [x0] h k t) (a0 a1 : Int) (h : zH) (hr : X_isSound_2 zin a0 a1 h = some r) : GO 2 [some (100, a0), some (0, a1)] [] h := zit2_s (P := fun x0 x1 h => GO 2 [some (100, x0), some (0, x1)] [] h) (fun rr hh a0 a1 h hr => s_X_isSound_2b hS k288 hh a0 a1 h hr) zN a0 a1 h hr
set_option maxRecDepth 100000 in
set_option maxHeartbeats 0 in
theorem s_X_isSound {l : Launch} {zi : Nat → zinfo} {r : zRes} {GO : Nat → List (Option zV) → List zV → zH → Prop} (hS : zSg l true zi (zget (999, 0, 0, 0) zc_X_isSound) (zcut zu_X_isSound) zin (fun _ _ => none) r GO) (k288 : ∀ (x0 : Int) (h : zH) (k : (Int → zH → Option zRes)) (t : (Nat → zH → Option zRes)), Un_isInOrder x0 h k = some r → zKsp l true zi r 288 [x0] h k t) (a0 : Int) (h : zH) (hr : X_isSound a0 h zin = some r) : GO 0 [some (100, a0), none] [] h := by
  have e9 := Eq.trans (Eq.symm (qe_X_isSound zin a0 h)) hr
  generalize (400 : Nat) = f9 at e9
  refine hS _ _ (zcal_s (SP := zKsp l true zi r) _ ?_) (zorc_s _ ?_) _ _ _ _ _ e9
  · exact trivial
  · exact ⟨zap2_s (P := fun xs h => GO 2 (zfl [some (100, none), some (0, none)] xs).1 (zfs [] (zfl [some (100, none), some (0, none)] xs).2) h) (fun x0 x1 h hr => s_X_isSound_2 hS k288 x0 x1 h hr), trivial⟩
set_option maxRecDepth 100000 in
set_option maxHeartbeats 0 in
theorem s_M_init_446 {l : Launch} {zi : Nat → zinfo} {r : zRes} {GO : Nat → List (Option zV) → List zV → zH → Prop} (hS : zSg l true zi (zget (999, 0, 0, 0) zc_M_init) (zcut zu_M_init) zin (fun _ _ => none) r GO) (a0 : Int) (h : zH) (hr : M_init_446 zin a0 h = some r) : GO 446 [some (112, a0)] [] h := by
  have e9 := Eq.trans (Eq.symm (qe_M_init_446 zin a0 h)) hr
  generalize (400 : Nat) = f9 at e9
  refine hS _ _ (zcal_s (SP := zKsp l true zi r) _ ?_) (zorc_s _ ?_) _ _ _ _ _ e9
  · exact trivial
  · exact trivial
set_option maxRecDepth 100000 in
set_option maxHeartbeats 0 in
theorem s_M_init_363 {l : Launch} {zi : Nat → zinfo} {r : zRes} {GO : Nat → List (Option zV) → List zV → zH → Prop} (hS : zSg l true zi (zget (999, 0, 0, 0) zc_M_init) (zcut zu_M_init) zin (fun _ _ => none) r GO) (a0 : Int) (h : zH) (hr : M_init_363 zin a0 h = some r) : GO 363 [some (112, a0)] [] h := by
  have e9 := Eq.trans (Eq.symm (qe_M_init_363 zin a0 h)) hr
  generalize (400 : Nat) = f9 at e9
  refine hS _ _ (zcal_s (SP := zKsp l true zi r) _ ?_) (zorc_s _ ?_) _ _ _ _ _ e9
  · exact trivial
  · exact ⟨zap1_s (P := fun xs h => GO 446 (zfl [some (112, none)] xs).1 (zfs [] (zfl [some (112, none)] xs).2) h) (fun x0 h hr => s_M_init_446 hS x0 h hr), trivial⟩
set_option maxRecDepth 100000 in
set_option maxHeartbeats 0 in
theorem s_M_init_285 {l : Launch} {zi : Nat → zinfo} {r : zRes} {GO : Nat → List (Option zV) → List zV → zH → Prop} (hS : zSg l true zi (zget (999, 0, 0, 0) zc_M_init) (zcut zu_M_init) zin (fun _ _ => none) r GO) (a0 : Int) (h : zH) (hr : M_init_285 zin a0 h = some r) : GO 285 [some (112, a0)] [] h := by
  have e9 := Eq.trans (Eq.symm (qe_M_init_285 zin a0 h)) hr
  generalize (400 : Nat) = f9 at e9
  refine hS _ _ (zcal_s (SP := zKsp l true zi r) _ ?_) (zorc_s _ ?_) _ _ _ _ _ e9
  · exact trivial
  · exact ⟨zap1_s (P := fun xs h => GO 363 (zfl [some (112, none)] xs).1 (zfs [] (zfl [some (112, none)] xs).2) h) (fun x0 h hr => s_M_init_363 hS x0 h hr), trivial⟩
set_option maxRecDepth 100000 in
set_option maxHeartbeats 0 in
theorem s_M_init_186 {l : Launch} {zi : Nat → zinfo} {r : zRes} {GO : Nat → List (Option zV) → List zV → zH → Prop} (hS : zSg l true zi (zget (999, 0, 0, 0) zc_M_init) (zcut zu_M_init) zin (fun _ _ => none) r GO) (a0 : Int) (h : zH) (hr : M_init_186 zin a0 h = some r) : GO 186 [some (112, a0)] [] h := by
  have e9 := Eq.trans (Eq.symm (qe_M_init_186 zin a0 h)) hr
  generalize (400 : Nat) = f9 at e9
  refine hS _ _ (zcal_s (SP := zKsp l true zi r) _ ?_) (zorc_s _ ?_) _ _ _ _ _ e9
  · exact trivial
  · exact ⟨zap1_s (P := fun xs h => GO 285 (zfl [some (112, none)] xs).1 (zfs [] (zfl [some (112, none)] xs).2) h) (fun x0 h hr => s_M_init_285 hS x0 h hr), trivial⟩
set_option maxRecDepth 100000 in
set_option maxHeartbeats 0 in
theorem s_M_init_90 {l : Launch} {zi : Nat → zinfo} {r : zRes} {GO : Nat → List (Option zV) → List zV → zH → Prop} (hS : zSg l true zi (zget (999, 0, 0, 0) zc_M_init) (zcut zu_M_init) zin (fun _ _ => none) r GO) (a0 : Int) (h : zH) (hr : M_init_90 zin a0 h = some r) : GO 90 [some (112, a0)] [] h := by
  have e9 := Eq.trans (Eq.symm (qe_M_init_90 zin a0 h)) hr
  generalize (400 : Nat) = f9 at e9
  refine hS _ _ (zcal_s (SP := zKsp l true zi r) _ ?_) (zorc_s _ ?_) _ _ _ _ _ e9
  · exact trivial
  · exact ⟨zap1_s (P := fun xs h => GO 186 (zfl [some (112, none)] xs).1 (zfs [] (zfl [some (112, none)] xs).2) h) (fun x0 h hr => s_M_init_186 hS x0 h hr), trivial⟩
set_option maxRecDepth 100000 in
set_option maxHeartbeats 0 in
theorem s_M_init {l : Launch} {zi : Nat → zinfo} {r : zRes} {GO : Nat → List (Option zV) → List zV → zH → Prop} (hS : zSg l true zi (zget (999, 0, 0, 0) zc_M_init) (zcut zu_M_init) zin (fun _ _ => none) r GO) (a0 : Int) (h : zH) (hr : M_init a0 h zin = some r) : GO 0 [some (112, a0)] [] h := by
  have e9 := Eq.trans (Eq.symm (qe_M_init zin a0 h)) hr
  generalize (400 : Nat) = f9 at e9
  refine hS _ _ (zcal_s (SP := zKsp l true zi r) _ ?_) (zorc_s _ ?_) _ _ _ _ _ e9
  · exact trivial
  · exact ⟨zap1_s (P := fun xs h => GO 90 (zfl [some (112, none)] xs).1 (zfs [] (zfl [some (112, none)] xs).2) h) (fun x0 h hr => s_M_init_90 hS x0 h hr), trivial⟩
