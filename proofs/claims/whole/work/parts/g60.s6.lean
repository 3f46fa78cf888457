set_option maxRecDepth 100000 in
set_option maxHeartbeats 0 in
theorem s_M_finish_100 {l : Launch} {zi : Nat → zinfo} {r : zRes} {GO : Nat → List (Option zV) → List zV → zH → Prop} (hS : zSg l false zi (zget (999, 0, 0, 0) zc_M_finish) (zcut zu_M_finish) zin (fun _ _ => none) r GO) (k78 : ∀ (x0 : Int) (h : zH) (k : (Int → zH → Option zRes)) (t : (Nat → zH → Option zRes)), M_isOver x0 h k = some r → zKsp l false zi r 78 [0, x0] h k t) {r2 : Int → zH → Option zRes} (h2 : ∀ (x0 : Int) (h : zH), r2 x0 h = some r → GO 2 [some (112, 0), some (0, x0), none, none, none] [] h) {r9 : Int → Int → zH → Option zRes} (h9 : ∀ (x0 x1 : Int) (h : zH), r9 x0 x1 h = some r → GO 9 [some (112, 0), some (0, x0), some (0, x1), none, none] [] h) {r62 : Int → Int → Int → Int → zH → Option zRes} (h62 : ∀ (x0 x1 x2 x3 : Int) (h : zH), r62 x0 x1 x2 x3 h = some r → GO 62 [some (112, 0), some (0, x0), some (0, x1), some (0, x2), some (0, x3)] [] h) (a1 a2 a4 t0 : Int) (h : zH) (hr : M_finish_100 zin r2 r9 r62 a1 a2 a4 t0 h = some r) : GO 100 [some (112, 0), some (0, a1), some (0, a2), none, some (0, a4)] [(0, t0)] h := by
  have e9 := Eq.trans (Eq.symm (qe_M_finish_100 zin r2 r9 r62 a1 a2 a4 t0 h)) hr
  generalize (400 : Nat) = f9 at e9
  refine hS _ _ (zcal_s (SP := zKsp l false zi r) _ ?_) (zorc_s _ ?_) _ _ _ _ _ e9
  · exact trivial
  · exact ⟨zap4_s (P := fun xs h => GO 62 (zfl [some (112, some 0), some (0, none), some (0, none), some (0, none), some (0, none)] xs).1 (zfs [] (zfl [some (112, some 0), some (0, none), some (0, none), some (0, none), some (0, none)] xs).2) h) h62, trivial⟩
set_option maxRecDepth 100000 in
set_option maxHeartbeats 0 in
theorem s_M_finish_95 {l : Launch} {zi : Nat → zinfo} {r : zRes} {GO : Nat → List (Option zV) → List zV → zH → Prop} (hS : zSg l false zi (zget (999, 0, 0, 0) zc_M_finish) (zcut zu_M_finish) zin (fun _ _ => none) r GO) (k78 : ∀ (x0 : Int) (h : zH) (k : (Int → zH → Option zRes)) (t : (Nat → zH → Option zRes)), M_isOver x0 h k = some r → zKsp l false zi r 78 [0, x0] h k t) {r2 : Int → zH → Option zRes} (h2 : ∀ (x0 : Int) (h : zH), r2 x0 h = some r → GO 2 [some (112, 0), some (0, x0), none, none, none] [] h) {r9 : Int → Int → zH → Option zRes} (h9 : ∀ (x0 x1 : Int) (h : zH), r9 x0 x1 h = some r → GO 9 [some (112, 0), some (0, x0), some (0, x1), none, none] [] h) {r62 : Int → Int → Int → Int → zH → Option zRes} (h62 : ∀ (x0 x1 x2 x3 : Int) (h : zH), r62 x0 x1 x2 x3 h = some r → GO 62 [some (112, 0), some (0, x0), some (0, x1), some (0, x2), some (0, x3)] [] h) (a1 a2 a4 : Int) (h : zH) (hr : M_finish_95 zin r2 r9 r62 a1 a2 a4 h = some r) : GO 95 [some (112, 0), some (0, a1), some (0, a2), none, some (0, a4)] [] h := by
  have e9 := Eq.trans (Eq.symm (qe_M_finish_95 zin r2 r9 r62 a1 a2 a4 h)) hr
  generalize (400 : Nat) = f9 at e9
  refine hS _ _ (zcal_s (SP := zKsp l false zi r) _ ?_) (zorc_s _ ?_) _ _ _ _ _ e9
  · exact trivial
  · exact ⟨zap4_s (P := fun xs h => GO 100 (zfl [some (112, some 0), some (0, none), some (0, none), none, some (0, none)] xs).1 (zfs [(0, none)] (zfl [some (112, some 0), some (0, none), some (0, none), none, some (0, none)] xs).2) h) (fun x0 x1 x2 x3 h hr => s_M_finish_100 hS k78 h2 h9 h62 x0 x1 x2 x3 h hr), trivial⟩
set_option maxRecDepth 100000 in
set_option maxHeartbeats 0 in
theorem s_M_finish_99 {l : Launch} {zi : Nat → zinfo} {r : zRes} {GO : Nat → List (Option zV) → List zV → zH → Prop} (hS : zSg l false zi (zget (999, 0, 0, 0) zc_M_finish) (zcut zu_M_finish) zin (fun _ _ => none) r GO) (k78 : ∀ (x0 : Int) (h : zH) (k : (Int → zH → Option zRes)) (t : (Nat → zH → Option zRes)), M_isOver x0 h k = some r → zKsp l false zi r 78 [0, x0] h k t) {r2 : Int → zH → Option zRes} (h2 : ∀ (x0 : Int) (h : zH), r2 x0 h = some r → GO 2 [some (112, 0), some (0, x0), none, none, none] [] h) {r9 : Int → Int → zH → Option zRes} (h9 : ∀ (x0 x1 : Int) (h : zH), r9 x0 x1 h = some r → GO 9 [some (112, 0), some (0, x0), some (0, x1), none, none] [] h) {r62 : Int → Int → Int → Int → zH → Option zRes} (h62 : ∀ (x0 x1 x2 x3 : Int) (h : zH), r62 x0 x1 x2 x3 h = some r → GO 62 [some (112, 0), some (0, x0), some (0, x1), some (0, x2), some (0, x3)] [] h) (a1 a2 a4 : Int) (h : zH) (hr : M_finish_99 zin r2 r9 r62 a1 a2 a4 h = some r) : GO 99 [some (112, 0), some (0, a1), some (0, a2), none, some (0, a4)] [] h := by
  have e9 := Eq.trans (Eq.symm (qe_M_finish_99 zin r2 r9 r62 a1 a2 a4 h)) hr
  generalize (400 : Nat) = f9 at e9
  refine hS _ _ (zcal_s (SP := zKsp l false zi r) _ ?_) (zorc_s _ ?_) _ _ _ _ _ e9
  · exact trivial
  · exact ⟨zap4_s (P := fun xs h => GO 100 (zfl [some (112, some 0), some (0, none), some (0, none), none, some (0, none)] xs).1 (zfs [(0, none)] (zfl [some (112, some 0), some (0, none), some (0, none), none, some (0, none)] xs).2) h) (fun x0 x1 x2 x3 h hr => s_M_finish_100 hS k78 h2 h9 h62 x0 x1 x2 x3 h hr), trivial⟩
set_option maxRecDepth 100000 in
set_option maxHeartbeats 0 in
theorem s_M_finish_127 {l : Launch} {zi : Nat → zinfo} {r : zRes} {GO : Nat → List (Option zV) → List zV → zH → Prop} (hS : zSg l false zi (zget (999, 0, 0, 0) zc_M_finish) (zcut zu_M_finish) zin (fun _ _ => none) r GO) (k78 : ∀ (x0 : Int) (h : zH) (k : (Int → zH → Option zRes)) (t : (Nat → zH → Option zRes)), M_isOver x0 h k = some r → zKsp l false zi r 78 [0, x0] h k t) {r2 : Int → zH → Option zRes} (h2 : ∀ (x0 : Int) (h : zH), r2 x0 h = some r → GO 2 [some (112, 0), some (0, x0), none, none, none] [] h) {r9 : Int → Int → zH → Option zRes} (h9 : ∀ (x0 x1 : Int) (h : zH), r9 x0 x1 h = some r → GO 9 [some (112, 0), some (0, x0), some (0, x1), none, none] [] h) (a1 a2 t0 t1 : Int) (h : zH) (hr : M_finish_127 zin r2 r9 a1 a2 t0 t1 h = some r) : GO 127 [some (112, 0), some (0, a1), some (0, a2), none, none] [(0, t0), (0, t1), (169, 0)] h := by
  have e9 := Eq.trans (Eq.symm (qe_M_finish_127 zin r2 r9 a1 a2 t0 t1 h)) hr
  generalize (400 : Nat) = f9 at e9
  refine hS _ _ (zcal_s (SP := zKsp l false zi r) _ ?_) (zorc_s _ ?_) _ _ _ _ _ e9
  · exact trivial
  · exact ⟨zap2_s (P := fun xs h => GO 9 (zfl [some (112, some 0), some (0, none), some (0, none), none, none] xs).1 (zfs [] (zfl [some (112, some 0), some (0, none), some (0, none), none, none] xs).2) h) h9, trivial⟩
set_option maxRecDepth 100000 in
set_option maxHeartbeats 0 in
theorem s_M_finish_62b {l : Launch} {zi : Nat → zinfo} {r : zRes} {GO : Nat → List (Option zV) → List zV → zH → Prop} (hS : zSg l false zi (zget (999, 0, 0, 0) zc_M_finish) (zcut zu_M_finish) zin (fun _ _ => none) r GO) (k78 : ∀ (x0 : Int) (h : zH) (k : (Int → zH → Option zRes)) (t : (Nat → zH → Option zRes)), M_isOver x0 h k = some r → zKsp l false zi r 78 [0, x0] h k t) {r2 : Int → zH → Option zRes} (h2 : ∀ (x0 : Int) (h : zH), r2 x0 h = some r → GO 2 [some (112, 0), some (0, x0), none, none, none] [] h) {r9 : Int → Int → zH → Option zRes} (h9 : ∀ (x0 x1 : Int) (h : zH), r9 x0 x1 h = some r → GO 9 [some (112, 0), some (0, x0), some (0, x1), none, none] [] h) {r62 : Int → Int → Int → Int → zH → Option zRes} (h62 : ∀ (x0 x1 x2 x3 : Int) (h : zH), r62 x0 x1 x2 x3 h = some r → GO 62 [some (112, 0), some (0, x0), some (0, x1), some (0, x2), some (0, x3)] [] h) (a1 a2 a3 a4 : Int) (h : zH) (hr : M_finish_62b zin r2 r9 r62 a1 a2 a3 a4 h = some r) : GO 62 [some (112, 0), some (0, a1), some (0, a2), some (0, a3), some (0, a4)] [] h := by
  have e9 := Eq.trans (Eq.symm (qe_M_finish_62b zin r2 r9 r62 a1 a2 a3 a4 h)) hr
  generalize (400 : Nat) = f9 at e9
  refine hS _ _ (zcal_s (SP := zKsp l false zi r) _ ?_) (zorc_s _ ?_) _ _ _ _ _ e9
  · exact ⟨zca1_s (SP := fun xs h k t => zKsp l false zi r 78 (zfc [some 0, none] xs) h k t) k78, trivial⟩
  · exact ⟨zap3_s (P := fun xs h => GO 95 (zfl [some (112, some 0), some (0, none), some (0, none), none, some (0, none)] xs).1 (zfs [] (zfl [some (112, some 0), some (0, none), some (0, none), none, some (0, none)] xs).2) h) (fun x0 x1 x2 h hr => s_M_finish_95 hS k78 h2 h9 h62 x0 x1 x2 h hr), ⟨zap3_s (P := fun xs h => GO 99 (zfl [some (112, some 0), some (0, none), some (0, none), none, some (0, none)] xs).1 (zfs [] (zfl [some (112, some 0), some (0, none), some (0, none), none, some (0, none)] xs).2) h) (fun x0 x1 x2 h hr => s_M_finish_99 hS k78 h2 h9 h62 x0 x1 x2 h hr), ⟨zap4_s (P := fun xs h => GO 127 (zfl [some (112, some 0), some (0, none), some (0, none), none, none] xs).1 (zfs [(0, none), (0, none), (169, some 0)] (zfl [some (112, some 0), some (0, none), some (0, none), none, none] xs).2) h) (fun x0 x1 x2 x3 h hr => s_M_finish_127 hS k78 h2 h9 x0 x1 x2 x3 h hr), trivial⟩⟩⟩
set_option maxRecDepth 100000 in
set_option maxHeartbeats 0 in
theorem s_M_finish_62 {l : Launch} {zi : Nat → zinfo} {r : zRes} {GO : Nat → List (Option zV) → List zV → zH → Prop} (hS : zSg l false zi (zget (999, 0, 0, 0) zc_M_finish) (zcut zu_M_finish) zin (fun _ _ => none) r GO) (k78 : ∀ (x0 : Int) (h : zH) (k : (Int → zH → Option zRes)) (t : (Nat → zH → Option zRes)), M_isOver x0 h k = some r → zKsp l false zi r 78 [0, x0] h k t) {r2 : Int → zH → Option zRes} (h2 : ∀ (x0 : Int) (h : zH), r2 x0 h = some r → GO 2 [some (112, 0), some (0, x0), none, none, none] [] h) {r9 : Int → Int → zH → Option zRes} (h9 : ∀ (x0 x1 : Int) (h : zH), r9 x0 x1 h = some r → GO 9 [some (112, 0), some (0, x0), some (0, x1), none, none] [] h) (a1 a2 a3 a4 : Int) (h : zH) (hr : M_finish_62 zin r2 r9 a1 a2 a3 a4 h = some r) : GO 62 [some (112, 0), some (0, a1), some (0, a2), some (0, a3), some (0, a4)] [] h := zit4_s (P := fun x0 x1 x2 x3 h => GO 62 [some (112, 0), some (0, x0), some (0, x1), some (0, x2), some (0, x3)] [] h) (fun rr hh a1 a2 a3 a4 h hr => s_M_finish_62b hS k78 h2 h9 hh a1 a2 a3 a4 h hr) zN a1 a2 a3 a4 h hr
set_option maxRecDepth 100000 in
set_option maxHeartbeats 0 in
theorem s_M_finish_58 {l : Launch} {zi : Nat → zinfo} {r : zRes} {GO : Nat → List (Option zV) → List zV → zH → Prop} (hS : zSg l false zi (zget (999, 0, 0, 0) zc_M_finish) (zcut zu_M_finish) zin (fun _ _ => none) r GO) (k78 : ∀ (x0 : Int) (h : zH) (k : (Int → zH → Option zRes)) (t : (Nat → zH → Option zRes)), M_isOver x0 h k = some r → zKsp l false zi r 78 [0, x0] h k t) {r2 : Int → zH → Option zRes} (h2 : ∀ (x0 : Int) (h : zH), r2 x0 h = some r → GO 2 [some (112, 0), some (0, x0), none, none, none] [] h) {r9 : Int → Int → zH → Option zRes} (h9 : ∀ (x0 x1 : Int) (h : zH), r9 x0 x1 h = some r → GO 9 [some (112, 0), some (0, x0), some (0, x1), none, none] [] h) (a1 a2 t0 : Int) (h : zH) (hr : M_finish_58 zin r2 r9 a1 a2 t0 h = some r) : GO 58 [some (112, 0), some (0, a1), some (0, a2), none, none] [(0, t0)] h := by
  have e9 := Eq.trans (Eq.symm (qe_M_finish_58 zin r2 r9 a1 a2 t0 h)) hr
  generalize (400 : Nat) = f9 at e9
  refine hS _ _ (zcal_s (SP := zKsp l false zi r) _ ?_) (zorc_s _ ?_) _ _ _ _ _ e9
  · exact trivial
  · exact ⟨zap4_s (P := fun xs h => GO 62 (zfl [some (112, some 0), some (0, none), some (0, none), some (0, none), some (0, none)] xs).1 (zfs [] (zfl [some (112, some 0), some (0, none), some (0, none), some (0, none), some (0, none)] xs).2) h) (fun x0 x1 x2 x3 h hr => s_M_finish_62 hS k78 h2 h9 x0 x1 x2 x3 h hr), trivial⟩
set_option maxRecDepth 100000 in
set_option maxHeartbeats 0 in
theorem s_M_finish_57 {l : Launch} {zi : Nat → zinfo} {r : zRes} {GO : Nat → List (Option zV) → List zV → zH → Prop} (hS : zSg l false zi (zget (999, 0, 0, 0) zc_M_finish) (zcut zu_M_finish) zin (fun _ _ => none) r GO) (k78 : ∀ (x0 : Int) (h : zH) (k : (Int → zH → Option zRes)) (t : (Nat → zH → Option zRes)), M_isOver x0 h k = some r → zKsp l false zi r 78 [0, x0] h k t) {r2 : Int → zH → Option zRes} (h2 : ∀ (x0 : Int) (h : zH), r2 x0 h = some r → GO 2 [some (112, 0), some (0, x0), none, none, none] [] h) {r9 : Int → Int → zH → Option zRes} (h9 : ∀ (x0 x1 : Int) (h : zH), r9 x0 x1 h = some r → GO 9 [some (112, 0), some (0, x0), some (0, x1), none, none] [] h) (a1 a2 : Int) (h : zH) (hr : M_finish_57 zin r2 r9 a1 a2 h = some r) : GO 57 [some (112, 0), some (0, a1), some (0, a2), none, none] [] h := by
  have e9 := Eq.trans (Eq.symm (qe_M_finish_57 zin r2 r9 a1 a2 h)) hr
  generalize (400 : Nat) = f9 at e9
  refine hS _ _ (zcal_s (SP := zKsp l false zi r) _ ?_) (zorc_s _ ?_) _ _ _ _ _ e9
  · exact trivial
  · exact ⟨zap3_s (P := fun xs h => GO 58 (zfl [some (112, some 0), some (0, none), some (0, none), none, none] xs).1 (zfs [(0, none)] (zfl [some (112, some 0), some (0, none), some (0, none), none, none] xs).2) h) (fun x0 x1 x2 h hr => s_M_finish_58 hS k78 h2 h9 x0 x1 x2 h hr), trivial⟩
set_option maxRecDepth 100000 in
set_option maxHeartbeats 0 in
theorem s_M_finish_9b {l : Launch} {zi : Nat → zinfo} {r : zRes} {GO : Nat → List (Option zV) → List zV → zH → Prop} (hS : zSg l false zi (zget (999, 0, 0, 0) zc_M_finish) (zcut zu_M_finish) zin (fun _ _ => none) r GO) (k78 : ∀ (x0 : Int) (h : zH) (k : (Int → zH → Option zRes)) (t : (Nat → zH → Option zRes)), M_isOver x0 h k = some r → zKsp l false zi r 78 [0, x0] h k t) {r2 : Int → zH → Option zRes} (h2 : ∀ (x0 : Int) (h : zH), r2 x0 h = some r → GO 2 [some (112, 0), some (0, x0), none, none, none] [] h) {r9 : Int → Int → zH → Option zRes} (h9 : ∀ (x0 x1 : Int) (h : zH), r9 x0 x1 h = some r → GO 9 [some (112, 0), some (0, x0), some (0, x1), none, none] [] h) (a1 a2 : Int) (h : zH) (hr : M_finish_9b zin r2 r9 a1 a2 h = some r) : GO 9 [some (112, 0), some (0, a1), some (0, a2), none, none] [] h := by
  have e9 := Eq.trans (Eq.symm (qe_M_finish_9b zin r2 r9 a1 a2 h)) hr
  generalize (400 : Nat) = f9 at e9
  refine hS _ _ (zcal_s (SP := zKsp l false zi r) _ ?_) (zorc_s _ ?_) _ _ _ _ _ e9
  · exact trivial
  · exact ⟨zap1_s (P := fun xs h => GO 2 (zfl [some (112, some 0), some (0, none), none, none, none] xs).1 (zfs [] (zfl [some (112, some 0), some (0, none), none, none, none] xs).2) h) h2, ⟨zap2_s (P := fun xs h => GO 57 (zfl [some (112, some 0), some (0, none), some (0, none), none, none] xs).1 (zfs [] (zfl [some (112, some 0), some (0, none), some (0, none), none, none] xs).2) h) (fun x0 x1 h hr => s_M_finish_57 hS k78 h2 h9 x0 x1 h hr), ⟨zap3_s (P := fun xs h => GO 58 (zfl [some (112, some 0), some (0, none), some (0, none), none, none] xs).1 (zfs [(0, none)] (zfl [some (112, some 0), some (0, none), some (0, none), none, none] xs).2) h) (fun x0 x1 x2 h hr => s_M_finish_58 hS k78 h2 h9 x0 x1 x2 h hr), trivial⟩⟩⟩
set_option maxRecDepth 100000 in
set_option maxHeartbeats 0 in
theorem s_M_finish_9 {l : Launch} {zi : Nat → zinfo} {r : zRes} {GO : Nat → List (Option zV) → List zV → zH → Prop} (hS : zSg l false zi (zget (999, 0, 0, 0) zc_M_finish) (zcut zu_M_finish) zin (fun _ _ => none) r GO) (k78 : ∀ (x0 : Int) (h : zH) (k : (Int → zH → Option zRes)) (t : (Nat → zH → Option zRes)), M_isOver x0 h k = some r → zKsp l false zi r 78 [0, x0] h k t) {r2 : Int → zH → Option zRes} (h2 : ∀ (x0 : Int) (h : zH), r2 x0 h = some r → GO 2 [some (112, 0), some (0, x0), none, none, none] [] h) (a1 a2 : Int) (h : zH) (hr : M_finish_9 zin r2 a1 a2 h = some r) : GO 9 [some (112, 0), some (0, a1), some (0, a2), none, none] [] h := zit2_s (P := fun x0 x1 h => GO 9 [some (112, 0), some (0, x0), some (0, x1), none, none] [] h) (fun rr hh a1 a2 h hr => s_M_finish_9b hS k78 h2 hh a1 a2 h hr) zN a1 a2 h hr
set_option maxRecDepth 100000 in
set_option maxHeartbeats 0 in
theorem s_M_finish_2b {l : Launch} {zi : Nat → zinfo} {r : zRes} {GO : Nat → List (Option zV) → List zV → zH → Prop} (hS : zSg l false zi (zget (999, 0, 0, 0) zc_M_finish) (zcut zu_M_finish) zin (fun _ _ => none) r GO) (k78 : ∀ (x0 : Int) (h : zH) (k : (Int → zH → Option zRes)) (t : (Nat → zH → Option zRes)), M_isOver x0 h k = some r → zKsp l false zi r 78 [0, x0] h k t) {r2 : Int → zH → Option zRes} (h2 : ∀ (x0 : Int) (h : zH), r2 x0 h = some r → GO 2 [some (112, 0), some (0, x0), none, none, none] [] h) (a1 : Int) (h : zH) (hr : M_finish_2b zin r2 a1 h = some r) : GO 2 [some (112, 0), some (0, a1), none, none, none] [] h := by
  have e9 := Eq.trans (Eq.symm (qe_M_finish_2b zin r2 a1 h)) hr
  generalize (400 : Nat) = f9 at e9
  refine hS _ _ (zcal_s (SP := zKsp l false zi r) _ ?_) (zorc_s _ ?_) _ _ _ _ _ e9
  · exact trivial
  · exact ⟨zap2_s (P := fun xs h => GO 9 (zfl [some (112, some 0), some (0, none), some (0, none), none, none] xs).1 (zfs [] (zfl [some (112, some 0), some (0, none), some (0, none), none, none] xs).2) h) (fun x0 x1 h hr => s_M_finish_9 hS k78 h2 x0 x1 h hr), trivial⟩
set_option maxRecDepth 100000 in
set_option maxHeartbeats 0 in
theorem s_M_finish_2 {l : Launch} {zi : Nat → zinfo} {r : zRes} {GO : Nat → List (Option zV) → List zV → zH → Prop} (hS : zSg l false zi (zget (999, 0, 0, 0) zc_M_finish) (zcut zu_M_finish) zin (fun _ _ => none) r GO) (k78 : ∀ (x0 : Int) (h : zH) (k : (Int → zH → Option zRes)) (t : (Nat → zH → Option zRes)), M_isOver x0 h k = some r → zKsp l false zi r 78 [0, x0] h k t) (a1 : Int) (h : zH) (hr : M_finish_2 zin a1 h = some r) : GO 2 [some (112, 0), some (0, a1), none, none, none] [] h := zit1_s (P := fun x0 h => GO 2 [some (112, 0), some (0, x0), none, none, none] [] h) (fun rr hh a1 h hr => s_M_finish_2b hS k78 hh a1 h hr) zN a1 h hr
set_option maxRecDepth 100000 in
set_option maxHeartbeats 0 in
theorem s_M_finish {l : Launch} {zi : Nat → zinfo} {r : zRes} {GO : Nat → List (Option zV) → List zV → zH → Prop} (hS : zSg l false zi (zget (999, 0, 0, 0) zc_M_finish) (zcut zu_M_finish) zin (fun _ _ => none) r GO) (k78 : ∀ (x0 : Int) (h : zH) (k : (Int → zH → Option zRes)) (t : (Nat → zH → Option zRes)), M_isOver x0 h k = some r → zKsp l false zi r 78 [0, x0] h k t) (h : zH) (hr : M_finish h zin = some r) : GO 0 [some (112, 0), none, none, none, none] [] h := by
  have e9 := Eq.trans (Eq.symm (qe_M_finish zin h)) hr
  generalize (400 : Nat) = f9 at e9
  refine hS _ _ (zcal_s (SP := zKsp l false zi r) _ ?_) (zorc_s _ ?_) _ _ _ _ _ e9
  · exact trivial
  · exact ⟨zap1_s (P := fun xs h => GO 2 (zfl [some (112, some 0), some (0, none), none, none, none] xs).1 (zfs [] (zfl [some (112, some 0), some (0, none), none, none, none] xs).2) h) (fun x0 h hr => s_M_finish_2 hS k78 x0 h hr), trivial⟩
set_option maxRecDepth 100000 in
set_option maxHeartbeats 0 in
theorem s_M_blockOf {l : Launch} {zi : Nat → zinfo} {r : zRes} {GO : Nat → List (Option zV) → List zV → zH → Prop} (hS : zSg l false zi (zget (999, 0, 0, 0) zc_M_blockOf) (zcut zu_M_blockOf) zin (fun _ _ => none) r GO) (a0 a1 : Int) (h : zH) (hr : M_blockOf a0 a1 h zin = some r) : GO 0 [some (0, a0), some (0, a1)] [] h := by
  have e9 := Eq.trans (Eq.symm (qe_M_blockOf zin a0 a1 h)) hr
  generalize (400 : Nat) = f9 at e9
  refine hS _ _ (zcal_s (SP := zKsp l false zi r) _ ?_) (zorc_s _ ?_) _ _ _ _ _ e9
  · exact trivial
  · exact trivial
set_option maxRecDepth 100000 in
set_option maxHeartbeats 0 in
theorem s_M_groupsOf {l : Launch} {zi : Nat → zinfo} {r : zRes} {GO : Nat → List (Option zV) → List zV → zH → Prop} (hS : zSg l false zi (zget (999, 0, 0, 0) zc_M_groupsOf) (zcut zu_M_groupsOf) zin (fun _ _ => none) r GO) (k72 : ∀ (x0 : Int) (h : zH) (k : (Int → zH → Option zRes)) (t : (Nat → zH → Option zRes)), M_groupsFor x0 h k = some r → zKsp l false zi r 72 [x0] h k t) (a1 : Int) (h : zH) (hr : M_groupsOf a1 h zin = some r) : GO 0 [some (112, 0), some (0, a1)] [] h := by
  have e9 := Eq.trans (Eq.symm (qe_M_groupsOf zin a1 h)) hr
  generalize (400 : Nat) = f9 at e9
  refine hS _ _ (zcal_s (SP := zKsp l false zi r) _ ?_) (zorc_s _ ?_) _ _ _ _ _ e9
  · exact ⟨zca1_s (SP := fun xs h k t => zKsp l false zi r 72 (zfc [none] xs) h k t) k72, trivial⟩
  · exact trivial
set_option maxRecDepth 100000 in
set_option maxHeartbeats 0 in
theorem s_M_removeGroup_89b {l : Launch} {zi : Nat → zinfo} {r : zRes} {GO : Nat → List (Option zV) → List zV → zH → Prop} (hS : zSg l false zi (zget (999, 0, 0, 0) zc_M_removeGroup) (zcut zu_M_removeGroup) zin (fun _ _ => none) r GO) {r16 : Int → Int → zH → Option zRes} (h16 : ∀ (x0 x1 : Int) (h : zH), r16 x0 x1 h = some r → GO 16 [some (112, 0), some (0, x0), none, some (0, x1), none] [] h) {r89 : Int → Int → Int → zH → Option zRes} (h89 : ∀ (x0 x1 x2 : Int) (h : zH), r89 x0 x1 x2 h = some r → GO 89 [some (112, 0), some (0, x0), none, some (0, x1), some (0, x2)] [] h) (a1 a3 a4 : Int) (h : zH) (hr : M_removeGroup_89b zin r16 r89 a1 a3 a4 h = some r) : GO 89 [some (112, 0), some (0, a1), none, some (0, a3), some (0, a4)] [] h := by
  have e9 := Eq.trans (Eq.symm (qe_M_removeGroup_89b zin r16 r89 a1 a3 a4 h)) hr
  generalize (400 : Nat) = f9 at e9
  refine hS _ _ (zcal_s (SP := zKsp l false zi r) _ ?_) (zorc_s _ ?_) _ _ _ _ _ e9
  · exact trivial
  · exact ⟨zap2_s (P := fun xs h => GO 16 (zfl [some (112, some 0), some (0, none), none, some (0, none), none] xs).1 (zfs [] (zfl [some (112, some 0), some (0, none), none, some (0, none), none] xs).2) h) h16, ⟨zap3_s (P := fun xs h => GO 89 (zfl [some (112, some 0), some (0, none), none, some (0, none), some (0, none)] xs).1 (zfs [] (zfl [some (112, some 0), some (0, none), none, some (0, none), some (0, none)] xs).2) h) h89, trivial⟩⟩
set_option maxRecDepth 100000 in
set_option maxHeartbeats 0 in
theorem s_M_removeGroup_89 {l : Launch} {zi : Nat → zinfo} {r : zRes} {GO : Nat → List (Option zV) → List zV → zH → Prop} (hS : zSg l false zi (zget (999, 0, 0, 0) zc_M_removeGroup) (zcut zu_M_removeGroup) zin (fun _ _ => none) r GO) {r16 : Int → Int → zH → Option zRes} (h16 : ∀ (x0 x1 : Int) (h : zH), r16 x0 x1 h = some r → GO 16 [some (112, 0), some (0, x0), none, some (0, x1), none] [] h) (a1 a3 a4 : Int) (h : zH) (hr : M_removeGroup_89 zin r16 a1 a3 a4 h = some r) : GO 89 [some (112, 0), some (0, a1), none, some (0, a3), some (0, a4)] [] h := zit3_s (P := fun x0 x1 x2 h => GO 89 [some (112, 0), some (0, x0), none, some (0, x1), some (0, x2)] [] h) (fun rr hh a1 a3 a4 h hr => s_M_removeGroup_89b hS h16 hh a1 a3 a4 h hr) zN a1 a3 a4 h hr
set_option maxRecDepth 100000 in
set_option maxHeartbeats 0 in
theorem s_M_removeGroup_16b {l : Launch} {zi : Nat → zinfo} {r : zRes} {GO : Nat → List (Option zV) → List zV → zH → Prop} (hS : zSg l false zi (zget (999, 0, 0, 0) zc_M_removeGroup) (zcut zu_M_removeGroup) zin (fun _ _ => none) r GO) {r16 : Int → Int → zH → Option zRes} (h16 : ∀ (x0 x1 : Int) (h : zH), r16 x0 x1 h = some r → GO 16 [some (112, 0), some (0, x0), none, some (0, x1), none] [] h) (a1 a3 : Int) (h : zH) (hr : M_removeGroup_16b zin r16 a1 a3 h = some r) : GO 16 [some (112, 0), some (0, a1), none, some (0, a3), none] [] h := by
  have e9 := Eq.trans (Eq.symm (qe_M_removeGroup_16b zin r16 a1 a3 h)) hr
  generalize (400 : Nat) = f9 at e9
  refine hS _ _ (zcal_s (SP := zKsp l false zi r) _ ?_) (zorc_s _ ?_) _ _ _ _ _ e9
  · exact trivial
  · exact ⟨zap3_s (P := fun xs h => GO 89 (zfl [some (112, some 0), some (0, none), none, some (0, none), some (0, none)] xs).1 (zfs [] (zfl [some (112, some 0), some (0, none), none, some (0, none), some (0, none)] xs).2) h) (fun x0 x1 x2 h hr => s_M_removeGroup_89 hS h16 x0 x1 x2 h hr), trivial⟩
set_option maxRecDepth 100000 in
set_option maxHeartbeats 0 in
theorem s_M_removeGroup_16 {l : Launch} {zi : Nat → zinfo} {r : zRes} {GO : Nat → List (Option zV) → List zV → zH → Prop} (hS : zSg l false zi (zget (999, 0, 0, 0) zc_M_removeGroup) (zcut zu_M_removeGroup) zin (fun _ _ => none) r GO) (a1 a3 : Int) (h : zH) (hr : M_removeGroup_16 zin a1 a3 h = some r) : GO 16 [some (112, 0), some (0, a1), none, some (0, a3), none] [] h := zit2_s (P := fun x0 x1 h => GO 16 [some (112, 0), some (0, x0), none, some (0, x1), none] [] h) (fun rr hh a1 a3 h hr => s_M_removeGroup_16b hS hh a1 a3 h hr) zN a1 a3 h hr
set_option maxRecDepth 100000 in
set_option maxHeartbeats 0 in
theorem s_M_removeGroup {l : Launch} {zi : Nat → zinfo} {r : zRes} {GO : Nat → List (Option zV) → List zV → zH → Prop} (hS : zSg l false zi (zget (999, 0, 0, 0) zc_M_removeGroup) (zcut zu_M_removeGroup) zin (fun _ _ => none) r GO) (a1 a2 : Int) (h : zH) (hr : M_removeGroup a1 a2 h zin = some r) : GO 0 [some (112, 0), some (0, a1), some (0, a2), none, none] [] h := by
  have e9 := Eq.trans (Eq.symm (qe_M_removeGroup zin a1 a2 h)) hr
  generalize (400 : Nat) = f9 at e9
  refine hS _ _ (zcal_s (SP := zKsp l false zi r) _ ?_) (zorc_s _ ?_) _ _ _ _ _ e9
  · exact trivial
  · exact ⟨zap2_s (P := fun xs h => GO 16 (zfl [some (112, some 0), some (0, none), none, some (0, none), none] xs).1 (zfs [] (zfl [some (112, some 0), some (0, none), none, some (0, none), none] xs).2) h) (fun x0 x1 h hr => s_M_removeGroup_16 hS x0 x1 h hr), trivial⟩
set_option maxRecDepth 100000 in
set_option maxHeartbeats 0 in
theorem s_M_leave_40 {l : Launch} {zi : Nat → zinfo} {r : zRes} {GO : Nat → List (Option zV) → List zV → zH → Prop} (hS : zSg l false zi (zget (999, 0, 0, 0) zc_M_leave) (zcut zu_M_leave) zin (fun _ _ => none) r GO) (k90 : ∀ (x0 x1 : Int) (h : zH) (k : (Int → zH → Option zRes)) (t : (Nat → zH → Option zRes)), M_removeGroup x0 x1 h k = some r → zKsp l false zi r 90 [0, x0, x1] h k t) {r16 : Int → Int → Int → zH → Option zRes} (h16 : ∀ (x0 x1 x2 : Int) (h : zH), r16 x0 x1 x2 h = some r → GO 16 [some (112, 0), some (0, x0), some (0, x1), some (0, x2)] [] h) (a1 a2 a3 : Int) (h : zH) (hr : M_leave_40 zin r16 a1 a2 a3 h = some r) : GO 40 [some (112, 0), some (0, a1), some (0, a2), some (0, a3)] [] h := by
  have e9 := Eq.trans (Eq.symm (qe_M_leave_40 zin r16 a1 a2 a3 h)) hr
  generalize (400 : Nat) = f9 at e9
  refine hS _ _ (zcal_s (SP := zKsp l false zi r) _ ?_) (zorc_s _ ?_) _ _ _ _ _ e9
  · exact trivial
  · exact ⟨zap3_s (P := fun xs h => GO 16 (zfl [some (112, some 0), some (0, none), some (0, none), some (0, none)] xs).1 (zfs [] (zfl [some (112, some 0), some (0, none), some (0, none), some (0, none)] xs).2) h) h16, trivial⟩
set_option maxRecDepth 100000 in
set_option maxHeartbeats 0 in
theorem s_M_leave_63 {l : Launch} {zi : Nat → zinfo} {r : zRes} {GO : Nat → List (Option zV) → List zV → zH → Prop} (hS : zSg l false zi (zget (999, 0, 0, 0) zc_M_leave) (zcut zu_M_leave) zin (fun _ _ => none) r GO) (k90 : ∀ (x0 x1 : Int) (h : zH) (k : (Int → zH → Option zRes)) (t : (Nat → zH → Option zRes)), M_removeGroup x0 x1 h k = some r → zKsp l false zi r 90 [0, x0, x1] h k t) (a1 : Int) (h : zH) (hr : M_leave_63 zin a1 h = some r) : GO 63 [some (112, 0), some (0, a1), none, none] [] h := by
  have e9 := Eq.trans (Eq.symm (qe_M_leave_63 zin a1 h)) hr
  generalize (400 : Nat) = f9 at e9
  refine hS _ _ (zcal_s (SP := zKsp l false zi r) _ ?_) (zorc_s _ ?_) _ _ _ _ _ e9
  · exact trivial
  · exact trivial
set_option maxRecDepth 100000 in
set_option maxHeartbeats 0 in
theorem s_M_leave_16b {l : Launch} {zi : Nat → zinfo} {r : zRes} {GO : Nat → List (Option zV) → List zV → zH → Prop} (hS : zSg l false zi (zget (999, 0, 0, 0) zc_M_leave) (zcut zu_M_leave) zin (fun _ _ => none) r GO) (k90 : ∀ (x0 x1 : Int) (h : zH) (k : (Int → zH → Option zRes)) (t : (Nat → zH → Option zRes)), M_removeGroup x0 x1 h k = some r → zKsp l false zi r 90 [0, x0, x1] h k t) {r16 : Int → Int → Int → zH → Option zRes} (h16 : ∀ (x0 x1 x2 : Int) (h : zH), r16 x0 x1 x2 h = some r → GO 16 [some (112, 0), some (0, x0), some (0, x1), some (0, x2)] [] h) (a1 a2 a3 : Int) (h : zH) (hr : M_leave_16b zin r16 a1 a2 a3 h = some r) : GO 16 [some (112, 0), some (0, a1), some (0, a2), some (0, a3)] [] h := by
  have e9 := Eq.trans (Eq.symm (qe_M_leave_16b zin r16 a1 a2 a3 h)) hr
  generalize (400 : Nat) = f9 at e9
  refine hS _ _ (zcal_s (SP := zKsp l false zi r) _ ?_) (zorc_s _ ?_) _ _ _ _ _ e9
  · exact ⟨zca2_s (SP := fun xs h k t => zKsp l false zi r 90 (zfc [some 0, none, none] xs) h k t) k90, trivial⟩
  · exact ⟨zap3_s (P := fun xs h => GO 40 (zfl [some (112, some 0), some (0, none), some (0, none), some (0, none)] xs).1 (zfs [] (zfl [some (112, some 0), some (0, none), some (0, none), some (0, none)] xs).2) h) (fun x0 x1 x2 h hr => s_M_leave_40 hS k90 h16 x0 x1 x2 h hr), ⟨zap1_s (P := fun xs h => GO 63 (zfl [some (112, some 0), some (0, none), none, none] xs).1 (zfs [] (zfl [some (112, some 0), some (0, none), none, none] xs).2) h) (fun x0 h hr => s_M_leave_63 hS k90 x0 h hr), trivial⟩⟩
set_option maxRecDepth 100000 in
set_option maxHeartbeats 0 in
theorem s_M_leave_16 {l : Launch} {zi : Nat → zinfo} {r : zRes} {GO : Nat → List (Option zV) → List zV → zH → Prop} (hS : zSg l false zi (zget (999, 0, 0, 0) zc_M_leave) (zcut zu_M_leave) zin (fun _ _ => none) r GO) (k90 : ∀ (x0 x1 : Int) (h : zH) (k : (Int → zH → Option zRes)) (t : (Nat → zH → Option zRes)), M_removeGroup x0 x1 h k = some r → zKsp l false zi r 90 [0, x0, x1] h k t) (a1 a2 a3 : Int) (h : zH) (hr : M_leave_16 zin a1 a2 a3 h = some r) : GO 16 [some (112, 0), some (0, a1), some (0, a2), some (0, a3)] [] h := zit3_s (P := fun x0 x1 x2 h => GO 16 [some (112, 0), some (0, x0), some (0, x1), some (0, x2)] [] h) (fun rr hh a1 a2 a3 h hr => s_M_leave_16b hS k90 hh a1 a2 a3 h hr) zN a1 a2 a3 h hr
set_option maxRecDepth 100000 in
set_option maxHeartbeats 0 in
theorem s_M_leave {l : Launch} {zi : Nat → zinfo} {r : zRes} {GO : Nat → List (Option zV) → List zV → zH → Prop} (hS : zSg l false zi (zget (999, 0, 0, 0) zc_M_leave) (zcut zu_M_leave) zin (fun _ _ => none) r GO) (k90 : ∀ (x0 x1 : Int) (h : zH) (k : (Int → zH → Option zRes)) (t : (Nat → zH → Option zRes)), M_removeGroup x0 x1 h k = some r → zKsp l false zi r 90 [0, x0, x1] h k t) (a1 : Int) (h : zH) (hr : M_leave a1 h zin = some r) : GO 0 [some (112, 0), some (0, a1), none, none] [] h := by
  have e9 := Eq.trans (Eq.symm (qe_M_leave zin a1 h)) hr
  generalize (400 : Nat) = f9 at e9
  refine hS _ _ (zcal_s (SP := zKsp l false zi r) _ ?_) (zorc_s _ ?_) _ _ _ _ _ e9
  · exact trivial
  · exact ⟨zap3_s (P := fun xs h => GO 16 (zfl [some (112, some 0), some (0, none), some (0, none), some (0, none)] xs).1 (zfs [] (zfl [some (112, some 0), some (0, none), some (0, none), some (0, none)] xs).2) h) (fun x0 x1 x2 h hr => s_M_leave_16 hS k90 x0 x1 x2 h hr), trivial⟩
set_option maxRecDepth 100000 in
set_option maxHeartbeats 0 in
theorem s_M_fail_85 {l : Launch} {zi : Nat → zinfo} {r : zRes} {GO : Nat → List (Option zV) → List zV → zH → Prop} (hS : zSg l false zi (zget (999, 0, 0, 0) zc_M_fail) (zcut zu_M_fail) zin (fun _ _ => none) r GO) (k88 : ∀ (x0 x1 : Int) (h : zH) (k : (Int → zH → Option zRes)) (t : (Nat → zH → Option zRes)), M_blockOf x0 x1 h k = some r → zKsp l false zi r 88 [x0, x1] h k t) (k91 : ∀ (x0 : Int) (h : zH) (k : (Int → zH → Option zRes)) (t : (Nat → zH → Option zRes)), M_leave x0 h k = some r → zKsp l false zi r 91 [0, x0] h k t) {r50 : Int → Int → zH → Option zRes} (h50 : ∀ (x0 x1 : Int) (h : zH), r50 x0 x1 h = some r → GO 50 [some (112, 0), some (0, x0), none, none, none, none, some (0, x1)] [] h) (a1 a6 : Int) (h : zH) (hr : M_fail_85 zin r50 a1 a6 h = some r) : GO 85 [some (112, 0), some (0, a1), none, none, none, none, some (0, a6)] [] h := by
  have e9 := Eq.trans (Eq.symm (qe_M_fail_85 zin r50 a1 a6 h)) hr
  generalize (400 : Nat) = f9 at e9
  refine hS _ _ (zcal_s (SP := zKsp l false zi r) _ ?_) (zorc_s _ ?_) _ _ _ _ _ e9
  · exact trivial
  · exact ⟨zap2_s (P := fun xs h => GO 50 (zfl [some (112, some 0), some (0, none), none, none, none, none, some (0, none)] xs).1 (zfs [] (zfl [some (112, some 0), some (0, none), none, none, none, none, some (0, none)] xs).2) h) h50, trivial⟩
set_option maxRecDepth 100000 in
set_option maxHeartbeats 0 in
theorem s_M_fail_50b {l : Launch} {zi : Nat → zinfo} {r : zRes} {GO : Nat → List (Option zV) → List zV → zH → Prop} (hS : zSg l false zi (zget (999, 0, 0, 0) zc_M_fail) (zcut zu_M_fail) zin (fun _ _ => none) r GO) (k88 : ∀ (x0 x1 : Int) (h : zH) (k : (Int → zH → Option zRes)) (t : (Nat → zH → Option zRes)), M_blockOf x0 x1 h k = some r → zKsp l false zi r 88 [x0, x1] h k t) (k91 : ∀ (x0 : Int) (h : zH) (k : (Int → zH → Option zRes)) (t : (Nat → zH → Option zRes)), M_leave x0 h k = some r → zKsp l false zi r 91 [0, x0] h k t) {r50 : Int → Int → zH → Option zRes} (h50 : ∀ (x0 x1 : Int) (h : zH), r50 x0 x1 h = some r → GO 50 [some (112, 0), some (0, x0), none, none, none, none, some (0, x1)] [] h) (a1 a6 : Int) (h : zH) (hr : M_fail_50b zin r50 a1 a6 h = some r) : GO 50 [some (112, 0), some (0, a1), none, none, none, none, some (0, a6)] [] h := by
  have e9 := Eq.trans (Eq.symm (qe_M_fail_50b zin r50 a1 a6 h)) hr
  generalize (400 : Nat) = f9 at e9
  refine hS _ _ (zcal_s (SP := zKsp l false zi r) _ ?_) (zorc_s _ ?_) _ _ _ _ _ e9
  · exact ⟨zca2_s (SP := fun xs h k t => zKsp l false zi r 88 (zfc [none, none] xs) h k t) k88, ⟨zca1_s (SP := fun xs h k t => zKsp l false zi r 91 (zfc [some 0, none] xs) h k t) k91, trivial⟩⟩
  · exact ⟨zap2_s (P := fun xs h => GO 85 (zfl [some (112, some 0), some (0, none), none, none, none, none, some (0, none)] xs).1 (zfs [] (zfl [some (112, some 0), some (0, none), none, none, none, none, some (0, none)] xs).2) h) (fun x0 x1 h hr => s_M_fail_85 hS k88 k91 h50 x0 x1 h hr), trivial⟩
set_option maxRecDepth 100000 in
set_option maxHeartbeats 0 in
theorem s_M_fail_50 {l : Launch} {zi : Nat → zinfo} {r : zRes} {GO : Nat → List (Option zV) → List zV → zH → Prop} (hS : zSg l false zi (zget (999, 0, 0, 0) zc_M_fail) (zcut zu_M_fail) zin (fun _ _ => none) r GO) (k88 : ∀ (x0 x1 : Int) (h : zH) (k : (Int → zH → Option zRes)) (t : (Nat → zH → Option zRes)), M_blockOf x0 x1 h k = some r → zKsp l false zi r 88 [x0, x1] h k t) (k91 : ∀ (x0 : Int) (h : zH) (k : (Int → zH → Option zRes)) (t : (Nat → zH → Option zRes)), M_leave x0 h k = some r → zKsp l false zi r 91 [0, x0] h k t) (a1 a6 : Int) (h : zH) (hr : M_fail_50 zin a1 a6 h = some r) : GO 50 [some (112, 0), some (0, a1), none, none, none, none, some (0, a6)] [] h := zit2_s (P := fun x0 x1 h => GO 50 [some (112, 0), some (0, x0), none, none, none, none, some (0, x1)] [] h) (fun rr hh a1 a6 h hr => s_M_fail_50b hS k88 k91 hh a1 a6 h hr) zN a1 a6 h hr
set_option maxRecDepth 100000 in
set_option maxHeartbeats 0 in
theorem s_M_fail {l : Launch} {zi : Nat → zinfo} {r : zRes} {GO : Nat → List (Option zV) → List zV → zH → Prop} (hS : zSg l false zi (zget (999, 0, 0, 0) zc_M_fail) (zcut zu_M_fail) zin (fun _ _ => none) r GO) (k88 : ∀ (x0 x1 : Int) (h : zH) (k : (Int → zH → Option zRes)) (t : (Nat → zH → Option zRes)), M_blockOf x0 x1 h k = some r → zKsp l false zi r 88 [x0, x1] h k t) (k91 : ∀ (x0 : Int) (h : zH) (k : (Int → zH → Option zRes)) (t : (Nat → zH → Option zRes)), M_leave x0 h k = some r → zKsp l false zi r 91 [0, x0] h k t) (a1 a2 a3 a4 a5 : Int) (h : zH) (hr : M_fail a1 a2 a3 a4 a5 h zin = some r) : GO 0 [some (112, 0), some (0, a1), some (0, a2), some (0, a3), some (0, a4), some (0, a5), none] [] h := by
  have e9 := Eq.trans (Eq.symm (qe_M_fail zin a1 a2 a3 a4 a5 h)) hr
  generalize (400 : Nat) = f9 at e9
  refine hS _ _ (zcal_s (SP := zKsp l false zi r) _ ?_) (zorc_s _ ?_) _ _ _ _ _ e9
  · exact trivial
  · exact ⟨zap2_s (P := fun xs h => GO 50 (zfl [some (112, some 0), some (0, none), none, none, none, none, some (0, none)] xs).1 (zfs [] (zfl [some (112, some 0), some (0, none), none, none, none, none, some (0, none)] xs).2) h) (fun x0 x1 h hr => s_M_fail_50 hS k88 k91 x0 x1 h hr), trivial⟩
set_option maxRecDepth 100000 in
set_option maxHeartbeats 0 in
theorem s_M_threadCell {l : Launch} {zi : Nat → zinfo} {r : zRes} {GO : Nat → List (Option zV) → List zV → zH → Prop} (hS : zSg l false zi (zget (999, 0, 0, 0) zc_M_threadCell) (zcut zu_M_threadCell) zin (fun _ _ => none) r GO) (a1 a2 : Int) (h : zH) (hr : M_threadCell a1 a2 h zin = some r) : GO 0 [some (112, 0), some (0, a1), some (0, a2)] [] h := by
  have e9 := Eq.trans (Eq.symm (qe_M_threadCell zin a1 a2 h)) hr
  generalize (400 : Nat) = f9 at e9
  refine hS _ _ (zcal_s (SP := zKsp l false zi r) _ ?_) (zorc_s _ ?_) _ _ _ _ _ e9
  · exact trivial
  · exact trivial
set_option maxRecDepth 100000 in
set_option maxHeartbeats 0 in
theorem s_M_count_41 {l : Launch} {zi : Nat → zinfo} {r : zRes} {GO : Nat → List (Option zV) → List zV → zH → Prop} (hS : zSg l false zi (zget (999, 0, 0, 0) zc_M_count) (zcut zu_M_count) zin (fun _ _ => none) r GO) (k93 : ∀ (x0 x1 : Int) (h : zH) (k : (Int → zH → Option zRes)) (t : (Nat → zH → Option zRes)), M_threadCell x0 x1 h k = some r → zKsp l false zi r 93 [0, x0, x1] h k t) {r5 : Int → Int → Int → Int → zH → Option zRes} (h5 : ∀ (x0 x1 x2 x3 : Int) (h : zH), r5 x0 x1 x2 x3 h = some r → GO 5 [some (112, 0), some (0, x0), some (0, x1), some (0, x2), some (0, x3)] [] h) (a1 a2 a4 t0 t1 : Int) (h : zH) (hr : M_count_41 zin r5 a1 a2 a4 t0 t1 h = some r) : GO 41 [some (112, 0), some (0, a1), some (0, a2), none, some (0, a4)] [(0, t0), (0, t1)] h := by
  have e9 := Eq.trans (Eq.symm (qe_M_count_41 zin r5 a1 a2 a4 t0 t1 h)) hr
  generalize (400 : Nat) = f9 at e9
  refine hS _ _ (zcal_s (SP := zKsp l false zi r) _ ?_) (zorc_s _ ?_) _ _ _ _ _ e9
  · exact trivial
  · exact ⟨zap4_s (P := fun xs h => GO 5 (zfl [some (112, some 0), some (0, none), some (0, none), some (0, none), some (0, none)] xs).1 (zfs [] (zfl [some (112, some 0), some (0, none), some (0, none), some (0, none), some (0, none)] xs).2) h) h5, trivial⟩
set_option maxRecDepth 100000 in
set_option maxHeartbeats 0 in
theorem s_M_count_5b {l : Launch} {zi : Nat → zinfo} {r : zRes} {GO : Nat → List (Option zV) → List zV → zH → Prop} (hS : zSg l false zi (zget (999, 0, 0, 0) zc_M_count) (zcut zu_M_count) zin (fun _ _ => none) r GO) (k93 : ∀ (x0 x1 : Int) (h : zH) (k : (Int → zH → Option zRes)) (t : (Nat → zH → Option zRes)), M_threadCell x0 x1 h k = some r → zKsp l false zi r 93 [0, x0, x1] h k t) {r5 : Int → Int → Int → Int → zH → Option zRes} (h5 : ∀ (x0 x1 x2 x3 : Int) (h : zH), r5 x0 x1 x2 x3 h = some r → GO 5 [some (112, 0), some (0, x0), some (0, x1), some (0, x2), some (0, x3)] [] h) (a1 a2 a3 a4 : Int) (h : zH) (hr : M_count_5b zin r5 a1 a2 a3 a4 h = some r) : GO 5 [some (112, 0), some (0, a1), some (0, a2), some (0, a3), some (0, a4)] [] h := by
  have e9 := Eq.trans (Eq.symm (qe_M_count_5b zin r5 a1 a2 a3 a4 h)) hr
  generalize (400 : Nat) = f9 at e9
  refine hS _ _ (zcal_s (SP := zKsp l false zi r) _ ?_) (zorc_s _ ?_) _ _ _ _ _ e9
  · exact ⟨zca2_s (SP := fun xs h k t => zKsp l false zi r 93 (zfc [some 0, none, none] xs) h k t) k93, trivial⟩
  · exact ⟨zap5_s (P := fun xs h => GO 41 (zfl [some (112, some 0), some (0, none), some (0, none), none, some (0, none)] xs).1 (zfs [(0, none), (0, none)] (zfl [some (112, some 0), some (0, none), some (0, none), none, some (0, none)] xs).2) h) (fun x0 x1 x2 x3 x4 h hr => s_M_count_41 hS k93 h5 x0 x1 x2 x3 x4 h hr), trivial⟩
set_option maxRecDepth 100000 in
set_option maxHeartbeats 0 in
theorem s_M_count_5 {l : Launch} {zi : Nat → zinfo} {r : zRes} {GO : Nat → List (Option zV) → List zV → zH → Prop} (hS : zSg l false zi (zget (999, 0, 0, 0) zc_M_count) (zcut zu_M_count) zin (fun _ _ => none) r GO) (k93 : ∀ (x0 x1 : Int) (h : zH) (k : (Int → zH → Option zRes)) (t : (Nat → zH → Option zRes)), M_threadCell x0 x1 h k = some r → zKsp l false zi r 93 [0, x0, x1] h k t) (a1 a2 a3 a4 : Int) (h : zH) (hr : M_count_5 zin a1 a2 a3 a4 h = some r) : GO 5 [some (112, 0), some (0, a1), some (0, a2), some (0, a3), some (0, a4)] [] h := zit4_s (P := fun x0 x1 x2 x3 h => GO 5 [some (112, 0), some (0, x0), some (0, x1), some (0, x2), some (0, x3)] [] h) (fun rr hh a1 a2 a3 a4 h hr => s_M_count_5b hS k93 hh a1 a2 a3 a4 h hr) zN a1 a2 a3 a4 h hr
set_option maxRecDepth 100000 in
set_option maxHeartbeats 0 in
theorem s_M_count {l : Launch} {zi : Nat → zinfo} {r : zRes} {GO : Nat → List (Option zV) → List zV → zH → Prop} (hS : zSg l false zi (zget (999, 0, 0, 0) zc_M_count) (zcut zu_M_count) zin (fun _ _ => none) r GO) (k93 : ∀ (x0 x1 : Int) (h : zH) (k : (Int → zH → Option zRes)) (t : (Nat → zH → Option zRes)), M_threadCell x0 x1 h k = some r → zKsp l false zi r 93 [0, x0, x1] h k t) (a1 a2 : Int) (h : zH) (hr : M_count a1 a2 h zin = some r) : GO 0 [some (112, 0), some (0, a1), some (0, a2), none, none] [] h := by
  have e9 := Eq.trans (Eq.symm (qe_M_count zin a1 a2 h)) hr
  generalize (400 : Nat) = f9 at e9
  refine hS _ _ (zcal_s (SP := zKsp l false zi r) _ ?_) (zorc_s _ ?_) _ _ _ _ _ e9
  · exact trivial
  · exact ⟨zap4_s (P := fun xs h => GO 5 (zfl [some (112, some 0), some (0, none), some (0, none), some (0, none), some (0, none)] xs).1 (zfs [] (zfl [some (112, some 0), some (0, none), some (0, none), some (0, none), some (0, none)] xs).2) h) (fun x0 x1 x2 x3 h hr => s_M_count_5 hS k93 x0 x1 x2 x3 h hr), trivial⟩
set_option maxRecDepth 100000 in
set_option maxHeartbeats 0 in
theorem s_M_lookAt_24 {l : Launch} {zi : Nat → zinfo} {r : zRes} {GO : Nat → List (Option zV) → List zV → zH → Prop} (hS : zSg l false zi (zget (999, 0, 0, 0) zc_M_lookAt) (zcut zu_M_lookAt) zin (fun _ _ => none) r GO) (k91 : ∀ (x0 : Int) (h : zH) (k : (Int → zH → Option zRes)) (t : (Nat → zH → Option zRes)), M_leave x0 h k = some r → zKsp l false zi r 91 [0, x0] h k t) (k92 : ∀ (x0 x1 x2 x3 x4 : Int) (h : zH) (k : (Int → zH → Option zRes)) (t : (Nat → zH → Option zRes)), M_fail x0 x1 x2 x3 x4 h k = some r → zKsp l false zi r 92 [0, x0, x1, x2, x3, x4] h k t) (k93 : ∀ (x0 x1 : Int) (h : zH) (k : (Int → zH → Option zRes)) (t : (Nat → zH → Option zRes)), M_threadCell x0 x1 h k = some r → zKsp l false zi r 93 [0, x0, x1] h k t) (k94 : ∀ (x0 x1 : Int) (h : zH) (k : (Int → zH → Option zRes)) (t : (Nat → zH → Option zRes)), M_count x0 x1 h k = some r → zKsp l false zi r 94 [0, x0, x1] h k t) (h : zH) (hr : M_lookAt_24 zin h = some r) : GO 24 [none, none, none, none, none, none, none] [] h := by
  have e9 := Eq.trans (Eq.symm (qe_M_lookAt_24 zin h)) hr
  generalize (400 : Nat) = f9 at e9
  refine hS _ _ (zcal_s (SP := zKsp l false zi r) _ ?_) (zorc_s _ ?_) _ _ _ _ _ e9
  · exact trivial
  · exact trivial
set_option maxRecDepth 100000 in
set_option maxHeartbeats 0 in
theorem s_M_lookAt_133 {l : Launch} {zi : Nat → zinfo} {r : zRes} {GO : Nat → List (Option zV) → List zV → zH → Prop} (hS : zSg l false zi (zget (999, 0, 0, 0) zc_M_lookAt) (zcut zu_M_lookAt) zin (fun _ _ => none) r GO) (k91 : ∀ (x0 : Int) (h : zH) (k : (Int → zH → Option zRes)) (t : (Nat → zH → Option zRes)), M_leave x0 h k = some r → zKsp l false zi r 91 [0, x0] h k t) (k92 : ∀ (x0 x1 x2 x3 x4 : Int) (h : zH) (k : (Int → zH → Option zRes)) (t : (Nat → zH → Option zRes)), M_fail x0 x1 x2 x3 x4 h k = some r → zKsp l false zi r 92 [0, x0, x1, x2, x3, x4] h k t) (k93 : ∀ (x0 x1 : Int) (h : zH) (k : (Int → zH → Option zRes)) (t : (Nat → zH → Option zRes)), M_threadCell x0 x1 h k = some r → zKsp l false zi r 93 [0, x0, x1] h k t) (k94 : ∀ (x0 x1 : Int) (h : zH) (k : (Int → zH → Option zRes)) (t : (Nat → zH → Option zRes)), M_count x0 x1 h k = some r → zKsp l false zi r 94 [0, x0, x1] h k t) {r66 : Int → Int → Int → Int → Int → zH → Option zRes} (h66 : ∀ (x0 x1 x2 x3 x4 : Int) (h : zH), r66 x0 x1 x2 x3 x4 h = some r → GO 66 [some (112, 0), some (0, x0), some (0, x1), some (0, x2), some (0, x3), some (0, x4), none] [] h) (a1 a2 a3 a4 a5 : Int) (h : zH) (hr : M_lookAt_133 zin r66 a1 a2 a3 a4 a5 h = some r) : GO 133 [some (112, 0), some (0, a1), some (0, a2), some (0, a3), some (0, a4), some (0, a5), none] [] h := by
  have e9 := Eq.trans (Eq.symm (qe_M_lookAt_133 zin r66 a1 a2 a3 a4 a5 h)) hr
  generalize (400 : Nat) = f9 at e9
  refine hS _ _ (zcal_s (SP := zKsp l false zi r) _ ?_) (zorc_s _ ?_) _ _ _ _ _ e9
  · exact trivial
  · exact ⟨zap5_s (P := fun xs h => GO 66 (zfl [some (112, some 0), some (0, none), some (0, none), some (0, none), some (0, none), some (0, none), none] xs).1 (zfs [] (zfl [some (112, some 0), some (0, none), some (0, none), some (0, none), some (0, none), some (0, none), none] xs).2) h) h66, trivial⟩
set_option maxRecDepth 100000 in
set_option maxHeartbeats 0 in
theorem s_M_lookAt_128 {l : Launch} {zi : Nat → zinfo} {r : zRes} {GO : Nat → List (Option zV) → List zV → zH → Prop} (hS : zSg l false zi (zget (999, 0, 0, 0) zc_M_lookAt) (zcut zu_M_lookAt) zin (fun _ _ => none) r GO) (k91 : ∀ (x0 : Int) (h : zH) (k : (Int → zH → Option zRes)) (t : (Nat → zH → Option zRes)), M_leave x0 h k = some r → zKsp l false zi r 91 [0, x0] h k t) (k92 : ∀ (x0 x1 x2 x3 x4 : Int) (h : zH) (k : (Int → zH → Option zRes)) (t : (Nat → zH → Option zRes)), M_fail x0 x1 x2 x3 x4 h k = some r → zKsp l false zi r 92 [0, x0, x1, x2, x3, x4] h k t) (k93 : ∀ (x0 x1 : Int) (h : zH) (k : (Int → zH → Option zRes)) (t : (Nat → zH → Option zRes)), M_threadCell x0 x1 h k = some r → zKsp l false zi r 93 [0, x0, x1] h k t) (k94 : ∀ (x0 x1 : Int) (h : zH) (k : (Int → zH → Option zRes)) (t : (Nat → zH → Option zRes)), M_count x0 x1 h k = some r → zKsp l false zi r 94 [0, x0, x1] h k t) {r66 : Int → Int → Int → Int → Int → zH → Option zRes} (h66 : ∀ (x0 x1 x2 x3 x4 : Int) (h : zH), r66 x0 x1 x2 x3 x4 h = some r → GO 66 [some (112, 0), some (0, x0), some (0, x1), some (0, x2), some (0, x3), some (0, x4), none] [] h) (a1 a2 a5 t0 : Int) (h : zH) (hr : M_lookAt_128 zin r66 a1 a2 a5 t0 h = some r) : GO 128 [some (112, 0), some (0, a1), some (0, a2), none, none, some (0, a5), none] [(0, t0)] h := by
  have e9 := Eq.trans (Eq.symm (qe_M_lookAt_128 zin r66 a1 a2 a5 t0 h)) hr
  generalize (400 : Nat) = f9 at e9
  refine hS _ _ (zcal_s (SP := zKsp l false zi r) _ ?_) (zorc_s _ ?_) _ _ _ _ _ e9
  · exact trivial
  · exact ⟨zap5_s (P := fun xs h => GO 133 (zfl [some (112, some 0), some (0, none), some (0, none), some (0, none), some (0, none), some (0, none), none] xs).1 (zfs [] (zfl [some (112, some 0), some (0, none), some (0, none), some (0, none), some (0, none), some (0, none), none] xs).2) h) (fun x0 x1 x2 x3 x4 h hr => s_M_lookAt_133 hS k91 k92 k93 k94 h66 x0 x1 x2 x3 x4 h hr), trivial⟩
set_option maxRecDepth 100000 in
set_option maxHeartbeats 0 in
theorem s_M_lookAt_123 {l : Launch} {zi : Nat → zinfo} {r : zRes} {GO : Nat → List (Option zV) → List zV → zH → Prop} (hS : zSg l false zi (zget (999, 0, 0, 0) zc_M_lookAt) (zcut zu_M_lookAt) zin (fun _ _ => none) r GO) (k91 : ∀ (x0 : Int) (h : zH) (k : (Int → zH → Option zRes)) (t : (Nat → zH → Option zRes)), M_leave x0 h k = some r → zKsp l false zi r 91 [0, x0] h k t) (k92 : ∀ (x0 x1 x2 x3 x4 : Int) (h : zH) (k : (Int → zH → Option zRes)) (t : (Nat → zH → Option zRes)), M_fail x0 x1 x2 x3 x4 h k = some r → zKsp l false zi r 92 [0, x0, x1, x2, x3, x4] h k t) (k93 : ∀ (x0 x1 : Int) (h : zH) (k : (Int → zH → Option zRes)) (t : (Nat → zH → Option zRes)), M_threadCell x0 x1 h k = some r → zKsp l false zi r 93 [0, x0, x1] h k t) (k94 : ∀ (x0 x1 : Int) (h : zH) (k : (Int → zH → Option zRes)) (t : (Nat → zH → Option zRes)), M_count x0 x1 h k = some r → zKsp l false zi r 94 [0, x0, x1] h k t) {r66 : Int → Int → Int → Int → Int → zH → Option zRes} (h66 : ∀ (x0 x1 x2 x3 x4 : Int) (h : zH), r66 x0 x1 x2 x3 x4 h = some r → GO 66 [some (112, 0), some (0, x0), some (0, x1), some (0, x2), some (0, x3), some (0, x4), none] [] h) (a1 a2 a5 : Int) (h : zH) (hr : M_lookAt_123 zin r66 a1 a2 a5 h = some r) : GO 123 [some (112, 0), some (0, a1), some (0, a2), none, none, some (0, a5), none] [] h := by
  have e9 := Eq.trans (Eq.symm (qe_M_lookAt_123 zin r66 a1 a2 a5 h)) hr
  generalize (400 : Nat) = f9 at e9
  refine hS _ _ (zcal_s (SP := zKsp l false zi r) _ ?_) (zorc_s _ ?_) _ _ _ _ _ e9
  · exact trivial
  · exact ⟨zap4_s (P := fun xs h => GO 128 (zfl [some (112, some 0), some (0, none), some (0, none), none, none, some (0, none), none] xs).1 (zfs [(0, none)] (zfl [some (112, some 0), some (0, none), some (0, none), none, none, some (0, none), none] xs).2) h) (fun x0 x1 x2 x3 h hr => s_M_lookAt_128 hS k91 k92 k93 k94 h66 x0 x1 x2 x3 h hr), trivial⟩
set_option maxRecDepth 100000 in
set_option maxHeartbeats 0 in
theorem s_M_lookAt_127 {l : Launch} {zi : Nat → zinfo} {r : zRes} {GO : Nat → List (Option zV) → List zV → zH → Prop} (hS : zSg l false zi (zget (999, 0, 0, 0) zc_M_lookAt) (zcut zu_M_lookAt) zin (fun _ _ => none) r GO) (k91 : ∀ (x0 : Int) (h : zH) (k : (Int → zH → Option zRes)) (t : (Nat → zH → Option zRes)), M_leave x0 h k = some r → zKsp l false zi r 91 [0, x0] h k t) (k92 : ∀ (x0 x1 x2 x3 x4 : Int) (h : zH) (k : (Int → zH → Option zRes)) (t : (Nat → zH → Option zRes)), M_fail x0 x1 x2 x3 x4 h k = some r → zKsp l false zi r 92 [0, x0, x1, x2, x3, x4] h k t) (k93 : ∀ (x0 x1 : Int) (h : zH) (k : (Int → zH → Option zRes)) (t : (Nat → zH → Option zRes)), M_threadCell x0 x1 h k = some r → zKsp l false zi r 93 [0, x0, x1] h k t) (k94 : ∀ (x0 x1 : Int) (h : zH) (k : (Int → zH → Option zRes)) (t : (Nat → zH → Option zRes)), M_count x0 x1 h k = some r → zKsp l false zi r 94 [0, x0, x1] h k t) {r66 : Int → Int → Int → Int → Int → zH → Option zRes} (h66 : ∀ (x0 x1 x2 x3 x4 : Int) (h : zH), r66 x0 x1 x2 x3 x4 h = some r → GO 66 [some (112, 0), some (0, x0), some (0, x1), some (0, x2), some (0, x3), some (0, x4), none] [] h) (a1 a2 a5 : Int) (h : zH) (hr : M_lookAt_127 zin r66 a1 a2 a5 h = some r) : GO 127 [some (112, 0), some (0, a1), some (0, a2), none, none, some (0, a5), none] [] h := by
  have e9 := Eq.trans (Eq.symm (qe_M_lookAt_127 zin r66 a1 a2 a5 h)) hr
  generalize (400 : Nat) = f9 at e9
  refine hS _ _ (zcal_s (SP := zKsp l false zi r) _ ?_) (zorc_s _ ?_) _ _ _ _ _ e9
  · exact trivial
  · exact ⟨zap4_s (P := fun xs h => GO 128 (zfl [some (112, some 0), some (0, none), some (0, none), none, none, some (0, none), none] xs).1 (zfs [(0, none)] (zfl [some (112, some 0), some (0, none), some (0, none), none, none, some (0, none), none] xs).2) h) (fun x0 x1 x2 x3 h hr => s_M_lookAt_128 hS k91 k92 k93 k94 h66 x0 x1 x2 x3 h hr), trivial⟩
set_option maxRecDepth 100000 in
set_option maxHeartbeats 0 in
theorem s_M_lookAt_278 {l : Launch} {zi : Nat → zinfo} {r : zRes} {GO : Nat → List (Option zV) → List zV → zH → Prop} (hS : zSg l false zi (zget (999, 0, 0, 0) zc_M_lookAt) (zcut zu_M_lookAt) zin (fun _ _ => none) r GO) (k91 : ∀ (x0 : Int) (h : zH) (k : (Int → zH → Option zRes)) (t : (Nat → zH → Option zRes)), M_leave x0 h k = some r → zKsp l false zi r 91 [0, x0] h k t) (k92 : ∀ (x0 x1 x2 x3 x4 : Int) (h : zH) (k : (Int → zH → Option zRes)) (t : (Nat → zH → Option zRes)), M_fail x0 x1 x2 x3 x4 h k = some r → zKsp l false zi r 92 [0, x0, x1, x2, x3, x4] h k t) (k93 : ∀ (x0 x1 : Int) (h : zH) (k : (Int → zH → Option zRes)) (t : (Nat → zH → Option zRes)), M_threadCell x0 x1 h k = some r → zKsp l false zi r 93 [0, x0, x1] h k t) (k94 : ∀ (x0 x1 : Int) (h : zH) (k : (Int → zH → Option zRes)) (t : (Nat → zH → Option zRes)), M_count x0 x1 h k = some r → zKsp l false zi r 94 [0, x0, x1] h k t) {r191 : Int → Int → Int → zH → Option zRes} (h191 : ∀ (x0 x1 x2 : Int) (h : zH), r191 x0 x1 x2 h = some r → GO 191 [some (112, 0), some (0, x0), some (0, x1), none, none, some (0, x2), none] [] h) (a1 a2 a5 : Int) (h : zH) (hr : M_lookAt_278 zin r191 a1 a2 a5 h = some r) : GO 278 [some (112, 0), some (0, a1), some (0, a2), none, none, some (0, a5), none] [] h := by
  have e9 := Eq.trans (Eq.symm (qe_M_lookAt_278 zin r191 a1 a2 a5 h)) hr
  generalize (400 : Nat) = f9 at e9
  refine hS _ _ (zcal_s (SP := zKsp l false zi r) _ ?_) (zorc_s _ ?_) _ _ _ _ _ e9
  · exact trivial
  · exact ⟨zap3_s (P := fun xs h => GO 191 (zfl [some (112, some 0), some (0, none), some (0, none), none, none, some (0, none), none] xs).1 (zfs [] (zfl [some (112, some 0), some (0, none), some (0, none), none, none, some (0, none), none] xs).2) h) h191, trivial⟩
set_option maxRecDepth 100000 in
set_option maxHeartbeats 0 in
theorem s_M_lookAt_277 {l : Launch} {zi : Nat → zinfo} {r : zRes} {GO : Nat → List (Option zV) → List zV → zH → Prop} (hS : zSg l false zi (zget (999, 0, 0, 0) zc_M_lookAt) (zcut zu_M_lookAt) zin (fun _ _ => none) r GO) (k91 : ∀ (x0 : Int) (h : zH) (k : (Int → zH → Option zRes)) (t : (Nat → zH → Option zRes)), M_leave x0 h k = some r → zKsp l false zi r 91 [0, x0] h k t) (k92 : ∀ (x0 x1 x2 x3 x4 : Int) (h : zH) (k : (Int → zH → Option zRes)) (t : (Nat → zH → Option zRes)), M_fail x0 x1 x2 x3 x4 h k = some r → zKsp l false zi r 92 [0, x0, x1, x2, x3, x4] h k t) (k93 : ∀ (x0 x1 : Int) (h : zH) (k : (Int → zH → Option zRes)) (t : (Nat → zH → Option zRes)), M_threadCell x0 x1 h k = some r → zKsp l false zi r 93 [0, x0, x1] h k t) (k94 : ∀ (x0 x1 : Int) (h : zH) (k : (Int → zH → Option zRes)) (t : (Nat → zH → Option zRes)), M_count x0 x1 h k = some r → zKsp l false zi r 94 [0, x0, x1] h k t) {r191 : Int → Int → Int → zH → Option zRes} (h191 : ∀ (x0 x1 x2 : Int) (h : zH), r191 x0 x1 x2 h = some r → GO 191 [some (112, 0), some (0, x0), some (0, x1), none, none, some (0, x2), none] [] h) (a1 a2 a5 t0 t1 : Int) (h : zH) (hr : M_lookAt_277 zin r191 a1 a2 a5 t0 t1 h = some r) : GO 277 [some (112, 0), some (0, a1), some (0, a2), none, none, some (0, a5), none] [(0, t0), (0, t1), (189, 0)] h := by
  have e9 := Eq.trans (Eq.symm (qe_M_lookAt_277 zin r191 a1 a2 a5 t0 t1 h)) hr
  generalize (400 : Nat) = f9 at e9
  refine hS _ _ (zcal_s (SP := zKsp l false zi r) _ ?_) (zorc_s _ ?_) _ _ _ _ _ e9
  · exact trivial
  · exact ⟨zap3_s (P := fun xs h => GO 278 (zfl [some (112, some 0), some (0, none), some (0, none), none, none, some (0, none), none] xs).1 (zfs [] (zfl [some (112, some 0), some (0, none), some (0, none), none, none, some (0, none), none] xs).2) h) (fun x0 x1 x2 h hr => s_M_lookAt_278 hS k91 k92 k93 k94 h191 x0 x1 x2 h hr), trivial⟩
set_option maxRecDepth 100000 in
set_option maxHeartbeats 0 in
theorem s_M_lookAt_191b {l : Launch} {zi : Nat → zinfo} {r : zRes} {GO : Nat → List (Option zV) → List zV → zH → Prop} (hS : zSg l false zi (zget (999, 0, 0, 0) zc_M_lookAt) (zcut zu_M_lookAt) zin (fun _ _ => none) r GO) (k91 : ∀ (x0 : Int) (h : zH) (k : (Int → zH → Option zRes)) (t : (Nat → zH → Option zRes)), M_leave x0 h k = some r → zKsp l false zi r 91 [0, x0] h k t) (k92 : ∀ (x0 x1 x2 x3 x4 : Int) (h : zH) (k : (Int → zH → Option zRes)) (t : (Nat → zH → Option zRes)), M_fail x0 x1 x2 x3 x4 h k = some r → zKsp l false zi r 92 [0, x0, x1, x2, x3, x4] h k t) (k93 : ∀ (x0 x1 : Int) (h : zH) (k : (Int → zH → Option zRes)) (t : (Nat → zH → Option zRes)), M_threadCell x0 x1 h k = some r → zKsp l false zi r 93 [0, x0, x1] h k t) (k94 : ∀ (x0 x1 : Int) (h : zH) (k : (Int → zH → Option zRes)) (t : (Nat → zH → Option zRes)), M_count x0 x1 h k = some r → zKsp l false zi r 94 [0, x0, x1] h k t) {r191 : Int → Int → Int → zH → Option zRes} (h191 : ∀ (x0 x1 x2 : Int) (h : zH), r191 x0 x1 x2 h = some r → GO 191 [some (112, 0), some (0, x0), some (0, x1), none, none, some (0, x2), none] [] h) (a1 a2 a5 : Int) (h : zH) (hr : M_lookAt_191b zin r191 a1 a2 a5 h = some r) : GO 191 [some (112, 0), some (0, a1), some (0, a2), none, none, some (0, a5), none] [] h := by
  have e9 := Eq.trans (Eq.symm (qe_M_lookAt_191b zin r191 a1 a2 a5 h)) hr
  generalize (400 : Nat) = f9 at e9
  refine hS _ _ (zcal_s (SP := zKsp l false zi r) _ ?_) (zorc_s _ ?_) _ _ _ _ _ e9
  · exact ⟨zca2_s (SP := fun xs h k t => zKsp l false zi r 93 (zfc [some 0, none, none] xs) h k t) k93, trivial⟩
  · exact ⟨zap5_s (P := fun xs h => GO 277 (zfl [some (112, some 0), some (0, none), some (0, none), none, none, some (0, none), none] xs).1 (zfs [(0, none), (0, none), (189, some 0)] (zfl [some (112, some 0), some (0, none), some (0, none), none, none, some (0, none), none] xs).2) h) (fun x0 x1 x2 x3 x4 h hr => s_M_lookAt_277 hS k91 k92 k93 k94 h191 x0 x1 x2 x3 x4 h hr), ⟨zap3_s (P := fun xs h => GO 278 (zfl [some (112, some 0), some (0, none), some (0, none), none, none, some (0, none), none] xs).1 (zfs [] (zfl [some (112, some 0), some (0, none), some (0, none), none, none, some (0, none), none] xs).2) h) (fun x0 x1 x2 h hr => s_M_lookAt_278 hS k91 k92 k93 k94 h191 x0 x1 x2 h hr), trivial⟩⟩
set_option maxRecDepth 100000 in
set_option maxHeartbeats 0 in
theorem s_M_lookAt_191 {l : Launch} {zi : Nat → zinfo} {r : zRes} {GO : Nat → List (Option zV) → List zV → zH → Prop} (hS : zSg l false zi (zget (999, 0, 0, 0) zc_M_lookAt) (zcut zu_M_lookAt) zin (fun _ _ => none) r GO) (k91 : ∀ (x0 : Int) (h : zH) (k : (Int → zH → Option zRes)) (t : (Nat → zH → Option zRes)), M_leave x0 h k = some r → zKsp l false zi r 91 [0, x0] h k t) (k92 : ∀ (x0 x1 x2 x3 x4 : Int) (h : zH) (k : (Int → zH → Option zRes)) (t : (Nat → zH → Option zRes)), M_fail x0 x1 x2 x3 x4 h k = some r → zKsp l false zi r 92 [0, x0, x1, x2, x3, x4] h k t) (k93 : ∀ (x0 x1 : Int) (h : zH) (k : (Int → zH → Option zRes)) (t : (Nat → zH → Option zRes)), M_threadCell x0 x1 h k = some r → zKsp l false zi r 93 [0, x0, x1] h k t) (k94 : ∀ (x0 x1 : Int) (h : zH) (k : (Int → zH → Option zRes)) (t : (Nat → zH → Option zRes)), M_count x0 x1 h k = some r → zKsp l false zi r 94 [0, x0, x1] h k t) (a1 a2 a5 : Int) (h : zH) (hr : M_lookAt_191 zin a1 a2 a5 h = some r) : GO 191 [some (112, 0), some (0, a1), some (0, a2), none, none, some (0, a5), none] [] h := zit3_s (P := fun x0 x1 x2 h => GO 191 [some (112, 0), some (0, x0), some (0, x1), none, none, some (0, x2), none] [] h) (fun rr hh a1 a2 a5 h hr => s_M_lookAt_191b hS k91 k92 k93 k94 hh a1 a2 a5 h hr) zN a1 a2 a5 h hr
set_option maxRecDepth 100000 in
set_option maxHeartbeats 0 in
theorem s_M_lookAt_66b {l : Launch} {zi : Nat → zinfo} {r : zRes} {GO : Nat → List (Option zV) → List zV → zH → Prop} (hS : zSg l false zi (zget (999, 0, 0, 0) zc_M_lookAt) (zcut zu_M_lookAt) zin (fun _ _ => none) r GO) (k91 : ∀ (x0 : Int) (h : zH) (k : (Int → zH → Option zRes)) (t : (Nat → zH → Option zRes)), M_leave x0 h k = some r → zKsp l false zi r 91 [0, x0] h k t) (k92 : ∀ (x0 x1 x2 x3 x4 : Int) (h : zH) (k : (Int → zH → Option zRes)) (t : (Nat → zH → Option zRes)), M_fail x0 x1 x2 x3 x4 h k = some r → zKsp l false zi r 92 [0, x0, x1, x2, x3, x4] h k t) (k93 : ∀ (x0 x1 : Int) (h : zH) (k : (Int → zH → Option zRes)) (t : (Nat → zH → Option zRes)), M_threadCell x0 x1 h k = some r → zKsp l false zi r 93 [0, x0, x1] h k t) (k94 : ∀ (x0 x1 : Int) (h : zH) (k : (Int → zH → Option zRes)) (t : (Nat → zH → Option zRes)), M_count x0 x1 h k = some r → zKsp l false zi r 94 [0, x0, x1] h k t) {r66 : Int → Int → Int → Int → Int → zH → Option zRes} (h66 : ∀ (x0 x1 x2 x3 x4 : Int) (h : zH), r66 x0 x1 x2 x3 x4 h = some r → GO 66 [some (112, 0), some (0, x0), some (0, x1), some (0, x2), some (0, x3), some (0, x4), none] [] h) (a1 a2 a3 a4 a5 : Int) (h : zH) (hr : M_lookAt_66b zin r66 a1 a2 a3 a4 a5 h = some r) : GO 66 [some (112, 0), some (0, a1), some (0, a2), some (0, a3), some (0, a4), some (0, a5), none] [] h := by
  have e9 := Eq.trans (Eq.symm (qe_M_lookAt_66b zin r66 a1 a2 a3 a4 a5 h)) hr
  generalize (400 : Nat) = f9 at e9
  refine hS _ _ (zcal_s (SP := zKsp l false zi r) _ ?_) (zorc_s _ ?_) _ _ _ _ _ e9
  · exact ⟨zca5_s (SP := fun xs h k t => zKsp l false zi r 92 (zfc [some 0, none, none, none, none, none] xs) h k t) k92, ⟨zca2_s (SP := fun xs h k t => zKsp l false zi r 93 (zfc [some 0, none, none] xs) h k t) k93, trivial⟩⟩
  · exact ⟨zap3_s (P := fun xs h => GO 123 (zfl [some (112, some 0), some (0, none), some (0, none), none, none, some (0, none), none] xs).1 (zfs [] (zfl [some (112, some 0), some (0, none), some (0, none), none, none, some (0, none), none] xs).2) h) (fun x0 x1 x2 h hr => s_M_lookAt_123 hS k91 k92 k93 k94 h66 x0 x1 x2 h hr), ⟨zap3_s (P := fun xs h => GO 127 (zfl [some (112, some 0), some (0, none), some (0, none), none, none, some (0, none), none] xs).1 (zfs [] (zfl [some (112, some 0), some (0, none), some (0, none), none, none, some (0, none), none] xs).2) h) (fun x0 x1 x2 h hr => s_M_lookAt_127 hS k91 k92 k93 k94 h66 x0 x1 x2 h hr), ⟨zap5_s (P := fun xs h => GO 133 (zfl [some (112, some 0), some (0, none), some (0, none), some (0, none), some (0, none), some (0, none), none] xs).1 (zfs [] (zfl [some (112, some 0), some (0, none), some (0, none), some (0, none), some (0, none), some (0, none), none] xs).2) h) (fun x0 x1 x2 x3 x4 h hr => s_M_lookAt_133 hS k91 k92 k93 k94 h66 x0 x1 x2 x3 x4 h hr), ⟨zap3_s (P := fun xs h => GO 191 (zfl [some (112, some 0), some (0, none), some (0, none), none, none, some (0, none), none] xs).1 (zfs [] (zfl [some (112, some 0), some (0, none), some (0, none), none, none, some (0, none), none] xs).2) h) (fun x0 x1 x2 h hr => s_M_lookAt_191 hS k91 k92 k93 k94 x0 x1 x2 h hr), trivial⟩⟩⟩⟩
set_option maxRecDepth 100000 in
set_option maxHeartbeats 0 in
theorem s_M_lookAt_66 {l : Launch} {zi : Nat → zinfo} {r : zRes} {GO : Nat → List (Option zV) → List zV → zH → Prop} (hS : zSg l false zi (zget (999, 0, 0, 0) zc_M_lookAt) (zcut zu_M_lookAt) zin (fun _ _ => none) r GO) (k91 : ∀ (x0 : Int) (h : zH) (k : (Int → zH → Option zRes)) (t : (Nat → zH → Option zRes)), M_leave x0 h k = some r → zKsp l false zi r 91 [0, x0] h k t) (k92 : ∀ (x0 x1 x2 x3 x4 : Int) (h : zH) (k : (Int → zH → Option zRes)) (t : (Nat → zH → Option zRes)), M_fail x0 x1 x2 x3 x4 h k = some r → zKsp l false zi r 92 [0, x0, x1, x2, x3, x4] h k t) (k93 : ∀ (x0 x1 : Int) (h : zH) (k : (Int → zH → Option zRes)) (t : (Nat → zH → Option zRes)), M_threadCell x0 x1 h k = some r → zKsp l false zi r 93 [0, x0, x1] h k t) (k94 : ∀ (x0 x1 : Int) (h : zH) (k : (Int → zH → Option zRes)) (t : (Nat → zH → Option zRes)), M_count x0 x1 h k = some r → zKsp l false zi r 94 [0, x0, x1] h k t) (a1 a2 a3 a4 a5 : Int) (h : zH) (hr : M_lookAt_66 zin a1 a2 a3 a4 a5 h = some r) : GO 66 [some (112, 0), some (0, a1), some (0, a2), some (0, a3), some (0, a4), some (0, a5), none] [] h := zit5_s (P := fun x0 x1 x2 x3 x4 h => GO 66 [some (112, 0), some (0, x0), some (0, x1), some (0, x2), some (0, x3), some (0, x4), none] [] h) (fun rr hh a1 a2 a3 a4 a5 h hr => s_M_lookAt_66b hS k91 k92 k93 k94 hh a1 a2 a3 a4 a5 h hr) zN a1 a2 a3 a4 a5 h hr
set_option maxRecDepth 100000 in
set_option maxHeartbeats 0 in
theorem s_M_lookAt {l : Launch} {zi : Nat → zinfo} {r : zRes} {GO : Nat → List (Option zV) → List zV → zH → Prop} (hS : zSg l false zi (zget (999, 0, 0, 0) zc_M_lookAt) (zcut zu_M_lookAt) zin (fun _ _ => none) r GO) (k91 : ∀ (x0 : Int) (h : zH) (k : (Int → zH → Option zRes)) (t : (Nat → zH → Option zRes)), M_leave x0 h k = some r → zKsp l false zi r 91 [0, x0] h k t) (k92 : ∀ (x0 x1 x2 x3 x4 : Int) (h : zH) (k : (Int → zH → Option zRes)) (t : (Nat → zH → Option zRes)), M_fail x0 x1 x2 x3 x4 h k = some r → zKsp l false zi r 92 [0, x0, x1, x2, x3, x4] h k t) (k93 : ∀ (x0 x1 : Int) (h : zH) (k : (Int → zH → Option zRes)) (t : (Nat → zH → Option zRes)), M_threadCell x0 x1 h k = some r → zKsp l false zi r 93 [0, x0, x1] h k t) (k94 : ∀ (x0 x1 : Int) (h : zH) (k : (Int → zH → Option zRes)) (t : (Nat → zH → Option zRes)), M_count x0 x1 h k = some r → zKsp l false zi r 94 [0, x0, x1] h k t) (a1 : Int) (h : zH) (hr : M_lookAt a1 h zin = some r) : GO 0 [some (112, 0), some (0, a1), none, none, none, none, none] [] h := by
  have e9 := Eq.trans (Eq.symm (qe_M_lookAt zin a1 h)) hr
  generalize (400 : Nat) = f9 at e9
  refine hS _ _ (zcal_s (SP := zKsp l false zi r) _ ?_) (zorc_s _ ?_) _ _ _ _ _ e9
  · exact ⟨zca1_s (SP := fun xs h k t => zKsp l false zi r 91 (zfc [some 0, none] xs) h k t) k91, ⟨zca2_s (SP := fun xs h k t => zKsp l false zi r 94 (zfc [some 0, none, none] xs) h k t) k94, trivial⟩⟩
  · exact ⟨zap0_s (P := fun xs h => GO 24 (zfl [none, none, none, none, none, none, none] xs).1 (zfs [] (zfl [none, none, none, none, none, none, none] xs).2) h) (fun  h hr => s_M_lookAt_24 hS k91 k92 k93 k94  h hr), ⟨zap5_s (P := fun xs h => GO 66 (zfl [some (112, some 0), some (0, none), some (0, none), some (0, none), some (0, none), some (0, none), none] xs).1 (zfs [] (zfl [some (112, some 0), some (0, none), some (0, none), some (0, none), some (0, none), some (0, none), none] xs).2) h) (fun x0 x1 x2 x3 x4 h hr => s_M_lookAt_66 hS k91 k92 k93 k94 x0 x1 x2 x3 x4 h hr), trivial⟩⟩
set_option maxRecDepth 100000 in
set_option maxHeartbeats 0 in
theorem s_M_hasEnded_74 {l : Launch} {zi : Nat → zinfo} {r : zRes} {GO : Nat → List (Option zV) → List zV → zH → Prop} (hS : zSg l false zi (zget (999, 0, 0, 0) zc_M_hasEnded) (zcut zu_M_hasEnded) zin (fun _ _ => none) r GO) (k93 : ∀ (x0 x1 : Int) (h : zH) (k : (Int → zH → Option zRes)) (t : (Nat → zH → Option zRes)), M_threadCell x0 x1 h k = some r → zKsp l false zi r 93 [0, x0, x1] h k t) {r19 : Int → Int → Int → Int → zH → Option zRes} (h19 : ∀ (x0 x1 x2 x3 : Int) (h : zH), r19 x0 x1 x2 x3 h = some r → GO 19 [some (112, 0), some (0, x0), some (0, x1), some (0, x2), some (0, x3)] [] h) (a1 a2 a4 t0 : Int) (h : zH) (hr : M_hasEnded_74 zin r19 a1 a2 a4 t0 h = some r) : GO 74 [some (112, 0), some (0, a1), some (0, a2), none, some (0, a4)] [(0, t0)] h := by
  have e9 := Eq.trans (Eq.symm (qe_M_hasEnded_74 zin r19 a1 a2 a4 t0 h)) hr
  generalize (400 : Nat) = f9 at e9
  refine hS _ _ (zcal_s (SP := zKsp l false zi r) _ ?_) (zorc_s _ ?_) _ _ _ _ _ e9
  · exact trivial
  · exact ⟨zap4_s (P := fun xs h => GO 19 (zfl [some (112, some 0), some (0, none), some (0, none), some (0, none), some (0, none)] xs).1 (zfs [] (zfl [some (112, some 0), some (0, none), some (0, none), some (0, none), some (0, none)] xs).2) h) h19, trivial⟩
set_option maxRecDepth 100000 in
set_option maxHeartbeats 0 in
theorem s_M_hasEnded_73 {l : Launch} {zi : Nat → zinfo} {r : zRes} {GO : Nat → List (Option zV) → List zV → zH → Prop} (hS : zSg l false zi (zget (999, 0, 0, 0) zc_M_hasEnded) (zcut zu_M_hasEnded) zin (fun _ _ => none) r GO) (k93 : ∀ (x0 x1 : Int) (h : zH) (k : (Int → zH → Option zRes)) (t : (Nat → zH → Option zRes)), M_threadCell x0 x1 h k = some r → zKsp l false zi r 93 [0, x0, x1] h k t) {r19 : Int → Int → Int → Int → zH → Option zRes} (h19 : ∀ (x0 x1 x2 x3 : Int) (h : zH), r19 x0 x1 x2 x3 h = some r → GO 19 [some (112, 0), some (0, x0), some (0, x1), some (0, x2), some (0, x3)] [] h) (a1 a2 a4 : Int) (h : zH) (hr : M_hasEnded_73 zin r19 a1 a2 a4 h = some r) : GO 73 [some (112, 0), some (0, a1), some (0, a2), none, some (0, a4)] [] h := by
  have e9 := Eq.trans (Eq.symm (qe_M_hasEnded_73 zin r19 a1 a2 a4 h)) hr
  generalize (400 : Nat) = f9 at e9
  refine hS _ _ (zcal_s (SP := zKsp l false zi r) _ ?_) (zorc_s _ ?_) _ _ _ _ _ e9
  · exact trivial
  · exact ⟨zap4_s (P := fun xs h => GO 74 (zfl [some (112, some 0), some (0, none), some (0, none), none, some (0, none)] xs).1 (zfs [(0, none)] (zfl [some (112, some 0), some (0, none), some (0, none), none, some (0, none)] xs).2) h) (fun x0 x1 x2 x3 h hr => s_M_hasEnded_74 hS k93 h19 x0 x1 x2 x3 h hr), trivial⟩
set_option maxRecDepth 100000 in
set_option maxHeartbeats 0 in
theorem s_M_hasEnded_81 {l : Launch} {zi : Nat → zinfo} {r : zRes} {GO : Nat → List (Option zV) → List zV → zH → Prop} (hS : zSg l false zi (zget (999, 0, 0, 0) zc_M_hasEnded) (zcut zu_M_hasEnded) zin (fun _ _ => none) r GO) (k93 : ∀ (x0 x1 : Int) (h : zH) (k : (Int → zH → Option zRes)) (t : (Nat → zH → Option zRes)), M_threadCell x0 x1 h k = some r → zKsp l false zi r 93 [0, x0, x1] h k t) (a3 : Int) (h : zH) (hr : M_hasEnded_81 zin a3 h = some r) : GO 81 [none, none, none, some (0, a3), none] [] h := by
  have e9 := Eq.trans (Eq.symm (qe_M_hasEnded_81 zin a3 h)) hr
  generalize (400 : Nat) = f9 at e9
  refine hS _ _ (zcal_s (SP := zKsp l false zi r) _ ?_) (zorc_s _ ?_) _ _ _ _ _ e9
  · exact trivial
  · exact trivial
set_option maxRecDepth 100000 in
set_option maxHeartbeats 0 in
theorem s_M_hasEnded_19b {l : Launch} {zi : Nat → zinfo} {r : zRes} {GO : Nat → List (Option zV) → List zV → zH → Prop} (hS : zSg l false zi (zget (999, 0, 0, 0) zc_M_hasEnded) (zcut zu_M_hasEnded) zin (fun _ _ => none) r GO) (k93 : ∀ (x0 x1 : Int) (h : zH) (k : (Int → zH → Option zRes)) (t : (Nat → zH → Option zRes)), M_threadCell x0 x1 h k = some r → zKsp l false zi r 93 [0, x0, x1] h k t) {r19 : Int → Int → Int → Int → zH → Option zRes} (h19 : ∀ (x0 x1 x2 x3 : Int) (h : zH), r19 x0 x1 x2 x3 h = some r → GO 19 [some (112, 0), some (0, x0), some (0, x1), some (0, x2), some (0, x3)] [] h) (a1 a2 a3 a4 : Int) (h : zH) (hr : M_hasEnded_19b zin r19 a1 a2 a3 a4 h = some r) : GO 19 [some (112, 0), some (0, a1), some (0, a2), some (0, a3), some (0, a4)] [] h := by
  have e9 := Eq.trans (Eq.symm (qe_M_hasEnded_19b zin r19 a1 a2 a3 a4 h)) hr
  generalize (400 : Nat) = f9 at e9
  refine hS _ _ (zcal_s (SP := zKsp l false zi r) _ ?_) (zorc_s _ ?_) _ _ _ _ _ e9
  · exact ⟨zca2_s (SP := fun xs h k t => zKsp l false zi r 93 (zfc [some 0, none, none] xs) h k t) k93, trivial⟩
  · exact ⟨zap3_s (P := fun xs h => GO 73 (zfl [some (112, some 0), some (0, none), some (0, none), none, some (0, none)] xs).1 (zfs [] (zfl [some (112, some 0), some (0, none), some (0, none), none, some (0, none)] xs).2) h) (fun x0 x1 x2 h hr => s_M_hasEnded_73 hS k93 h19 x0 x1 x2 h hr), ⟨zap4_s (P := fun xs h => GO 74 (zfl [some (112, some 0), some (0, none), some (0, none), none, some (0, none)] xs).1 (zfs [(0, none)] (zfl [some (112, some 0), some (0, none), some (0, none), none, some (0, none)] xs).2) h) (fun x0 x1 x2 x3 h hr => s_M_hasEnded_74 hS k93 h19 x0 x1 x2 x3 h hr), ⟨zap1_s (P := fun xs h => GO 81 (zfl [none, none, none, some (0, none), none] xs).1 (zfs [] (zfl [none, none, none, some (0, none), none] xs).2) h) (fun x0 h hr => s_M_hasEnded_81 hS k93 x0 h hr), trivial⟩⟩⟩
set_option maxRecDepth 100000 in
set_option maxHeartbeats 0 in
theorem s_M_hasEnded_19 {l : Launch} {zi : Nat → zinfo} {r : zRes} {GO : Nat → List (Option zV) → List zV → zH → Prop} (hS : zSg l false zi (zget (999, 0, 0, 0) zc_M_hasEnded) (zcut zu_M_hasEnded) zin (fun _ _ => none) r GO) (k93 : ∀ (x0 x1 : Int) (h : zH) (k : (Int → zH → Option zRes)) (t : (Nat → zH → Option zRes)), M_threadCell x0 x1 h k = some r → zKsp l false zi r 93 [0, x0, x1] h k t) (a1 a2 a3 a4 : Int) (h : zH) (hr : M_hasEnded_19 zin a1 a2 a3 a4 h = some r) : GO 19 [some (112, 0), some (0, a1), some (0, a2), some (0, a3), some (0, a4)] [] h := zit4_s (P := fun x0 x1 x2 x3 h => GO 19 [some (112, 0), some (0, x0), some (0, x1), some (0, x2), some (0, x3)] [] h) (fun rr hh a1 a2 a3 a4 h hr => s_M_hasEnded_19b hS k93 hh a1 a2 a3 a4 h hr) zN a1 a2 a3 a4 h hr
set_option maxRecDepth 100000 in
set_option maxHeartbeats 0 in
theorem s_M_hasEnded {l : Launch} {zi : Nat → zinfo} {r : zRes} {GO : Nat → List (Option zV) → List zV → zH → Prop} (hS : zSg l false zi (zget (999, 0, 0, 0) zc_M_hasEnded) (zcut zu_M_hasEnded) zin (fun _ _ => none) r GO) (k93 : ∀ (x0 x1 : Int) (h : zH) (k : (Int → zH → Option zRes)) (t : (Nat → zH → Option zRes)), M_threadCell x0 x1 h k = some r → zKsp l false zi r 93 [0, x0, x1] h k t) (a1 : Int) (h : zH) (hr : M_hasEnded a1 h zin = some r) : GO 0 [some (112, 0), some (0, a1), none, none, none] [] h := by
  have e9 := Eq.trans (Eq.symm (qe_M_hasEnded zin a1 h)) hr
  generalize (400 : Nat) = f9 at e9
  refine hS _ _ (zcal_s (SP := zKsp l false zi r) _ ?_) (zorc_s _ ?_) _ _ _ _ _ e9
  · exact trivial
  · exact ⟨zap4_s (P := fun xs h => GO 19 (zfl [some (112, some 0), some (0, none), some (0, none), some (0, none), some (0, none)] xs).1 (zfs [] (zfl [some (112, some 0), some (0, none), some (0, none), some (0, none), some (0, none)] xs).2) h) (fun x0 x1 x2 x3 h hr => s_M_hasEnded_19 hS k93 x0 x1 x2 x3 h hr), trivial⟩
set_option maxRecDepth 100000 in
set_option maxHeartbeats 0 in
theorem s_M_writeFirst_35b {l : Launch} {zi : Nat → zinfo} {r : zRes} {GO : Nat → List (Option zV) → List zV → zH → Prop} (hS : zSg l false zi (zget (999, 0, 0, 0) zc_M_writeFirst) (zcut zu_M_writeFirst) zin (fun _ _ => none) r GO) {r35 : Int → Int → zH → Option zRes} (h35 : ∀ (x0 x1 : Int) (h : zH), r35 x0 x1 h = some r → GO 35 [some (112, 0), some (0, x0), some (0, x1)] [] h) (a1 a2 : Int) (h : zH) (hr : M_writeFirst_35b zin r35 a1 a2 h = some r) : GO 35 [some (112, 0), some (0, a1), some (0, a2)] [] h := by
  have e9 := Eq.trans (Eq.symm (qe_M_writeFirst_35b zin r35 a1 a2 h)) hr
  generalize (400 : Nat) = f9 at e9
  refine hS _ _ (zcal_s (SP := zKsp l false zi r) _ ?_) (zorc_s _ ?_) _ _ _ _ _ e9
  · exact trivial
  · exact ⟨zap2_s (P := fun xs h => GO 35 (zfl [some (112, some 0), some (0, none), some (0, none)] xs).1 (zfs [] (zfl [some (112, some 0), some (0, none), some (0, none)] xs).2) h) h35, trivial⟩
set_option maxRecDepth 100000 in
set_option maxHeartbeats 0 in
theorem s_M_writeFirst_35 {l : Launch} {zi : Nat → zinfo} {r : zRes} {GO : Nat → List (Option zV) → List zV → zH → Prop} (hS : zSg l false zi (zget (999, 0, 0, 0) zc_M_writeFirst) (zcut zu_M_writeFirst) zin (fun _ _ => none) r GO) (a1 a2 : Int) (h : zH) (hr : M_writeFirst_35 zin a1 a2 h = some r) : GO 35 [some (112, 0), some (0, a1), some (0, a2)] [] h := zit2_s (P := fun x0 x1 h => GO 35 [some (112, 0), some (0, x0), some (0, x1)] [] h) (fun rr hh a1 a2 h hr => s_M_writeFirst_35b hS hh a1 a2 h hr) zN a1 a2 h hr
set_option maxRecDepth 100000 in
set_option maxHeartbeats 0 in
theorem s_M_writeFirst {l : Launch} {zi : Nat → zinfo} {r : zRes} {GO : Nat → List (Option zV) → List zV → zH → Prop} (hS : zSg l false zi (zget (999, 0, 0, 0) zc_M_writeFirst) (zcut zu_M_writeFirst) zin (fun _ _ => none) r GO) (a1 : Int) (h : zH) (hr : M_writeFirst a1 h zin = some r) : GO 0 [some (112, 0), some (0, a1), none] [] h := by
  have e9 := Eq.trans (Eq.symm (qe_M_writeFirst zin a1 h)) hr
  generalize (400 : Nat) = f9 at e9
  refine hS _ _ (zcal_s (SP := zKsp l false zi r) _ ?_) (zorc_s _ ?_) _ _ _ _ _ e9
  · exact trivial
  · exact ⟨zap2_s (P := fun xs h => GO 35 (zfl [some (112, some 0), some (0, none), some (0, none)] xs).1 (zfs [] (zfl [some (112, some 0), some (0, none), some (0, none)] xs).2) h) (fun x0 x1 h hr => s_M_writeFirst_35 hS x0 x1 h hr), trivial⟩
set_option maxRecDepth 100000 in
set_option maxHeartbeats 0 in
theorem s_M_writeAll_7b {l : Launch} {zi : Nat → zinfo} {r : zRes} {GO : Nat → List (Option zV) → List zV → zH → Prop} (hS : zSg l false zi (zget (999, 0, 0, 0) zc_M_writeAll) (zcut zu_M_writeAll) zin (fun _ _ => none) r GO) (k97 : ∀ (x0 : Int) (h : zH) (k : (Int → zH → Option zRes)) (t : (Nat → zH → Option zRes)), M_writeFirst x0 h k = some r → zKsp l false zi r 97 [0, x0] h k t) {r7 : Int → Int → zH → Option zRes} (h7 : ∀ (x0 x1 : Int) (h : zH), r7 x0 x1 h = some r → GO 7 [some (112, 0), some (0, x0), some (0, x1)] [] h) (a1 a2 : Int) (h : zH) (hr : M_writeAll_7b zin r7 a1 a2 h = some r) : GO 7 [some (112, 0), some (0, a1), some (0, a2)] [] h := by
  have e9 := Eq.trans (Eq.symm (qe_M_writeAll_7b zin r7 a1 a2 h)) hr
  generalize (400 : Nat) = f9 at e9
  refine hS _ _ (zcal_s (SP := zKsp l false zi r) _ ?_) (zorc_s _ ?_) _ _ _ _ _ e9
  · exact ⟨zca1_s (SP := fun xs h k t => zKsp l false zi r 97 (zfc [some 0, none] xs) h k t) k97, trivial⟩
  · exact ⟨zap2_s (P := fun xs h => GO 7 (zfl [some (112, some 0), some (0, none), some (0, none)] xs).1 (zfs [] (zfl [some (112, some 0), some (0, none), some (0, none)] xs).2) h) h7, trivial⟩
set_option maxRecDepth 100000 in
set_option maxHeartbeats 0 in
theorem s_M_writeAll_7 {l : Launch} {zi : Nat → zinfo} {r : zRes} {GO : Nat → List (Option zV) → List zV → zH → Prop} (hS : zSg l false zi (zget (999, 0, 0, 0) zc_M_writeAll) (zcut zu_M_writeAll) zin (fun _ _ => none) r GO) (k97 : ∀ (x0 : Int) (h : zH) (k : (Int → zH → Option zRes)) (t : (Nat → zH → Option zRes)), M_writeFirst x0 h k = some r → zKsp l false zi r 97 [0, x0] h k t) (a1 a2 : Int) (h : zH) (hr : M_writeAll_7 zin a1 a2 h = some r) : GO 7 [some (112, 0), some (0, a1), some (0, a2)] [] h := zit2_s (P := fun x0 x1 h => GO 7 [some (112, 0), some (0, x0), some (0, x1)] [] h) (fun rr hh a1 a2 h hr => s_M_writeAll_7b hS k97 hh a1 a2 h hr) zN a1 a2 h hr
set_option maxRecDepth 100000 in
set_option maxHeartbeats 0 in
theorem s_M_writeAll {l : Launch} {zi : Nat → zinfo} {r : zRes} {GO : Nat → List (Option zV) → List zV → zH → Prop} (hS : zSg l false zi (zget (999, 0, 0, 0) zc_M_writeAll) (zcut zu_M_writeAll) zin (fun _ _ => none) r GO) (k97 : ∀ (x0 : Int) (h : zH) (k : (Int → zH → Option zRes)) (t : (Nat → zH → Option zRes)), M_writeFirst x0 h k = some r → zKsp l false zi r 97 [0, x0] h k t) (a1 : Int) (h : zH) (hr : M_writeAll a1 h zin = some r) : GO 0 [some (112, 0), some (0, a1), none] [] h := by
  have e9 := Eq.trans (Eq.symm (qe_M_writeAll zin a1 h)) hr
  generalize (400 : Nat) = f9 at e9
  refine hS _ _ (zcal_s (SP := zKsp l false zi r) _ ?_) (zorc_s _ ?_) _ _ _ _ _ e9
  · exact trivial
  · exact ⟨zap2_s (P := fun xs h => GO 7 (zfl [some (112, some 0), some (0, none), some (0, none)] xs).1 (zfs [] (zfl [some (112, some 0), some (0, none), some (0, none)] xs).2) h) (fun x0 x1 h hr => s_M_writeAll_7 hS k97 x0 x1 h hr), trivial⟩
set_option maxRecDepth 100000 in
set_option maxHeartbeats 0 in
theorem s_M_writeEnded_53 {l : Launch} {zi : Nat → zinfo} {r : zRes} {GO : Nat → List (Option zV) → List zV → zH → Prop} (hS : zSg l false zi (zget (999, 0, 0, 0) zc_M_writeEnded) (zcut zu_M_writeEnded) zin (fun _ _ => none) r GO) (k96 : ∀ (x0 : Int) (h : zH) (k : (Int → zH → Option zRes)) (t : (Nat → zH → Option zRes)), M_hasEnded x0 h k = some r → zKsp l false zi r 96 [0, x0] h k t) (k98 : ∀ (x0 : Int) (h : zH) (k : (Int → zH → Option zRes)) (t : (Nat → zH → Option zRes)), M_writeAll x0 h k = some r → zKsp l false zi r 98 [0, x0] h k t) {r9 : Int → Int → Int → zH → Option zRes} (h9 : ∀ (x0 x1 x2 : Int) (h : zH), r9 x0 x1 x2 h = some r → GO 9 [some (112, 0), some (0, x0), some (0, x1), some (0, x2), none] [] h) (a1 a2 a3 : Int) (h : zH) (hr : M_writeEnded_53 zin r9 a1 a2 a3 h = some r) : GO 53 [some (112, 0), some (0, a1), some (0, a2), some (0, a3), none] [] h := by
  have e9 := Eq.trans (Eq.symm (qe_M_writeEnded_53 zin r9 a1 a2 a3 h)) hr
  generalize (400 : Nat) = f9 at e9
  refine hS _ _ (zcal_s (SP := zKsp l false zi r) _ ?_) (zorc_s _ ?_) _ _ _ _ _ e9
  · exact trivial
  · exact ⟨zap3_s (P := fun xs h => GO 9 (zfl [some (112, some 0), some (0, none), some (0, none), some (0, none), none] xs).1 (zfs [] (zfl [some (112, some 0), some (0, none), some (0, none), some (0, none), none] xs).2) h) h9, trivial⟩
set_option maxRecDepth 100000 in
set_option maxHeartbeats 0 in
theorem s_M_writeEnded_9b {l : Launch} {zi : Nat → zinfo} {r : zRes} {GO : Nat → List (Option zV) → List zV → zH → Prop} (hS : zSg l false zi (zget (999, 0, 0, 0) zc_M_writeEnded) (zcut zu_M_writeEnded) zin (fun _ _ => none) r GO) (k96 : ∀ (x0 : Int) (h : zH) (k : (Int → zH → Option zRes)) (t : (Nat → zH → Option zRes)), M_hasEnded x0 h k = some r → zKsp l false zi r 96 [0, x0] h k t) (k98 : ∀ (x0 : Int) (h : zH) (k : (Int → zH → Option zRes)) (t : (Nat → zH → Option zRes)), M_writeAll x0 h k = some r → zKsp l false zi r 98 [0, x0] h k t) {r9 : Int → Int → Int → zH → Option zRes} (h9 : ∀ (x0 x1 x2 : Int) (h : zH), r9 x0 x1 x2 h = some r → GO 9 [some (112, 0), some (0, x0), some (0, x1), some (0, x2), none] [] h) (a1 a2 a3 : Int) (h : zH) (hr : M_writeEnded_9b zin r9 a1 a2 a3 h = some r) : GO 9 [some (112, 0), some (0, a1), some (0, a2), some (0, a3), none] [] h := by
  have e9 := Eq.trans (Eq.symm (qe_M_writeEnded_9b zin r9 a1 a2 a3 h)) hr
  generalize (400 : Nat) = f9 at e9
  refine hS _ _ (zcal_s (SP := zKsp l false zi r) _ ?_) (zorc_s _ ?_) _ _ _ _ _ e9
  · exact ⟨zca1_s (SP := fun xs h k t => zKsp l false zi r 96 (zfc [some 0, none] xs) h k t) k96, ⟨zca1_s (SP := fun xs h k t => zKsp l false zi r 98 (zfc [some 0, none] xs) h k t) k98, trivial⟩⟩
  · exact ⟨zap3_s (P := fun xs h => GO 53 (zfl [some (112, some 0), some (0, none), some (0, none), some (0, none), none] xs).1 (zfs [] (zfl [some (112, some 0), some (0, none), some (0, none), some (0, none), none] xs).2) h) (fun x0 x1 x2 h hr => s_M_writeEnded_53 hS k96 k98 h9 x0 x1 x2 h hr), trivial⟩
set_option maxRecDepth 100000 in
set_option maxHeartbeats 0 in
theorem s_M_writeEnded_9 {l : Launch} {zi : Nat → zinfo} {r : zRes} {GO : Nat → List (Option zV) → List zV → zH → Prop} (hS : zSg l false zi (zget (999, 0, 0, 0) zc_M_writeEnded) (zcut zu_M_writeEnded) zin (fun _ _ => none) r GO) (k96 : ∀ (x0 : Int) (h : zH) (k : (Int → zH → Option zRes)) (t : (Nat → zH → Option zRes)), M_hasEnded x0 h k = some r → zKsp l false zi r 96 [0, x0] h k t) (k98 : ∀ (x0 : Int) (h : zH) (k : (Int → zH → Option zRes)) (t : (Nat → zH → Option zRes)), M_writeAll x0 h k = some r → zKsp l false zi r 98 [0, x0] h k t) (a1 a2 a3 : Int) (h : zH) (hr : M_writeEnded_9 zin a1 a2 a3 h = some r) : GO 9 [some (112, 0), some (0, a1), some (0, a2), some (0, a3), none] [] h := zit3_s (P := fun x0 x1 x2 h => GO 9 [some (112, 0), some (0, x0), some (0, x1), some (0, x2), none] [] h) (fun rr hh a1 a2 a3 h hr => s_M_writeEnded_9b hS k96 k98 hh a1 a2 a3 h hr) zN a1 a2 a3 h hr
set_option maxRecDepth 100000 in
set_option maxHeartbeats 0 in
theorem s_M_writeEnded {l : Launch} {zi : Nat → zinfo} {r : zRes} {GO : Nat → List (Option zV) → List zV → zH → Prop} (hS : zSg l false zi (zget (999, 0, 0, 0) zc_M_writeEnded) (zcut zu_M_writeEnded) zin (fun _ _ => none) r GO) (k96 : ∀ (x0 : Int) (h : zH) (k : (Int → zH → Option zRes)) (t : (Nat → zH → Option zRes)), M_hasEnded x0 h k = some r → zKsp l false zi r 96 [0, x0] h k t) (k98 : ∀ (x0 : Int) (h : zH) (k : (Int → zH → Option zRes)) (t : (Nat → zH → Option zRes)), M_writeAll x0 h k = some r → zKsp l false zi r 98 [0, x0] h k t) (a1 : Int) (h : zH) (hr : M_writeEnded a1 h zin = some r) : GO 0 [some (112, 0), some (0, a1), none, none, none] [] h := by
  have e9 := Eq.trans (Eq.symm (qe_M_writeEnded zin a1 h)) hr
  generalize (400 : Nat) = f9 at e9
  refine hS _ _ (zcal_s (SP := zKsp l false zi r) _ ?_) (zorc_s _ ?_) _ _ _ _ _ e9
  · exact trivial
  · exact ⟨zap3_s (P := fun xs h => GO 9 (zfl [some (112, some 0), some (0, none), some (0, none), some (0, none), none] xs).1 (zfs [] (zfl [some (112, some 0), some (0, none), some (0, none), some (0, none), none] xs).2) h) (fun x0 x1 x2 h hr => s_M_writeEnded_9 hS k96 k98 x0 x1 x2 h hr), trivial⟩
set_option maxRecDepth 100000 in
set_option maxHeartbeats 0 in
theorem s_M_settle_37 {l : Launch} {zi : Nat → zinfo} {r : zRes} {GO : Nat → List (Option zV) → List zV → zH → Prop} (hS : zSg l false zi (zget (999, 0, 0, 0) zc_M_settle) (zcut zu_M_settle) zin (fun _ _ => none) r GO) (k95 : ∀ (x0 : Int) (h : zH) (k : (Int → zH → Option zRes)) (t : (Nat → zH → Option zRes)), M_lookAt x0 h k = some r → zKsp l false zi r 95 [0, x0] h k t) (k99 : ∀ (x0 : Int) (h : zH) (k : (Int → zH → Option zRes)) (t : (Nat → zH → Option zRes)), M_writeEnded x0 h k = some r → zKsp l false zi r 99 [0, x0] h k t) (h : zH) (hr : M_settle_37 zin h = some r) : GO 37 [none, none, none] [] h := by
  have e9 := Eq.trans (Eq.symm (qe_M_settle_37 zin h)) hr
  generalize (400 : Nat) = f9 at e9
  refine hS _ _ (zcal_s (SP := zKsp l false zi r) _ ?_) (zorc_s _ ?_) _ _ _ _ _ e9
  · exact trivial
  · exact trivial
set_option maxRecDepth 100000 in
set_option maxHeartbeats 0 in
theorem s_M_settle_2b {l : Launch} {zi : Nat → zinfo} {r : zRes} {GO : Nat → List (Option zV) → List zV → zH → Prop} (hS : zSg l false zi (zget (999, 0, 0, 0) zc_M_settle) (zcut zu_M_settle) zin (fun _ _ => none) r GO) (k95 : ∀ (x0 : Int) (h : zH) (k : (Int → zH → Option zRes)) (t : (Nat → zH → Option zRes)), M_lookAt x0 h k = some r → zKsp l false zi r 95 [0, x0] h k t) (k99 : ∀ (x0 : Int) (h : zH) (k : (Int → zH → Option zRes)) (t : (Nat → zH → Option zRes)), M_writeEnded x0 h k = some r → zKsp l false zi r 99 [0, x0] h k t) {r2 : Int → Int → zH → Option zRes} (h2 : ∀ (x0 x1 : Int) (h : zH), r2 x0 x1 h = some r → GO 2 [some (112, 0), some (0, x0), some (0, x1)] [] h) (a1 a2 : Int) (h : zH) (hr : M_settle_2b zin r2 a1 a2 h = some r) : GO 2 [some (112, 0), some (0, a1), some (0, a2)] [] h := by
  have e9 := Eq.trans (Eq.symm (qe_M_settle_2b zin r2 a1 a2 h)) hr
  generalize (400 : Nat) = f9 at e9
  refine hS _ _ (zcal_s (SP := zKsp l false zi r) _ ?_) (zorc_s _ ?_) _ _ _ _ _ e9
  · exact ⟨zca1_s (SP := fun xs h k t => zKsp l false zi r 95 (zfc [some 0, none] xs) h k t) k95, ⟨zca1_s (SP := fun xs h k t => zKsp l false zi r 99 (zfc [some 0, none] xs) h k t) k99, trivial⟩⟩
  · exact ⟨zap2_s (P := fun xs h => GO 2 (zfl [some (112, some 0), some (0, none), some (0, none)] xs).1 (zfs [] (zfl [some (112, some 0), some (0, none), some (0, none)] xs).2) h) h2, ⟨zap0_s (P := fun xs h => GO 37 (zfl [none, none, none] xs).1 (zfs [] (zfl [none, none, none] xs).2) h) (fun  h hr => s_M_settle_37 hS k95 k99  h hr), trivial⟩⟩
set_option maxRecDepth 100000 in
set_option maxHeartbeats 0 in
theorem s_M_settle_2 {l : Launch} {zi : Nat → zinfo} {r : zRes} {GO : Nat → List (Option zV) → List zV → zH → Prop} (hS : zSg l false zi (zget (999, 0, 0, 0) zc_M_settle) (zcut zu_M_settle) zin (fun _ _ => none) r GO) (k95 : ∀ (x0 : Int) (h : zH) (k : (Int → zH → Option zRes)) (t : (Nat → zH → Option zRes)), M_lookAt x0 h k = some r → zKsp l false zi r 95 [0, x0] h k t) (k99 : ∀ (x0 : Int) (h : zH) (k : (Int → zH → Option zRes)) (t : (Nat → zH → Option zRes)), M_writeEnded x0 h k = some r → zKsp l false zi r 99 [0, x0] h k t) (a1 a2 : Int) (h : zH) (hr : M_settle_2 zin a1 a2 h = some r) : GO 2 [some (112, 0), some (0, a1), some (0, a2)] [] h := zit2_s (P := fun x0 x1 h => GO 2 [some (112, 0), some (0, x0), some (0, x1)] [] h) (fun rr hh a1 a2 h hr => s_M_settle_2b hS k95 k99 hh a1 a2 h hr) zN a1 a2 h hr
set_option maxRecDepth 100000 in
set_option maxHeartbeats 0 in
theorem s_M_settle {l : Launch} {zi : Nat → zinfo} {r : zRes} {GO : Nat → List (Option zV) → List zV → zH → Prop} (hS : zSg l false zi (zget (999, 0, 0, 0) zc_M_settle) (zcut zu_M_settle) zin (fun _ _ => none) r GO) (k95 : ∀ (x0 : Int) (h : zH) (k : (Int → zH → Option zRes)) (t : (Nat → zH → Option zRes)), M_lookAt x0 h k = some r → zKsp l false zi r 95 [0, x0] h k t) (k99 : ∀ (x0 : Int) (h : zH) (k : (Int → zH → Option zRes)) (t : (Nat → zH → Option zRes)), M_writeEnded x0 h k = some r → zKsp l false zi r 99 [0, x0] h k t) (a1 : Int) (h : zH) (hr : M_settle a1 h zin = some r) : GO 0 [some (112, 0), some (0, a1), none] [] h := by
  have e9 := Eq.trans (Eq.symm (qe_M_settle zin a1 h)) hr
  generalize (400 : Nat) = f9 at e9
  refine hS _ _ (zcal_s (SP := zKsp l false zi r) _ ?_) (zorc_s _ ?_) _ _ _ _ _ e9
  · exact trivial
  · exact ⟨zap2_s (P := fun xs h => GO 2 (zfl [some (112, some 0), some (0, none), some (0, none)] xs).1 (zfs [] (zfl [some (112, some 0), some (0, none), some (0, none)] xs).2) h) (fun x0 x1 h hr => s_M_settle_2 hS k95 k99 x0 x1 h hr), trivial⟩
set_option maxRecDepth 100000 in
set_option maxHeartbeats 0 in
theorem s_M_access_186 {l : Launch} {zi : Nat → zinfo} {r : zRes} {GO : Nat → List (Option zV) → List zV → zH → Prop} (hS : zSg l false zi (zget (999, 0, 0, 0) zc_M_access) (zcut zu_M_access) zin (fun _ _ => none) r GO) {r21 : Int → Int → Int → Int → Int → Int → Int → zH → Option zRes} (h21 : ∀ (x0 x1 x2 x3 x4 x5 x6 : Int) (h : zH), r21 x0 x1 x2 x3 x4 x5 x6 h = some r → GO 21 [some (112, 0), some (0, x0), some (0, x1), some (0, x2), some (0, x3), some (0, x4), some (0, x5), some (0, x6), none, none, none, none, none] [] h) {r36 : Int → Int → Int → Int → Int → Int → Int → Int → zH → Option zRes} (h36 : ∀ (x0 x1 x2 x3 x4 x5 x6 x7 : Int) (h : zH), r36 x0 x1 x2 x3 x4 x5 x6 x7 h = some r → GO 36 [some (112, 0), some (0, x0), some (0, x1), some (0, x2), some (0, x3), some (0, x4), some (0, x5), some (0, x6), some (0, x7), none, none, none, none] [] h) (a1 a2 a3 a4 a5 a6 a7 a8 t0 t1 : Int) (h : zH) (hr : M_access_186 zin r21 r36 a1 a2 a3 a4 a5 a6 a7 a8 t0 t1 h = some r) : GO 186 [some (112, 0), some (0, a1), some (0, a2), some (0, a3), some (0, a4), some (0, a5), some (0, a6), some (0, a7), some (0, a8), none, none, none, none] [(0, t0), (0, t1), (205, 0)] h := by
  have e9 := Eq.trans (Eq.symm (qe_M_access_186 zin r21 r36 a1 a2 a3 a4 a5 a6 a7 a8 t0 t1 h)) hr
  generalize (400 : Nat) = f9 at e9
  refine hS _ _ (zcal_s (SP := zKsp l false zi r) _ ?_) (zorc_s _ ?_) _ _ _ _ _ e9
  · exact trivial
  · exact ⟨zap8_s (P := fun xs h => GO 36 (zfl [some (112, some 0), some (0, none), some (0, none), some (0, none), some (0, none), some (0, none), some (0, none), some (0, none), some (0, none), none, none, none, none] xs).1 (zfs [] (zfl [some (112, some 0), some (0, none), some (0, none), some (0, none), some (0, none), some (0, none), some (0, none), some (0, none), some (0, none), none, none, none, none] xs).2) h) h36, trivial⟩
set_option maxRecDepth 100000 in
set_option maxHeartbeats 0 in
theorem s_M_access_181 {l : Launch} {zi : Nat → zinfo} {r : zRes} {GO : Nat → List (Option zV) → List zV → zH → Prop} (hS : zSg l false zi (zget (999, 0, 0, 0) zc_M_access) (zcut zu_M_access) zin (fun _ _ => none) r GO) {r21 : Int → Int → Int → Int → Int → Int → Int → zH → Option zRes} (h21 : ∀ (x0 x1 x2 x3 x4 x5 x6 : Int) (h : zH), r21 x0 x1 x2 x3 x4 x5 x6 h = some r → GO 21 [some (112, 0), some (0, x0), some (0, x1), some (0, x2), some (0, x3), some (0, x4), some (0, x5), some (0, x6), none, none, none, none, none] [] h) {r36 : Int → Int → Int → Int → Int → Int → Int → Int → zH → Option zRes} (h36 : ∀ (x0 x1 x2 x3 x4 x5 x6 x7 : Int) (h : zH), r36 x0 x1 x2 x3 x4 x5 x6 x7 h = some r → GO 36 [some (112, 0), some (0, x0), some (0, x1), some (0, x2), some (0, x3), some (0, x4), some (0, x5), some (0, x6), some (0, x7), none, none, none, none] [] h) (a1 a2 a3 a4 a5 a6 a7 a8 t0 : Int) (h : zH) (hr : M_access_181 zin r21 r36 a1 a2 a3 a4 a5 a6 a7 a8 t0 h = some r) : GO 181 [some (112, 0), some (0, a1), some (0, a2), some (0, a3), some (0, a4), some (0, a5), some (0, a6), some (0, a7), some (0, a8), none, none, none, none] [(0, t0), (205, 0)] h := by
  have e9 := Eq.trans (Eq.symm (qe_M_access_181 zin r21 r36 a1 a2 a3 a4 a5 a6 a7 a8 t0 h)) hr
  generalize (400 : Nat) = f9 at e9
  refine hS _ _ (zcal_s (SP := zKsp l false zi r) _ ?_) (zorc_s _ ?_) _ _ _ _ _ e9
  · exact trivial
  · exact ⟨zap10_s (P := fun xs h => GO 186 (zfl [some (112, some 0), some (0, none), some (0, none), some (0, none), some (0, none), some (0, none), some (0, none), some (0, none), some (0, none), none, none, none, none] xs).1 (zfs [(0, none), (0, none), (205, some 0)] (zfl [some (112, some 0), some (0, none), some (0, none), some (0, none), some (0, none), some (0, none), some (0, none), some (0, none), some (0, none), none, none, none, none] xs).2) h) (fun x0 x1 x2 x3 x4 x5 x6 x7 x8 x9 h hr => s_M_access_186 hS h21 h36 x0 x1 x2 x3 x4 x5 x6 x7 x8 x9 h hr), trivial⟩
set_option maxRecDepth 100000 in
set_option maxHeartbeats 0 in
theorem s_M_access_148 {l : Launch} {zi : Nat → zinfo} {r : zRes} {GO : Nat → List (Option zV) → List zV → zH → Prop} (hS : zSg l false zi (zget (999, 0, 0, 0) zc_M_access) (zcut zu_M_access) zin (fun _ _ => none) r GO) {r21 : Int → Int → Int → Int → Int → Int → Int → zH → Option zRes} (h21 : ∀ (x0 x1 x2 x3 x4 x5 x6 : Int) (h : zH), r21 x0 x1 x2 x3 x4 x5 x6 h = some r → GO 21 [some (112, 0), some (0, x0), some (0, x1), some (0, x2), some (0, x3), some (0, x4), some (0, x5), some (0, x6), none, none, none, none, none] [] h) {r36 : Int → Int → Int → Int → Int → Int → Int → Int → zH → Option zRes} (h36 : ∀ (x0 x1 x2 x3 x4 x5 x6 x7 : Int) (h : zH), r36 x0 x1 x2 x3 x4 x5 x6 x7 h = some r → GO 36 [some (112, 0), some (0, x0), some (0, x1), some (0, x2), some (0, x3), some (0, x4), some (0, x5), some (0, x6), some (0, x7), none, none, none, none] [] h) (a1 a2 a3 a4 a5 a6 a7 a8 t0 : Int) (h : zH) (hr : M_access_148 zin r21 r36 a1 a2 a3 a4 a5 a6 a7 a8 t0 h = some r) : GO 148 [some (112, 0), some (0, a1), some (0, a2), some (0, a3), some (0, a4), some (0, a5), some (0, a6), some (0, a7), some (0, a8), none, none, none, none] [(0, t0)] h := by
  have e9 := Eq.trans (Eq.symm (qe_M_access_148 zin r21 r36 a1 a2 a3 a4 a5 a6 a7 a8 t0 h)) hr
  generalize (400 : Nat) = f9 at e9
  refine hS _ _ (zcal_s (SP := zKsp l false zi r) _ ?_) (zorc_s _ ?_) _ _ _ _ _ e9
  · exact trivial
  · exact ⟨zap9_s (P := fun xs h => GO 181 (zfl [some (112, some 0), some (0, none), some (0, none), some (0, none), some (0, none), some (0, none), some (0, none), some (0, none), some (0, none), none, none, none, none] xs).1 (zfs [(0, none), (205, some 0)] (zfl [some (112, some 0), some (0, none), some (0, none), some (0, none), some (0, none), some (0, none), some (0, none), some (0, none), some (0, none), none, none, none, none] xs).2) h) (fun x0 x1 x2 x3 x4 x5 x6 x7 x8 h hr => s_M_access_181 hS h21 h36 x0 x1 x2 x3 x4 x5 x6 x7 x8 h hr), ⟨zap10_s (P := fun xs h => GO 186 (zfl [some (112, some 0), some (0, none), some (0, none), some (0, none), some (0, none), some (0, none), some (0, none), some (0, none), some (0, none), none, none, none, none] xs).1 (zfs [(0, none), (0, none), (205, some 0)] (zfl [some (112, some 0), some (0, none), some (0, none), some (0, none), some (0, none), some (0, none), some (0, none), some (0, none), some (0, none), none, none, none, none] xs).2) h) (fun x0 x1 x2 x3 x4 x5 x6 x7 x8 x9 h hr => s_M_access_186 hS h21 h36 x0 x1 x2 x3 x4 x5 x6 x7 x8 x9 h hr), trivial⟩⟩
set_option maxRecDepth 100000 in
set_option maxHeartbeats 0 in
theorem s_M_access_143 {l : Launch} {zi : Nat → zinfo} {r : zRes} {GO : Nat → List (Option zV) → List zV → zH → Prop} (hS : zSg l false zi (zget (999, 0, 0, 0) zc_M_access) (zcut zu_M_access) zin (fun _ _ => none) r GO) {r21 : Int → Int → Int → Int → Int → Int → Int → zH → Option zRes} (h21 : ∀ (x0 x1 x2 x3 x4 x5 x6 : Int) (h : zH), r21 x0 x1 x2 x3 x4 x5 x6 h = some r → GO 21 [some (112, 0), some (0, x0), some (0, x1), some (0, x2), some (0, x3), some (0, x4), some (0, x5), some (0, x6), none, none, none, none, none] [] h) {r36 : Int → Int → Int → Int → Int → Int → Int → Int → zH → Option zRes} (h36 : ∀ (x0 x1 x2 x3 x4 x5 x6 x7 : Int) (h : zH), r36 x0 x1 x2 x3 x4 x5 x6 x7 h = some r → GO 36 [some (112, 0), some (0, x0), some (0, x1), some (0, x2), some (0, x3), some (0, x4), some (0, x5), some (0, x6), some (0, x7), none, none, none, none] [] h) (a1 a2 a3 a4 a5 a6 a7 a8 : Int) (h : zH) (hr : M_access_143 zin r21 r36 a1 a2 a3 a4 a5 a6 a7 a8 h = some r) : GO 143 [some (112, 0), some (0, a1), some (0, a2), some (0, a3), some (0, a4), some (0, a5), some (0, a6), some (0, a7), some (0, a8), none, none, none, none] [] h := by
  have e9 := Eq.trans (Eq.symm (qe_M_access_143 zin r21 r36 a1 a2 a3 a4 a5 a6 a7 a8 h)) hr
  generalize (400 : Nat) = f9 at e9
  refine hS _ _ (zcal_s (SP := zKsp l false zi r) _ ?_) (zorc_s _ ?_) _ _ _ _ _ e9
  · exact trivial
  · exact ⟨zap9_s (P := fun xs h => GO 148 (zfl [some (112, some 0), some (0, none), some (0, none), some (0, none), some (0, none), some (0, none), some (0, none), some (0, none), some (0, none), none, none, none, none] xs).1 (zfs [(0, none)] (zfl [some (112, some 0), some (0, none), some (0, none), some (0, none), some (0, none), some (0, none), some (0, none), some (0, none), some (0, none), none, none, none, none] xs).2) h) (fun x0 x1 x2 x3 x4 x5 x6 x7 x8 h hr => s_M_access_148 hS h21 h36 x0 x1 x2 x3 x4 x5 x6 x7 x8 h hr), trivial⟩
set_option maxRecDepth 100000 in
set_option maxHeartbeats 0 in
theorem s_M_access_147 {l : Launch} {zi : Nat → zinfo} {r : zRes} {GO : Nat → List (Option zV) → List zV → zH → Prop} (hS : zSg l false zi (zget (999, 0, 0, 0) zc_M_access) (zcut zu_M_access) zin (fun _ _ => none) r GO) {r21 : Int → Int → Int → Int → Int → Int → Int → zH → Option zRes} (h21 : ∀ (x0 x1 x2 x3 x4 x5 x6 : Int) (h : zH), r21 x0 x1 x2 x3 x4 x5 x6 h = some r → GO 21 [some (112, 0), some (0, x0), some (0, x1), some (0, x2), some (0, x3), some (0, x4), some (0, x5), some (0, x6), none, none, none, none, none] [] h) {r36 : Int → Int → Int → Int → Int → Int → Int → Int → zH → Option zRes} (h36 : ∀ (x0 x1 x2 x3 x4 x5 x6 x7 : Int) (h : zH), r36 x0 x1 x2 x3 x4 x5 x6 x7 h = some r → GO 36 [some (112, 0), some (0, x0), some (0, x1), some (0, x2), some (0, x3), some (0, x4), some (0, x5), some (0, x6), some (0, x7), none, none, none, none] [] h) (a1 a2 a3 a4 a5 a6 a7 a8 : Int) (h : zH) (hr : M_access_147 zin r21 r36 a1 a2 a3 a4 a5 a6 a7 a8 h = some r) : GO 147 [some (112, 0), some (0, a1), some (0, a2), some (0, a3), some (0, a4), some (0, a5), some (0, a6), some (0, a7), some (0, a8), none, none, none, none] [] h := by
  have e9 := Eq.trans (Eq.symm (qe_M_access_147 zin r21 r36 a1 a2 a3 a4 a5 a6 a7 a8 h)) hr
  generalize (400 : Nat) = f9 at e9
  refine hS _ _ (zcal_s (SP := zKsp l false zi r) _ ?_) (zorc_s _ ?_) _ _ _ _ _ e9
  · exact trivial
  · exact ⟨zap9_s (P := fun xs h => GO 148 (zfl [some (112, some 0), some (0, none), some (0, none), some (0, none), some (0, none), some (0, none), some (0, none), some (0, none), some (0, none), none, none, none, none] xs).1 (zfs [(0, none)] (zfl [some (112, some 0), some (0, none), some (0, none), some (0, none), some (0, none), some (0, none), some (0, none), some (0, none), some (0, none), none, none, none, none] xs).2) h) (fun x0 x1 x2 x3 x4 x5 x6 x7 x8 h hr => s_M_access_148 hS h21 h36 x0 x1 x2 x3 x4 x5 x6 x7 x8 h hr), trivial⟩
set_option maxRecDepth 100000 in
set_option maxHeartbeats 0 in
theorem s_M_access_104 {l : Launch} {zi : Nat → zinfo} {r : zRes} {GO : Nat → List (Option zV) → List zV → zH → Prop} (hS : zSg l false zi (zget (999, 0, 0, 0) zc_M_access) (zcut zu_M_access) zin (fun _ _ => none) r GO) {r21 : Int → Int → Int → Int → Int → Int → Int → zH → Option zRes} (h21 : ∀ (x0 x1 x2 x3 x4 x5 x6 : Int) (h : zH), r21 x0 x1 x2 x3 x4 x5 x6 h = some r → GO 21 [some (112, 0), some (0, x0), some (0, x1), some (0, x2), some (0, x3), some (0, x4), some (0, x5), some (0, x6), none, none, none, none, none] [] h) {r36 : Int → Int → Int → Int → Int → Int → Int → Int → zH → Option zRes} (h36 : ∀ (x0 x1 x2 x3 x4 x5 x6 x7 : Int) (h : zH), r36 x0 x1 x2 x3 x4 x5 x6 x7 h = some r → GO 36 [some (112, 0), some (0, x0), some (0, x1), some (0, x2), some (0, x3), some (0, x4), some (0, x5), some (0, x6), some (0, x7), none, none, none, none] [] h) (a1 a2 a3 a4 a5 a6 a7 a8 a9 a10 t0 : Int) (h : zH) (hr : M_access_104 zin r21 r36 a1 a2 a3 a4 a5 a6 a7 a8 a9 a10 t0 h = some r) : GO 104 [some (112, 0), some (0, a1), some (0, a2), some (0, a3), some (0, a4), some (0, a5), some (0, a6), some (0, a7), some (0, a8), some (0, a9), some (0, a10), none, none] [(0, t0)] h := by
  have e9 := Eq.trans (Eq.symm (qe_M_access_104 zin r21 r36 a1 a2 a3 a4 a5 a6 a7 a8 a9 a10 t0 h)) hr
  generalize (400 : Nat) = f9 at e9
  refine hS _ _ (zcal_s (SP := zKsp l false zi r) _ ?_) (zorc_s _ ?_) _ _ _ _ _ e9
  · exact trivial
  · exact ⟨zap8_s (P := fun xs h => GO 143 (zfl [some (112, some 0), some (0, none), some (0, none), some (0, none), some (0, none), some (0, none), some (0, none), some (0, none), some (0, none), none, none, none, none] xs).1 (zfs [] (zfl [some (112, some 0), some (0, none), some (0, none), some (0, none), some (0, none), some (0, none), some (0, none), some (0, none), some (0, none), none, none, none, none] xs).2) h) (fun x0 x1 x2 x3 x4 x5 x6 x7 h hr => s_M_access_143 hS h21 h36 x0 x1 x2 x3 x4 x5 x6 x7 h hr), ⟨zap8_s (P := fun xs h => GO 147 (zfl [some (112, some 0), some (0, none), some (0, none), some (0, none), some (0, none), some (0, none), some (0, none), some (0, none), some (0, none), none, none, none, none] xs).1 (zfs [] (zfl [some (112, some 0), some (0, none), some (0, none), some (0, none), some (0, none), some (0, none), some (0, none), some (0, none), some (0, none), none, none, none, none] xs).2) h) (fun x0 x1 x2 x3 x4 x5 x6 x7 h hr => s_M_access_147 hS h21 h36 x0 x1 x2 x3 x4 x5 x6 x7 h hr), trivial⟩⟩
set_option maxRecDepth 100000 in
set_option maxHeartbeats 0 in
theorem s_M_access_81 {l : Launch} {zi : Nat → zinfo} {r : zRes} {GO : Nat → List (Option zV) → List zV → zH → Prop} (hS : zSg l false zi (zget (999, 0, 0, 0) zc_M_access) (zcut zu_M_access) zin (fun _ _ => none) r GO) {r21 : Int → Int → Int → Int → Int → Int → Int → zH → Option zRes} (h21 : ∀ (x0 x1 x2 x3 x4 x5 x6 : Int) (h : zH), r21 x0 x1 x2 x3 x4 x5 x6 h = some r → GO 21 [some (112, 0), some (0, x0), some (0, x1), some (0, x2), some (0, x3), some (0, x4), some (0, x5), some (0, x6), none, none, none, none, none] [] h) {r36 : Int → Int → Int → Int → Int → Int → Int → Int → zH → Option zRes} (h36 : ∀ (x0 x1 x2 x3 x4 x5 x6 x7 : Int) (h : zH), r36 x0 x1 x2 x3 x4 x5 x6 x7 h = some r → GO 36 [some (112, 0), some (0, x0), some (0, x1), some (0, x2), some (0, x3), some (0, x4), some (0, x5), some (0, x6), some (0, x7), none, none, none, none] [] h) (a1 a2 a3 a4 a5 a6 a7 a8 a9 t0 : Int) (h : zH) (hr : M_access_81 zin r21 r36 a1 a2 a3 a4 a5 a6 a7 a8 a9 t0 h = some r) : GO 81 [some (112, 0), some (0, a1), some (0, a2), some (0, a3), some (0, a4), some (0, a5), some (0, a6), some (0, a7), some (0, a8), some (0, a9), none, none, none] [(0, t0)] h := by
  have e9 := Eq.trans (Eq.symm (qe_M_access_81 zin r21 r36 a1 a2 a3 a4 a5 a6 a7 a8 a9 t0 h)) hr
  generalize (400 : Nat) = f9 at e9
  refine hS _ _ (zcal_s (SP := zKsp l false zi r) _ ?_) (zorc_s _ ?_) _ _ _ _ _ e9
  · exact trivial
  · exact ⟨zap11_s (P := fun xs h => GO 104 (zfl [some (112, some 0), some (0, none), some (0, none), some (0, none), some (0, none), some (0, none), some (0, none), some (0, none), some (0, none), some (0, none), some (0, none), none, none] xs).1 (zfs [(0, none)] (zfl [some (112, some 0), some (0, none), some (0, none), some (0, none), some (0, none), some (0, none), some (0, none), some (0, none), some (0, none), some (0, none), some (0, none), none, none] xs).2) h) (fun x0 x1 x2 x3 x4 x5 x6 x7 x8 x9 x10 h hr => s_M_access_104 hS h21 h36 x0 x1 x2 x3 x4 x5 x6 x7 x8 x9 x10 h hr), trivial⟩
set_option maxRecDepth 100000 in
set_option maxHeartbeats 0 in
theorem s_M_access_80 {l : Launch} {zi : Nat → zinfo} {r : zRes} {GO : Nat → List (Option zV) → List zV → zH → Prop} (hS : zSg l false zi (zget (999, 0, 0, 0) zc_M_access) (zcut zu_M_access) zin (fun _ _ => none) r GO) {r21 : Int → Int → Int → Int → Int → Int → Int → zH → Option zRes} (h21 : ∀ (x0 x1 x2 x3 x4 x5 x6 : Int) (h : zH), r21 x0 x1 x2 x3 x4 x5 x6 h = some r → GO 21 [some (112, 0), some (0, x0), some (0, x1), some (0, x2), some (0, x3), some (0, x4), some (0, x5), some (0, x6), none, none, none, none, none] [] h) {r36 : Int → Int → Int → Int → Int → Int → Int → Int → zH → Option zRes} (h36 : ∀ (x0 x1 x2 x3 x4 x5 x6 x7 : Int) (h : zH), r36 x0 x1 x2 x3 x4 x5 x6 x7 h = some r → GO 36 [some (112, 0), some (0, x0), some (0, x1), some (0, x2), some (0, x3), some (0, x4), some (0, x5), some (0, x6), some (0, x7), none, none, none, none] [] h) (a1 a2 a3 a4 a5 a6 a7 a8 a9 : Int) (h : zH) (hr : M_access_80 zin r21 r36 a1 a2 a3 a4 a5 a6 a7 a8 a9 h = some r) : GO 80 [some (112, 0), some (0, a1), some (0, a2), some (0, a3), some (0, a4), some (0, a5), some (0, a6), some (0, a7), some (0, a8), some (0, a9), none, none, none] [] h := by
  have e9 := Eq.trans (Eq.symm (qe_M_access_80 zin r21 r36 a1 a2 a3 a4 a5 a6 a7 a8 a9 h)) hr
  generalize (400 : Nat) = f9 at e9
  refine hS _ _ (zcal_s (SP := zKsp l false zi r) _ ?_) (zorc_s _ ?_) _ _ _ _ _ e9
  · exact trivial
  · exact ⟨zap10_s (P := fun xs h => GO 81 (zfl [some (112, some 0), some (0, none), some (0, none), some (0, none), some (0, none), some (0, none), some (0, none), some (0, none), some (0, none), some (0, none), none, none, none] xs).1 (zfs [(0, none)] (zfl [some (112, some 0), some (0, none), some (0, none), some (0, none), some (0, none), some (0, none), some (0, none), some (0, none), some (0, none), some (0, none), none, none, none] xs).2) h) (fun x0 x1 x2 x3 x4 x5 x6 x7 x8 x9 h hr => s_M_access_81 hS h21 h36 x0 x1 x2 x3 x4 x5 x6 x7 x8 x9 h hr), trivial⟩
set_option maxRecDepth 100000 in
set_option maxHeartbeats 0 in
theorem s_M_access_36b {l : Launch} {zi : Nat → zinfo} {r : zRes} {GO : Nat → List (Option zV) → List zV → zH → Prop} (hS : zSg l false zi (zget (999, 0, 0, 0) zc_M_access) (zcut zu_M_access) zin (fun _ _ => none) r GO) {r21 : Int → Int → Int → Int → Int → Int → Int → zH → Option zRes} (h21 : ∀ (x0 x1 x2 x3 x4 x5 x6 : Int) (h : zH), r21 x0 x1 x2 x3 x4 x5 x6 h = some r → GO 21 [some (112, 0), some (0, x0), some (0, x1), some (0, x2), some (0, x3), some (0, x4), some (0, x5), some (0, x6), none, none, none, none, none] [] h) {r36 : Int → Int → Int → Int → Int → Int → Int → Int → zH → Option zRes} (h36 : ∀ (x0 x1 x2 x3 x4 x5 x6 x7 : Int) (h : zH), r36 x0 x1 x2 x3 x4 x5 x6 x7 h = some r → GO 36 [some (112, 0), some (0, x0), some (0, x1), some (0, x2), some (0, x3), some (0, x4), some (0, x5), some (0, x6), some (0, x7), none, none, none, none] [] h) (a1 a2 a3 a4 a5 a6 a7 a8 : Int) (h : zH) (hr : M_access_36b zin r21 r36 a1 a2 a3 a4 a5 a6 a7 a8 h = some r) : GO 36 [some (112, 0), some (0, a1), some (0, a2), some (0, a3), some (0, a4), some (0, a5), some (0, a6), some (0, a7), some (0, a8), none, none, none, none] [] h := by
  have e9 := Eq.trans (Eq.symm (qe_M_access_36b zin r21 r36 a1 a2 a3 a4 a5 a6 a7 a8 h)) hr
  generalize (400 : Nat) = f9 at e9
  refine hS _ _ (zcal_s (SP := zKsp l false zi r) _ ?_) (zorc_s _ ?_) _ _ _ _ _ e9
  · exact trivial
  · exact ⟨zap7_s (P := fun xs h => GO 21 (zfl [some (112, some 0), some (0, none), some (0, none), some (0, none), some (0, none), some (0, none), some (0, none), some (0, none), none, none, none, none, none] xs).1 (zfs [] (zfl [some (112, some 0), some (0, none), some (0, none), some (0, none), some (0, none), some (0, none), some (0, none), some (0, none), none, none, none, none, none] xs).2) h) h21, ⟨zap9_s (P := fun xs h => GO 80 (zfl [some (112, some 0), some (0, none), some (0, none), some (0, none), some (0, none), some (0, none), some (0, none), some (0, none), some (0, none), some (0, none), none, none, none] xs).1 (zfs [] (zfl [some (112, some 0), some (0, none), some (0, none), some (0, none), some (0, none), some (0, none), some (0, none), some (0, none), some (0, none), some (0, none), none, none, none] xs).2) h) (fun x0 x1 x2 x3 x4 x5 x6 x7 x8 h hr => s_M_access_80 hS h21 h36 x0 x1 x2 x3 x4 x5 x6 x7 x8 h hr), ⟨zap10_s (P := fun xs h => GO 81 (zfl [some (112, some 0), some (0, none), some (0, none), some (0, none), some (0, none), some (0, none), some (0, none), some (0, none), some (0, none), some (0, none), none, none, none] xs).1 (zfs [(0, none)] (zfl [some (112, some 0), some (0, none), some (0, none), some (0, none), some (0, none), some (0, none), some (0, none), some (0, none), some (0, none), some (0, none), none, none, none] xs).2) h) (fun x0 x1 x2 x3 x4 x5 x6 x7 x8 x9 h hr => s_M_access_81 hS h21 h36 x0 x1 x2 x3 x4 x5 x6 x7 x8 x9 h hr), trivial⟩⟩⟩
set_option maxRecDepth 100000 in
set_option maxHeartbeats 0 in
theorem s_M_access_36 {l : Launch} {zi : Nat → zinfo} {r : zRes} {GO : Nat → List (Option zV) → List zV → zH → Prop} (hS : zSg l false zi (zget (999, 0, 0, 0) zc_M_access) (zcut zu_M_access) zin (fun _ _ => none) r GO) {r21 : Int → Int → Int → Int → Int → Int → Int → zH → Option zRes} (h21 : ∀ (x0 x1 x2 x3 x4 x5 x6 : Int) (h : zH), r21 x0 x1 x2 x3 x4 x5 x6 h = some r → GO 21 [some (112, 0), some (0, x0), some (0, x1), some (0, x2), some (0, x3), some (0, x4), some (0, x5), some (0, x6), none, none, none, none, none] [] h) (a1 a2 a3 a4 a5 a6 a7 a8 : Int) (h : zH) (hr : M_access_36 zin r21 a1 a2 a3 a4 a5 a6 a7 a8 h = some r) : GO 36 [some (112, 0), some (0, a1), some (0, a2), some (0, a3), some (0, a4), some (0, a5), some (0, a6), some (0, a7), some (0, a8), none, none, none, none] [] h := zit8_s (P := fun x0 x1 x2 x3 x4 x5 x6 x7 h => GO 36 [some (112, 0), some (0, x0), some (0, x1), some (0, x2), some (0, x3), some (0, x4), some (0, x5), some (0, x6), some (0, x7), none, none, none, none] [] h) (fun rr hh a1 a2 a3 a4 a5 a6 a7 a8 h hr => s_M_access_36b hS h21 hh a1 a2 a3 a4 a5 a6 a7 a8 h hr) zN a1 a2 a3 a4 a5 a6 a7 a8 h hr
set_option maxRecDepth 100000 in
set_option maxHeartbeats 0 in
theorem s_M_access_257 {l : Launch} {zi : Nat → zinfo} {r : zRes} {GO : Nat → List (Option zV) → List zV → zH → Prop} (hS : zSg l false zi (zget (999, 0, 0, 0) zc_M_access) (zcut zu_M_access) zin (fun _ _ => none) r GO) (t0 t1 : Int) (h : zH) (hr : M_access_257 zin t0 t1 h = some r) : GO 257 [none, none, none, none, none, none, none, none, none, none, none, none, none] [(0, t0), (0, t1), (204, 0)] h := by
  have e9 := Eq.trans (Eq.symm (qe_M_access_257 zin t0 t1 h)) hr
  generalize (400 : Nat) = f9 at e9
  refine hS _ _ (zcal_s (SP := zKsp l false zi r) _ ?_) (zorc_s _ ?_) _ _ _ _ _ e9
  · exact trivial
  · exact trivial
set_option maxRecDepth 100000 in
set_option maxHeartbeats 0 in
theorem s_M_access_21b {l : Launch} {zi : Nat → zinfo} {r : zRes} {GO : Nat → List (Option zV) → List zV → zH → Prop} (hS : zSg l false zi (zget (999, 0, 0, 0) zc_M_access) (zcut zu_M_access) zin (fun _ _ => none) r GO) {r21 : Int → Int → Int → Int → Int → Int → Int → zH → Option zRes} (h21 : ∀ (x0 x1 x2 x3 x4 x5 x6 : Int) (h : zH), r21 x0 x1 x2 x3 x4 x5 x6 h = some r → GO 21 [some (112, 0), some (0, x0), some (0, x1), some (0, x2), some (0, x3), some (0, x4), some (0, x5), some (0, x6), none, none, none, none, none] [] h) (a1 a2 a3 a4 a5 a6 a7 : Int) (h : zH) (hr : M_access_21b zin r21 a1 a2 a3 a4 a5 a6 a7 h = some r) : GO 21 [some (112, 0), some (0, a1), some (0, a2), some (0, a3), some (0, a4), some (0, a5), some (0, a6), some (0, a7), none, none, none, none, none] [] h := by
  have e9 := Eq.trans (Eq.symm (qe_M_access_21b zin r21 a1 a2 a3 a4 a5 a6 a7 h)) hr
  generalize (400 : Nat) = f9 at e9
  refine hS _ _ (zcal_s (SP := zKsp l false zi r) _ ?_) (zorc_s _ ?_) _ _ _ _ _ e9
  · exact trivial
  · exact ⟨zap8_s (P := fun xs h => GO 36 (zfl [some (112, some 0), some (0, none), some (0, none), some (0, none), some (0, none), some (0, none), some (0, none), some (0, none), some (0, none), none, none, none, none] xs).1 (zfs [] (zfl [some (112, some 0), some (0, none), some (0, none), some (0, none), some (0, none), some (0, none), some (0, none), some (0, none), some (0, none), none, none, none, none] xs).2) h) (fun x0 x1 x2 x3 x4 x5 x6 x7 h hr => s_M_access_36 hS h21 x0 x1 x2 x3 x4 x5 x6 x7 h hr), ⟨zap2_s (P := fun xs h => GO 257 (zfl [none, none, none, none, none, none, none, none, none, none, none, none, none] xs).1 (zfs [(0, none), (0, none), (204, some 0)] (zfl [none, none, none, none, none, none, none, none, none, none, none, none, none] xs).2) h) (fun x0 x1 h hr => s_M_access_257 hS x0 x1 h hr), trivial⟩⟩
set_option maxRecDepth 100000 in
set_option maxHeartbeats 0 in
theorem s_M_access_21 {l : Launch} {zi : Nat → zinfo} {r : zRes} {GO : Nat → List (Option zV) → List zV → zH → Prop} (hS : zSg l false zi (zget (999, 0, 0, 0) zc_M_access) (zcut zu_M_access) zin (fun _ _ => none) r GO) (a1 a2 a3 a4 a5 a6 a7 : Int) (h : zH) (hr : M_access_21 zin a1 a2 a3 a4 a5 a6 a7 h = some r) : GO 21 [some (112, 0), some (0, a1), some (0, a2), some (0, a3), some (0, a4), some (0, a5), some (0, a6), some (0, a7), none, none, none, none, none] [] h := zit7_s (P := fun x0 x1 x2 x3 x4 x5 x6 h => GO 21 [some (112, 0), some (0, x0), some (0, x1), some (0, x2), some (0, x3), some (0, x4), some (0, x5), some (0, x6), none, none, none, none, none] [] h) (fun rr hh a1 a2 a3 a4 a5 a6 a7 h hr => s_M_access_21b hS hh a1 a2 a3 a4 a5 a6 a7 h hr) zN a1 a2 a3 a4 a5 a6 a7 h hr
set_option maxRecDepth 100000 in
set_option maxHeartbeats 0 in
theorem s_M_access {l : Launch} {zi : Nat → zinfo} {r : zRes} {GO : Nat → List (Option zV) → List zV → zH → Prop} (hS : zSg l false zi (zget (999, 0, 0, 0) zc_M_access) (zcut zu_M_access) zin (fun _ _ => none) r GO) (a1 a2 a3 a4 : Int) (h : zH) (hr : M_access a1 a2 a3 a4 h zin = some r) : GO 0 [some (112, 0), some (0, a1), some (0, a2), some (0, a3), some (0, a4), none, none, none, none, none, none, none, none] [] h := by
  have e9 := Eq.trans (Eq.symm (qe_M_access zin a1 a2 a3 a4 h)) hr
  generalize (400 : Nat) = f9 at e9
  refine hS _ _ (zcal_s (SP := zKsp l false zi r) _ ?_) (zorc_s _ ?_) _ _ _ _ _ e9
  · exact trivial
  · exact ⟨zap7_s (P := fun xs h => GO 21 (zfl [some (112, some 0), some (0, none), some (0, none), some (0, none), some (0, none), some (0, none), some (0, none), some (0, none), none, none, none, none, none] xs).1 (zfs [] (zfl [some (112, some 0), some (0, none), some (0, none), some (0, none), some (0, none), some (0, none), some (0, none), some (0, none), none, none, none, none, none] xs).2) h) (fun x0 x1 x2 x3 x4 x5 x6 h hr => s_M_access_21 hS x0 x1 x2 x3 x4 x5 x6 h hr), trivial⟩
set_option maxRecDepth 100000 in
set_option maxHeartbeats 0 in
theorem s_M_accessShared_121 {l : Launch} {zi : Nat → zinfo} {r : zRes} {GO : Nat → List (Option zV) → List zV → zH → Prop} (hS : zSg l false zi (zget (999, 0, 0, 0) zc_M_accessShared) (zcut zu_M_accessShared) zin (fun _ _ => none) r GO) {r14 : Int → Int → Int → Int → Int → Int → zH → Option zRes} (h14 : ∀ (x0 x1 x2 x3 x4 x5 : Int) (h : zH), r14 x0 x1 x2 x3 x4 x5 h = some r → GO 14 [some (112, 0), some (0, x0), some (0, x1), some (0, x2), some (0, x3), some (0, x4), some (0, x5), none] [] h) (a1 a2 a3 a4 a5 a6 t0 t1 : Int) (h : zH) (hr : M_accessShared_121 zin r14 a1 a2 a3 a4 a5 a6 t0 t1 h = some r) : GO 121 [some (112, 0), some (0, a1), some (0, a2), some (0, a3), some (0, a4), some (0, a5), some (0, a6), none] [(0, t0), (0, t1), (208, 0)] h := by
  have e9 := Eq.trans (Eq.symm (qe_M_accessShared_121 zin r14 a1 a2 a3 a4 a5 a6 t0 t1 h)) hr
  generalize (400 : Nat) = f9 at e9
  refine hS _ _ (zcal_s (SP := zKsp l false zi r) _ ?_) (zorc_s _ ?_) _ _ _ _ _ e9
  · exact trivial
  · exact ⟨zap6_s (P := fun xs h => GO 14 (zfl [some (112, some 0), some (0, none), some (0, none), some (0, none), some (0, none), some (0, none), some (0, none), none] xs).1 (zfs [] (zfl [some (112, some 0), some (0, none), some (0, none), some (0, none), some (0, none), some (0, none), some (0, none), none] xs).2) h) h14, trivial⟩
set_option maxRecDepth 100000 in
set_option maxHeartbeats 0 in
theorem s_M_accessShared_116 {l : Launch} {zi : Nat → zinfo} {r : zRes} {GO : Nat → List (Option zV) → List zV → zH → Prop} (hS : zSg l false zi (zget (999, 0, 0, 0) zc_M_accessShared) (zcut zu_M_accessShared) zin (fun _ _ => none) r GO) {r14 : Int → Int → Int → Int → Int → Int → zH → Option zRes} (h14 : ∀ (x0 x1 x2 x3 x4 x5 : Int) (h : zH), r14 x0 x1 x2 x3 x4 x5 h = some r → GO 14 [some (112, 0), some (0, x0), some (0, x1), some (0, x2), some (0, x3), some (0, x4), some (0, x5), none] [] h) (a1 a2 a3 a4 a5 a6 t0 : Int) (h : zH) (hr : M_accessShared_116 zin r14 a1 a2 a3 a4 a5 a6 t0 h = some r) : GO 116 [some (112, 0), some (0, a1), some (0, a2), some (0, a3), some (0, a4), some (0, a5), some (0, a6), none] [(0, t0), (208, 0)] h := by
  have e9 := Eq.trans (Eq.symm (qe_M_accessShared_116 zin r14 a1 a2 a3 a4 a5 a6 t0 h)) hr
  generalize (400 : Nat) = f9 at e9
  refine hS _ _ (zcal_s (SP := zKsp l false zi r) _ ?_) (zorc_s _ ?_) _ _ _ _ _ e9
  · exact trivial
  · exact ⟨zap8_s (P := fun xs h => GO 121 (zfl [some (112, some 0), some (0, none), some (0, none), some (0, none), some (0, none), some (0, none), some (0, none), none] xs).1 (zfs [(0, none), (0, none), (208, some 0)] (zfl [some (112, some 0), some (0, none), some (0, none), some (0, none), some (0, none), some (0, none), some (0, none), none] xs).2) h) (fun x0 x1 x2 x3 x4 x5 x6 x7 h hr => s_M_accessShared_121 hS h14 x0 x1 x2 x3 x4 x5 x6 x7 h hr), trivial⟩
set_option maxRecDepth 100000 in
set_option maxHeartbeats 0 in
theorem s_M_accessShared_85 {l : Launch} {zi : Nat → zinfo} {r : zRes} {GO : Nat → List (Option zV) → List zV → zH → Prop} (hS : zSg l false zi (zget (999, 0, 0, 0) zc_M_accessShared) (zcut zu_M_accessShared) zin (fun _ _ => none) r GO) {r14 : Int → Int → Int → Int → Int → Int → zH → Option zRes} (h14 : ∀ (x0 x1 x2 x3 x4 x5 : Int) (h : zH), r14 x0 x1 x2 x3 x4 x5 h = some r → GO 14 [some (112, 0), some (0, x0), some (0, x1), some (0, x2), some (0, x3), some (0, x4), some (0, x5), none] [] h) (a1 a2 a3 a4 a5 a6 t0 : Int) (h : zH) (hr : M_accessShared_85 zin r14 a1 a2 a3 a4 a5 a6 t0 h = some r) : GO 85 [some (112, 0), some (0, a1), some (0, a2), some (0, a3), some (0, a4), some (0, a5), some (0, a6), none] [(0, t0)] h := by
  have e9 := Eq.trans (Eq.symm (qe_M_accessShared_85 zin r14 a1 a2 a3 a4 a5 a6 t0 h)) hr
  generalize (400 : Nat) = f9 at e9
  refine hS _ _ (zcal_s (SP := zKsp l false zi r) _ ?_) (zorc_s _ ?_) _ _ _ _ _ e9
  · exact trivial
  · exact ⟨zap7_s (P := fun xs h => GO 116 (zfl [some (112, some 0), some (0, none), some (0, none), some (0, none), some (0, none), some (0, none), some (0, none), none] xs).1 (zfs [(0, none), (208, some 0)] (zfl [some (112, some 0), some (0, none), some (0, none), some (0, none), some (0, none), some (0, none), some (0, none), none] xs).2) h) (fun x0 x1 x2 x3 x4 x5 x6 h hr => s_M_accessShared_116 hS h14 x0 x1 x2 x3 x4 x5 x6 h hr), ⟨zap8_s (P := fun xs h => GO 121 (zfl [some (112, some 0), some (0, none), some (0, none), some (0, none), some (0, none), some (0, none), some (0, none), none] xs).1 (zfs [(0, none), (0, none), (208, some 0)] (zfl [some (112, some 0), some (0, none), some (0, none), some (0, none), some (0, none), some (0, none), some (0, none), none] xs).2) h) (fun x0 x1 x2 x3 x4 x5 x6 x7 h hr => s_M_accessShared_121 hS h14 x0 x1 x2 x3 x4 x5 x6 x7 h hr), trivial⟩⟩
set_option maxRecDepth 100000 in
set_option maxHeartbeats 0 in
theorem s_M_accessShared_80 {l : Launch} {zi : Nat → zinfo} {r : zRes} {GO : Nat → List (Option zV) → List zV → zH → Prop} (hS : zSg l false zi (zget (999, 0, 0, 0) zc_M_accessShared) (zcut zu_M_accessShared) zin (fun _ _ => none) r GO) {r14 : Int → Int → Int → Int → Int → Int → zH → Option zRes} (h14 : ∀ (x0 x1 x2 x3 x4 x5 : Int) (h : zH), r14 x0 x1 x2 x3 x4 x5 h = some r → GO 14 [some (112, 0), some (0, x0), some (0, x1), some (0, x2), some (0, x3), some (0, x4), some (0, x5), none] [] h) (a1 a2 a3 a4 a5 a6 : Int) (h : zH) (hr : M_accessShared_80 zin r14 a1 a2 a3 a4 a5 a6 h = some r) : GO 80 [some (112, 0), some (0, a1), some (0, a2), some (0, a3), some (0, a4), some (0, a5), some (0, a6), none] [] h := by
  have e9 := Eq.trans (Eq.symm (qe_M_accessShared_80 zin r14 a1 a2 a3 a4 a5 a6 h)) hr
  generalize (400 : Nat) = f9 at e9
  refine hS _ _ (zcal_s (SP := zKsp l false zi r) _ ?_) (zorc_s _ ?_) _ _ _ _ _ e9
  · exact trivial
  · exact ⟨zap7_s (P := fun xs h => GO 85 (zfl [some (112, some 0), some (0, none), some (0, none), some (0, none), some (0, none), some (0, none), some (0, none), none] xs).1 (zfs [(0, none)] (zfl [some (112, some 0), some (0, none), some (0, none), some (0, none), some (0, none), some (0, none), some (0, none), none] xs).2) h) (fun x0 x1 x2 x3 x4 x5 x6 h hr => s_M_accessShared_85 hS h14 x0 x1 x2 x3 x4 x5 x6 h hr), trivial⟩
set_option maxRecDepth 100000 in
set_option maxHeartbeats 0 in
theorem s_M_accessShared_84 {l : Launch} {zi : Nat → zinfo} {r : zRes} {GO : Nat → List (Option zV) → List zV → zH → Prop} (hS : zSg l false zi (zget (999, 0, 0, 0) zc_M_accessShared) (zcut zu_M_accessShared) zin (fun _ _ => none) r GO) {r14 : Int → Int → Int → Int → Int → Int → zH → Option zRes} (h14 : ∀ (x0 x1 x2 x3 x4 x5 : Int) (h : zH), r14 x0 x1 x2 x3 x4 x5 h = some r → GO 14 [some (112, 0), some (0, x0), some (0, x1), some (0, x2), some (0, x3), some (0, x4), some (0, x5), none] [] h) (a1 a2 a3 a4 a5 a6 : Int) (h : zH) (hr : M_accessShared_84 zin r14 a1 a2 a3 a4 a5 a6 h = some r) : GO 84 [some (112, 0), some (0, a1), some (0, a2), some (0, a3), some (0, a4), some (0, a5), some (0, a6), none] [] h := by
  have e9 := Eq.trans (Eq.symm (qe_M_accessShared_84 zin r14 a1 a2 a3 a4 a5 a6 h)) hr
  generalize (400 : Nat) = f9 at e9
  refine hS _ _ (zcal_s (SP := zKsp l false zi r) _ ?_) (zorc_s _ ?_) _ _ _ _ _ e9
  · exact trivial
  · exact ⟨zap7_s (P := fun xs h => GO 85 (zfl [some (112, some 0), some (0, none), some (0, none), some (0, none), some (0, none), some (0, none), some (0, none), none] xs).1 (zfs [(0, none)] (zfl [some (112, some 0), some (0, none), some (0, none), some (0, none), some (0, none), some (0, none), some (0, none), none] xs).2) h) (fun x0 x1 x2 x3 x4 x5 x6 h hr => s_M_accessShared_85 hS h14 x0 x1 x2 x3 x4 x5 x6 h hr), trivial⟩
set_option maxRecDepth 100000 in
set_option maxHeartbeats 0 in
theorem s_M_accessShared_178 {l : Launch} {zi : Nat → zinfo} {r : zRes} {GO : Nat → List (Option zV) → List zV → zH → Prop} (hS : zSg l false zi (zget (999, 0, 0, 0) zc_M_accessShared) (zcut zu_M_accessShared) zin (fun _ _ => none) r GO) (t0 t1 : Int) (h : zH) (hr : M_accessShared_178 zin t0 t1 h = some r) : GO 178 [none, none, none, none, none, none, none, none] [(0, t0), (0, t1), (207, 0)] h := by
  have e9 := Eq.trans (Eq.symm (qe_M_accessShared_178 zin t0 t1 h)) hr
  generalize (400 : Nat) = f9 at e9
  refine hS _ _ (zcal_s (SP := zKsp l false zi r) _ ?_) (zorc_s _ ?_) _ _ _ _ _ e9
  · exact trivial
  · exact trivial
set_option maxRecDepth 100000 in
set_option maxHeartbeats 0 in
theorem s_M_accessShared_14b {l : Launch} {zi : Nat → zinfo} {r : zRes} {GO : Nat → List (Option zV) → List zV → zH → Prop} (hS : zSg l false zi (zget (999, 0, 0, 0) zc_M_accessShared) (zcut zu_M_accessShared) zin (fun _ _ => none) r GO) {r14 : Int → Int → Int → Int → Int → Int → zH → Option zRes} (h14 : ∀ (x0 x1 x2 x3 x4 x5 : Int) (h : zH), r14 x0 x1 x2 x3 x4 x5 h = some r → GO 14 [some (112, 0), some (0, x0), some (0, x1), some (0, x2), some (0, x3), some (0, x4), some (0, x5), none] [] h) (a1 a2 a3 a4 a5 a6 : Int) (h : zH) (hr : M_accessShared_14b zin r14 a1 a2 a3 a4 a5 a6 h = some r) : GO 14 [some (112, 0), some (0, a1), some (0, a2), some (0, a3), some (0, a4), some (0, a5), some (0, a6), none] [] h := by
  have e9 := Eq.trans (Eq.symm (qe_M_accessShared_14b zin r14 a1 a2 a3 a4 a5 a6 h)) hr
  generalize (400 : Nat) = f9 at e9
  refine hS _ _ (zcal_s (SP := zKsp l false zi r) _ ?_) (zorc_s _ ?_) _ _ _ _ _ e9
  · exact trivial
  · exact ⟨zap6_s (P := fun xs h => GO 80 (zfl [some (112, some 0), some (0, none), some (0, none), some (0, none), some (0, none), some (0, none), some (0, none), none] xs).1 (zfs [] (zfl [some (112, some 0), some (0, none), some (0, none), some (0, none), some (0, none), some (0, none), some (0, none), none] xs).2) h) (fun x0 x1 x2 x3 x4 x5 h hr => s_M_accessShared_80 hS h14 x0 x1 x2 x3 x4 x5 h hr), ⟨zap6_s (P := fun xs h => GO 84 (zfl [some (112, some 0), some (0, none), some (0, none), some (0, none), some (0, none), some (0, none), some (0, none), none] xs).1 (zfs [] (zfl [some (112, some 0), some (0, none), some (0, none), some (0, none), some (0, none), some (0, none), some (0, none), none] xs).2) h) (fun x0 x1 x2 x3 x4 x5 h hr => s_M_accessShared_84 hS h14 x0 x1 x2 x3 x4 x5 h hr), ⟨zap2_s (P := fun xs h => GO 178 (zfl [none, none, none, none, none, none, none, none] xs).1 (zfs [(0, none), (0, none), (207, some 0)] (zfl [none, none, none, none, none, none, none, none] xs).2) h) (fun x0 x1 h hr => s_M_accessShared_178 hS x0 x1 h hr), trivial⟩⟩⟩
set_option maxRecDepth 100000 in
set_option maxHeartbeats 0 in
theorem s_M_accessShared_14 {l : Launch} {zi : Nat → zinfo} {r : zRes} {GO : Nat → List (Option zV) → List zV → zH → Prop} (hS : zSg l false zi (zget (999, 0, 0, 0) zc_M_accessShared) (zcut zu_M_accessShared) zin (fun _ _ => none) r GO) (a1 a2 a3 a4 a5 a6 : Int) (h : zH) (hr : M_accessShared_14 zin a1 a2 a3 a4 a5 a6 h = some r) : GO 14 [some (112, 0), some (0, a1), some (0, a2), some (0, a3), some (0, a4), some (0, a5), some (0, a6), none] [] h := zit6_s (P := fun x0 x1 x2 x3 x4 x5 h => GO 14 [some (112, 0), some (0, x0), some (0, x1), some (0, x2), some (0, x3), some (0, x4), some (0, x5), none] [] h) (fun rr hh a1 a2 a3 a4 a5 a6 h hr => s_M_accessShared_14b hS hh a1 a2 a3 a4 a5 a6 h hr) zN a1 a2 a3 a4 a5 a6 h hr
set_option maxRecDepth 100000 in
set_option maxHeartbeats 0 in
theorem s_M_accessShared {l : Launch} {zi : Nat → zinfo} {r : zRes} {GO : Nat → List (Option zV) → List zV → zH → Prop} (hS : zSg l false zi (zget (999, 0, 0, 0) zc_M_accessShared) (zcut zu_M_accessShared) zin (fun _ _ => none) r GO) (a1 a2 a3 a4 : Int) (h : zH) (hr : M_accessShared a1 a2 a3 a4 h zin = some r) : GO 0 [some (112, 0), some (0, a1), some (0, a2), some (0, a3), some (0, a4), none, none, none] [] h := by
  have e9 := Eq.trans (Eq.symm (qe_M_accessShared zin a1 a2 a3 a4 h)) hr
  generalize (400 : Nat) = f9 at e9
  refine hS _ _ (zcal_s (SP := zKsp l false zi r) _ ?_) (zorc_s _ ?_) _ _ _ _ _ e9
  · exact trivial
  · exact ⟨zap6_s (P := fun xs h => GO 14 (zfl [some (112, some 0), some (0, none), some (0, none), some (0, none), some (0, none), some (0, none), some (0, none), none] xs).1 (zfs [] (zfl [some (112, some 0), some (0, none), some (0, none), some (0, none), some (0, none), some (0, none), some (0, none), none] xs).2) h) (fun x0 x1 x2 x3 x4 x5 h hr => s_M_accessShared_14 hS x0 x1 x2 x3 x4 x5 h hr), trivial⟩
