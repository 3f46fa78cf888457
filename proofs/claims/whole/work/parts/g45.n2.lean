set_option maxRecDepth 100000 in
set_option maxHeartbeats 0 in
theorem n_Th_set_20 {ρ : Type} (e : zRes → Option ρ) {krA : Int → zH → Option ρ} {krZ : Int → zH → Option zRes} (hk : ∀ v h, (krZ v h).bind e = krA v h) (h : zH) : (Th_set_20 krZ h).bind e = Th_set_20 krA h := by
  refine Eq.trans (congrArg (fun z => Option.bind z e) (qe_Th_set_20 krZ h)) (Eq.trans ?_ (Eq.symm (qe_Th_set_20 krA h)))
  generalize (400 : Nat) = f9
  refine zseg_e e (zcal_e _ _ ?_) (zorc_e _ _ ?_) hk (fun _ _ => rfl) f9 _ _ _ _
  · exact trivial
  · exact trivial
set_option maxRecDepth 100000 in
set_option maxHeartbeats 0 in
theorem n_Th_set {ρ : Type} (e : zRes → Option ρ) {krA : Int → zH → Option ρ} {krZ : Int → zH → Option zRes} (hk : ∀ v h, (krZ v h).bind e = krA v h) (a0 a1 a2 : Int) (h : zH) : (Th_set a0 a1 a2 h krZ).bind e = Th_set a0 a1 a2 h krA := by
  refine Eq.trans (congrArg (fun z => Option.bind z e) (qe_Th_set krZ a0 a1 a2 h)) (Eq.trans ?_ (Eq.symm (qe_Th_set krA a0 a1 a2 h)))
  generalize (400 : Nat) = f9
  refine zseg_e e (zcal_e _ _ ?_) (zorc_e _ _ ?_) hk (fun _ _ => rfl) f9 _ _ _ _
  · exact trivial
  · exact ⟨rfl, rfl, rfl, zap0_e (fun  h => n_Th_set_20 e hk  h), trivial⟩
set_option maxRecDepth 100000 in
set_option maxHeartbeats 0 in
theorem n_X_exchange_22_36 {ρ : Type} (e : zRes → Option ρ) {krA : Int → zH → Option ρ} {krZ : Int → zH → Option zRes} (hk : ∀ v h, (krZ v h).bind e = krA v h) (a2 a3 a4 t0 t1 t2 : Int) (h : zH) : (X_exchange_22_36 krZ a2 a3 a4 t0 t1 t2 h).bind e = X_exchange_22_36 krA a2 a3 a4 t0 t1 t2 h := by
  refine Eq.trans (congrArg (fun z => Option.bind z e) (qe_X_exchange_22_36 krZ a2 a3 a4 t0 t1 t2 h)) (Eq.trans ?_ (Eq.symm (qe_X_exchange_22_36 krA a2 a3 a4 t0 t1 t2 h)))
  generalize (400 : Nat) = f9
  refine zseg_e e (zcal_e _ _ ?_) (zorc_e _ _ ?_) hk (fun _ _ => rfl) f9 _ _ _ _
  · exact ⟨rfl, rfl, zca3_e (fun x0 x1 x2 h k t => n_Th_set e (fun _ _ => rfl) x0 x1 x2 h), trivial⟩
  · exact trivial
set_option maxRecDepth 100000 in
set_option maxHeartbeats 0 in
theorem n_X_exchange_22 {ρ : Type} (e : zRes → Option ρ) {krA : Int → zH → Option ρ} {krZ : Int → zH → Option zRes} (hk : ∀ v h, (krZ v h).bind e = krA v h) (a0 a1 a2 a3 : Int) (h : zH) : (X_exchange_22 a0 a1 a2 a3 h krZ).bind e = X_exchange_22 a0 a1 a2 a3 h krA := by
  refine Eq.trans (congrArg (fun z => Option.bind z e) (qe_X_exchange_22 krZ a0 a1 a2 a3 h)) (Eq.trans ?_ (Eq.symm (qe_X_exchange_22 krA a0 a1 a2 a3 h)))
  generalize (400 : Nat) = f9
  refine zseg_e e (zcal_e _ _ ?_) (zorc_e _ _ ?_) hk (fun _ _ => rfl) f9 _ _ _ _
  · exact ⟨rfl, rfl, zca2_e (fun x0 x1 h k t => n_Th_at e (fun _ _ => rfl) x0 x1 h), trivial⟩
  · exact ⟨rfl, rfl, rfl, zap6_e (fun x0 x1 x2 x3 x4 x5 h => n_X_exchange_22_36 e hk x0 x1 x2 x3 x4 x5 h), trivial⟩
set_option maxRecDepth 100000 in
set_option maxHeartbeats 0 in
theorem n_X_isClash_32 {ρ : Type} (e : zRes → Option ρ) {krA : Int → zH → Option ρ} {krZ : Int → zH → Option zRes} (hk : ∀ v h, (krZ v h).bind e = krA v h) (t0 : Int) (h : zH) : (X_isClash_32 krZ t0 h).bind e = X_isClash_32 krA t0 h := by
  refine Eq.trans (congrArg (fun z => Option.bind z e) (qe_X_isClash_32 krZ t0 h)) (Eq.trans ?_ (Eq.symm (qe_X_isClash_32 krA t0 h)))
  generalize (400 : Nat) = f9
  refine zseg_e e (zcal_e _ _ ?_) (zorc_e _ _ ?_) hk (fun _ _ => rfl) f9 _ _ _ _
  · exact trivial
  · exact trivial
set_option maxRecDepth 100000 in
set_option maxHeartbeats 0 in
theorem n_X_isClash_16 {ρ : Type} (e : zRes → Option ρ) {krA : Int → zH → Option ρ} {krZ : Int → zH → Option zRes} (hk : ∀ v h, (krZ v h).bind e = krA v h) (a1 t0 : Int) (h : zH) : (X_isClash_16 krZ a1 t0 h).bind e = X_isClash_16 krA a1 t0 h := by
  refine Eq.trans (congrArg (fun z => Option.bind z e) (qe_X_isClash_16 krZ a1 t0 h)) (Eq.trans ?_ (Eq.symm (qe_X_isClash_16 krA a1 t0 h)))
  generalize (400 : Nat) = f9
  refine zseg_e e (zcal_e _ _ ?_) (zorc_e _ _ ?_) hk (fun _ _ => rfl) f9 _ _ _ _
  · exact trivial
  · exact ⟨rfl, rfl, rfl, zap1_e (fun x0 h => n_X_isClash_32 e hk x0 h), trivial⟩
set_option maxRecDepth 100000 in
set_option maxHeartbeats 0 in
theorem n_X_isClash {ρ : Type} (e : zRes → Option ρ) {krA : Int → zH → Option ρ} {krZ : Int → zH → Option zRes} (hk : ∀ v h, (krZ v h).bind e = krA v h) (a0 a1 a2 : Int) (h : zH) : (X_isClash a0 a1 a2 h krZ).bind e = X_isClash a0 a1 a2 h krA := by
  refine Eq.trans (congrArg (fun z => Option.bind z e) (qe_X_isClash krZ a0 a1 a2 h)) (Eq.trans ?_ (Eq.symm (qe_X_isClash krA a0 a1 a2 h)))
  generalize (400 : Nat) = f9
  refine zseg_e e (zcal_e _ _ ?_) (zorc_e _ _ ?_) hk (fun _ _ => rfl) f9 _ _ _ _
  · exact trivial
  · exact ⟨rfl, rfl, rfl, zap2_e (fun x0 x1 h => n_X_isClash_16 e hk x0 x1 h), trivial⟩
set_option maxRecDepth 100000 in
set_option maxHeartbeats 0 in
theorem n_X_withTouch_22 {ρ : Type} (e : zRes → Option ρ) {krA : Int → zH → Option ρ} {krZ : Int → zH → Option zRes} (hk : ∀ v h, (krZ v h).bind e = krA v h) (t0 : Int) (h : zH) : (X_withTouch_22 krZ t0 h).bind e = X_withTouch_22 krA t0 h := by
  refine Eq.trans (congrArg (fun z => Option.bind z e) (qe_X_withTouch_22 krZ t0 h)) (Eq.trans ?_ (Eq.symm (qe_X_withTouch_22 krA t0 h)))
  generalize (400 : Nat) = f9
  refine zseg_e e (zcal_e _ _ ?_) (zorc_e _ _ ?_) hk (fun _ _ => rfl) f9 _ _ _ _
  · exact trivial
  · exact trivial
set_option maxRecDepth 100000 in
set_option maxHeartbeats 0 in
theorem n_X_withTouch {ρ : Type} (e : zRes → Option ρ) {krA : Int → zH → Option ρ} {krZ : Int → zH → Option zRes} (hk : ∀ v h, (krZ v h).bind e = krA v h) (a0 a1 a2 : Int) (h : zH) : (X_withTouch a0 a1 a2 h krZ).bind e = X_withTouch a0 a1 a2 h krA := by
  refine Eq.trans (congrArg (fun z => Option.bind z e) (qe_X_withTouch krZ a0 a1 a2 h)) (Eq.trans ?_ (Eq.symm (qe_X_withTouch krA a0 a1 a2 h)))
  generalize (400 : Nat) = f9
  refine zseg_e e (zcal_e _ _ ?_) (zorc_e _ _ ?_) hk (fun _ _ => rfl) f9 _ _ _ _
  · exact trivial
  · exact ⟨rfl, rfl, rfl, zap1_e (fun x0 h => n_X_withTouch_22 e hk x0 h), trivial⟩
set_option maxRecDepth 100000 in
set_option maxHeartbeats 0 in
theorem n_La_markRace_26 {ρ : Type} (e : zRes → Option ρ) {krA : Int → zH → Option ρ} {krZ : Int → zH → Option zRes} (hk : ∀ v h, (krZ v h).bind e = krA v h) (h : zH) : (La_markRace_26 krZ h).bind e = La_markRace_26 krA h := by
  refine Eq.trans (congrArg (fun z => Option.bind z e) (qe_La_markRace_26 krZ h)) (Eq.trans ?_ (Eq.symm (qe_La_markRace_26 krA h)))
  generalize (400 : Nat) = f9
  refine zseg_e e (zcal_e _ _ ?_) (zorc_e _ _ ?_) hk (fun _ _ => rfl) f9 _ _ _ _
  · exact trivial
  · exact trivial
set_option maxRecDepth 100000 in
set_option maxHeartbeats 0 in
theorem n_La_markRace {ρ : Type} (e : zRes → Option ρ) {krA : Int → zH → Option ρ} {krZ : Int → zH → Option zRes} (hk : ∀ v h, (krZ v h).bind e = krA v h) (a0 a1 : Int) (h : zH) : (La_markRace a0 a1 h krZ).bind e = La_markRace a0 a1 h krA := by
  refine Eq.trans (congrArg (fun z => Option.bind z e) (qe_La_markRace krZ a0 a1 h)) (Eq.trans ?_ (Eq.symm (qe_La_markRace krA a0 a1 h)))
  generalize (400 : Nat) = f9
  refine zseg_e e (zcal_e _ _ ?_) (zorc_e _ _ ?_) hk (fun _ _ => rfl) f9 _ _ _ _
  · exact trivial
  · exact ⟨rfl, rfl, rfl, zap0_e (fun  h => n_La_markRace_26 e hk  h), trivial⟩
set_option maxRecDepth 100000 in
set_option maxHeartbeats 0 in
theorem n_Bl_touchGlobal_42 {ρ : Type} (e : zRes → Option ρ) {krA : Int → zH → Option ρ} {krZ : Int → zH → Option zRes} (hk : ∀ v h, (krZ v h).bind e = krA v h) (a0 a1 a2 a3 : Int) (h : zH) : (Bl_touchGlobal_42 krZ a0 a1 a2 a3 h).bind e = Bl_touchGlobal_42 krA a0 a1 a2 a3 h := by
  refine Eq.trans (congrArg (fun z => Option.bind z e) (qe_Bl_touchGlobal_42 krZ a0 a1 a2 a3 h)) (Eq.trans ?_ (Eq.symm (qe_Bl_touchGlobal_42 krA a0 a1 a2 a3 h)))
  generalize (400 : Nat) = f9
  refine zseg_e e (zcal_e _ _ ?_) (zorc_e _ _ ?_) hk (fun _ _ => rfl) f9 _ _ _ _
  · exact ⟨rfl, rfl, zca3_e (fun x0 x1 x2 h k t => n_X_withTouch e (fun _ _ => rfl) x0 x1 x2 h), trivial⟩
  · exact trivial
set_option maxRecDepth 100000 in
set_option maxHeartbeats 0 in
theorem n_Bl_touchGlobal_34 {ρ : Type} (e : zRes → Option ρ) {krA : Int → zH → Option ρ} {krZ : Int → zH → Option zRes} (hk : ∀ v h, (krZ v h).bind e = krA v h) (a0 a1 a2 a3 : Int) (h : zH) : (Bl_touchGlobal_34 krZ a0 a1 a2 a3 h).bind e = Bl_touchGlobal_34 krA a0 a1 a2 a3 h := by
  refine Eq.trans (congrArg (fun z => Option.bind z e) (qe_Bl_touchGlobal_34 krZ a0 a1 a2 a3 h)) (Eq.trans ?_ (Eq.symm (qe_Bl_touchGlobal_34 krA a0 a1 a2 a3 h)))
  generalize (400 : Nat) = f9
  refine zseg_e e (zcal_e _ _ ?_) (zorc_e _ _ ?_) hk (fun _ _ => rfl) f9 _ _ _ _
  · exact ⟨rfl, rfl, zca2_e (fun x0 x1 h k t => n_La_markRace e (fun _ _ => rfl) x0 x1 h), trivial⟩
  · exact ⟨rfl, rfl, rfl, zap4_e (fun x0 x1 x2 x3 h => n_Bl_touchGlobal_42 e hk x0 x1 x2 x3 h), trivial⟩
set_option maxRecDepth 100000 in
set_option maxHeartbeats 0 in
theorem n_Bl_touchGlobal {ρ : Type} (e : zRes → Option ρ) {krA : Int → zH → Option ρ} {krZ : Int → zH → Option zRes} (hk : ∀ v h, (krZ v h).bind e = krA v h) (a0 a1 a2 a3 : Int) (h : zH) : (Bl_touchGlobal a0 a1 a2 a3 h krZ).bind e = Bl_touchGlobal a0 a1 a2 a3 h krA := by
  refine Eq.trans (congrArg (fun z => Option.bind z e) (qe_Bl_touchGlobal krZ a0 a1 a2 a3 h)) (Eq.trans ?_ (Eq.symm (qe_Bl_touchGlobal krA a0 a1 a2 a3 h)))
  generalize (400 : Nat) = f9
  refine zseg_e e (zcal_e _ _ ?_) (zorc_e _ _ ?_) hk (fun _ _ => rfl) f9 _ _ _ _
  · exact ⟨rfl, rfl, zca3_e (fun x0 x1 x2 h k t => n_X_isClash e (fun _ _ => rfl) x0 x1 x2 h), trivial⟩
  · exact ⟨rfl, rfl, rfl, zap4_e (fun x0 x1 x2 x3 h => n_Bl_touchGlobal_34 e hk x0 x1 x2 x3 h), ⟨rfl, rfl, rfl, zap4_e (fun x0 x1 x2 x3 h => n_Bl_touchGlobal_42 e hk x0 x1 x2 x3 h), trivial⟩⟩
set_option maxRecDepth 100000 in
set_option maxHeartbeats 0 in
theorem n_Gr_isBufferFull_13 {ρ : Type} (e : zRes → Option ρ) {krA : Int → zH → Option ρ} {krZ : Int → zH → Option zRes} (hk : ∀ v h, (krZ v h).bind e = krA v h) (t0 : Int) (h : zH) : (Gr_isBufferFull_13 krZ t0 h).bind e = Gr_isBufferFull_13 krA t0 h := by
  refine Eq.trans (congrArg (fun z => Option.bind z e) (qe_Gr_isBufferFull_13 krZ t0 h)) (Eq.trans ?_ (Eq.symm (qe_Gr_isBufferFull_13 krA t0 h)))
  generalize (400 : Nat) = f9
  refine zseg_e e (zcal_e _ _ ?_) (zorc_e _ _ ?_) hk (fun _ _ => rfl) f9 _ _ _ _
  · exact trivial
  · exact trivial
set_option maxRecDepth 100000 in
set_option maxHeartbeats 0 in
theorem n_Gr_isBufferFull {ρ : Type} (e : zRes → Option ρ) {krA : Int → zH → Option ρ} {krZ : Int → zH → Option zRes} (hk : ∀ v h, (krZ v h).bind e = krA v h) (a0 : Int) (h : zH) : (Gr_isBufferFull a0 h krZ).bind e = Gr_isBufferFull a0 h krA := by
  refine Eq.trans (congrArg (fun z => Option.bind z e) (qe_Gr_isBufferFull krZ a0 h)) (Eq.trans ?_ (Eq.symm (qe_Gr_isBufferFull krA a0 h)))
  generalize (400 : Nat) = f9
  refine zseg_e e (zcal_e _ _ ?_) (zorc_e _ _ ?_) hk (fun _ _ => rfl) f9 _ _ _ _
  · exact trivial
  · exact ⟨rfl, rfl, rfl, zap1_e (fun x0 h => n_Gr_isBufferFull_13 e hk x0 h), trivial⟩
set_option maxRecDepth 100000 in
set_option maxHeartbeats 0 in
theorem n_Gr_putWrite_37 {ρ : Type} (e : zRes → Option ρ) {krA : Int → zH → Option ρ} {krZ : Int → zH → Option zRes} (hk : ∀ v h, (krZ v h).bind e = krA v h) (h : zH) : (Gr_putWrite_37 krZ h).bind e = Gr_putWrite_37 krA h := by
  refine Eq.trans (congrArg (fun z => Option.bind z e) (qe_Gr_putWrite_37 krZ h)) (Eq.trans ?_ (Eq.symm (qe_Gr_putWrite_37 krA h)))
  generalize (400 : Nat) = f9
  refine zseg_e e (zcal_e _ _ ?_) (zorc_e _ _ ?_) hk (fun _ _ => rfl) f9 _ _ _ _
  · exact trivial
  · exact trivial
set_option maxRecDepth 100000 in
set_option maxHeartbeats 0 in
theorem n_Gr_putWrite {ρ : Type} (e : zRes → Option ρ) {krA : Int → zH → Option ρ} {krZ : Int → zH → Option zRes} (hk : ∀ v h, (krZ v h).bind e = krA v h) (a0 a1 a2 : Int) (h : zH) : (Gr_putWrite a0 a1 a2 h krZ).bind e = Gr_putWrite a0 a1 a2 h krA := by
  refine Eq.trans (congrArg (fun z => Option.bind z e) (qe_Gr_putWrite krZ a0 a1 a2 h)) (Eq.trans ?_ (Eq.symm (qe_Gr_putWrite krA a0 a1 a2 h)))
  generalize (400 : Nat) = f9
  refine zseg_e e (zcal_e _ _ ?_) (zorc_e _ _ ?_) hk (fun _ _ => rfl) f9 _ _ _ _
  · exact ⟨rfl, rfl, zca1_e (fun x0 h k t => n_Gr_isBufferFull e (fun _ _ => rfl) x0 h), trivial⟩
  · exact ⟨rfl, rfl, rfl, zap0_e (fun  h => n_Gr_putWrite_37 e hk  h), trivial⟩
set_option maxRecDepth 100000 in
set_option maxHeartbeats 0 in
theorem n_Gr_seenIn_7b {ρ : Type} (e : zRes → Option ρ) {krA : Int → zH → Option ρ} {krZ : Int → zH → Option zRes} (hk : ∀ v h, (krZ v h).bind e = krA v h) {r7A : Int → Int → Int → Int → zH → Option ρ} {r7Z : Int → Int → Int → Int → zH → Option zRes} (h7 : ∀ (x0 x1 x2 x3 : Int) (h : zH), (r7Z x0 x1 x2 x3 h).bind e = r7A x0 x1 x2 x3 h) (a0 a1 a2 a3 : Int) (h : zH) : (Gr_seenIn_7b krZ r7Z a0 a1 a2 a3 h).bind e = Gr_seenIn_7b krA r7A a0 a1 a2 a3 h := by
  refine Eq.trans (congrArg (fun z => Option.bind z e) (qe_Gr_seenIn_7b krZ r7Z a0 a1 a2 a3 h)) (Eq.trans ?_ (Eq.symm (qe_Gr_seenIn_7b krA r7A a0 a1 a2 a3 h)))
  generalize (400 : Nat) = f9
  refine zseg_e e (zcal_e _ _ ?_) (zorc_e _ _ ?_) hk (fun _ _ => rfl) f9 _ _ _ _
  · exact trivial
  · exact ⟨rfl, rfl, rfl, zap4_e h7, trivial⟩
theorem n_Gr_seenIn_7 {ρ : Type} (e : zRes → Option ρ) {krA : Int → zH → Option ρ} {krZ : Int → zH → Option zRes} (hk : ∀ v h, (krZ v h).bind e = krA v h) (a0 a1 a2 a3 : Int) (h : zH) : (Gr_seenIn_7 krZ a0 a1 a2 a3 h).bind e = Gr_seenIn_7 krA a0 a1 a2 a3 h := zit4_e (fun rA rZ hh a0 a1 a2 a3 h => n_Gr_seenIn_7b e hk hh a0 a1 a2 a3 h) zN a0 a1 a2 a3 h
set_option maxRecDepth 100000 in
set_option maxHeartbeats 0 in
theorem n_Gr_seenIn {ρ : Type} (e : zRes → Option ρ) {krA : Int → zH → Option ρ} {krZ : Int → zH → Option zRes} (hk : ∀ v h, (krZ v h).bind e = krA v h) (a0 a1 a2 : Int) (h : zH) : (Gr_seenIn a0 a1 a2 h krZ).bind e = Gr_seenIn a0 a1 a2 h krA := by
  refine Eq.trans (congrArg (fun z => Option.bind z e) (qe_Gr_seenIn krZ a0 a1 a2 h)) (Eq.trans ?_ (Eq.symm (qe_Gr_seenIn krA a0 a1 a2 h)))
  generalize (400 : Nat) = f9
  refine zseg_e e (zcal_e _ _ ?_) (zorc_e _ _ ?_) hk (fun _ _ => rfl) f9 _ _ _ _
  · exact trivial
  · exact ⟨rfl, rfl, rfl, zap4_e (fun x0 x1 x2 x3 h => n_Gr_seenIn_7 e hk x0 x1 x2 x3 h), trivial⟩
set_option maxRecDepth 100000 in
set_option maxHeartbeats 0 in
theorem n_Co_carryGlobal_131 {ρ : Type} (e : zRes → Option ρ) {krA : Int → zH → Option ρ} {krZ : Int → zH → Option zRes} (hk : ∀ v h, (krZ v h).bind e = krA v h) (h : zH) : (Co_carryGlobal_131 krZ h).bind e = Co_carryGlobal_131 krA h := by
  refine Eq.trans (congrArg (fun z => Option.bind z e) (qe_Co_carryGlobal_131 krZ h)) (Eq.trans ?_ (Eq.symm (qe_Co_carryGlobal_131 krA h)))
  generalize (400 : Nat) = f9
  refine zseg_e e (zcal_e _ _ ?_) (zorc_e _ _ ?_) hk (fun _ _ => rfl) f9 _ _ _ _
  · exact trivial
  · exact trivial
set_option maxRecDepth 100000 in
set_option maxHeartbeats 0 in
theorem n_Co_carryGlobal_103 {ρ : Type} (e : zRes → Option ρ) {krA : Int → zH → Option ρ} {krZ : Int → zH → Option zRes} (hk : ∀ v h, (krZ v h).bind e = krA v h) (a1 a2 a3 a4 : Int) (h : zH) : (Co_carryGlobal_103 krZ a1 a2 a3 a4 h).bind e = Co_carryGlobal_103 krA a1 a2 a3 a4 h := by
  refine Eq.trans (congrArg (fun z => Option.bind z e) (qe_Co_carryGlobal_103 krZ a1 a2 a3 a4 h)) (Eq.trans ?_ (Eq.symm (qe_Co_carryGlobal_103 krA a1 a2 a3 a4 h)))
  generalize (400 : Nat) = f9
  refine zseg_e e (zcal_e _ _ ?_) (zorc_e _ _ ?_) hk (fun _ _ => rfl) f9 _ _ _ _
  · exact ⟨rfl, rfl, zca3_e (fun x0 x1 x2 h k t => n_Gr_putWrite e (fun _ _ => rfl) x0 x1 x2 h), ⟨rfl, rfl, zca2_e (fun x0 x1 h k t => n_Th_at e (fun _ _ => rfl) x0 x1 h), trivial⟩⟩
  · exact ⟨rfl, rfl, rfl, zap0_e (fun  h => n_Co_carryGlobal_131 e hk  h), trivial⟩
set_option maxRecDepth 100000 in
set_option maxHeartbeats 0 in
theorem n_Co_carryGlobal_34 {ρ : Type} (e : zRes → Option ρ) {krA : Int → zH → Option ρ} {krZ : Int → zH → Option zRes} (hk : ∀ v h, (krZ v h).bind e = krA v h) (a0 a1 a2 a3 a4 t0 t1 t2 t3 : Int) (h : zH) : (Co_carryGlobal_34 krZ a0 a1 a2 a3 a4 t0 t1 t2 t3 h).bind e = Co_carryGlobal_34 krA a0 a1 a2 a3 a4 t0 t1 t2 t3 h := by
  refine Eq.trans (congrArg (fun z => Option.bind z e) (qe_Co_carryGlobal_34 krZ a0 a1 a2 a3 a4 t0 t1 t2 t3 h)) (Eq.trans ?_ (Eq.symm (qe_Co_carryGlobal_34 krA a0 a1 a2 a3 a4 t0 t1 t2 t3 h)))
  generalize (400 : Nat) = f9
  refine zseg_e e (zcal_e _ _ ?_) (zorc_e _ _ ?_) hk (fun _ _ => rfl) f9 _ _ _ _
  · exact ⟨rfl, rfl, zca4_e (fun x0 x1 x2 x3 h k t => n_X_exchange_22 e (fun _ _ => rfl) x0 x1 x2 x3 h), ⟨rfl, rfl, zca4_e (fun x0 x1 x2 x3 h k t => n_Bl_touchGlobal e (fun _ _ => rfl) x0 x1 x2 x3 h), ⟨rfl, rfl, zca1_e (fun x0 h k t => n_Gr_isBufferFull e (fun _ _ => rfl) x0 h), ⟨rfl, rfl, zca3_e (fun x0 x1 x2 h k t => n_Gr_seenIn e (fun _ _ => rfl) x0 x1 x2 h), ⟨rfl, rfl, zca2_e (fun x0 x1 h k t => n_Gr_writeFirst e (fun _ _ => rfl) x0 x1 h), ⟨rfl, rfl, zca3_e (fun x0 x1 x2 h k t => n_Th_set e (fun _ _ => rfl) x0 x1 x2 h), trivial⟩⟩⟩⟩⟩⟩
  · exact ⟨rfl, rfl, rfl, zap4_e (fun x0 x1 x2 x3 h => n_Co_carryGlobal_103 e hk x0 x1 x2 x3 h), ⟨rfl, rfl, rfl, zap0_e (fun  h => n_Co_carryGlobal_131 e hk  h), trivial⟩⟩
set_option maxRecDepth 100000 in
set_option maxHeartbeats 0 in
theorem n_Co_carryGlobal {ρ : Type} (e : zRes → Option ρ) {krA : Int → zH → Option ρ} {krZ : Int → zH → Option zRes} (hk : ∀ v h, (krZ v h).bind e = krA v h) (a0 a1 a2 a3 a4 : Int) (h : zH) : (Co_carryGlobal a0 a1 a2 a3 a4 h krZ).bind e = Co_carryGlobal a0 a1 a2 a3 a4 h krA := by
  refine Eq.trans (congrArg (fun z => Option.bind z e) (qe_Co_carryGlobal krZ a0 a1 a2 a3 a4 h)) (Eq.trans ?_ (Eq.symm (qe_Co_carryGlobal krA a0 a1 a2 a3 a4 h)))
  generalize (400 : Nat) = f9
  refine zseg_e e (zcal_e _ _ ?_) (zorc_e _ _ ?_) hk (fun _ _ => rfl) f9 _ _ _ _
  · exact ⟨rfl, rfl, zca1_e (fun x0 h k t => n_X_isCell e (fun _ _ => rfl) x0 h), trivial⟩
  · exact ⟨rfl, rfl, rfl, zap9_e (fun x0 x1 x2 x3 x4 x5 x6 x7 x8 h => n_Co_carryGlobal_34 e hk x0 x1 x2 x3 x4 x5 x6 x7 x8 h), trivial⟩
set_option maxRecDepth 100000 in
set_option maxHeartbeats 0 in
theorem n_Bl_hasShared {ρ : Type} (e : zRes → Option ρ) {krA : Int → zH → Option ρ} {krZ : Int → zH → Option zRes} (hk : ∀ v h, (krZ v h).bind e = krA v h) (a0 a1 : Int) (h : zH) : (Bl_hasShared a0 a1 h krZ).bind e = Bl_hasShared a0 a1 h krA := by
  refine Eq.trans (congrArg (fun z => Option.bind z e) (qe_Bl_hasShared krZ a0 a1 h)) (Eq.trans ?_ (Eq.symm (qe_Bl_hasShared krA a0 a1 h)))
  generalize (400 : Nat) = f9
  refine zseg_e e (zcal_e _ _ ?_) (zorc_e _ _ ?_) hk (fun _ _ => rfl) f9 _ _ _ _
  · exact ⟨rfl, rfl, zca3_e (fun x0 x1 x2 h k t => n_X_isWithin e (fun _ _ => rfl) x0 x1 x2 h), trivial⟩
  · exact trivial
set_option maxRecDepth 100000 in
set_option maxHeartbeats 0 in
theorem n_Bl_touchShared_43 {ρ : Type} (e : zRes → Option ρ) {krA : Int → zH → Option ρ} {krZ : Int → zH → Option zRes} (hk : ∀ v h, (krZ v h).bind e = krA v h) (a0 a1 a2 a3 : Int) (h : zH) : (Bl_touchShared_43 krZ a0 a1 a2 a3 h).bind e = Bl_touchShared_43 krA a0 a1 a2 a3 h := by
  refine Eq.trans (congrArg (fun z => Option.bind z e) (qe_Bl_touchShared_43 krZ a0 a1 a2 a3 h)) (Eq.trans ?_ (Eq.symm (qe_Bl_touchShared_43 krA a0 a1 a2 a3 h)))
  generalize (400 : Nat) = f9
  refine zseg_e e (zcal_e _ _ ?_) (zorc_e _ _ ?_) hk (fun _ _ => rfl) f9 _ _ _ _
  · exact ⟨rfl, rfl, zca3_e (fun x0 x1 x2 h k t => n_X_withTouch e (fun _ _ => rfl) x0 x1 x2 h), trivial⟩
  · exact trivial
set_option maxRecDepth 100000 in
set_option maxHeartbeats 0 in
theorem n_Bl_touchShared {ρ : Type} (e : zRes → Option ρ) {krA : Int → zH → Option ρ} {krZ : Int → zH → Option zRes} (hk : ∀ v h, (krZ v h).bind e = krA v h) (a0 a1 a2 a3 : Int) (h : zH) : (Bl_touchShared a0 a1 a2 a3 h krZ).bind e = Bl_touchShared a0 a1 a2 a3 h krA := by
  refine Eq.trans (congrArg (fun z => Option.bind z e) (qe_Bl_touchShared krZ a0 a1 a2 a3 h)) (Eq.trans ?_ (Eq.symm (qe_Bl_touchShared krA a0 a1 a2 a3 h)))
  generalize (400 : Nat) = f9
  refine zseg_e e (zcal_e _ _ ?_) (zorc_e _ _ ?_) hk (fun _ _ => rfl) f9 _ _ _ _
  · exact ⟨rfl, rfl, zca3_e (fun x0 x1 x2 h k t => n_X_isClash e (fun _ _ => rfl) x0 x1 x2 h), trivial⟩
  · exact ⟨rfl, rfl, rfl, zap4_e (fun x0 x1 x2 x3 h => n_Bl_touchShared_43 e hk x0 x1 x2 x3 h), trivial⟩
set_option maxRecDepth 100000 in
set_option maxHeartbeats 0 in
theorem n_Co_carryShared_74 {ρ : Type} (e : zRes → Option ρ) {krA : Int → zH → Option ρ} {krZ : Int → zH → Option zRes} (hk : ∀ v h, (krZ v h).bind e = krA v h) (h : zH) : (Co_carryShared_74 krZ h).bind e = Co_carryShared_74 krA h := by
  refine Eq.trans (congrArg (fun z => Option.bind z e) (qe_Co_carryShared_74 krZ h)) (Eq.trans ?_ (Eq.symm (qe_Co_carryShared_74 krA h)))
  generalize (400 : Nat) = f9
  refine zseg_e e (zcal_e _ _ ?_) (zorc_e _ _ ?_) hk (fun _ _ => rfl) f9 _ _ _ _
  · exact trivial
  · exact trivial
set_option maxRecDepth 100000 in
set_option maxHeartbeats 0 in
theorem n_Co_carryShared_31 {ρ : Type} (e : zRes → Option ρ) {krA : Int → zH → Option ρ} {krZ : Int → zH → Option zRes} (hk : ∀ v h, (krZ v h).bind e = krA v h) (a0 a1 a2 a3 t0 t1 t2 t3 : Int) (h : zH) : (Co_carryShared_31 krZ a0 a1 a2 a3 t0 t1 t2 t3 h).bind e = Co_carryShared_31 krA a0 a1 a2 a3 t0 t1 t2 t3 h := by
  refine Eq.trans (congrArg (fun z => Option.bind z e) (qe_Co_carryShared_31 krZ a0 a1 a2 a3 t0 t1 t2 t3 h)) (Eq.trans ?_ (Eq.symm (qe_Co_carryShared_31 krA a0 a1 a2 a3 t0 t1 t2 t3 h)))
  generalize (400 : Nat) = f9
  refine zseg_e e (zcal_e _ _ ?_) (zorc_e _ _ ?_) hk (fun _ _ => rfl) f9 _ _ _ _
  · exact ⟨rfl, rfl, zca4_e (fun x0 x1 x2 x3 h k t => n_Bl_touchShared e (fun _ _ => rfl) x0 x1 x2 x3 h), ⟨rfl, rfl, zca2_e (fun x0 x1 h k t => n_Th_at e (fun _ _ => rfl) x0 x1 h), ⟨rfl, rfl, zca3_e (fun x0 x1 x2 h k t => n_Th_set e (fun _ _ => rfl) x0 x1 x2 h), trivial⟩⟩⟩
  · exact ⟨rfl, rfl, rfl, zap0_e (fun  h => n_Co_carryShared_74 e hk  h), trivial⟩
set_option maxRecDepth 100000 in
set_option maxHeartbeats 0 in
theorem n_Co_carryShared {ρ : Type} (e : zRes → Option ρ) {krA : Int → zH → Option ρ} {krZ : Int → zH → Option zRes} (hk : ∀ v h, (krZ v h).bind e = krA v h) (a0 a1 a2 a3 : Int) (h : zH) : (Co_carryShared a0 a1 a2 a3 h krZ).bind e = Co_carryShared a0 a1 a2 a3 h krA := by
  refine Eq.trans (congrArg (fun z => Option.bind z e) (qe_Co_carryShared krZ a0 a1 a2 a3 h)) (Eq.trans ?_ (Eq.symm (qe_Co_carryShared krA a0 a1 a2 a3 h)))
  generalize (400 : Nat) = f9
  refine zseg_e e (zcal_e _ _ ?_) (zorc_e _ _ ?_) hk (fun _ _ => rfl) f9 _ _ _ _
  · exact ⟨rfl, rfl, zca2_e (fun x0 x1 h k t => n_Bl_hasShared e (fun _ _ => rfl) x0 x1 h), trivial⟩
  · exact ⟨rfl, rfl, rfl, zap8_e (fun x0 x1 x2 x3 x4 x5 x6 x7 h => n_Co_carryShared_31 e hk x0 x1 x2 x3 x4 x5 x6 x7 h), trivial⟩
set_option maxRecDepth 100000 in
set_option maxHeartbeats 0 in
theorem n_La_depth_28 {ρ : Type} (e : zRes → Option ρ) {krA : Int → zH → Option ρ} {krZ : Int → zH → Option zRes} (hk : ∀ v h, (krZ v h).bind e = krA v h) (a1 : Int) (h : zH) : (La_depth_28 krZ a1 h).bind e = La_depth_28 krA a1 h := by
  refine Eq.trans (congrArg (fun z => Option.bind z e) (qe_La_depth_28 krZ a1 h)) (Eq.trans ?_ (Eq.symm (qe_La_depth_28 krA a1 h)))
  generalize (400 : Nat) = f9
  refine zseg_e e (zcal_e _ _ ?_) (zorc_e _ _ ?_) hk (fun _ _ => rfl) f9 _ _ _ _
  · exact trivial
  · exact trivial
set_option maxRecDepth 100000 in
set_option maxHeartbeats 0 in
theorem n_La_depth_7b {ρ : Type} (e : zRes → Option ρ) {krA : Int → zH → Option ρ} {krZ : Int → zH → Option zRes} (hk : ∀ v h, (krZ v h).bind e = krA v h) {r7A : Int → Int → zH → Option ρ} {r7Z : Int → Int → zH → Option zRes} (h7 : ∀ (x0 x1 : Int) (h : zH), (r7Z x0 x1 h).bind e = r7A x0 x1 h) (a1 a2 : Int) (h : zH) : (La_depth_7b krZ r7Z a1 a2 h).bind e = La_depth_7b krA r7A a1 a2 h := by
  refine Eq.trans (congrArg (fun z => Option.bind z e) (qe_La_depth_7b krZ r7Z a1 a2 h)) (Eq.trans ?_ (Eq.symm (qe_La_depth_7b krA r7A a1 a2 h)))
  generalize (400 : Nat) = f9
  refine zseg_e e (zcal_e _ _ ?_) (zorc_e _ _ ?_) hk (fun _ _ => rfl) f9 _ _ _ _
  · exact trivial
  · exact ⟨rfl, rfl, rfl, zap2_e h7, ⟨rfl, rfl, rfl, zap1_e (fun x0 h => n_La_depth_28 e hk x0 h), trivial⟩⟩
theorem n_La_depth_7 {ρ : Type} (e : zRes → Option ρ) {krA : Int → zH → Option ρ} {krZ : Int → zH → Option zRes} (hk : ∀ v h, (krZ v h).bind e = krA v h) (a1 a2 : Int) (h : zH) : (La_depth_7 krZ a1 a2 h).bind e = La_depth_7 krA a1 a2 h := zit2_e (fun rA rZ hh a1 a2 h => n_La_depth_7b e hk hh a1 a2 h) zN a1 a2 h
set_option maxRecDepth 100000 in
set_option maxHeartbeats 0 in
theorem n_La_depth {ρ : Type} (e : zRes → Option ρ) {krA : Int → zH → Option ρ} {krZ : Int → zH → Option zRes} (hk : ∀ v h, (krZ v h).bind e = krA v h) (a0 : Int) (h : zH) : (La_depth a0 h krZ).bind e = La_depth a0 h krA := by
  refine Eq.trans (congrArg (fun z => Option.bind z e) (qe_La_depth krZ a0 h)) (Eq.trans ?_ (Eq.symm (qe_La_depth krA a0 h)))
  generalize (400 : Nat) = f9
  refine zseg_e e (zcal_e _ _ ?_) (zorc_e _ _ ?_) hk (fun _ _ => rfl) f9 _ _ _ _
  · exact trivial
  · exact ⟨rfl, rfl, rfl, zap2_e (fun x0 x1 h => n_La_depth_7 e hk x0 x1 h), trivial⟩
set_option maxRecDepth 100000 in
set_option maxHeartbeats 0 in
theorem n_Le_launchChild_38 {ρ : Type} (e : zRes → Option ρ) {krA : Int → zH → Option ρ} {krZ : Int → zH → Option zRes} (hk : ∀ v h, (krZ v h).bind e = krA v h) (h : zH) : (Le_launchChild_38 krZ h).bind e = Le_launchChild_38 krA h := by
  refine Eq.trans (congrArg (fun z => Option.bind z e) (qe_Le_launchChild_38 krZ h)) (Eq.trans ?_ (Eq.symm (qe_Le_launchChild_38 krA h)))
  generalize (400 : Nat) = f9
  refine zseg_e e (zcal_e _ _ ?_) (zorc_e _ _ ?_) hk (fun _ _ => rfl) f9 _ _ _ _
  · exact trivial
  · exact trivial
set_option maxRecDepth 100000 in
set_option maxHeartbeats 0 in
theorem n_Le_launchChild {ρ : Type} (e : zRes → Option ρ) {krA : Int → zH → Option ρ} {krZ : Int → zH → Option zRes} (hk : ∀ v h, (krZ v h).bind e = krA v h) (a0 a1 a2 a3 : Int) (h : zH) : (Le_launchChild a0 a1 a2 a3 h krZ).bind e = Le_launchChild a0 a1 a2 a3 h krA := by
  refine Eq.trans (congrArg (fun z => Option.bind z e) (qe_Le_launchChild krZ a0 a1 a2 a3 h)) (Eq.trans ?_ (Eq.symm (qe_Le_launchChild krA a0 a1 a2 a3 h)))
  generalize (400 : Nat) = f9
  refine zseg_e e (zcal_e _ _ ?_) (zorc_e _ _ ?_) hk (fun _ _ => rfl) f9 _ _ _ _
  · exact ⟨rfl, rfl, zca2_e (fun x0 x1 h k t => n_Ke_blocksInUnit e (fun _ _ => rfl) x0 x1 h), ⟨rfl, rfl, zca6_e (fun x0 x1 x2 x3 x4 x5 h k t => n_La_init e (fun _ _ => rfl) x0 x1 x2 x3 x4 x5 h), ⟨rfl, rfl, zca4_e (fun x0 x1 x2 x3 h k t => n_La_useKernel e (fun _ _ => rfl) x0 x1 x2 x3 h), ⟨rfl, rfl, zca1_e (fun x0 h k t => n_La_depth e (fun _ _ => rfl) x0 h), ⟨rfl, rfl, zca2_e (fun x0 x1 h k t => n_Le_kernelOf e (fun _ _ => rfl) x0 x1 h), ⟨rfl, rfl, zca2_e (fun x0 x1 h k t => n_Le_enter e (fun _ _ => rfl) x0 x1 h), trivial⟩⟩⟩⟩⟩⟩
  · exact ⟨rfl, rfl, rfl, zap0_e (fun  h => n_Le_launchChild_38 e hk  h), trivial⟩
set_option maxRecDepth 100000 in
set_option maxHeartbeats 0 in
theorem n_Co_carryChild_55 {ρ : Type} (e : zRes → Option ρ) {krA : Int → zH → Option ρ} {krZ : Int → zH → Option zRes} (hk : ∀ v h, (krZ v h).bind e = krA v h) (t0 t1 t2 : Int) (h : zH) : (Co_carryChild_55 krZ t0 t1 t2 h).bind e = Co_carryChild_55 krA t0 t1 t2 h := by
  refine Eq.trans (congrArg (fun z => Option.bind z e) (qe_Co_carryChild_55 krZ t0 t1 t2 h)) (Eq.trans ?_ (Eq.symm (qe_Co_carryChild_55 krA t0 t1 t2 h)))
  generalize (400 : Nat) = f9
  refine zseg_e e (zcal_e _ _ ?_) (zorc_e _ _ ?_) hk (fun _ _ => rfl) f9 _ _ _ _
  · exact ⟨rfl, rfl, zca3_e (fun x0 x1 x2 h k t => n_Th_set e (fun _ _ => rfl) x0 x1 x2 h), trivial⟩
  · exact trivial
set_option maxRecDepth 100000 in
set_option maxHeartbeats 0 in
theorem n_Co_carryChild_40 {ρ : Type} (e : zRes → Option ρ) {krA : Int → zH → Option ρ} {krZ : Int → zH → Option zRes} (hk : ∀ v h, (krZ v h).bind e = krA v h) (a2 a3 a4 : Int) (h : zH) : (Co_carryChild_40 krZ a2 a3 a4 h).bind e = Co_carryChild_40 krA a2 a3 a4 h := by
  refine Eq.trans (congrArg (fun z => Option.bind z e) (qe_Co_carryChild_40 krZ a2 a3 a4 h)) (Eq.trans ?_ (Eq.symm (qe_Co_carryChild_40 krA a2 a3 a4 h)))
  generalize (400 : Nat) = f9
  refine zseg_e e (zcal_e _ _ ?_) (zorc_e _ _ ?_) hk (fun _ _ => rfl) f9 _ _ _ _
  · exact trivial
  · exact ⟨rfl, rfl, rfl, zap3_e (fun x0 x1 x2 h => n_Co_carryChild_55 e hk x0 x1 x2 h), trivial⟩
set_option maxRecDepth 100000 in
set_option maxHeartbeats 0 in
theorem n_Co_carryChild {ρ : Type} (e : zRes → Option ρ) {krA : Int → zH → Option ρ} {krZ : Int → zH → Option zRes} (hk : ∀ v h, (krZ v h).bind e = krA v h) (a0 a1 a2 a3 : Int) (h : zH) : (Co_carryChild a0 a1 a2 a3 h krZ).bind e = Co_carryChild a0 a1 a2 a3 h krA := by
  refine Eq.trans (congrArg (fun z => Option.bind z e) (qe_Co_carryChild krZ a0 a1 a2 a3 h)) (Eq.trans ?_ (Eq.symm (qe_Co_carryChild krA a0 a1 a2 a3 h)))
  generalize (400 : Nat) = f9
  refine zseg_e e (zcal_e _ _ ?_) (zorc_e _ _ ?_) hk (fun _ _ => rfl) f9 _ _ _ _
  · exact ⟨rfl, rfl, zca4_e (fun x0 x1 x2 x3 h k t => n_Le_launchChild e (fun _ _ => rfl) x0 x1 x2 x3 h), ⟨rfl, rfl, zca2_e (fun x0 x1 h k t => n_Th_at e (fun _ _ => rfl) x0 x1 h), trivial⟩⟩
  · exact ⟨rfl, rfl, rfl, zap3_e (fun x0 x1 x2 h => n_Co_carryChild_40 e hk x0 x1 x2 h), trivial⟩
set_option maxRecDepth 100000 in
set_option maxHeartbeats 0 in
theorem n_Th_reckon_304 {ρ : Type} (e : zRes → Option ρ) {krA : Int → zH → Option ρ} {krZ : Int → zH → Option zRes} (hk : ∀ v h, (krZ v h).bind e = krA v h) (h : zH) : (Th_reckon_304 krZ h).bind e = Th_reckon_304 krA h := by
  refine Eq.trans (congrArg (fun z => Option.bind z e) (qe_Th_reckon_304 krZ h)) (Eq.trans ?_ (Eq.symm (qe_Th_reckon_304 krA h)))
  generalize (400 : Nat) = f9
  refine zseg_e e (zcal_e _ _ ?_) (zorc_e _ _ ?_) hk (fun _ _ => rfl) f9 _ _ _ _
  · exact trivial
  · exact trivial
set_option maxRecDepth 100000 in
set_option maxHeartbeats 0 in
theorem n_Th_reckon_216 {ρ : Type} (e : zRes → Option ρ) {krA : Int → zH → Option ρ} {krZ : Int → zH → Option zRes} (hk : ∀ v h, (krZ v h).bind e = krA v h) (t0 t1 t2 : Int) (h : zH) : (Th_reckon_216 krZ t0 t1 t2 h).bind e = Th_reckon_216 krA t0 t1 t2 h := by
  refine Eq.trans (congrArg (fun z => Option.bind z e) (qe_Th_reckon_216 krZ t0 t1 t2 h)) (Eq.trans ?_ (Eq.symm (qe_Th_reckon_216 krA t0 t1 t2 h)))
  generalize (400 : Nat) = f9
  refine zseg_e e (zcal_e _ _ ?_) (zorc_e _ _ ?_) hk (fun _ _ => rfl) f9 _ _ _ _
  · exact ⟨rfl, rfl, zca3_e (fun x0 x1 x2 h k t => n_Th_set e (fun _ _ => rfl) x0 x1 x2 h), trivial⟩
  · exact ⟨rfl, rfl, rfl, zap0_e (fun  h => n_Th_reckon_304 e hk  h), trivial⟩
set_option maxRecDepth 100000 in
set_option maxHeartbeats 0 in
theorem n_Th_reckon_251 {ρ : Type} (e : zRes → Option ρ) {krA : Int → zH → Option ρ} {krZ : Int → zH → Option zRes} (hk : ∀ v h, (krZ v h).bind e = krA v h) (t0 t1 t2 : Int) (h : zH) : (Th_reckon_251 krZ t0 t1 t2 h).bind e = Th_reckon_251 krA t0 t1 t2 h := by
  refine Eq.trans (congrArg (fun z => Option.bind z e) (qe_Th_reckon_251 krZ t0 t1 t2 h)) (Eq.trans ?_ (Eq.symm (qe_Th_reckon_251 krA t0 t1 t2 h)))
  generalize (400 : Nat) = f9
  refine zseg_e e (zcal_e _ _ ?_) (zorc_e _ _ ?_) hk (fun _ _ => rfl) f9 _ _ _ _
  · exact ⟨rfl, rfl, zca3_e (fun x0 x1 x2 h k t => n_Th_set e (fun _ _ => rfl) x0 x1 x2 h), trivial⟩
  · exact ⟨rfl, rfl, rfl, zap0_e (fun  h => n_Th_reckon_304 e hk  h), trivial⟩
set_option maxRecDepth 100000 in
set_option maxHeartbeats 0 in
theorem n_Th_reckon {ρ : Type} (e : zRes → Option ρ) {krA : Int → zH → Option ρ} {krZ : Int → zH → Option zRes} (hk : ∀ v h, (krZ v h).bind e = krA v h) (a0 a1 : Int) (h : zH) : (Th_reckon a0 a1 h krZ).bind e = Th_reckon a0 a1 h krA := by
  refine Eq.trans (congrArg (fun z => Option.bind z e) (qe_Th_reckon krZ a0 a1 h)) (Eq.trans ?_ (Eq.symm (qe_Th_reckon krA a0 a1 h)))
  generalize (400 : Nat) = f9
  refine zseg_e e (zcal_e _ _ ?_) (zorc_e _ _ ?_) hk (fun _ _ => rfl) f9 _ _ _ _
  · exact ⟨rfl, rfl, zca2_e (fun x0 x1 h k t => n_Th_at e (fun _ _ => rfl) x0 x1 h), ⟨rfl, rfl, zca3_e (fun x0 x1 x2 h k t => n_Th_set e (fun _ _ => rfl) x0 x1 x2 h), trivial⟩⟩
  · exact ⟨rfl, rfl, rfl, zap3_e (fun x0 x1 x2 h => n_Th_reckon_216 e hk x0 x1 x2 h), ⟨rfl, rfl, rfl, zap3_e (fun x0 x1 x2 h => n_Th_reckon_251 e hk x0 x1 x2 h), ⟨rfl, rfl, rfl, zap0_e (fun  h => n_Th_reckon_304 e hk  h), trivial⟩⟩⟩
set_option maxRecDepth 100000 in
set_option maxHeartbeats 0 in
theorem n_Co_carryLane_171 {ρ : Type} (e : zRes → Option ρ) {krA : Int → zH → Option ρ} {krZ : Int → zH → Option zRes} (hk : ∀ v h, (krZ v h).bind e = krA v h) (h : zH) : (Co_carryLane_171 krZ h).bind e = Co_carryLane_171 krA h := by
  refine Eq.trans (congrArg (fun z => Option.bind z e) (qe_Co_carryLane_171 krZ h)) (Eq.trans ?_ (Eq.symm (qe_Co_carryLane_171 krA h)))
  generalize (400 : Nat) = f9
  refine zseg_e e (zcal_e _ _ ?_) (zorc_e _ _ ?_) hk (fun _ _ => rfl) f9 _ _ _ _
  · exact trivial
  · exact trivial
set_option maxRecDepth 100000 in
set_option maxHeartbeats 0 in
theorem n_Co_carryLane_131 {ρ : Type} (e : zRes → Option ρ) {krA : Int → zH → Option ρ} {krZ : Int → zH → Option zRes} (hk : ∀ v h, (krZ v h).bind e = krA v h) (t0 t1 t2 t3 : Int) (h : zH) : (Co_carryLane_131 krZ t0 t1 t2 t3 h).bind e = Co_carryLane_131 krA t0 t1 t2 t3 h := by
  refine Eq.trans (congrArg (fun z => Option.bind z e) (qe_Co_carryLane_131 krZ t0 t1 t2 t3 h)) (Eq.trans ?_ (Eq.symm (qe_Co_carryLane_131 krA t0 t1 t2 t3 h)))
  generalize (400 : Nat) = f9
  refine zseg_e e (zcal_e _ _ ?_) (zorc_e _ _ ?_) hk (fun _ _ => rfl) f9 _ _ _ _
  · exact ⟨rfl, rfl, zca3_e (fun x0 x1 x2 h k t => n_Th_set e (fun _ _ => rfl) x0 x1 x2 h), trivial⟩
  · exact ⟨rfl, rfl, rfl, zap0_e (fun  h => n_Co_carryLane_171 e hk  h), trivial⟩
set_option maxRecDepth 100000 in
set_option maxHeartbeats 0 in
theorem n_Co_carryLane {ρ : Type} (e : zRes → Option ρ) {krA : Int → zH → Option ρ} {krZ : Int → zH → Option zRes} (hk : ∀ v h, (krZ v h).bind e = krA v h) (a0 a1 a2 a3 a4 : Int) (h : zH) : (Co_carryLane a0 a1 a2 a3 a4 h krZ).bind e = Co_carryLane a0 a1 a2 a3 a4 h krA := by
  refine Eq.trans (congrArg (fun z => Option.bind z e) (qe_Co_carryLane krZ a0 a1 a2 a3 a4 h)) (Eq.trans ?_ (Eq.symm (qe_Co_carryLane krA a0 a1 a2 a3 a4 h)))
  generalize (400 : Nat) = f9
  refine zseg_e e (zcal_e _ _ ?_) (zorc_e _ _ ?_) hk (fun _ _ => rfl) f9 _ _ _ _
  · exact ⟨rfl, rfl, zca2_e (fun x0 x1 h k t => n_Ma_floorMod e (fun _ _ => rfl) x0 x1 h), ⟨rfl, rfl, zca2_e (fun x0 x1 h k t => n_X_isIn e (fun _ _ => rfl) x0 x1 h), ⟨rfl, rfl, zca5_e (fun x0 x1 x2 x3 x4 h k t => n_Co_carryGlobal e (fun _ _ => rfl) x0 x1 x2 x3 x4 h), ⟨rfl, rfl, zca4_e (fun x0 x1 x2 x3 h k t => n_Co_carryShared e (fun _ _ => rfl) x0 x1 x2 x3 h), ⟨rfl, rfl, zca4_e (fun x0 x1 x2 x3 h k t => n_Co_carryChild e (fun _ _ => rfl) x0 x1 x2 x3 h), ⟨rfl, rfl, zca2_e (fun x0 x1 h k t => n_In_isOneOf e (fun _ _ => rfl) x0 x1 h), ⟨rfl, rfl, zca2_e (fun x0 x1 h k t => n_Th_at e (fun _ _ => rfl) x0 x1 h), ⟨rfl, rfl, zca3_e (fun x0 x1 x2 h k t => n_Th_set e (fun _ _ => rfl) x0 x1 x2 h), ⟨rfl, rfl, zca2_e (fun x0 x1 h k t => n_Th_reckon e (fun _ _ => rfl) x0 x1 h), trivial⟩⟩⟩⟩⟩⟩⟩⟩⟩
  · exact ⟨rfl, rfl, rfl, zap4_e (fun x0 x1 x2 x3 h => n_Co_carryLane_131 e hk x0 x1 x2 x3 h), ⟨rfl, rfl, rfl, zap0_e (fun  h => n_Co_carryLane_171 e hk  h), trivial⟩⟩
set_option maxRecDepth 100000 in
set_option maxHeartbeats 0 in
theorem n_Co_isNamedFirst_39 {ρ : Type} (e : zRes → Option ρ) {krA : Int → zH → Option ρ} {krZ : Int → zH → Option zRes} (hk : ∀ v h, (krZ v h).bind e = krA v h) {r2A : Int → Int → Int → Int → zH → Option ρ} {r2Z : Int → Int → Int → Int → zH → Option zRes} (h2 : ∀ (x0 x1 x2 x3 : Int) (h : zH), (r2Z x0 x1 x2 x3 h).bind e = r2A x0 x1 x2 x3 h) (a0 a1 a2 a3 : Int) (h : zH) : (Co_isNamedFirst_39 krZ r2Z a0 a1 a2 a3 h).bind e = Co_isNamedFirst_39 krA r2A a0 a1 a2 a3 h := by
  refine Eq.trans (congrArg (fun z => Option.bind z e) (qe_Co_isNamedFirst_39 krZ r2Z a0 a1 a2 a3 h)) (Eq.trans ?_ (Eq.symm (qe_Co_isNamedFirst_39 krA r2A a0 a1 a2 a3 h)))
  generalize (400 : Nat) = f9
  refine zseg_e e (zcal_e _ _ ?_) (zorc_e _ _ ?_) hk (fun _ _ => rfl) f9 _ _ _ _
  · exact trivial
  · exact ⟨rfl, rfl, rfl, zap4_e h2, trivial⟩
set_option maxRecDepth 100000 in
set_option maxHeartbeats 0 in
theorem n_Co_isNamedFirst_2b {ρ : Type} (e : zRes → Option ρ) {krA : Int → zH → Option ρ} {krZ : Int → zH → Option zRes} (hk : ∀ v h, (krZ v h).bind e = krA v h) {r2A : Int → Int → Int → Int → zH → Option ρ} {r2Z : Int → Int → Int → Int → zH → Option zRes} (h2 : ∀ (x0 x1 x2 x3 : Int) (h : zH), (r2Z x0 x1 x2 x3 h).bind e = r2A x0 x1 x2 x3 h) (a0 a1 a2 a3 : Int) (h : zH) : (Co_isNamedFirst_2b krZ r2Z a0 a1 a2 a3 h).bind e = Co_isNamedFirst_2b krA r2A a0 a1 a2 a3 h := by
  refine Eq.trans (congrArg (fun z => Option.bind z e) (qe_Co_isNamedFirst_2b krZ r2Z a0 a1 a2 a3 h)) (Eq.trans ?_ (Eq.symm (qe_Co_isNamedFirst_2b krA r2A a0 a1 a2 a3 h)))
  generalize (400 : Nat) = f9
  refine zseg_e e (zcal_e _ _ ?_) (zorc_e _ _ ?_) hk (fun _ _ => rfl) f9 _ _ _ _
  · exact ⟨rfl, rfl, zca2_e (fun x0 x1 h k t => n_X_isIn e (fun _ _ => rfl) x0 x1 h), trivial⟩
  · exact ⟨rfl, rfl, rfl, zap4_e (fun x0 x1 x2 x3 h => n_Co_isNamedFirst_39 e hk h2 x0 x1 x2 x3 h), trivial⟩
theorem n_Co_isNamedFirst_2 {ρ : Type} (e : zRes → Option ρ) {krA : Int → zH → Option ρ} {krZ : Int → zH → Option zRes} (hk : ∀ v h, (krZ v h).bind e = krA v h) (a0 a1 a2 a3 : Int) (h : zH) : (Co_isNamedFirst_2 krZ a0 a1 a2 a3 h).bind e = Co_isNamedFirst_2 krA a0 a1 a2 a3 h := zit4_e (fun rA rZ hh a0 a1 a2 a3 h => n_Co_isNamedFirst_2b e hk hh a0 a1 a2 a3 h) zN a0 a1 a2 a3 h
set_option maxRecDepth 100000 in
set_option maxHeartbeats 0 in
theorem n_Co_isNamedFirst {ρ : Type} (e : zRes → Option ρ) {krA : Int → zH → Option ρ} {krZ : Int → zH → Option zRes} (hk : ∀ v h, (krZ v h).bind e = krA v h) (a0 a1 a2 : Int) (h : zH) : (Co_isNamedFirst a0 a1 a2 h krZ).bind e = Co_isNamedFirst a0 a1 a2 h krA := by
  refine Eq.trans (congrArg (fun z => Option.bind z e) (qe_Co_isNamedFirst krZ a0 a1 a2 h)) (Eq.trans ?_ (Eq.symm (qe_Co_isNamedFirst krA a0 a1 a2 h)))
  generalize (400 : Nat) = f9
  refine zseg_e e (zcal_e _ _ ?_) (zorc_e _ _ ?_) hk (fun _ _ => rfl) f9 _ _ _ _
  · exact trivial
  · exact ⟨rfl, rfl, rfl, zap4_e (fun x0 x1 x2 x3 h => n_Co_isNamedFirst_2 e hk x0 x1 x2 x3 h), trivial⟩
set_option maxRecDepth 100000 in
set_option maxHeartbeats 0 in
theorem n_Co_bankDelay_48 {ρ : Type} (e : zRes → Option ρ) {krA : Int → zH → Option ρ} {krZ : Int → zH → Option zRes} (hk : ∀ v h, (krZ v h).bind e = krA v h) {r4A : Int → Int → Int → zH → Option ρ} {r4Z : Int → Int → Int → zH → Option zRes} (h4 : ∀ (x0 x1 x2 : Int) (h : zH), (r4Z x0 x1 x2 h).bind e = r4A x0 x1 x2 h) {r14A : Int → Int → Int → Int → Int → zH → Option ρ} {r14Z : Int → Int → Int → Int → Int → zH → Option zRes} (h14 : ∀ (x0 x1 x2 x3 x4 : Int) (h : zH), (r14Z x0 x1 x2 x3 x4 h).bind e = r14A x0 x1 x2 x3 x4 h) (a0 a1 a2 a3 a4 : Int) (h : zH) : (Co_bankDelay_48 krZ r4Z r14Z a0 a1 a2 a3 a4 h).bind e = Co_bankDelay_48 krA r4A r14A a0 a1 a2 a3 a4 h := by
  refine Eq.trans (congrArg (fun z => Option.bind z e) (qe_Co_bankDelay_48 krZ r4Z r14Z a0 a1 a2 a3 a4 h)) (Eq.trans ?_ (Eq.symm (qe_Co_bankDelay_48 krA r4A r14A a0 a1 a2 a3 a4 h)))
  generalize (400 : Nat) = f9
  refine zseg_e e (zcal_e _ _ ?_) (zorc_e _ _ ?_) hk (fun _ _ => rfl) f9 _ _ _ _
  · exact trivial
  · exact ⟨rfl, rfl, rfl, zap5_e h14, trivial⟩
set_option maxRecDepth 100000 in
set_option maxHeartbeats 0 in
theorem n_Co_bankDelay_14b {ρ : Type} (e : zRes → Option ρ) {krA : Int → zH → Option ρ} {krZ : Int → zH → Option zRes} (hk : ∀ v h, (krZ v h).bind e = krA v h) {r4A : Int → Int → Int → zH → Option ρ} {r4Z : Int → Int → Int → zH → Option zRes} (h4 : ∀ (x0 x1 x2 : Int) (h : zH), (r4Z x0 x1 x2 h).bind e = r4A x0 x1 x2 h) {r14A : Int → Int → Int → Int → Int → zH → Option ρ} {r14Z : Int → Int → Int → Int → Int → zH → Option zRes} (h14 : ∀ (x0 x1 x2 x3 x4 : Int) (h : zH), (r14Z x0 x1 x2 x3 x4 h).bind e = r14A x0 x1 x2 x3 x4 h) (a0 a1 a2 a3 a4 : Int) (h : zH) : (Co_bankDelay_14b krZ r4Z r14Z a0 a1 a2 a3 a4 h).bind e = Co_bankDelay_14b krA r4A r14A a0 a1 a2 a3 a4 h := by
  refine Eq.trans (congrArg (fun z => Option.bind z e) (qe_Co_bankDelay_14b krZ r4Z r14Z a0 a1 a2 a3 a4 h)) (Eq.trans ?_ (Eq.symm (qe_Co_bankDelay_14b krA r4A r14A a0 a1 a2 a3 a4 h)))
  generalize (400 : Nat) = f9
  refine zseg_e e (zcal_e _ _ ?_) (zorc_e _ _ ?_) hk (fun _ _ => rfl) f9 _ _ _ _
  · exact ⟨rfl, rfl, zca2_e (fun x0 x1 h k t => n_Ma_floorMod e (fun _ _ => rfl) x0 x1 h), ⟨rfl, rfl, zca2_e (fun x0 x1 h k t => n_Ma_max e (fun _ _ => rfl) x0 x1 h), ⟨rfl, rfl, zca3_e (fun x0 x1 x2 h k t => n_Co_isNamedFirst e (fun _ _ => rfl) x0 x1 x2 h), trivial⟩⟩⟩
  · exact ⟨rfl, rfl, rfl, zap3_e h4, ⟨rfl, rfl, rfl, zap5_e (fun x0 x1 x2 x3 x4 h => n_Co_bankDelay_48 e hk h4 h14 x0 x1 x2 x3 x4 h), trivial⟩⟩
theorem n_Co_bankDelay_14 {ρ : Type} (e : zRes → Option ρ) {krA : Int → zH → Option ρ} {krZ : Int → zH → Option zRes} (hk : ∀ v h, (krZ v h).bind e = krA v h) {r4A : Int → Int → Int → zH → Option ρ} {r4Z : Int → Int → Int → zH → Option zRes} (h4 : ∀ (x0 x1 x2 : Int) (h : zH), (r4Z x0 x1 x2 h).bind e = r4A x0 x1 x2 h) (a0 a1 a2 a3 a4 : Int) (h : zH) : (Co_bankDelay_14 krZ r4Z a0 a1 a2 a3 a4 h).bind e = Co_bankDelay_14 krA r4A a0 a1 a2 a3 a4 h := zit5_e (fun rA rZ hh a0 a1 a2 a3 a4 h => n_Co_bankDelay_14b e hk h4 hh a0 a1 a2 a3 a4 h) zN a0 a1 a2 a3 a4 h
set_option maxRecDepth 100000 in
set_option maxHeartbeats 0 in
theorem n_Co_bankDelay_4b {ρ : Type} (e : zRes → Option ρ) {krA : Int → zH → Option ρ} {krZ : Int → zH → Option zRes} (hk : ∀ v h, (krZ v h).bind e = krA v h) {r4A : Int → Int → Int → zH → Option ρ} {r4Z : Int → Int → Int → zH → Option zRes} (h4 : ∀ (x0 x1 x2 : Int) (h : zH), (r4Z x0 x1 x2 h).bind e = r4A x0 x1 x2 h) (a0 a1 a2 : Int) (h : zH) : (Co_bankDelay_4b krZ r4Z a0 a1 a2 h).bind e = Co_bankDelay_4b krA r4A a0 a1 a2 h := by
  refine Eq.trans (congrArg (fun z => Option.bind z e) (qe_Co_bankDelay_4b krZ r4Z a0 a1 a2 h)) (Eq.trans ?_ (Eq.symm (qe_Co_bankDelay_4b krA r4A a0 a1 a2 h)))
  generalize (400 : Nat) = f9
  refine zseg_e e (zcal_e _ _ ?_) (zorc_e _ _ ?_) hk (fun _ _ => rfl) f9 _ _ _ _
  · exact trivial
  · exact ⟨rfl, rfl, rfl, zap5_e (fun x0 x1 x2 x3 x4 h => n_Co_bankDelay_14 e hk h4 x0 x1 x2 x3 x4 h), trivial⟩
theorem n_Co_bankDelay_4 {ρ : Type} (e : zRes → Option ρ) {krA : Int → zH → Option ρ} {krZ : Int → zH → Option zRes} (hk : ∀ v h, (krZ v h).bind e = krA v h) (a0 a1 a2 : Int) (h : zH) : (Co_bankDelay_4 krZ a0 a1 a2 h).bind e = Co_bankDelay_4 krA a0 a1 a2 h := zit3_e (fun rA rZ hh a0 a1 a2 h => n_Co_bankDelay_4b e hk hh a0 a1 a2 h) zN a0 a1 a2 h
set_option maxRecDepth 100000 in
set_option maxHeartbeats 0 in
theorem n_Co_bankDelay {ρ : Type} (e : zRes → Option ρ) {krA : Int → zH → Option ρ} {krZ : Int → zH → Option zRes} (hk : ∀ v h, (krZ v h).bind e = krA v h) (a0 : Int) (h : zH) : (Co_bankDelay a0 h krZ).bind e = Co_bankDelay a0 h krA := by
  refine Eq.trans (congrArg (fun z => Option.bind z e) (qe_Co_bankDelay krZ a0 h)) (Eq.trans ?_ (Eq.symm (qe_Co_bankDelay krA a0 h)))
  generalize (400 : Nat) = f9
  refine zseg_e e (zcal_e _ _ ?_) (zorc_e _ _ ?_) hk (fun _ _ => rfl) f9 _ _ _ _
  · exact trivial
  · exact ⟨rfl, rfl, rfl, zap3_e (fun x0 x1 x2 h => n_Co_bankDelay_4 e hk x0 x1 x2 h), trivial⟩
set_option maxRecDepth 100000 in
set_option maxHeartbeats 0 in
theorem n_Un_missesLine_21 {ρ : Type} (e : zRes → Option ρ) {krA : Int → zH → Option ρ} {krZ : Int → zH → Option zRes} (hk : ∀ v h, (krZ v h).bind e = krA v h) (a0 a1 a2 t0 : Int) (h : zH) : (Un_missesLine_21 krZ a0 a1 a2 t0 h).bind e = Un_missesLine_21 krA a0 a1 a2 t0 h := by
  refine Eq.trans (congrArg (fun z => Option.bind z e) (qe_Un_missesLine_21 krZ a0 a1 a2 t0 h)) (Eq.trans ?_ (Eq.symm (qe_Un_missesLine_21 krA a0 a1 a2 t0 h)))
  generalize (400 : Nat) = f9
  refine zseg_e e (zcal_e _ _ ?_) (zorc_e _ _ ?_) hk (fun _ _ => rfl) f9 _ _ _ _
  · exact trivial
  · exact trivial
set_option maxRecDepth 100000 in
set_option maxHeartbeats 0 in
theorem n_Un_missesLine {ρ : Type} (e : zRes → Option ρ) {krA : Int → zH → Option ρ} {krZ : Int → zH → Option zRes} (hk : ∀ v h, (krZ v h).bind e = krA v h) (a0 a1 : Int) (h : zH) : (Un_missesLine a0 a1 h krZ).bind e = Un_missesLine a0 a1 h krA := by
  refine Eq.trans (congrArg (fun z => Option.bind z e) (qe_Un_missesLine krZ a0 a1 h)) (Eq.trans ?_ (Eq.symm (qe_Un_missesLine krA a0 a1 h)))
  generalize (400 : Nat) = f9
  refine zseg_e e (zcal_e _ _ ?_) (zorc_e _ _ ?_) hk (fun _ _ => rfl) f9 _ _ _ _
  · exact ⟨rfl, rfl, zca2_e (fun x0 x1 h k t => n_Ma_floorMod e (fun _ _ => rfl) x0 x1 h), trivial⟩
  · exact ⟨rfl, rfl, rfl, zap4_e (fun x0 x1 x2 x3 h => n_Un_missesLine_21 e hk x0 x1 x2 x3 h), trivial⟩
set_option maxRecDepth 100000 in
set_option maxHeartbeats 0 in
theorem n_Co_lineDelay_55 {ρ : Type} (e : zRes → Option ρ) {krA : Int → zH → Option ρ} {krZ : Int → zH → Option zRes} (hk : ∀ v h, (krZ v h).bind e = krA v h) {r4A : Int → Int → Int → Int → zH → Option ρ} {r4Z : Int → Int → Int → Int → zH → Option zRes} (h4 : ∀ (x0 x1 x2 x3 : Int) (h : zH), (r4Z x0 x1 x2 x3 h).bind e = r4A x0 x1 x2 x3 h) (a0 a1 a2 a3 : Int) (h : zH) : (Co_lineDelay_55 krZ r4Z a0 a1 a2 a3 h).bind e = Co_lineDelay_55 krA r4A a0 a1 a2 a3 h := by
  refine Eq.trans (congrArg (fun z => Option.bind z e) (qe_Co_lineDelay_55 krZ r4Z a0 a1 a2 a3 h)) (Eq.trans ?_ (Eq.symm (qe_Co_lineDelay_55 krA r4A a0 a1 a2 a3 h)))
  generalize (400 : Nat) = f9
  refine zseg_e e (zcal_e _ _ ?_) (zorc_e _ _ ?_) hk (fun _ _ => rfl) f9 _ _ _ _
  · exact trivial
  · exact ⟨rfl, rfl, rfl, zap4_e h4, trivial⟩
set_option maxRecDepth 100000 in
set_option maxHeartbeats 0 in
theorem n_Co_lineDelay_4b {ρ : Type} (e : zRes → Option ρ) {krA : Int → zH → Option ρ} {krZ : Int → zH → Option zRes} (hk : ∀ v h, (krZ v h).bind e = krA v h) {r4A : Int → Int → Int → Int → zH → Option ρ} {r4Z : Int → Int → Int → Int → zH → Option zRes} (h4 : ∀ (x0 x1 x2 x3 : Int) (h : zH), (r4Z x0 x1 x2 x3 h).bind e = r4A x0 x1 x2 x3 h) (a0 a1 a2 a3 : Int) (h : zH) : (Co_lineDelay_4b krZ r4Z a0 a1 a2 a3 h).bind e = Co_lineDelay_4b krA r4A a0 a1 a2 a3 h := by
  refine Eq.trans (congrArg (fun z => Option.bind z e) (qe_Co_lineDelay_4b krZ r4Z a0 a1 a2 a3 h)) (Eq.trans ?_ (Eq.symm (qe_Co_lineDelay_4b krA r4A a0 a1 a2 a3 h)))
  generalize (400 : Nat) = f9
  refine zseg_e e (zcal_e _ _ ?_) (zorc_e _ _ ?_) hk (fun _ _ => rfl) f9 _ _ _ _
  · exact ⟨rfl, rfl, zca3_e (fun x0 x1 x2 h k t => n_Co_isNamedFirst e (fun _ _ => rfl) x0 x1 x2 h), ⟨rfl, rfl, zca2_e (fun x0 x1 h k t => n_Un_missesLine e (fun _ _ => rfl) x0 x1 h), trivial⟩⟩
  · exact ⟨rfl, rfl, rfl, zap4_e (fun x0 x1 x2 x3 h => n_Co_lineDelay_55 e hk h4 x0 x1 x2 x3 h), trivial⟩
theorem n_Co_lineDelay_4 {ρ : Type} (e : zRes → Option ρ) {krA : Int → zH → Option ρ} {krZ : Int → zH → Option zRes} (hk : ∀ v h, (krZ v h).bind e = krA v h) (a0 a1 a2 a3 : Int) (h : zH) : (Co_lineDelay_4 krZ a0 a1 a2 a3 h).bind e = Co_lineDelay_4 krA a0 a1 a2 a3 h := zit4_e (fun rA rZ hh a0 a1 a2 a3 h => n_Co_lineDelay_4b e hk hh a0 a1 a2 a3 h) zN a0 a1 a2 a3 h
set_option maxRecDepth 100000 in
set_option maxHeartbeats 0 in
theorem n_Co_lineDelay {ρ : Type} (e : zRes → Option ρ) {krA : Int → zH → Option ρ} {krZ : Int → zH → Option zRes} (hk : ∀ v h, (krZ v h).bind e = krA v h) (a0 a1 : Int) (h : zH) : (Co_lineDelay a0 a1 h krZ).bind e = Co_lineDelay a0 a1 h krA := by
  refine Eq.trans (congrArg (fun z => Option.bind z e) (qe_Co_lineDelay krZ a0 a1 h)) (Eq.trans ?_ (Eq.symm (qe_Co_lineDelay krA a0 a1 h)))
  generalize (400 : Nat) = f9
  refine zseg_e e (zcal_e _ _ ?_) (zorc_e _ _ ?_) hk (fun _ _ => rfl) f9 _ _ _ _
  · exact trivial
  · exact ⟨rfl, rfl, rfl, zap4_e (fun x0 x1 x2 x3 h => n_Co_lineDelay_4 e hk x0 x1 x2 x3 h), trivial⟩
set_option maxRecDepth 100000 in
set_option maxHeartbeats 0 in
theorem n_Co_delayOf_90 {ρ : Type} (e : zRes → Option ρ) {krA : Int → zH → Option ρ} {krZ : Int → zH → Option zRes} (hk : ∀ v h, (krZ v h).bind e = krA v h) (a0 : Int) (h : zH) : (Co_delayOf_90 krZ a0 h).bind e = Co_delayOf_90 krA a0 h := by
  refine Eq.trans (congrArg (fun z => Option.bind z e) (qe_Co_delayOf_90 krZ a0 h)) (Eq.trans ?_ (Eq.symm (qe_Co_delayOf_90 krA a0 h)))
  generalize (400 : Nat) = f9
  refine zseg_e e (zcal_e _ _ ?_) (zorc_e _ _ ?_) hk (fun _ _ => rfl) f9 _ _ _ _
  · exact ⟨rfl, rfl, zca1_e (fun x0 h k t => n_Co_bankDelay e (fun _ _ => rfl) x0 h), trivial⟩
  · exact trivial
set_option maxRecDepth 100000 in
set_option maxHeartbeats 0 in
theorem n_Co_delayOf_101 {ρ : Type} (e : zRes → Option ρ) {krA : Int → zH → Option ρ} {krZ : Int → zH → Option zRes} (hk : ∀ v h, (krZ v h).bind e = krA v h) (a0 : Int) (h : zH) : (Co_delayOf_101 krZ a0 h).bind e = Co_delayOf_101 krA a0 h := by
  refine Eq.trans (congrArg (fun z => Option.bind z e) (qe_Co_delayOf_101 krZ a0 h)) (Eq.trans ?_ (Eq.symm (qe_Co_delayOf_101 krA a0 h)))
  generalize (400 : Nat) = f9
  refine zseg_e e (zcal_e _ _ ?_) (zorc_e _ _ ?_) hk (fun _ _ => rfl) f9 _ _ _ _
  · exact trivial
  · exact trivial
set_option maxRecDepth 100000 in
set_option maxHeartbeats 0 in
theorem n_Co_delayOf_108 {ρ : Type} (e : zRes → Option ρ) {krA : Int → zH → Option ρ} {krZ : Int → zH → Option zRes} (hk : ∀ v h, (krZ v h).bind e = krA v h) (a0 : Int) (h : zH) : (Co_delayOf_108 krZ a0 h).bind e = Co_delayOf_108 krA a0 h := by
  refine Eq.trans (congrArg (fun z => Option.bind z e) (qe_Co_delayOf_108 krZ a0 h)) (Eq.trans ?_ (Eq.symm (qe_Co_delayOf_108 krA a0 h)))
  generalize (400 : Nat) = f9
  refine zseg_e e (zcal_e _ _ ?_) (zorc_e _ _ ?_) hk (fun _ _ => rfl) f9 _ _ _ _
  · exact ⟨rfl, rfl, zca1_e (fun x0 h k t => n_It_bitCount e (fun _ _ => rfl) x0 h), trivial⟩
  · exact trivial
set_option maxRecDepth 100000 in
set_option maxHeartbeats 0 in
theorem n_Co_delayOf {ρ : Type} (e : zRes → Option ρ) {krA : Int → zH → Option ρ} {krZ : Int → zH → Option zRes} (hk : ∀ v h, (krZ v h).bind e = krA v h) (a0 a1 a2 : Int) (h : zH) : (Co_delayOf a0 a1 a2 h krZ).bind e = Co_delayOf a0 a1 a2 h krA := by
  refine Eq.trans (congrArg (fun z => Option.bind z e) (qe_Co_delayOf krZ a0 a1 a2 h)) (Eq.trans ?_ (Eq.symm (qe_Co_delayOf krA a0 a1 a2 h)))
  generalize (400 : Nat) = f9
  refine zseg_e e (zcal_e _ _ ?_) (zorc_e _ _ ?_) hk (fun _ _ => rfl) f9 _ _ _ _
  · exact ⟨rfl, rfl, zca1_e (fun x0 h k t => n_It_bitCount e (fun _ _ => rfl) x0 h), ⟨rfl, rfl, zca2_e (fun x0 x1 h k t => n_Co_lineDelay e (fun _ _ => rfl) x0 x1 h), trivial⟩⟩
  · exact ⟨rfl, rfl, rfl, zap1_e (fun x0 h => n_Co_delayOf_90 e hk x0 h), ⟨rfl, rfl, rfl, zap1_e (fun x0 h => n_Co_delayOf_101 e hk x0 h), ⟨rfl, rfl, rfl, zap1_e (fun x0 h => n_Co_delayOf_108 e hk x0 h), trivial⟩⟩⟩
set_option maxRecDepth 100000 in
set_option maxHeartbeats 0 in
theorem n_Co_countedDelay_58 {ρ : Type} (e : zRes → Option ρ) {krA : Int → zH → Option ρ} {krZ : Int → zH → Option zRes} (hk : ∀ v h, (krZ v h).bind e = krA v h) (a3 : Int) (h : zH) : (Co_countedDelay_58 krZ a3 h).bind e = Co_countedDelay_58 krA a3 h := by
  refine Eq.trans (congrArg (fun z => Option.bind z e) (qe_Co_countedDelay_58 krZ a3 h)) (Eq.trans ?_ (Eq.symm (qe_Co_countedDelay_58 krA a3 h)))
  generalize (400 : Nat) = f9
  refine zseg_e e (zcal_e _ _ ?_) (zorc_e _ _ ?_) hk (fun _ _ => rfl) f9 _ _ _ _
  · exact trivial
  · exact trivial
set_option maxRecDepth 100000 in
set_option maxHeartbeats 0 in
theorem n_Co_countedDelay {ρ : Type} (e : zRes → Option ρ) {krA : Int → zH → Option ρ} {krZ : Int → zH → Option zRes} (hk : ∀ v h, (krZ v h).bind e = krA v h) (a0 a1 a2 : Int) (h : zH) : (Co_countedDelay a0 a1 a2 h krZ).bind e = Co_countedDelay a0 a1 a2 h krA := by
  refine Eq.trans (congrArg (fun z => Option.bind z e) (qe_Co_countedDelay krZ a0 a1 a2 h)) (Eq.trans ?_ (Eq.symm (qe_Co_countedDelay krA a0 a1 a2 h)))
  generalize (400 : Nat) = f9
  refine zseg_e e (zcal_e _ _ ?_) (zorc_e _ _ ?_) hk (fun _ _ => rfl) f9 _ _ _ _
  · exact ⟨rfl, rfl, zca3_e (fun x0 x1 x2 h k t => n_Co_delayOf e (fun _ _ => rfl) x0 x1 x2 h), ⟨rfl, rfl, zca2_e (fun x0 x1 h k t => n_In_isOneOf e (fun _ _ => rfl) x0 x1 h), trivial⟩⟩
  · exact ⟨rfl, rfl, rfl, zap1_e (fun x0 h => n_Co_countedDelay_58 e hk x0 h), trivial⟩
set_option maxRecDepth 100000 in
set_option maxHeartbeats 0 in
theorem n_Un_dropLaunch_43 {ρ : Type} (e : zRes → Option ρ) {krA : Int → zH → Option ρ} {krZ : Int → zH → Option zRes} (hk : ∀ v h, (krZ v h).bind e = krA v h) {r4A : Int → Int → Int → Int → zH → Option ρ} {r4Z : Int → Int → Int → Int → zH → Option zRes} (h4 : ∀ (x0 x1 x2 x3 : Int) (h : zH), (r4Z x0 x1 x2 x3 h).bind e = r4A x0 x1 x2 x3 h) (a0 a1 a2 a3 : Int) (h : zH) : (Un_dropLaunch_43 krZ r4Z a0 a1 a2 a3 h).bind e = Un_dropLaunch_43 krA r4A a0 a1 a2 a3 h := by
  refine Eq.trans (congrArg (fun z => Option.bind z e) (qe_Un_dropLaunch_43 krZ r4Z a0 a1 a2 a3 h)) (Eq.trans ?_ (Eq.symm (qe_Un_dropLaunch_43 krA r4A a0 a1 a2 a3 h)))
  generalize (400 : Nat) = f9
  refine zseg_e e (zcal_e _ _ ?_) (zorc_e _ _ ?_) hk (fun _ _ => rfl) f9 _ _ _ _
  · exact trivial
  · exact ⟨rfl, rfl, rfl, zap4_e h4, trivial⟩
set_option maxRecDepth 100000 in
set_option maxHeartbeats 0 in
theorem n_Un_dropLaunch_4b {ρ : Type} (e : zRes → Option ρ) {krA : Int → zH → Option ρ} {krZ : Int → zH → Option zRes} (hk : ∀ v h, (krZ v h).bind e = krA v h) {r4A : Int → Int → Int → Int → zH → Option ρ} {r4Z : Int → Int → Int → Int → zH → Option zRes} (h4 : ∀ (x0 x1 x2 x3 : Int) (h : zH), (r4Z x0 x1 x2 x3 h).bind e = r4A x0 x1 x2 x3 h) (a0 a1 a2 a3 : Int) (h : zH) : (Un_dropLaunch_4b krZ r4Z a0 a1 a2 a3 h).bind e = Un_dropLaunch_4b krA r4A a0 a1 a2 a3 h := by
  refine Eq.trans (congrArg (fun z => Option.bind z e) (qe_Un_dropLaunch_4b krZ r4Z a0 a1 a2 a3 h)) (Eq.trans ?_ (Eq.symm (qe_Un_dropLaunch_4b krA r4A a0 a1 a2 a3 h)))
  generalize (400 : Nat) = f9
  refine zseg_e e (zcal_e _ _ ?_) (zorc_e _ _ ?_) hk (fun _ _ => rfl) f9 _ _ _ _
  · exact ⟨rfl, rfl, zca2_e (fun x0 x1 h k t => n_Un_cutTo e (fun _ _ => rfl) x0 x1 h), trivial⟩
  · exact ⟨rfl, rfl, rfl, zap4_e (fun x0 x1 x2 x3 h => n_Un_dropLaunch_43 e hk h4 x0 x1 x2 x3 h), trivial⟩
theorem n_Un_dropLaunch_4 {ρ : Type} (e : zRes → Option ρ) {krA : Int → zH → Option ρ} {krZ : Int → zH → Option zRes} (hk : ∀ v h, (krZ v h).bind e = krA v h) (a0 a1 a2 a3 : Int) (h : zH) : (Un_dropLaunch_4 krZ a0 a1 a2 a3 h).bind e = Un_dropLaunch_4 krA a0 a1 a2 a3 h := zit4_e (fun rA rZ hh a0 a1 a2 a3 h => n_Un_dropLaunch_4b e hk hh a0 a1 a2 a3 h) zN a0 a1 a2 a3 h
set_option maxRecDepth 100000 in
set_option maxHeartbeats 0 in
theorem n_Un_dropLaunch {ρ : Type} (e : zRes → Option ρ) {krA : Int → zH → Option ρ} {krZ : Int → zH → Option zRes} (hk : ∀ v h, (krZ v h).bind e = krA v h) (a0 a1 : Int) (h : zH) : (Un_dropLaunch a0 a1 h krZ).bind e = Un_dropLaunch a0 a1 h krA := by
  refine Eq.trans (congrArg (fun z => Option.bind z e) (qe_Un_dropLaunch krZ a0 a1 h)) (Eq.trans ?_ (Eq.symm (qe_Un_dropLaunch krA a0 a1 h)))
  generalize (400 : Nat) = f9
  refine zseg_e e (zcal_e _ _ ?_) (zorc_e _ _ ?_) hk (fun _ _ => rfl) f9 _ _ _ _
  · exact trivial
  · exact ⟨rfl, rfl, rfl, zap4_e (fun x0 x1 x2 x3 h => n_Un_dropLaunch_4 e hk x0 x1 x2 x3 h), trivial⟩
set_option maxRecDepth 100000 in
set_option maxHeartbeats 0 in
theorem n_Co_fail_43b {ρ : Type} (e : zRes → Option ρ) {krA : Int → zH → Option ρ} {krZ : Int → zH → Option zRes} (hk : ∀ v h, (krZ v h).bind e = krA v h) {r43A : Int → Int → Int → zH → Option ρ} {r43Z : Int → Int → Int → zH → Option zRes} (h43 : ∀ (x0 x1 x2 : Int) (h : zH), (r43Z x0 x1 x2 h).bind e = r43A x0 x1 x2 h) (a0 a5 a6 : Int) (h : zH) : (Co_fail_43b krZ r43Z a0 a5 a6 h).bind e = Co_fail_43b krA r43A a0 a5 a6 h := by
  refine Eq.trans (congrArg (fun z => Option.bind z e) (qe_Co_fail_43b krZ r43Z a0 a5 a6 h)) (Eq.trans ?_ (Eq.symm (qe_Co_fail_43b krA r43A a0 a5 a6 h)))
  generalize (400 : Nat) = f9
  refine zseg_e e (zcal_e _ _ ?_) (zorc_e _ _ ?_) hk (fun _ _ => rfl) f9 _ _ _ _
  · exact ⟨rfl, rfl, zca2_e (fun x0 x1 h k t => n_Le_endIfDone e (fun _ _ => rfl) x0 x1 h), ⟨rfl, rfl, zca2_e (fun x0 x1 h k t => n_Un_dropLaunch e (fun _ _ => rfl) x0 x1 h), trivial⟩⟩
  · exact ⟨rfl, rfl, rfl, zap3_e h43, trivial⟩
theorem n_Co_fail_43 {ρ : Type} (e : zRes → Option ρ) {krA : Int → zH → Option ρ} {krZ : Int → zH → Option zRes} (hk : ∀ v h, (krZ v h).bind e = krA v h) (a0 a5 a6 : Int) (h : zH) : (Co_fail_43 krZ a0 a5 a6 h).bind e = Co_fail_43 krA a0 a5 a6 h := zit3_e (fun rA rZ hh a0 a5 a6 h => n_Co_fail_43b e hk hh a0 a5 a6 h) zN a0 a5 a6 h
set_option maxRecDepth 100000 in
set_option maxHeartbeats 0 in
theorem n_Co_fail {ρ : Type} (e : zRes → Option ρ) {krA : Int → zH → Option ρ} {krZ : Int → zH → Option zRes} (hk : ∀ v h, (krZ v h).bind e = krA v h) (a0 a1 a2 a3 a4 : Int) (h : zH) : (Co_fail a0 a1 a2 a3 a4 h krZ).bind e = Co_fail a0 a1 a2 a3 a4 h krA := by
  refine Eq.trans (congrArg (fun z => Option.bind z e) (qe_Co_fail krZ a0 a1 a2 a3 a4 h)) (Eq.trans ?_ (Eq.symm (qe_Co_fail krA a0 a1 a2 a3 a4 h)))
  generalize (400 : Nat) = f9
  refine zseg_e e (zcal_e _ _ ?_) (zorc_e _ _ ?_) hk (fun _ _ => rfl) f9 _ _ _ _
  · exact trivial
  · exact ⟨rfl, rfl, rfl, zap3_e (fun x0 x1 x2 h => n_Co_fail_43 e hk x0 x1 x2 h), trivial⟩
set_option maxRecDepth 100000 in
set_option maxHeartbeats 0 in
theorem n_Gr_placeIn_25 {ρ : Type} (e : zRes → Option ρ) {krA : Int → zH → Option ρ} {krZ : Int → zH → Option zRes} (hk : ∀ v h, (krZ v h).bind e = krA v h) (t0 : Int) (h : zH) : (Gr_placeIn_25 krZ t0 h).bind e = Gr_placeIn_25 krA t0 h := by
  refine Eq.trans (congrArg (fun z => Option.bind z e) (qe_Gr_placeIn_25 krZ t0 h)) (Eq.trans ?_ (Eq.symm (qe_Gr_placeIn_25 krA t0 h)))
  generalize (400 : Nat) = f9
  refine zseg_e e (zcal_e _ _ ?_) (zorc_e _ _ ?_) hk (fun _ _ => rfl) f9 _ _ _ _
  · exact trivial
  · exact trivial
set_option maxRecDepth 100000 in
set_option maxHeartbeats 0 in
theorem n_Gr_placeIn_24 {ρ : Type} (e : zRes → Option ρ) {krA : Int → zH → Option ρ} {krZ : Int → zH → Option zRes} (hk : ∀ v h, (krZ v h).bind e = krA v h) (h : zH) : (Gr_placeIn_24 krZ h).bind e = Gr_placeIn_24 krA h := by
  refine Eq.trans (congrArg (fun z => Option.bind z e) (qe_Gr_placeIn_24 krZ h)) (Eq.trans ?_ (Eq.symm (qe_Gr_placeIn_24 krA h)))
  generalize (400 : Nat) = f9
  refine zseg_e e (zcal_e _ _ ?_) (zorc_e _ _ ?_) hk (fun _ _ => rfl) f9 _ _ _ _
  · exact trivial
  · exact ⟨rfl, rfl, rfl, zap1_e (fun x0 h => n_Gr_placeIn_25 e hk x0 h), trivial⟩
set_option maxRecDepth 100000 in
set_option maxHeartbeats 0 in
theorem n_Gr_placeIn {ρ : Type} (e : zRes → Option ρ) {krA : Int → zH → Option ρ} {krZ : Int → zH → Option zRes} (hk : ∀ v h, (krZ v h).bind e = krA v h) (a0 a1 : Int) (h : zH) : (Gr_placeIn a0 a1 h krZ).bind e = Gr_placeIn a0 a1 h krA := by
  refine Eq.trans (congrArg (fun z => Option.bind z e) (qe_Gr_placeIn krZ a0 a1 h)) (Eq.trans ?_ (Eq.symm (qe_Gr_placeIn krA a0 a1 h)))
  generalize (400 : Nat) = f9
  refine zseg_e e (zcal_e _ _ ?_) (zorc_e _ _ ?_) hk (fun _ _ => rfl) f9 _ _ _ _
  · exact ⟨rfl, rfl, zca2_e (fun x0 x1 h k t => n_Gr_threadIn e (fun _ _ => rfl) x0 x1 h), ⟨rfl, rfl, zca1_e (fun x0 h k t => n_Th_isRunning e (fun _ _ => rfl) x0 h), trivial⟩⟩
  · exact ⟨rfl, rfl, rfl, zap0_e (fun  h => n_Gr_placeIn_24 e hk  h), ⟨rfl, rfl, rfl, zap1_e (fun x0 h => n_Gr_placeIn_25 e hk x0 h), trivial⟩⟩
